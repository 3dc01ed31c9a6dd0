section
-- ===== PART A: goes FIRST, ahead of the names: the tables' words, and 'selects' of the private methods out of them =====
/-- a private method of a class that the tables say can be made, by its rows of tables_1 -/
def lw_okq (q : MethodName × Nat) : Prop := (q.1.cls ≠ "java/lang/invoke/MethodHandle" ∧ q.1.cls ≠ "java/lang/invoke/VarHandle") ∧ Cond.instantiable q.1.cls q.2 ∈ tables_1 ∧ Cond.privateMethod q.1 ∈ tables_1 ∧ Cond.instanceMethod q.1 ∈ tables_1
theorem lw_p0 : lw_okq (⟨"PressAndWait", "refuse", "(I)I"⟩, 16) := ⟨⟨by decide +kernel, by decide +kernel⟩, List.mem_of_getElem? (i := 21) (by decide +kernel), List.mem_of_getElem? (i := 436) (by decide +kernel), List.mem_of_getElem? (i := 437) (by decide +kernel)⟩
theorem lw_p1 : lw_okq (⟨"PressAndWait", "putBytes", "(I)V"⟩, 16) := ⟨⟨by decide +kernel, by decide +kernel⟩, List.mem_of_getElem? (i := 21) (by decide +kernel), List.mem_of_getElem? (i := 440) (by decide +kernel), List.mem_of_getElem? (i := 441) (by decide +kernel)⟩
theorem lw_p2 : lw_okq (⟨"PressAndWait", "deny", "(I)Z"⟩, 16) := ⟨⟨by decide +kernel, by decide +kernel⟩, List.mem_of_getElem? (i := 21) (by decide +kernel), List.mem_of_getElem? (i := 448) (by decide +kernel), List.mem_of_getElem? (i := 449) (by decide +kernel)⟩
theorem lw_p3 : lw_okq (⟨"PressAndWait", "takeTape", "()I"⟩, 16) := ⟨⟨by decide +kernel, by decide +kernel⟩, List.mem_of_getElem? (i := 21) (by decide +kernel), List.mem_of_getElem? (i := 456) (by decide +kernel), List.mem_of_getElem? (i := 457) (by decide +kernel)⟩
theorem lw_p4 : lw_okq (⟨"PressAndWait$Reader", "begin", "(LPressAndWait$Plan;I)V"⟩, 9) := ⟨⟨by decide +kernel, by decide +kernel⟩, List.mem_of_getElem? (i := 194) (by decide +kernel), List.mem_of_getElem? (i := 464) (by decide +kernel), List.mem_of_getElem? (i := 465) (by decide +kernel)⟩
theorem lw_p5 : lw_okq (⟨"PressAndWait$Reader", "moveTo", "(I)V"⟩, 9) := ⟨⟨by decide +kernel, by decide +kernel⟩, List.mem_of_getElem? (i := 194) (by decide +kernel), List.mem_of_getElem? (i := 478) (by decide +kernel), List.mem_of_getElem? (i := 479) (by decide +kernel)⟩
theorem lw_p6 : lw_okq (⟨"PressAndWait$Reader", "sortOf", "(I)I"⟩, 9) := ⟨⟨by decide +kernel, by decide +kernel⟩, List.mem_of_getElem? (i := 194) (by decide +kernel), List.mem_of_getElem? (i := 482) (by decide +kernel), List.mem_of_getElem? (i := 483) (by decide +kernel)⟩
theorem lw_p7 : lw_okq (⟨"PressAndWait$Reader", "firstStatement", "()V"⟩, 9) := ⟨⟨by decide +kernel, by decide +kernel⟩, List.mem_of_getElem? (i := 194) (by decide +kernel), List.mem_of_getElem? (i := 486) (by decide +kernel), List.mem_of_getElem? (i := 487) (by decide +kernel)⟩
theorem lw_p8 : lw_okq (⟨"PressAndWait$Reader", "numberBehind", "(Ljava/lang/String;II)I"⟩, 9) := ⟨⟨by decide +kernel, by decide +kernel⟩, List.mem_of_getElem? (i := 194) (by decide +kernel), List.mem_of_getElem? (i := 491) (by decide +kernel), List.mem_of_getElem? (i := 492) (by decide +kernel)⟩
theorem lw_p9 : lw_okq (⟨"PressAndWait$Reader", "needWord", "(Ljava/lang/String;)V"⟩, 9) := ⟨⟨by decide +kernel, by decide +kernel⟩, List.mem_of_getElem? (i := 194) (by decide +kernel), List.mem_of_getElem? (i := 495) (by decide +kernel), List.mem_of_getElem? (i := 496) (by decide +kernel)⟩
theorem lw_p10 : lw_okq (⟨"PressAndWait$Reader", "wordIn", "(Ljava/lang/String;)I"⟩, 9) := ⟨⟨by decide +kernel, by decide +kernel⟩, List.mem_of_getElem? (i := 194) (by decide +kernel), List.mem_of_getElem? (i := 499) (by decide +kernel), List.mem_of_getElem? (i := 500) (by decide +kernel)⟩
theorem lw_p11 : lw_okq (⟨"PressAndWait$Reader", "fail", "(II)V"⟩, 9) := ⟨⟨by decide +kernel, by decide +kernel⟩, List.mem_of_getElem? (i := 194) (by decide +kernel), List.mem_of_getElem? (i := 551) (by decide +kernel), List.mem_of_getElem? (i := 552) (by decide +kernel)⟩
theorem lw_p12 : lw_okq (⟨"PressAndWait$Reader", "number", "(II)I"⟩, 9) := ⟨⟨by decide +kernel, by decide +kernel⟩, List.mem_of_getElem? (i := 194) (by decide +kernel), List.mem_of_getElem? (i := 555) (by decide +kernel), List.mem_of_getElem? (i := 556) (by decide +kernel)⟩
theorem lw_p13 : lw_okq (⟨"PressAndWait$Reader", "need", "(C)V"⟩, 9) := ⟨⟨by decide +kernel, by decide +kernel⟩, List.mem_of_getElem? (i := 194) (by decide +kernel), List.mem_of_getElem? (i := 562) (by decide +kernel), List.mem_of_getElem? (i := 563) (by decide +kernel)⟩
theorem lw_p14 : lw_okq (⟨"PressAndWait$Reader", "sees", "(C)Z"⟩, 9) := ⟨⟨by decide +kernel, by decide +kernel⟩, List.mem_of_getElem? (i := 194) (by decide +kernel), List.mem_of_getElem? (i := 566) (by decide +kernel), List.mem_of_getElem? (i := 567) (by decide +kernel)⟩
theorem lw_p15 : lw_okq (⟨"PressAndWait$Reader", "kindStatement", "()V"⟩, 9) := ⟨⟨by decide +kernel, by decide +kernel⟩, List.mem_of_getElem? (i := 194) (by decide +kernel), List.mem_of_getElem? (i := 571) (by decide +kernel), List.mem_of_getElem? (i := 572) (by decide +kernel)⟩
def lw_privs_1 : List (MethodName × Nat) := [(⟨"PressAndWait", "refuse", "(I)I"⟩, 16), (⟨"PressAndWait", "putBytes", "(I)V"⟩, 16), (⟨"PressAndWait", "deny", "(I)Z"⟩, 16), (⟨"PressAndWait", "takeTape", "()I"⟩, 16), (⟨"PressAndWait$Reader", "begin", "(LPressAndWait$Plan;I)V"⟩, 9), (⟨"PressAndWait$Reader", "moveTo", "(I)V"⟩, 9), (⟨"PressAndWait$Reader", "sortOf", "(I)I"⟩, 9), (⟨"PressAndWait$Reader", "firstStatement", "()V"⟩, 9), (⟨"PressAndWait$Reader", "numberBehind", "(Ljava/lang/String;II)I"⟩, 9), (⟨"PressAndWait$Reader", "needWord", "(Ljava/lang/String;)V"⟩, 9), (⟨"PressAndWait$Reader", "wordIn", "(Ljava/lang/String;)I"⟩, 9), (⟨"PressAndWait$Reader", "fail", "(II)V"⟩, 9), (⟨"PressAndWait$Reader", "number", "(II)I"⟩, 9), (⟨"PressAndWait$Reader", "need", "(C)V"⟩, 9), (⟨"PressAndWait$Reader", "sees", "(C)Z"⟩, 9), (⟨"PressAndWait$Reader", "kindStatement", "()V"⟩, 9)]
theorem lw_r1 : ∀ q ∈ lw_privs_1, lw_okq q := List.forall_mem_cons.mpr ⟨lw_p0, List.forall_mem_cons.mpr ⟨lw_p1, List.forall_mem_cons.mpr ⟨lw_p2, List.forall_mem_cons.mpr ⟨lw_p3, List.forall_mem_cons.mpr ⟨lw_p4, List.forall_mem_cons.mpr ⟨lw_p5, List.forall_mem_cons.mpr ⟨lw_p6, List.forall_mem_cons.mpr ⟨lw_p7, List.forall_mem_cons.mpr ⟨lw_p8, List.forall_mem_cons.mpr ⟨lw_p9, List.forall_mem_cons.mpr ⟨lw_p10, List.forall_mem_cons.mpr ⟨lw_p11, List.forall_mem_cons.mpr ⟨lw_p12, List.forall_mem_cons.mpr ⟨lw_p13, List.forall_mem_cons.mpr ⟨lw_p14, List.forall_mem_cons.mpr ⟨lw_p15, fun _ h => absurd h List.not_mem_nil⟩⟩⟩⟩⟩⟩⟩⟩⟩⟩⟩⟩⟩⟩⟩⟩
theorem lw_p16 : lw_okq (⟨"PressAndWait$Reader", "newName", "(I)V"⟩, 9) := ⟨⟨by decide +kernel, by decide +kernel⟩, List.mem_of_getElem? (i := 194) (by decide +kernel), List.mem_of_getElem? (i := 575) (by decide +kernel), List.mem_of_getElem? (i := 576) (by decide +kernel)⟩
theorem lw_p17 : lw_okq (⟨"PressAndWait$Reader", "isName", "()Z"⟩, 9) := ⟨⟨by decide +kernel, by decide +kernel⟩, List.mem_of_getElem? (i := 194) (by decide +kernel), List.mem_of_getElem? (i := 579) (by decide +kernel), List.mem_of_getElem? (i := 580) (by decide +kernel)⟩
theorem lw_p18 : lw_okq (⟨"PressAndWait$Reader", "wrongInName", "()I"⟩, 9) := ⟨⟨by decide +kernel, by decide +kernel⟩, List.mem_of_getElem? (i := 194) (by decide +kernel), List.mem_of_getElem? (i := 584) (by decide +kernel), List.mem_of_getElem? (i := 585) (by decide +kernel)⟩
theorem lw_p19 : lw_okq (⟨"PressAndWait$Reader", "slotOf", "(II)I"⟩, 9) := ⟨⟨by decide +kernel, by decide +kernel⟩, List.mem_of_getElem? (i := 194) (by decide +kernel), List.mem_of_getElem? (i := 588) (by decide +kernel), List.mem_of_getElem? (i := 589) (by decide +kernel)⟩
theorem lw_p20 : lw_okq (⟨"PressAndWait$Reader", "nameLetter", "(I)I"⟩, 9) := ⟨⟨by decide +kernel, by decide +kernel⟩, List.mem_of_getElem? (i := 194) (by decide +kernel), List.mem_of_getElem? (i := 592) (by decide +kernel), List.mem_of_getElem? (i := 593) (by decide +kernel)⟩
theorem lw_p21 : lw_okq (⟨"PressAndWait$Reader", "comesStatement", "()V"⟩, 9) := ⟨⟨by decide +kernel, by decide +kernel⟩, List.mem_of_getElem? (i := 194) (by decide +kernel), List.mem_of_getElem? (i := 599) (by decide +kernel), List.mem_of_getElem? (i := 600) (by decide +kernel)⟩
theorem lw_p22 : lw_okq (⟨"PressAndWait$Reader", "knownKind", "()I"⟩, 9) := ⟨⟨by decide +kernel, by decide +kernel⟩, List.mem_of_getElem? (i := 194) (by decide +kernel), List.mem_of_getElem? (i := 604) (by decide +kernel), List.mem_of_getElem? (i := 605) (by decide +kernel)⟩
theorem lw_p23 : lw_okq (⟨"PressAndWait$Reader", "codeStatement", "(II)V"⟩, 9) := ⟨⟨by decide +kernel, by decide +kernel⟩, List.mem_of_getElem? (i := 194) (by decide +kernel), List.mem_of_getElem? (i := 609) (by decide +kernel), List.mem_of_getElem? (i := 610) (by decide +kernel)⟩
theorem lw_p24 : lw_okq (⟨"PressAndWait$Reader", "sum", "(I)V"⟩, 9) := ⟨⟨by decide +kernel, by decide +kernel⟩, List.mem_of_getElem? (i := 194) (by decide +kernel), List.mem_of_getElem? (i := 613) (by decide +kernel), List.mem_of_getElem? (i := 614) (by decide +kernel)⟩
theorem lw_p25 : lw_okq (⟨"PressAndWait$Reader", "product", "(I)V"⟩, 9) := ⟨⟨by decide +kernel, by decide +kernel⟩, List.mem_of_getElem? (i := 194) (by decide +kernel), List.mem_of_getElem? (i := 617) (by decide +kernel), List.mem_of_getElem? (i := 618) (by decide +kernel)⟩
theorem lw_p26 : lw_okq (⟨"PressAndWait$Reader", "part", "(I)V"⟩, 9) := ⟨⟨by decide +kernel, by decide +kernel⟩, List.mem_of_getElem? (i := 194) (by decide +kernel), List.mem_of_getElem? (i := 621) (by decide +kernel), List.mem_of_getElem? (i := 622) (by decide +kernel)⟩
theorem lw_p27 : lw_okq (⟨"PressAndWait$Reader", "emit", "(I)V"⟩, 9) := ⟨⟨by decide +kernel, by decide +kernel⟩, List.mem_of_getElem? (i := 194) (by decide +kernel), List.mem_of_getElem? (i := 625) (by decide +kernel), List.mem_of_getElem? (i := 626) (by decide +kernel)⟩
theorem lw_p28 : lw_okq (⟨"PressAndWait$Reader", "enters", "(I)Z"⟩, 9) := ⟨⟨by decide +kernel, by decide +kernel⟩, List.mem_of_getElem? (i := 194) (by decide +kernel), List.mem_of_getElem? (i := 629) (by decide +kernel), List.mem_of_getElem? (i := 630) (by decide +kernel)⟩
theorem lw_p29 : lw_okq (⟨"PressAndWait$Reader", "takeWord", "(Ljava/lang/String;)Z"⟩, 9) := ⟨⟨by decide +kernel, by decide +kernel⟩, List.mem_of_getElem? (i := 194) (by decide +kernel), List.mem_of_getElem? (i := 634) (by decide +kernel), List.mem_of_getElem? (i := 635) (by decide +kernel)⟩
theorem lw_p30 : lw_okq (⟨"PressAndWait$Reader", "pair", "(II)V"⟩, 9) := ⟨⟨by decide +kernel, by decide +kernel⟩, List.mem_of_getElem? (i := 194) (by decide +kernel), List.mem_of_getElem? (i := 638) (by decide +kernel), List.mem_of_getElem? (i := 639) (by decide +kernel)⟩
theorem lw_p31 : lw_okq (⟨"PressAndWait$Reader", "partWord", "()V"⟩, 9) := ⟨⟨by decide +kernel, by decide +kernel⟩, List.mem_of_getElem? (i := 194) (by decide +kernel), List.mem_of_getElem? (i := 644) (by decide +kernel), List.mem_of_getElem? (i := 645) (by decide +kernel)⟩
def lw_privs_2 : List (MethodName × Nat) := [(⟨"PressAndWait$Reader", "newName", "(I)V"⟩, 9), (⟨"PressAndWait$Reader", "isName", "()Z"⟩, 9), (⟨"PressAndWait$Reader", "wrongInName", "()I"⟩, 9), (⟨"PressAndWait$Reader", "slotOf", "(II)I"⟩, 9), (⟨"PressAndWait$Reader", "nameLetter", "(I)I"⟩, 9), (⟨"PressAndWait$Reader", "comesStatement", "()V"⟩, 9), (⟨"PressAndWait$Reader", "knownKind", "()I"⟩, 9), (⟨"PressAndWait$Reader", "codeStatement", "(II)V"⟩, 9), (⟨"PressAndWait$Reader", "sum", "(I)V"⟩, 9), (⟨"PressAndWait$Reader", "product", "(I)V"⟩, 9), (⟨"PressAndWait$Reader", "part", "(I)V"⟩, 9), (⟨"PressAndWait$Reader", "emit", "(I)V"⟩, 9), (⟨"PressAndWait$Reader", "enters", "(I)Z"⟩, 9), (⟨"PressAndWait$Reader", "takeWord", "(Ljava/lang/String;)Z"⟩, 9), (⟨"PressAndWait$Reader", "pair", "(II)V"⟩, 9), (⟨"PressAndWait$Reader", "partWord", "()V"⟩, 9)]
theorem lw_r2 : ∀ q ∈ lw_privs_2, lw_okq q := List.forall_mem_cons.mpr ⟨lw_p16, List.forall_mem_cons.mpr ⟨lw_p17, List.forall_mem_cons.mpr ⟨lw_p18, List.forall_mem_cons.mpr ⟨lw_p19, List.forall_mem_cons.mpr ⟨lw_p20, List.forall_mem_cons.mpr ⟨lw_p21, List.forall_mem_cons.mpr ⟨lw_p22, List.forall_mem_cons.mpr ⟨lw_p23, List.forall_mem_cons.mpr ⟨lw_p24, List.forall_mem_cons.mpr ⟨lw_p25, List.forall_mem_cons.mpr ⟨lw_p26, List.forall_mem_cons.mpr ⟨lw_p27, List.forall_mem_cons.mpr ⟨lw_p28, List.forall_mem_cons.mpr ⟨lw_p29, List.forall_mem_cons.mpr ⟨lw_p30, List.forall_mem_cons.mpr ⟨lw_p31, fun _ h => absurd h List.not_mem_nil⟩⟩⟩⟩⟩⟩⟩⟩⟩⟩⟩⟩⟩⟩⟩⟩
theorem lw_p32 : lw_okq (⟨"PressAndWait$Reader", "test", "(I)V"⟩, 9) := ⟨⟨by decide +kernel, by decide +kernel⟩, List.mem_of_getElem? (i := 194) (by decide +kernel), List.mem_of_getElem? (i := 649) (by decide +kernel), List.mem_of_getElem? (i := 650) (by decide +kernel)⟩
theorem lw_p33 : lw_okq (⟨"PressAndWait$Reader", "both", "(I)V"⟩, 9) := ⟨⟨by decide +kernel, by decide +kernel⟩, List.mem_of_getElem? (i := 194) (by decide +kernel), List.mem_of_getElem? (i := 653) (by decide +kernel), List.mem_of_getElem? (i := 654) (by decide +kernel)⟩
theorem lw_p34 : lw_okq (⟨"PressAndWait$Reader", "fact", "(I)V"⟩, 9) := ⟨⟨by decide +kernel, by decide +kernel⟩, List.mem_of_getElem? (i := 194) (by decide +kernel), List.mem_of_getElem? (i := 657) (by decide +kernel), List.mem_of_getElem? (i := 658) (by decide +kernel)⟩
theorem lw_p35 : lw_okq (⟨"PressAndWait$Reader", "signHere", "()I"⟩, 9) := ⟨⟨by decide +kernel, by decide +kernel⟩, List.mem_of_getElem? (i := 194) (by decide +kernel), List.mem_of_getElem? (i := 663) (by decide +kernel), List.mem_of_getElem? (i := 664) (by decide +kernel)⟩
theorem lw_p36 : lw_okq (⟨"PressAndWait", "changed", "()V"⟩, 16) := ⟨⟨by decide +kernel, by decide +kernel⟩, List.mem_of_getElem? (i := 21) (by decide +kernel), List.mem_of_getElem? (i := 693) (by decide +kernel), List.mem_of_getElem? (i := 694) (by decide +kernel)⟩
theorem lw_p37 : lw_okq (⟨"PressAndWait", "isKind", "(I)Z"⟩, 16) := ⟨⟨by decide +kernel, by decide +kernel⟩, List.mem_of_getElem? (i := 21) (by decide +kernel), List.mem_of_getElem? (i := 722) (by decide +kernel), List.mem_of_getElem? (i := 723) (by decide +kernel)⟩
theorem lw_p38 : lw_okq (⟨"PressAndWait", "isWalker", "(I)Z"⟩, 16) := ⟨⟨by decide +kernel, by decide +kernel⟩, List.mem_of_getElem? (i := 21) (by decide +kernel), List.mem_of_getElem? (i := 726) (by decide +kernel), List.mem_of_getElem? (i := 727) (by decide +kernel)⟩
theorem lw_p39 : lw_okq (⟨"PressAndWait", "layToday", "()V"⟩, 16) := ⟨⟨by decide +kernel, by decide +kernel⟩, List.mem_of_getElem? (i := 21) (by decide +kernel), List.mem_of_getElem? (i := 742) (by decide +kernel), List.mem_of_getElem? (i := 743) (by decide +kernel)⟩
theorem lw_p40 : lw_okq (⟨"PressAndWait$Street", "prepare", "(LPressAndWait$State;)V"⟩, 17) := ⟨⟨by decide +kernel, by decide +kernel⟩, List.mem_of_getElem? (i := 230) (by decide +kernel), List.mem_of_getElem? (i := 750) (by decide +kernel), List.mem_of_getElem? (i := 751) (by decide +kernel)⟩
theorem lw_p41 : lw_okq (⟨"PressAndWait$Street", "drive", "()V"⟩, 17) := ⟨⟨by decide +kernel, by decide +kernel⟩, List.mem_of_getElem? (i := 230) (by decide +kernel), List.mem_of_getElem? (i := 754) (by decide +kernel), List.mem_of_getElem? (i := 755) (by decide +kernel)⟩
theorem lw_p42 : lw_okq (⟨"PressAndWait$Street", "shine", "()V"⟩, 17) := ⟨⟨by decide +kernel, by decide +kernel⟩, List.mem_of_getElem? (i := 230) (by decide +kernel), List.mem_of_getElem? (i := 777) (by decide +kernel), List.mem_of_getElem? (i := 778) (by decide +kernel)⟩
theorem lw_p43 : lw_okq (⟨"PressAndWait$Street", "willing", "()I"⟩, 17) := ⟨⟨by decide +kernel, by decide +kernel⟩, List.mem_of_getElem? (i := 230) (by decide +kernel), List.mem_of_getElem? (i := 781) (by decide +kernel), List.mem_of_getElem? (i := 782) (by decide +kernel)⟩
theorem lw_p44 : lw_okq (⟨"PressAndWait$Street", "walk", "()V"⟩, 17) := ⟨⟨by decide +kernel, by decide +kernel⟩, List.mem_of_getElem? (i := 230) (by decide +kernel), List.mem_of_getElem? (i := 792) (by decide +kernel), List.mem_of_getElem? (i := 793) (by decide +kernel)⟩
theorem lw_p45 : lw_okq (⟨"PressAndWait$Street", "goes", "(III)Z"⟩, 17) := ⟨⟨by decide +kernel, by decide +kernel⟩, List.mem_of_getElem? (i := 230) (by decide +kernel), List.mem_of_getElem? (i := 800) (by decide +kernel), List.mem_of_getElem? (i := 801) (by decide +kernel)⟩
theorem lw_p46 : lw_okq (⟨"PressAndWait$Street", "describe", "(IIII)V"⟩, 17) := ⟨⟨by decide +kernel, by decide +kernel⟩, List.mem_of_getElem? (i := 230) (by decide +kernel), List.mem_of_getElem? (i := 804) (by decide +kernel), List.mem_of_getElem? (i := 805) (by decide +kernel)⟩
theorem lw_p47 : lw_okq (⟨"PressAndWait", "stands", "()Z"⟩, 16) := ⟨⟨by decide +kernel, by decide +kernel⟩, List.mem_of_getElem? (i := 21) (by decide +kernel), List.mem_of_getElem? (i := 819) (by decide +kernel), List.mem_of_getElem? (i := 820) (by decide +kernel)⟩
def lw_privs_3 : List (MethodName × Nat) := [(⟨"PressAndWait$Reader", "test", "(I)V"⟩, 9), (⟨"PressAndWait$Reader", "both", "(I)V"⟩, 9), (⟨"PressAndWait$Reader", "fact", "(I)V"⟩, 9), (⟨"PressAndWait$Reader", "signHere", "()I"⟩, 9), (⟨"PressAndWait", "changed", "()V"⟩, 16), (⟨"PressAndWait", "isKind", "(I)Z"⟩, 16), (⟨"PressAndWait", "isWalker", "(I)Z"⟩, 16), (⟨"PressAndWait", "layToday", "()V"⟩, 16), (⟨"PressAndWait$Street", "prepare", "(LPressAndWait$State;)V"⟩, 17), (⟨"PressAndWait$Street", "drive", "()V"⟩, 17), (⟨"PressAndWait$Street", "shine", "()V"⟩, 17), (⟨"PressAndWait$Street", "willing", "()I"⟩, 17), (⟨"PressAndWait$Street", "walk", "()V"⟩, 17), (⟨"PressAndWait$Street", "goes", "(III)Z"⟩, 17), (⟨"PressAndWait$Street", "describe", "(IIII)V"⟩, 17), (⟨"PressAndWait", "stands", "()Z"⟩, 16)]
theorem lw_r3 : ∀ q ∈ lw_privs_3, lw_okq q := List.forall_mem_cons.mpr ⟨lw_p32, List.forall_mem_cons.mpr ⟨lw_p33, List.forall_mem_cons.mpr ⟨lw_p34, List.forall_mem_cons.mpr ⟨lw_p35, List.forall_mem_cons.mpr ⟨lw_p36, List.forall_mem_cons.mpr ⟨lw_p37, List.forall_mem_cons.mpr ⟨lw_p38, List.forall_mem_cons.mpr ⟨lw_p39, List.forall_mem_cons.mpr ⟨lw_p40, List.forall_mem_cons.mpr ⟨lw_p41, List.forall_mem_cons.mpr ⟨lw_p42, List.forall_mem_cons.mpr ⟨lw_p43, List.forall_mem_cons.mpr ⟨lw_p44, List.forall_mem_cons.mpr ⟨lw_p45, List.forall_mem_cons.mpr ⟨lw_p46, List.forall_mem_cons.mpr ⟨lw_p47, fun _ h => absurd h List.not_mem_nil⟩⟩⟩⟩⟩⟩⟩⟩⟩⟩⟩⟩⟩⟩⟩⟩
theorem lw_p48 : lw_okq (⟨"PressAndWait$Street", "waitedByAll", "()I"⟩, 17) := ⟨⟨by decide +kernel, by decide +kernel⟩, List.mem_of_getElem? (i := 230) (by decide +kernel), List.mem_of_getElem? (i := 835) (by decide +kernel), List.mem_of_getElem? (i := 836) (by decide +kernel)⟩
theorem lw_p49 : lw_okq (⟨"PressAndWait$Street", "greensForNobody", "()I"⟩, 17) := ⟨⟨by decide +kernel, by decide +kernel⟩, List.mem_of_getElem? (i := 230) (by decide +kernel), List.mem_of_getElem? (i := 846) (by decide +kernel), List.mem_of_getElem? (i := 847) (by decide +kernel)⟩
theorem lw_p50 : lw_okq (⟨"PressAndWait$Street", "someoneCrosses", "(I)Z"⟩, 17) := ⟨⟨by decide +kernel, by decide +kernel⟩, List.mem_of_getElem? (i := 230) (by decide +kernel), List.mem_of_getElem? (i := 850) (by decide +kernel), List.mem_of_getElem? (i := 851) (by decide +kernel)⟩
theorem lw_p51 : lw_okq (⟨"PressAndWait$Choice", "enter", "(II)V"⟩, 3) := ⟨⟨by decide +kernel, by decide +kernel⟩, List.mem_of_getElem? (i := 295) (by decide +kernel), List.mem_of_getElem? (i := 868) (by decide +kernel), List.mem_of_getElem? (i := 869) (by decide +kernel)⟩
theorem lw_p52 : lw_okq (⟨"PressAndWait$Watch", "isSo", "()Z"⟩, 11) := ⟨⟨by decide +kernel, by decide +kernel⟩, List.mem_of_getElem? (i := 337) (by decide +kernel), List.mem_of_getElem? (i := 945) (by decide +kernel), List.mem_of_getElem? (i := 946) (by decide +kernel)⟩
theorem lw_p53 : lw_okq (⟨"PressAndWait$Watch", "choose", "()V"⟩, 11) := ⟨⟨by decide +kernel, by decide +kernel⟩, List.mem_of_getElem? (i := 337) (by decide +kernel), List.mem_of_getElem? (i := 950) (by decide +kernel), List.mem_of_getElem? (i := 951) (by decide +kernel)⟩
theorem lw_p54 : lw_okq (⟨"PressAndWait$Watch", "mostLeft", "(I)I"⟩, 11) := ⟨⟨by decide +kernel, by decide +kernel⟩, List.mem_of_getElem? (i := 337) (by decide +kernel), List.mem_of_getElem? (i := 958) (by decide +kernel), List.mem_of_getElem? (i := 959) (by decide +kernel)⟩
theorem lw_p55 : lw_okq (⟨"PressAndWait", "act", "()V"⟩, 16) := ⟨⟨by decide +kernel, by decide +kernel⟩, List.mem_of_getElem? (i := 21) (by decide +kernel), List.mem_of_getElem? (i := 971) (by decide +kernel), List.mem_of_getElem? (i := 972) (by decide +kernel)⟩
theorem lw_p56 : lw_okq (⟨"PressAndWait", "canLive", "(I)Z"⟩, 16) := ⟨⟨by decide +kernel, by decide +kernel⟩, List.mem_of_getElem? (i := 21) (by decide +kernel), List.mem_of_getElem? (i := 997) (by decide +kernel), List.mem_of_getElem? (i := 998) (by decide +kernel)⟩
theorem lw_p57 : lw_okq (⟨"PressAndWait", "drawAbsent", "()I"⟩, 16) := ⟨⟨by decide +kernel, by decide +kernel⟩, List.mem_of_getElem? (i := 21) (by decide +kernel), List.mem_of_getElem? (i := 1006) (by decide +kernel), List.mem_of_getElem? (i := 1007) (by decide +kernel)⟩
theorem lw_p58 : lw_okq (⟨"PressAndWait", "answer", "(I)J"⟩, 16) := ⟨⟨by decide +kernel, by decide +kernel⟩, List.mem_of_getElem? (i := 21) (by decide +kernel), List.mem_of_getElem? (i := 1038) (by decide +kernel), List.mem_of_getElem? (i := 1039) (by decide +kernel)⟩
theorem lw_p59 : lw_okq (⟨"PressAndWait", "isImage", "(I)Z"⟩, 16) := ⟨⟨by decide +kernel, by decide +kernel⟩, List.mem_of_getElem? (i := 21) (by decide +kernel), List.mem_of_getElem? (i := 1063) (by decide +kernel), List.mem_of_getElem? (i := 1064) (by decide +kernel)⟩
theorem lw_p60 : lw_okq (⟨"PressAndWaitModel", "barTold", "()V"⟩, 122) := ⟨⟨by decide +kernel, by decide +kernel⟩, List.mem_of_getElem? (i := 1072) (by decide +kernel), List.mem_of_getElem? (i := 1460) (by decide +kernel), List.mem_of_getElem? (i := 1461) (by decide +kernel)⟩
theorem lw_p61 : lw_okq (⟨"PressAndWaitModel", "asks", "([C)V"⟩, 122) := ⟨⟨by decide +kernel, by decide +kernel⟩, List.mem_of_getElem? (i := 1072) (by decide +kernel), List.mem_of_getElem? (i := 1464) (by decide +kernel), List.mem_of_getElem? (i := 1465) (by decide +kernel)⟩
theorem lw_p62 : lw_okq (⟨"PressAndWaitModel", "takes", "([C)Z"⟩, 122) := ⟨⟨by decide +kernel, by decide +kernel⟩, List.mem_of_getElem? (i := 1072) (by decide +kernel), List.mem_of_getElem? (i := 1468) (by decide +kernel), List.mem_of_getElem? (i := 1469) (by decide +kernel)⟩
theorem lw_p63 : lw_okq (⟨"PressAndWaitModel", "isHere", "([C)Z"⟩, 122) := ⟨⟨by decide +kernel, by decide +kernel⟩, List.mem_of_getElem? (i := 1072) (by decide +kernel), List.mem_of_getElem? (i := 1472) (by decide +kernel), List.mem_of_getElem? (i := 1473) (by decide +kernel)⟩
def lw_privs_4 : List (MethodName × Nat) := [(⟨"PressAndWait$Street", "waitedByAll", "()I"⟩, 17), (⟨"PressAndWait$Street", "greensForNobody", "()I"⟩, 17), (⟨"PressAndWait$Street", "someoneCrosses", "(I)Z"⟩, 17), (⟨"PressAndWait$Choice", "enter", "(II)V"⟩, 3), (⟨"PressAndWait$Watch", "isSo", "()Z"⟩, 11), (⟨"PressAndWait$Watch", "choose", "()V"⟩, 11), (⟨"PressAndWait$Watch", "mostLeft", "(I)I"⟩, 11), (⟨"PressAndWait", "act", "()V"⟩, 16), (⟨"PressAndWait", "canLive", "(I)Z"⟩, 16), (⟨"PressAndWait", "drawAbsent", "()I"⟩, 16), (⟨"PressAndWait", "answer", "(I)J"⟩, 16), (⟨"PressAndWait", "isImage", "(I)Z"⟩, 16), (⟨"PressAndWaitModel", "barTold", "()V"⟩, 122), (⟨"PressAndWaitModel", "asks", "([C)V"⟩, 122), (⟨"PressAndWaitModel", "takes", "([C)Z"⟩, 122), (⟨"PressAndWaitModel", "isHere", "([C)Z"⟩, 122)]
theorem lw_r4 : ∀ q ∈ lw_privs_4, lw_okq q := List.forall_mem_cons.mpr ⟨lw_p48, List.forall_mem_cons.mpr ⟨lw_p49, List.forall_mem_cons.mpr ⟨lw_p50, List.forall_mem_cons.mpr ⟨lw_p51, List.forall_mem_cons.mpr ⟨lw_p52, List.forall_mem_cons.mpr ⟨lw_p53, List.forall_mem_cons.mpr ⟨lw_p54, List.forall_mem_cons.mpr ⟨lw_p55, List.forall_mem_cons.mpr ⟨lw_p56, List.forall_mem_cons.mpr ⟨lw_p57, List.forall_mem_cons.mpr ⟨lw_p58, List.forall_mem_cons.mpr ⟨lw_p59, List.forall_mem_cons.mpr ⟨lw_p60, List.forall_mem_cons.mpr ⟨lw_p61, List.forall_mem_cons.mpr ⟨lw_p62, List.forall_mem_cons.mpr ⟨lw_p63, fun _ h => absurd h List.not_mem_nil⟩⟩⟩⟩⟩⟩⟩⟩⟩⟩⟩⟩⟩⟩⟩⟩
theorem lw_p64 : lw_okq (⟨"PressAndWaitModel", "look", "()I"⟩, 122) := ⟨⟨by decide +kernel, by decide +kernel⟩, List.mem_of_getElem? (i := 1072) (by decide +kernel), List.mem_of_getElem? (i := 1476) (by decide +kernel), List.mem_of_getElem? (i := 1477) (by decide +kernel)⟩
theorem lw_p65 : lw_okq (⟨"PressAndWaitModel", "fail", "(II)V"⟩, 122) := ⟨⟨by decide +kernel, by decide +kernel⟩, List.mem_of_getElem? (i := 1072) (by decide +kernel), List.mem_of_getElem? (i := 1483) (by decide +kernel), List.mem_of_getElem? (i := 1484) (by decide +kernel)⟩
theorem lw_p66 : lw_okq (⟨"PressAndWaitModel", "number", "(II)I"⟩, 122) := ⟨⟨by decide +kernel, by decide +kernel⟩, List.mem_of_getElem? (i := 1072) (by decide +kernel), List.mem_of_getElem? (i := 1487) (by decide +kernel), List.mem_of_getElem? (i := 1488) (by decide +kernel)⟩
theorem lw_p67 : lw_okq (⟨"PressAndWaitModel", "asksSign", "(I)V"⟩, 122) := ⟨⟨by decide +kernel, by decide +kernel⟩, List.mem_of_getElem? (i := 1072) (by decide +kernel), List.mem_of_getElem? (i := 1497) (by decide +kernel), List.mem_of_getElem? (i := 1498) (by decide +kernel)⟩
theorem lw_p68 : lw_okq (⟨"PressAndWaitModel", "takesSign", "(I)Z"⟩, 122) := ⟨⟨by decide +kernel, by decide +kernel⟩, List.mem_of_getElem? (i := 1072) (by decide +kernel), List.mem_of_getElem? (i := 1501) (by decide +kernel), List.mem_of_getElem? (i := 1502) (by decide +kernel)⟩
theorem lw_p69 : lw_okq (⟨"PressAndWaitModel", "statementTold", "()V"⟩, 122) := ⟨⟨by decide +kernel, by decide +kernel⟩, List.mem_of_getElem? (i := 1072) (by decide +kernel), List.mem_of_getElem? (i := 1505) (by decide +kernel), List.mem_of_getElem? (i := 1506) (by decide +kernel)⟩
theorem lw_p70 : lw_okq (⟨"PressAndWaitModel", "kindTold", "(I)V"⟩, 122) := ⟨⟨by decide +kernel, by decide +kernel⟩, List.mem_of_getElem? (i := 1072) (by decide +kernel), List.mem_of_getElem? (i := 1509) (by decide +kernel), List.mem_of_getElem? (i := 1510) (by decide +kernel)⟩
theorem lw_p71 : lw_okq (⟨"PressAndWaitModel", "isFull", "(III)Z"⟩, 122) := ⟨⟨by decide +kernel, by decide +kernel⟩, List.mem_of_getElem? (i := 1072) (by decide +kernel), List.mem_of_getElem? (i := 1513) (by decide +kernel), List.mem_of_getElem? (i := 1514) (by decide +kernel)⟩
theorem lw_p72 : lw_okq (⟨"PressAndWaitModel", "newName", "()J"⟩, 122) := ⟨⟨by decide +kernel, by decide +kernel⟩, List.mem_of_getElem? (i := 1072) (by decide +kernel), List.mem_of_getElem? (i := 1517) (by decide +kernel), List.mem_of_getElem? (i := 1518) (by decide +kernel)⟩
theorem lw_p73 : lw_okq (⟨"PressAndWaitModel", "name", "()J"⟩, 122) := ⟨⟨by decide +kernel, by decide +kernel⟩, List.mem_of_getElem? (i := 1072) (by decide +kernel), List.mem_of_getElem? (i := 1521) (by decide +kernel), List.mem_of_getElem? (i := 1522) (by decide +kernel)⟩
theorem lw_p74 : lw_okq (⟨"PressAndWaitModel", "isOwnHere", "()Z"⟩, 122) := ⟨⟨by decide +kernel, by decide +kernel⟩, List.mem_of_getElem? (i := 1072) (by decide +kernel), List.mem_of_getElem? (i := 1525) (by decide +kernel), List.mem_of_getElem? (i := 1526) (by decide +kernel)⟩
theorem lw_p75 : lw_okq (⟨"PressAndWaitModel", "nameOf", "(IJ)I"⟩, 122) := ⟨⟨by decide +kernel, by decide +kernel⟩, List.mem_of_getElem? (i := 1072) (by decide +kernel), List.mem_of_getElem? (i := 1531) (by decide +kernel), List.mem_of_getElem? (i := 1532) (by decide +kernel)⟩
theorem lw_p76 : lw_okq (⟨"PressAndWaitModel", "walkerTold", "(I)V"⟩, 122) := ⟨⟨by decide +kernel, by decide +kernel⟩, List.mem_of_getElem? (i := 1072) (by decide +kernel), List.mem_of_getElem? (i := 1535) (by decide +kernel), List.mem_of_getElem? (i := 1536) (by decide +kernel)⟩
theorem lw_p77 : lw_okq (⟨"PressAndWaitModel", "codesTold", "(II)V"⟩, 122) := ⟨⟨by decide +kernel, by decide +kernel⟩, List.mem_of_getElem? (i := 1072) (by decide +kernel), List.mem_of_getElem? (i := 1539) (by decide +kernel), List.mem_of_getElem? (i := 1540) (by decide +kernel)⟩
theorem lw_p78 : lw_okq (⟨"PressAndWaitModel", "qSums", "()V"⟩, 122) := ⟨⟨by decide +kernel, by decide +kernel⟩, List.mem_of_getElem? (i := 1072) (by decide +kernel), List.mem_of_getElem? (i := 1543) (by decide +kernel), List.mem_of_getElem? (i := 1544) (by decide +kernel)⟩
theorem lw_p79 : lw_okq (⟨"PressAndWaitModel", "qPartTold", "()V"⟩, 122) := ⟨⟨by decide +kernel, by decide +kernel⟩, List.mem_of_getElem? (i := 1072) (by decide +kernel), List.mem_of_getElem? (i := 1547) (by decide +kernel), List.mem_of_getElem? (i := 1548) (by decide +kernel)⟩
def lw_privs_5 : List (MethodName × Nat) := [(⟨"PressAndWaitModel", "look", "()I"⟩, 122), (⟨"PressAndWaitModel", "fail", "(II)V"⟩, 122), (⟨"PressAndWaitModel", "number", "(II)I"⟩, 122), (⟨"PressAndWaitModel", "asksSign", "(I)V"⟩, 122), (⟨"PressAndWaitModel", "takesSign", "(I)Z"⟩, 122), (⟨"PressAndWaitModel", "statementTold", "()V"⟩, 122), (⟨"PressAndWaitModel", "kindTold", "(I)V"⟩, 122), (⟨"PressAndWaitModel", "isFull", "(III)Z"⟩, 122), (⟨"PressAndWaitModel", "newName", "()J"⟩, 122), (⟨"PressAndWaitModel", "name", "()J"⟩, 122), (⟨"PressAndWaitModel", "isOwnHere", "()Z"⟩, 122), (⟨"PressAndWaitModel", "nameOf", "(IJ)I"⟩, 122), (⟨"PressAndWaitModel", "walkerTold", "(I)V"⟩, 122), (⟨"PressAndWaitModel", "codesTold", "(II)V"⟩, 122), (⟨"PressAndWaitModel", "qSums", "()V"⟩, 122), (⟨"PressAndWaitModel", "qPartTold", "()V"⟩, 122)]
theorem lw_r5 : ∀ q ∈ lw_privs_5, lw_okq q := List.forall_mem_cons.mpr ⟨lw_p64, List.forall_mem_cons.mpr ⟨lw_p65, List.forall_mem_cons.mpr ⟨lw_p66, List.forall_mem_cons.mpr ⟨lw_p67, List.forall_mem_cons.mpr ⟨lw_p68, List.forall_mem_cons.mpr ⟨lw_p69, List.forall_mem_cons.mpr ⟨lw_p70, List.forall_mem_cons.mpr ⟨lw_p71, List.forall_mem_cons.mpr ⟨lw_p72, List.forall_mem_cons.mpr ⟨lw_p73, List.forall_mem_cons.mpr ⟨lw_p74, List.forall_mem_cons.mpr ⟨lw_p75, List.forall_mem_cons.mpr ⟨lw_p76, List.forall_mem_cons.mpr ⟨lw_p77, List.forall_mem_cons.mpr ⟨lw_p78, List.forall_mem_cons.mpr ⟨lw_p79, fun _ h => absurd h List.not_mem_nil⟩⟩⟩⟩⟩⟩⟩⟩⟩⟩⟩⟩⟩⟩⟩⟩
theorem lw_p80 : lw_okq (⟨"PressAndWaitModel", "qWordOf", "(II)I"⟩, 122) := ⟨⟨by decide +kernel, by decide +kernel⟩, List.mem_of_getElem? (i := 1072) (by decide +kernel), List.mem_of_getElem? (i := 1551) (by decide +kernel), List.mem_of_getElem? (i := 1552) (by decide +kernel)⟩
theorem lw_p81 : lw_okq (⟨"PressAndWaitModel", "qWordHere", "()I"⟩, 122) := ⟨⟨by decide +kernel, by decide +kernel⟩, List.mem_of_getElem? (i := 1072) (by decide +kernel), List.mem_of_getElem? (i := 1555) (by decide +kernel), List.mem_of_getElem? (i := 1556) (by decide +kernel)⟩
theorem lw_p82 : lw_okq (⟨"PressAndWaitModel", "isAllowed", "(I)Z"⟩, 122) := ⟨⟨by decide +kernel, by decide +kernel⟩, List.mem_of_getElem? (i := 1072) (by decide +kernel), List.mem_of_getElem? (i := 1559) (by decide +kernel), List.mem_of_getElem? (i := 1560) (by decide +kernel)⟩
theorem lw_p83 : lw_okq (⟨"PressAndWaitModel", "qOpens", "(II)V"⟩, 122) := ⟨⟨by decide +kernel, by decide +kernel⟩, List.mem_of_getElem? (i := 1072) (by decide +kernel), List.mem_of_getElem? (i := 1566) (by decide +kernel), List.mem_of_getElem? (i := 1567) (by decide +kernel)⟩
theorem lw_p84 : lw_okq (⟨"PressAndWaitModel", "qAsksWord", "(I)V"⟩, 122) := ⟨⟨by decide +kernel, by decide +kernel⟩, List.mem_of_getElem? (i := 1072) (by decide +kernel), List.mem_of_getElem? (i := 1570) (by decide +kernel), List.mem_of_getElem? (i := 1571) (by decide +kernel)⟩
theorem lw_p85 : lw_okq (⟨"PressAndWaitModel", "qCode", "(I)V"⟩, 122) := ⟨⟨by decide +kernel, by decide +kernel⟩, List.mem_of_getElem? (i := 1072) (by decide +kernel), List.mem_of_getElem? (i := 1574) (by decide +kernel), List.mem_of_getElem? (i := 1575) (by decide +kernel)⟩
theorem lw_p86 : lw_okq (⟨"PressAndWaitModel", "qEndsPart", "()V"⟩, 122) := ⟨⟨by decide +kernel, by decide +kernel⟩, List.mem_of_getElem? (i := 1072) (by decide +kernel), List.mem_of_getElem? (i := 1578) (by decide +kernel), List.mem_of_getElem? (i := 1579) (by decide +kernel)⟩
theorem lw_p87 : lw_okq (⟨"PressAndWaitModel", "qDrops", "()V"⟩, 122) := ⟨⟨by decide +kernel, by decide +kernel⟩, List.mem_of_getElem? (i := 1072) (by decide +kernel), List.mem_of_getElem? (i := 1582) (by decide +kernel), List.mem_of_getElem? (i := 1583) (by decide +kernel)⟩
theorem lw_p88 : lw_okq (⟨"PressAndWaitModel", "qGoesOn", "()Z"⟩, 122) := ⟨⟨by decide +kernel, by decide +kernel⟩, List.mem_of_getElem? (i := 1072) (by decide +kernel), List.mem_of_getElem? (i := 1586) (by decide +kernel), List.mem_of_getElem? (i := 1587) (by decide +kernel)⟩
theorem lw_p89 : lw_okq (⟨"PressAndWaitModel", "qBracket", "()I"⟩, 122) := ⟨⟨by decide +kernel, by decide +kernel⟩, List.mem_of_getElem? (i := 1072) (by decide +kernel), List.mem_of_getElem? (i := 1590) (by decide +kernel), List.mem_of_getElem? (i := 1591) (by decide +kernel)⟩
theorem lw_p90 : lw_okq (⟨"PressAndWaitModel", "qDropsToBracket", "()V"⟩, 122) := ⟨⟨by decide +kernel, by decide +kernel⟩, List.mem_of_getElem? (i := 1072) (by decide +kernel), List.mem_of_getElem? (i := 1597) (by decide +kernel), List.mem_of_getElem? (i := 1598) (by decide +kernel)⟩
theorem lw_p91 : lw_okq (⟨"PressAndWaitModel", "qIsOn", "(I)Z"⟩, 122) := ⟨⟨by decide +kernel, by decide +kernel⟩, List.mem_of_getElem? (i := 1072) (by decide +kernel), List.mem_of_getElem? (i := 1601) (by decide +kernel), List.mem_of_getElem? (i := 1602) (by decide +kernel)⟩
theorem lw_p92 : lw_okq (⟨"PressAndWaitModel", "qTest", "()V"⟩, 122) := ⟨⟨by decide +kernel, by decide +kernel⟩, List.mem_of_getElem? (i := 1072) (by decide +kernel), List.mem_of_getElem? (i := 1605) (by decide +kernel), List.mem_of_getElem? (i := 1606) (by decide +kernel)⟩
theorem lw_p93 : lw_okq (⟨"PressAndWaitModel", "qFact", "()V"⟩, 122) := ⟨⟨by decide +kernel, by decide +kernel⟩, List.mem_of_getElem? (i := 1072) (by decide +kernel), List.mem_of_getElem? (i := 1609) (by decide +kernel), List.mem_of_getElem? (i := 1610) (by decide +kernel)⟩
theorem lw_p94 : lw_okq (⟨"PressAndWaitModel", "qDropsNots", "()V"⟩, 122) := ⟨⟨by decide +kernel, by decide +kernel⟩, List.mem_of_getElem? (i := 1072) (by decide +kernel), List.mem_of_getElem? (i := 1613) (by decide +kernel), List.mem_of_getElem? (i := 1614) (by decide +kernel)⟩
theorem lw_p95 : lw_okq (⟨"PressAndWaitModel", "qGoesOnTest", "()Z"⟩, 122) := ⟨⟨by decide +kernel, by decide +kernel⟩, List.mem_of_getElem? (i := 1072) (by decide +kernel), List.mem_of_getElem? (i := 1617) (by decide +kernel), List.mem_of_getElem? (i := 1618) (by decide +kernel)⟩
def lw_privs_6 : List (MethodName × Nat) := [(⟨"PressAndWaitModel", "qWordOf", "(II)I"⟩, 122), (⟨"PressAndWaitModel", "qWordHere", "()I"⟩, 122), (⟨"PressAndWaitModel", "isAllowed", "(I)Z"⟩, 122), (⟨"PressAndWaitModel", "qOpens", "(II)V"⟩, 122), (⟨"PressAndWaitModel", "qAsksWord", "(I)V"⟩, 122), (⟨"PressAndWaitModel", "qCode", "(I)V"⟩, 122), (⟨"PressAndWaitModel", "qEndsPart", "()V"⟩, 122), (⟨"PressAndWaitModel", "qDrops", "()V"⟩, 122), (⟨"PressAndWaitModel", "qGoesOn", "()Z"⟩, 122), (⟨"PressAndWaitModel", "qBracket", "()I"⟩, 122), (⟨"PressAndWaitModel", "qDropsToBracket", "()V"⟩, 122), (⟨"PressAndWaitModel", "qIsOn", "(I)Z"⟩, 122), (⟨"PressAndWaitModel", "qTest", "()V"⟩, 122), (⟨"PressAndWaitModel", "qFact", "()V"⟩, 122), (⟨"PressAndWaitModel", "qDropsNots", "()V"⟩, 122), (⟨"PressAndWaitModel", "qGoesOnTest", "()Z"⟩, 122)]
theorem lw_r6 : ∀ q ∈ lw_privs_6, lw_okq q := List.forall_mem_cons.mpr ⟨lw_p80, List.forall_mem_cons.mpr ⟨lw_p81, List.forall_mem_cons.mpr ⟨lw_p82, List.forall_mem_cons.mpr ⟨lw_p83, List.forall_mem_cons.mpr ⟨lw_p84, List.forall_mem_cons.mpr ⟨lw_p85, List.forall_mem_cons.mpr ⟨lw_p86, List.forall_mem_cons.mpr ⟨lw_p87, List.forall_mem_cons.mpr ⟨lw_p88, List.forall_mem_cons.mpr ⟨lw_p89, List.forall_mem_cons.mpr ⟨lw_p90, List.forall_mem_cons.mpr ⟨lw_p91, List.forall_mem_cons.mpr ⟨lw_p92, List.forall_mem_cons.mpr ⟨lw_p93, List.forall_mem_cons.mpr ⟨lw_p94, List.forall_mem_cons.mpr ⟨lw_p95, fun _ h => absurd h List.not_mem_nil⟩⟩⟩⟩⟩⟩⟩⟩⟩⟩⟩⟩⟩⟩⟩⟩
theorem lw_p96 : lw_okq (⟨"PressAndWaitModel", "qHasSquare", "()Z"⟩, 122) := ⟨⟨by decide +kernel, by decide +kernel⟩, List.mem_of_getElem? (i := 1072) (by decide +kernel), List.mem_of_getElem? (i := 1621) (by decide +kernel), List.mem_of_getElem? (i := 1622) (by decide +kernel)⟩
theorem lw_p97 : lw_okq (⟨"PressAndWaitModel", "stands", "()V"⟩, 122) := ⟨⟨by decide +kernel, by decide +kernel⟩, List.mem_of_getElem? (i := 1072) (by decide +kernel), List.mem_of_getElem? (i := 1625) (by decide +kernel), List.mem_of_getElem? (i := 1626) (by decide +kernel)⟩
theorem lw_p98 : lw_okq (⟨"PressAndWaitModel", "kindMany", "()I"⟩, 122) := ⟨⟨by decide +kernel, by decide +kernel⟩, List.mem_of_getElem? (i := 1072) (by decide +kernel), List.mem_of_getElem? (i := 1637) (by decide +kernel), List.mem_of_getElem? (i := 1638) (by decide +kernel)⟩
theorem lw_p99 : lw_okq (⟨"PressAndWaitModel", "walkerMany", "()I"⟩, 122) := ⟨⟨by decide +kernel, by decide +kernel⟩, List.mem_of_getElem? (i := 1072) (by decide +kernel), List.mem_of_getElem? (i := 1641) (by decide +kernel), List.mem_of_getElem? (i := 1642) (by decide +kernel)⟩
theorem lw_p100 : lw_okq (⟨"PressAndWaitModel", "isKind", "(I)Z"⟩, 122) := ⟨⟨by decide +kernel, by decide +kernel⟩, List.mem_of_getElem? (i := 1072) (by decide +kernel), List.mem_of_getElem? (i := 1654) (by decide +kernel), List.mem_of_getElem? (i := 1655) (by decide +kernel)⟩
theorem lw_p101 : lw_okq (⟨"PressAndWaitModel", "kindOf", "(I)I"⟩, 122) := ⟨⟨by decide +kernel, by decide +kernel⟩, List.mem_of_getElem? (i := 1072) (by decide +kernel), List.mem_of_getElem? (i := 1658) (by decide +kernel), List.mem_of_getElem? (i := 1659) (by decide +kernel)⟩
theorem lw_p102 : lw_okq (⟨"PressAndWaitModel", "trustsOf", "(I)I"⟩, 122) := ⟨⟨by decide +kernel, by decide +kernel⟩, List.mem_of_getElem? (i := 1072) (by decide +kernel), List.mem_of_getElem? (i := 1662) (by decide +kernel), List.mem_of_getElem? (i := 1663) (by decide +kernel)⟩
theorem lw_p103 : lw_okq (⟨"PressAndWaitModel", "isWalker", "(I)Z"⟩, 122) := ⟨⟨by decide +kernel, by decide +kernel⟩, List.mem_of_getElem? (i := 1072) (by decide +kernel), List.mem_of_getElem? (i := 1670) (by decide +kernel), List.mem_of_getElem? (i := 1671) (by decide +kernel)⟩
theorem lw_p104 : lw_okq (⟨"PressAndWaitModel", "dayNow", "()V"⟩, 122) := ⟨⟨by decide +kernel, by decide +kernel⟩, List.mem_of_getElem? (i := 1072) (by decide +kernel), List.mem_of_getElem? (i := 1674) (by decide +kernel), List.mem_of_getElem? (i := 1675) (by decide +kernel)⟩
theorem lw_p105 : lw_okq (⟨"PressAndWaitModel", "laysCars", "()V"⟩, 122) := ⟨⟨by decide +kernel, by decide +kernel⟩, List.mem_of_getElem? (i := 1072) (by decide +kernel), List.mem_of_getElem? (i := 1678) (by decide +kernel), List.mem_of_getElem? (i := 1679) (by decide +kernel)⟩
theorem lw_p106 : lw_okq (⟨"PressAndWaitModel", "codesTell", "(II)J"⟩, 122) := ⟨⟨by decide +kernel, by decide +kernel⟩, List.mem_of_getElem? (i := 1072) (by decide +kernel), List.mem_of_getElem? (i := 1682) (by decide +kernel), List.mem_of_getElem? (i := 1683) (by decide +kernel)⟩
theorem lw_p107 : lw_okq (⟨"PressAndWaitModel", "qPuts", "(J)V"⟩, 122) := ⟨⟨by decide +kernel, by decide +kernel⟩, List.mem_of_getElem? (i := 1072) (by decide +kernel), List.mem_of_getElem? (i := 1686) (by decide +kernel), List.mem_of_getElem? (i := 1687) (by decide +kernel)⟩
theorem lw_p108 : lw_okq (⟨"PressAndWaitModel", "qPartOf", "(II)J"⟩, 122) := ⟨⟨by decide +kernel, by decide +kernel⟩, List.mem_of_getElem? (i := 1072) (by decide +kernel), List.mem_of_getElem? (i := 1690) (by decide +kernel), List.mem_of_getElem? (i := 1691) (by decide +kernel)⟩
theorem lw_p109 : lw_okq (⟨"PressAndWaitModel", "paceOf", "(I)I"⟩, 122) := ⟨⟨by decide +kernel, by decide +kernel⟩, List.mem_of_getElem? (i := 1072) (by decide +kernel), List.mem_of_getElem? (i := 1694) (by decide +kernel), List.mem_of_getElem? (i := 1695) (by decide +kernel)⟩
theorem lw_p110 : lw_okq (⟨"PressAndWaitModel", "qJoins", "(I)V"⟩, 122) := ⟨⟨by decide +kernel, by decide +kernel⟩, List.mem_of_getElem? (i := 1072) (by decide +kernel), List.mem_of_getElem? (i := 1698) (by decide +kernel), List.mem_of_getElem? (i := 1699) (by decide +kernel)⟩
theorem lw_p111 : lw_okq (⟨"PressAndWaitModel", "dayBy", "(IIII)V"⟩, 122) := ⟨⟨by decide +kernel, by decide +kernel⟩, List.mem_of_getElem? (i := 1072) (by decide +kernel), List.mem_of_getElem? (i := 1710) (by decide +kernel), List.mem_of_getElem? (i := 1711) (by decide +kernel)⟩
def lw_privs_7 : List (MethodName × Nat) := [(⟨"PressAndWaitModel", "qHasSquare", "()Z"⟩, 122), (⟨"PressAndWaitModel", "stands", "()V"⟩, 122), (⟨"PressAndWaitModel", "kindMany", "()I"⟩, 122), (⟨"PressAndWaitModel", "walkerMany", "()I"⟩, 122), (⟨"PressAndWaitModel", "isKind", "(I)Z"⟩, 122), (⟨"PressAndWaitModel", "kindOf", "(I)I"⟩, 122), (⟨"PressAndWaitModel", "trustsOf", "(I)I"⟩, 122), (⟨"PressAndWaitModel", "isWalker", "(I)Z"⟩, 122), (⟨"PressAndWaitModel", "dayNow", "()V"⟩, 122), (⟨"PressAndWaitModel", "laysCars", "()V"⟩, 122), (⟨"PressAndWaitModel", "codesTell", "(II)J"⟩, 122), (⟨"PressAndWaitModel", "qPuts", "(J)V"⟩, 122), (⟨"PressAndWaitModel", "qPartOf", "(II)J"⟩, 122), (⟨"PressAndWaitModel", "paceOf", "(I)I"⟩, 122), (⟨"PressAndWaitModel", "qJoins", "(I)V"⟩, 122), (⟨"PressAndWaitModel", "dayBy", "(IIII)V"⟩, 122)]
theorem lw_r7 : ∀ q ∈ lw_privs_7, lw_okq q := List.forall_mem_cons.mpr ⟨lw_p96, List.forall_mem_cons.mpr ⟨lw_p97, List.forall_mem_cons.mpr ⟨lw_p98, List.forall_mem_cons.mpr ⟨lw_p99, List.forall_mem_cons.mpr ⟨lw_p100, List.forall_mem_cons.mpr ⟨lw_p101, List.forall_mem_cons.mpr ⟨lw_p102, List.forall_mem_cons.mpr ⟨lw_p103, List.forall_mem_cons.mpr ⟨lw_p104, List.forall_mem_cons.mpr ⟨lw_p105, List.forall_mem_cons.mpr ⟨lw_p106, List.forall_mem_cons.mpr ⟨lw_p107, List.forall_mem_cons.mpr ⟨lw_p108, List.forall_mem_cons.mpr ⟨lw_p109, List.forall_mem_cons.mpr ⟨lw_p110, List.forall_mem_cons.mpr ⟨lw_p111, fun _ h => absurd h List.not_mem_nil⟩⟩⟩⟩⟩⟩⟩⟩⟩⟩⟩⟩⟩⟩⟩⟩
theorem lw_p112 : lw_okq (⟨"PressAndWaitModel", "arrive", "(II)V"⟩, 122) := ⟨⟨by decide +kernel, by decide +kernel⟩, List.mem_of_getElem? (i := 1072) (by decide +kernel), List.mem_of_getElem? (i := 1714) (by decide +kernel), List.mem_of_getElem? (i := 1715) (by decide +kernel)⟩
theorem lw_p113 : lw_okq (⟨"PressAndWaitModel", "secondOf", "(I)I"⟩, 122) := ⟨⟨by decide +kernel, by decide +kernel⟩, List.mem_of_getElem? (i := 1072) (by decide +kernel), List.mem_of_getElem? (i := 1718) (by decide +kernel), List.mem_of_getElem? (i := 1719) (by decide +kernel)⟩
theorem lw_p114 : lw_okq (⟨"PressAndWaitModel", "isLit", "(III)Z"⟩, 122) := ⟨⟨by decide +kernel, by decide +kernel⟩, List.mem_of_getElem? (i := 1072) (by decide +kernel), List.mem_of_getElem? (i := 1722) (by decide +kernel), List.mem_of_getElem? (i := 1723) (by decide +kernel)⟩
theorem lw_p115 : lw_okq (⟨"PressAndWaitModel", "acts", "(III)V"⟩, 122) := ⟨⟨by decide +kernel, by decide +kernel⟩, List.mem_of_getElem? (i := 1072) (by decide +kernel), List.mem_of_getElem? (i := 1726) (by decide +kernel), List.mem_of_getElem? (i := 1727) (by decide +kernel)⟩
theorem lw_p116 : lw_okq (⟨"PressAndWaitModel", "isHarmed", "(II)Z"⟩, 122) := ⟨⟨by decide +kernel, by decide +kernel⟩, List.mem_of_getElem? (i := 1072) (by decide +kernel), List.mem_of_getElem? (i := 1730) (by decide +kernel), List.mem_of_getElem? (i := 1731) (by decide +kernel)⟩
theorem lw_p117 : lw_okq (⟨"PressAndWaitModel", "toldOfDay", "(I)I"⟩, 122) := ⟨⟨by decide +kernel, by decide +kernel⟩, List.mem_of_getElem? (i := 1072) (by decide +kernel), List.mem_of_getElem? (i := 1748) (by decide +kernel), List.mem_of_getElem? (i := 1749) (by decide +kernel)⟩
theorem lw_p118 : lw_okq (⟨"PressAndWaitModel", "waitedAll", "()I"⟩, 122) := ⟨⟨by decide +kernel, by decide +kernel⟩, List.mem_of_getElem? (i := 1072) (by decide +kernel), List.mem_of_getElem? (i := 1752) (by decide +kernel), List.mem_of_getElem? (i := 1753) (by decide +kernel)⟩
theorem lw_p119 : lw_okq (⟨"PressAndWaitModel", "notCrossed", "()I"⟩, 122) := ⟨⟨by decide +kernel, by decide +kernel⟩, List.mem_of_getElem? (i := 1072) (by decide +kernel), List.mem_of_getElem? (i := 1759) (by decide +kernel), List.mem_of_getElem? (i := 1760) (by decide +kernel)⟩
theorem lw_p120 : lw_okq (⟨"PressAndWaitModel", "forNobody", "()I"⟩, 122) := ⟨⟨by decide +kernel, by decide +kernel⟩, List.mem_of_getElem? (i := 1072) (by decide +kernel), List.mem_of_getElem? (i := 1763) (by decide +kernel), List.mem_of_getElem? (i := 1764) (by decide +kernel)⟩
theorem lw_p121 : lw_okq (⟨"PressAndWaitModel", "isGreenLong", "(II)Z"⟩, 122) := ⟨⟨by decide +kernel, by decide +kernel⟩, List.mem_of_getElem? (i := 1072) (by decide +kernel), List.mem_of_getElem? (i := 1773) (by decide +kernel), List.mem_of_getElem? (i := 1774) (by decide +kernel)⟩
theorem lw_p122 : lw_okq (⟨"PressAndWaitModel", "isAhead", "(III)Z"⟩, 122) := ⟨⟨by decide +kernel, by decide +kernel⟩, List.mem_of_getElem? (i := 1072) (by decide +kernel), List.mem_of_getElem? (i := 1792) (by decide +kernel), List.mem_of_getElem? (i := 1793) (by decide +kernel)⟩
theorem lw_p123 : lw_okq (⟨"PressAndWaitModel", "putsAside", "()V"⟩, 122) := ⟨⟨by decide +kernel, by decide +kernel⟩, List.mem_of_getElem? (i := 1072) (by decide +kernel), List.mem_of_getElem? (i := 1796) (by decide +kernel), List.mem_of_getElem? (i := 1797) (by decide +kernel)⟩
theorem lw_p124 : lw_okq (⟨"PressAndWaitModel", "dayGoes", "(I)I"⟩, 122) := ⟨⟨by decide +kernel, by decide +kernel⟩, List.mem_of_getElem? (i := 1072) (by decide +kernel), List.mem_of_getElem? (i := 1800) (by decide +kernel), List.mem_of_getElem? (i := 1801) (by decide +kernel)⟩
theorem lw_p125 : lw_okq (⟨"PressAndWaitModel", "learn", "(I)V"⟩, 122) := ⟨⟨by decide +kernel, by decide +kernel⟩, List.mem_of_getElem? (i := 1072) (by decide +kernel), List.mem_of_getElem? (i := 1804) (by decide +kernel), List.mem_of_getElem? (i := 1805) (by decide +kernel)⟩
theorem lw_p126 : lw_okq (⟨"PressAndWaitModel", "takesBack", "()V"⟩, 122) := ⟨⟨by decide +kernel, by decide +kernel⟩, List.mem_of_getElem? (i := 1072) (by decide +kernel), List.mem_of_getElem? (i := 1809) (by decide +kernel), List.mem_of_getElem? (i := 1810) (by decide +kernel)⟩
theorem lw_p127 : lw_okq (⟨"PressAndWaitModel", "refuses", "(I)I"⟩, 122) := ⟨⟨by decide +kernel, by decide +kernel⟩, List.mem_of_getElem? (i := 1072) (by decide +kernel), List.mem_of_getElem? (i := 1822) (by decide +kernel), List.mem_of_getElem? (i := 1823) (by decide +kernel)⟩
def lw_privs_8 : List (MethodName × Nat) := [(⟨"PressAndWaitModel", "arrive", "(II)V"⟩, 122), (⟨"PressAndWaitModel", "secondOf", "(I)I"⟩, 122), (⟨"PressAndWaitModel", "isLit", "(III)Z"⟩, 122), (⟨"PressAndWaitModel", "acts", "(III)V"⟩, 122), (⟨"PressAndWaitModel", "isHarmed", "(II)Z"⟩, 122), (⟨"PressAndWaitModel", "toldOfDay", "(I)I"⟩, 122), (⟨"PressAndWaitModel", "waitedAll", "()I"⟩, 122), (⟨"PressAndWaitModel", "notCrossed", "()I"⟩, 122), (⟨"PressAndWaitModel", "forNobody", "()I"⟩, 122), (⟨"PressAndWaitModel", "isGreenLong", "(II)Z"⟩, 122), (⟨"PressAndWaitModel", "isAhead", "(III)Z"⟩, 122), (⟨"PressAndWaitModel", "putsAside", "()V"⟩, 122), (⟨"PressAndWaitModel", "dayGoes", "(I)I"⟩, 122), (⟨"PressAndWaitModel", "learn", "(I)V"⟩, 122), (⟨"PressAndWaitModel", "takesBack", "()V"⟩, 122), (⟨"PressAndWaitModel", "refuses", "(I)I"⟩, 122)]
theorem lw_r8 : ∀ q ∈ lw_privs_8, lw_okq q := List.forall_mem_cons.mpr ⟨lw_p112, List.forall_mem_cons.mpr ⟨lw_p113, List.forall_mem_cons.mpr ⟨lw_p114, List.forall_mem_cons.mpr ⟨lw_p115, List.forall_mem_cons.mpr ⟨lw_p116, List.forall_mem_cons.mpr ⟨lw_p117, List.forall_mem_cons.mpr ⟨lw_p118, List.forall_mem_cons.mpr ⟨lw_p119, List.forall_mem_cons.mpr ⟨lw_p120, List.forall_mem_cons.mpr ⟨lw_p121, List.forall_mem_cons.mpr ⟨lw_p122, List.forall_mem_cons.mpr ⟨lw_p123, List.forall_mem_cons.mpr ⟨lw_p124, List.forall_mem_cons.mpr ⟨lw_p125, List.forall_mem_cons.mpr ⟨lw_p126, List.forall_mem_cons.mpr ⟨lw_p127, fun _ h => absurd h List.not_mem_nil⟩⟩⟩⟩⟩⟩⟩⟩⟩⟩⟩⟩⟩⟩⟩⟩
theorem lw_p128 : lw_okq (⟨"PressAndWaitModel", "laysFits", "()V"⟩, 122) := ⟨⟨by decide +kernel, by decide +kernel⟩, List.mem_of_getElem? (i := 1072) (by decide +kernel), List.mem_of_getElem? (i := 1830) (by decide +kernel), List.mem_of_getElem? (i := 1831) (by decide +kernel)⟩
theorem lw_p129 : lw_okq (⟨"PressAndWaitModel", "isAsSeen", "()Z"⟩, 122) := ⟨⟨by decide +kernel, by decide +kernel⟩, List.mem_of_getElem? (i := 1072) (by decide +kernel), List.mem_of_getElem? (i := 1834) (by decide +kernel), List.mem_of_getElem? (i := 1835) (by decide +kernel)⟩
theorem lw_p130 : lw_okq (⟨"PressAndWaitModel", "mostAlike", "(I)I"⟩, 122) := ⟨⟨by decide +kernel, by decide +kernel⟩, List.mem_of_getElem? (i := 1072) (by decide +kernel), List.mem_of_getElem? (i := 1842) (by decide +kernel), List.mem_of_getElem? (i := 1843) (by decide +kernel)⟩
theorem lw_p131 : lw_okq (⟨"PressAndWaitModel", "isRefused", "()Z"⟩, 122) := ⟨⟨by decide +kernel, by decide +kernel⟩, List.mem_of_getElem? (i := 1072) (by decide +kernel), List.mem_of_getElem? (i := 1854) (by decide +kernel), List.mem_of_getElem? (i := 1855) (by decide +kernel)⟩
theorem lw_p132 : lw_okq (⟨"PressAndWaitModel", "keeps", "()V"⟩, 122) := ⟨⟨by decide +kernel, by decide +kernel⟩, List.mem_of_getElem? (i := 1072) (by decide +kernel), List.mem_of_getElem? (i := 1858) (by decide +kernel), List.mem_of_getElem? (i := 1859) (by decide +kernel)⟩
theorem lw_p133 : lw_okq (⟨"PressAndWaitModel", "drawOf", "(I)I"⟩, 122) := ⟨⟨by decide +kernel, by decide +kernel⟩, List.mem_of_getElem? (i := 1072) (by decide +kernel), List.mem_of_getElem? (i := 1882) (by decide +kernel), List.mem_of_getElem? (i := 1883) (by decide +kernel)⟩
theorem lw_p134 : lw_okq (⟨"PressAndWaitModel", "qKind", "()I"⟩, 122) := ⟨⟨by decide +kernel, by decide +kernel⟩, List.mem_of_getElem? (i := 1072) (by decide +kernel), List.mem_of_getElem? (i := 1895) (by decide +kernel), List.mem_of_getElem? (i := 1896) (by decide +kernel)⟩
theorem lw_p135 : lw_okq (⟨"PressAndWaitModel", "qTold", "(I)J"⟩, 122) := ⟨⟨by decide +kernel, by decide +kernel⟩, List.mem_of_getElem? (i := 1072) (by decide +kernel), List.mem_of_getElem? (i := 1900) (by decide +kernel), List.mem_of_getElem? (i := 1901) (by decide +kernel)⟩
theorem lw_p136 : lw_okq (⟨"PressAndWaitModel", "qOf", "(IJI)J"⟩, 122) := ⟨⟨by decide +kernel, by decide +kernel⟩, List.mem_of_getElem? (i := 1072) (by decide +kernel), List.mem_of_getElem? (i := 1904) (by decide +kernel), List.mem_of_getElem? (i := 1905) (by decide +kernel)⟩
theorem lw_p137 : lw_okq (⟨"PressAndWaitModel", "qTakes", "(IJI)V"⟩, 122) := ⟨⟨by decide +kernel, by decide +kernel⟩, List.mem_of_getElem? (i := 1072) (by decide +kernel), List.mem_of_getElem? (i := 1908) (by decide +kernel), List.mem_of_getElem? (i := 1909) (by decide +kernel)⟩
theorem lw_p138 : lw_okq (⟨"PressAndWaitModel", "writes", "(I)V"⟩, 122) := ⟨⟨by decide +kernel, by decide +kernel⟩, List.mem_of_getElem? (i := 1072) (by decide +kernel), List.mem_of_getElem? (i := 1916) (by decide +kernel), List.mem_of_getElem? (i := 1917) (by decide +kernel)⟩
theorem lw_p139 : lw_okq (⟨"PressAndWaitModel", "isImage", "(I)Z"⟩, 122) := ⟨⟨by decide +kernel, by decide +kernel⟩, List.mem_of_getElem? (i := 1072) (by decide +kernel), List.mem_of_getElem? (i := 1931) (by decide +kernel), List.mem_of_getElem? (i := 1932) (by decide +kernel)⟩
def lw_privs_9 : List (MethodName × Nat) := [(⟨"PressAndWaitModel", "laysFits", "()V"⟩, 122), (⟨"PressAndWaitModel", "isAsSeen", "()Z"⟩, 122), (⟨"PressAndWaitModel", "mostAlike", "(I)I"⟩, 122), (⟨"PressAndWaitModel", "isRefused", "()Z"⟩, 122), (⟨"PressAndWaitModel", "keeps", "()V"⟩, 122), (⟨"PressAndWaitModel", "drawOf", "(I)I"⟩, 122), (⟨"PressAndWaitModel", "qKind", "()I"⟩, 122), (⟨"PressAndWaitModel", "qTold", "(I)J"⟩, 122), (⟨"PressAndWaitModel", "qOf", "(IJI)J"⟩, 122), (⟨"PressAndWaitModel", "qTakes", "(IJI)V"⟩, 122), (⟨"PressAndWaitModel", "writes", "(I)V"⟩, 122), (⟨"PressAndWaitModel", "isImage", "(I)Z"⟩, 122)]
theorem lw_r9 : ∀ q ∈ lw_privs_9, lw_okq q := List.forall_mem_cons.mpr ⟨lw_p128, List.forall_mem_cons.mpr ⟨lw_p129, List.forall_mem_cons.mpr ⟨lw_p130, List.forall_mem_cons.mpr ⟨lw_p131, List.forall_mem_cons.mpr ⟨lw_p132, List.forall_mem_cons.mpr ⟨lw_p133, List.forall_mem_cons.mpr ⟨lw_p134, List.forall_mem_cons.mpr ⟨lw_p135, List.forall_mem_cons.mpr ⟨lw_p136, List.forall_mem_cons.mpr ⟨lw_p137, List.forall_mem_cons.mpr ⟨lw_p138, List.forall_mem_cons.mpr ⟨lw_p139, fun _ h => absurd h List.not_mem_nil⟩⟩⟩⟩⟩⟩⟩⟩⟩⟩⟩⟩
def lw_privs : List (MethodName × Nat) := lw_privs_1 ++ (lw_privs_2 ++ (lw_privs_3 ++ (lw_privs_4 ++ (lw_privs_5 ++ (lw_privs_6 ++ (lw_privs_7 ++ (lw_privs_8 ++ (lw_privs_9))))))))
def lw_tbl : List Cond := k2_sels lw_privs ++ tables_1
theorem lw_privs_ok : ∀ q ∈ lw_privs, lw_okq q := by
  show ∀ q ∈ lw_privs_1 ++ (lw_privs_2 ++ (lw_privs_3 ++ (lw_privs_4 ++ (lw_privs_5 ++ (lw_privs_6 ++ (lw_privs_7 ++ (lw_privs_8 ++ (lw_privs_9)))))))), lw_okq q
  exact List.forall_mem_append.mpr ⟨lw_r1, List.forall_mem_append.mpr ⟨lw_r2, List.forall_mem_append.mpr ⟨lw_r3, List.forall_mem_append.mpr ⟨lw_r4, List.forall_mem_append.mpr ⟨lw_r5, List.forall_mem_append.mpr ⟨lw_r6, List.forall_mem_append.mpr ⟨lw_r7, List.forall_mem_append.mpr ⟨lw_r8, lw_r9⟩⟩⟩⟩⟩⟩⟩⟩
-- ===== end of PART A; then your names; then what follows =====
end
section
/-! ===== BEGIN words of one list among another's, by their places ===== -/
theorem goodIn_r {big : List Cond} (ws : List Cond) (ps : List Nat) (hp : ws = ps.filterMap (fun i => big[i]?)) (h : ws.all goodWord = true) : GoodIn big ws := by
  intro w hw
  have h1 := List.all_eq_true.mp h w hw
  rw [hp] at hw
  obtain ⟨i, -, hi⟩ := List.mem_filterMap.mp hw
  have hm : w ∈ big := by first | exact List.mem_of_getElem? hi | exact List.getElem?_mem hi
  exact ⟨hm, good_of_word h1⟩
theorem goodIn_app {big a b : List Cond} (ha : GoodIn big a) (hb : GoodIn big b) : GoodIn big (a ++ b) := fun w h => (List.mem_append.mp h).elim (ha w) (hb w)
theorem goodIn_ca {big a b : List Cond} {c : Cond} (ha : GoodIn big (c :: a)) (hb : GoodIn big b) : GoodIn big (c :: (a ++ b)) := fun w h => (List.mem_cons.mp h).elim (fun e => ha w (List.mem_cons.mpr (Or.inl e))) (fun h => (List.mem_append.mp h).elim (fun h => ha w (List.mem_cons.mpr (Or.inr h))) (hb w))
theorem goodIn_sub {big ws : List Cond} (hm : ∀ w ∈ ws, w ∈ big) (h : ws.all goodWord = true) : GoodIn big ws := fun w hw => ⟨hm w hw, good_of_word (List.all_eq_true.mp h w hw)⟩
/-! ===== END ===== -/

/-! ===== BEGIN printed: names, fields, word lists, decode rows ===== -/
def RX0 : String := "PressAndWait$Ahead"
def TX0 : u_T := fun k => match k with
  | 0 => ("PressAndWait$Ahead", "street", "LPressAndWait$Street;", true)
  | 1 => ("PressAndWait$Ahead", "state", "LPressAndWait$State;", true)
  | 2 => ("PressAndWait$Ahead", "told", "[I", true)
  | 3 => ("PressAndWait$Ahead", "trusts", "[I", true)
  | _ => ("PressAndWait$Ahead", "known", "I", false)
def tyX0 : Nat → FieldType := fun k => match k with
  | 0 => .object "PressAndWait$Street"
  | 1 => .object "PressAndWait$State"
  | 2 => .array .int
  | 3 => .array .int
  | _ => .int
abbrev wsX00 : List Cond := u_ws RX0 TX0 5
theorem nmX0 : ∀ a, a < 5 → ∀ b, b < 5 → a ≠ b → (TX0 a).2.1 ≠ (TX0 b).2.1 := by decide +kernel
theorem tyX0_ok : ∀ k, k < 5 → parseFieldDescriptor (TX0 k).2.2.1 = some (tyX0 k) := by decide +kernel
abbrev cX0_init : ByteArray := prog_2_method_1_code
def yX0_init : MethodName := ⟨RX0, "<init>", "(LPressAndWait$Street;)V"⟩
abbrev cX0_forget : ByteArray := prog_2_method_2_code
def yX0_forget : MethodName := ⟨RX0, "forget", "()V"⟩
abbrev cX0_goTo : ByteArray := prog_2_method_3_code
def yX0_goTo : MethodName := ⟨RX0, "goTo", "(LPressAndWait$State;I)V"⟩
def RX1 : String := "PressAndWait$Choice"
def TX1 : u_T := fun k => match k with
  | 0 => ("PressAndWait$Choice", "street", "LPressAndWait$Street;", true)
  | 1 => ("PressAndWait$Choice", "table", "[I", true)
  | _ => ("PressAndWait$Choice", "tableKnown", "Z", false)
def tyX1 : Nat → FieldType := fun k => match k with
  | 0 => .object "PressAndWait$Street"
  | 1 => .array .int
  | _ => .boolean
abbrev wsX10 : List Cond := u_ws RX1 TX1 3
theorem nmX1 : ∀ a, a < 3 → ∀ b, b < 3 → a ≠ b → (TX1 a).2.1 ≠ (TX1 b).2.1 := by decide +kernel
theorem tyX1_ok : ∀ k, k < 3 → parseFieldDescriptor (TX1 k).2.2.1 = some (tyX1 k) := by decide +kernel
abbrev cX1_init : ByteArray := prog_3_method_1_code
def yX1_init : MethodName := ⟨RX1, "<init>", "(LPressAndWait$Street;)V"⟩
abbrev cX1_forget : ByteArray := prog_3_method_2_code
def yX1_forget : MethodName := ⟨RX1, "forget", "()V"⟩
abbrev cX1_bestOf : ByteArray := prog_3_method_3_code
def yX1_bestOf : MethodName := ⟨RX1, "bestOf", "(LPressAndWait$State;II)I"⟩
abbrev cX1_enter : ByteArray := prog_3_method_4_code
def yX1_enter : MethodName := ⟨RX1, "enter", "(II)V"⟩
abbrev cX1_leastGreen : ByteArray := prog_3_method_5_code
def yX1_leastGreen : MethodName := ⟨RX1, "leastGreen", "(LPressAndWait$State;)I"⟩
abbrev cX1_holders : ByteArray := prog_3_method_6_code
def yX1_holders : MethodName := ⟨RX1, "holders", "()I"⟩
def RX2 : String := "PressAndWait$History"
def TX2 : u_T := fun k => match k with
  | 0 => ("PressAndWait$History", "ring", "[LPressAndWait$State;", true)
  | 1 => ("PressAndWait$History", "next", "I", false)
  | _ => ("PressAndWait$History", "count", "I", false)
def tyX2 : Nat → FieldType := fun k => match k with
  | 0 => .array (.object "PressAndWait$State")
  | 1 => .int
  | _ => .int
abbrev wsX20 : List Cond := u_ws RX2 TX2 3
theorem nmX2 : ∀ a, a < 3 → ∀ b, b < 3 → a ≠ b → (TX2 a).2.1 ≠ (TX2 b).2.1 := by decide +kernel
theorem tyX2_ok : ∀ k, k < 3 → parseFieldDescriptor (TX2 k).2.2.1 = some (tyX2 k) := by decide +kernel
abbrev cX2_init : ByteArray := prog_4_method_1_code
def yX2_init : MethodName := ⟨RX2, "<init>", "()V"⟩
abbrev cX2_clear : ByteArray := prog_4_method_2_code
def yX2_clear : MethodName := ⟨RX2, "clear", "()V"⟩
abbrev cX2_keep : ByteArray := prog_4_method_3_code
def yX2_keep : MethodName := ⟨RX2, "keep", "(LPressAndWait$State;)V"⟩
abbrev cX2_giveBack : ByteArray := prog_4_method_4_code
def yX2_giveBack : MethodName := ⟨RX2, "giveBack", "(LPressAndWait$State;)Z"⟩
def RX3 : String := "PressAndWait$Machine"
def TX3 : u_T := fun k => match k with
  | 0 => ("PressAndWait$Machine", "facts", "[I", true)
  | _ => ("PressAndWait$Machine", "stack", "[I", true)
def tyX3 : Nat → FieldType := fun k => match k with
  | 0 => .array .int
  | _ => .array .int
abbrev wsX30 : List Cond := u_ws RX3 TX3 2
theorem nmX3 : ∀ a, a < 2 → ∀ b, b < 2 → a ≠ b → (TX3 a).2.1 ≠ (TX3 b).2.1 := by decide +kernel
theorem tyX3_ok : ∀ k, k < 2 → parseFieldDescriptor (TX3 k).2.2.1 = some (tyX3 k) := by decide +kernel
abbrev cX3_init : ByteArray := prog_5_method_1_code
def yX3_init : MethodName := ⟨RX3, "<init>", "()V"⟩
abbrev cX3_value : ByteArray := prog_5_method_2_code
def yX3_value : MethodName := ⟨RX3, "value", "([III)I"⟩
abbrev cX3_operate : ByteArray := prog_5_method_3_code
def yX3_operate : MethodName := ⟨RX3, "operate", "(III)I"⟩
abbrev cX3_within : ByteArray := prog_5_method_4_code
def yX3_within : MethodName := ⟨RX3, "within", "(J)I"⟩
def RX4 : String := "PressAndWait$Plan"
def TX4 : u_T := fun k => match k with
  | 0 => ("PressAndWait$Plan", "cycle", "I", false)
  | 1 => ("PressAndWait$Plan", "green", "I", false)
  | 2 => ("PressAndWait$Plan", "rule", "I", false)
  | 3 => ("PressAndWait$Plan", "least", "I", false)
  | 4 => ("PressAndWait$Plan", "away", "I", false)
  | 5 => ("PressAndWait$Plan", "statements", "I", false)
  | 6 => ("PressAndWait$Plan", "kinds", "I", false)
  | 7 => ("PressAndWait$Plan", "calm", "[I", true)
  | 8 => ("PressAndWait$Plan", "pace", "[I", true)
  | 9 => ("PressAndWait$Plan", "trusts", "[I", true)
  | 10 => ("PressAndWait$Plan", "walkers", "I", false)
  | 11 => ("PressAndWait$Plan", "kindOf", "[I", true)
  | 12 => ("PressAndWait$Plan", "comesAt", "[I", true)
  | 13 => ("PressAndWait$Plan", "comers", "[I", true)
  | 14 => ("PressAndWait$Plan", "names", "[I", true)
  | 15 => ("PressAndWait$Plan", "code", "[I", true)
  | 16 => ("PressAndWait$Plan", "size", "I", false)
  | _ => ("PressAndWait$Plan", "spans", "[I", true)
def tyX4 : Nat → FieldType := fun k => match k with
  | 0 => .int
  | 1 => .int
  | 2 => .int
  | 3 => .int
  | 4 => .int
  | 5 => .int
  | 6 => .int
  | 7 => .array .int
  | 8 => .array .int
  | 9 => .array .int
  | 10 => .int
  | 11 => .array .int
  | 12 => .array .int
  | 13 => .array .int
  | 14 => .array .int
  | 15 => .array .int
  | 16 => .int
  | _ => .array .int
abbrev wsX40 : List Cond := u_ws RX4 TX4 18
theorem nmX4 : ∀ a, a < 18 → ∀ b, b < 18 → a ≠ b → (TX4 a).2.1 ≠ (TX4 b).2.1 := by decide +kernel
theorem tyX4_ok : ∀ k, k < 18 → parseFieldDescriptor (TX4 k).2.2.1 = some (tyX4 k) := by decide +kernel
abbrev cX4_init : ByteArray := prog_6_method_1_code
def yX4_init : MethodName := ⟨RX4, "<init>", "()V"⟩
abbrev cX4_clear : ByteArray := prog_6_method_2_code
def yX4_clear : MethodName := ⟨RX4, "clear", "()V"⟩
abbrev cX4_walkersOf : ByteArray := prog_6_method_3_code
def yX4_walkersOf : MethodName := ⟨RX4, "walkersOf", "(I)I"⟩
abbrev cX4_comersIn : ByteArray := prog_6_method_4_code
def yX4_comersIn : MethodName := ⟨RX4, "comersIn", "(I)I"⟩
abbrev cX4_everyone : ByteArray := prog_6_method_5_code
def yX4_everyone : MethodName := ⟨RX4, "everyone", "()I"⟩
abbrev cX4_allowsGreen : ByteArray := prog_6_method_6_code
def yX4_allowsGreen : MethodName := ⟨RX4, "allowsGreen", "(I)Z"⟩
abbrev cX4_uses : ByteArray := prog_6_method_7_code
def yX4_uses : MethodName := ⟨RX4, "uses", "(II)Z"⟩
def RX5 : String := "PressAndWait$Reader"
def TX5 : u_T := fun k => match k with
  | 0 => ("PressAndWait$Reader", "text", "[I", true)
  | 1 => ("PressAndWait$Reader", "length", "I", false)
  | 2 => ("PressAndWait$Reader", "at", "I", false)
  | 3 => ("PressAndWait$Reader", "behind", "I", false)
  | 4 => ("PressAndWait$Reader", "sort", "I", false)
  | 5 => ("PressAndWait$Reader", "allowed", "I", false)
  | 6 => ("PressAndWait$Reader", "plan", "LPressAndWait$Plan;", false)
  | 7 => ("PressAndWait$Reader", "fault", "I", false)
  | _ => ("PressAndWait$Reader", "place", "I", false)
def tyX5 : Nat → FieldType := fun k => match k with
  | 0 => .array .int
  | 1 => .int
  | 2 => .int
  | 3 => .int
  | 4 => .int
  | 5 => .int
  | 6 => .object "PressAndWait$Plan"
  | 7 => .int
  | _ => .int
abbrev wsX50 : List Cond := u_ws RX5 TX5 9
theorem nmX5 : ∀ a, a < 9 → ∀ b, b < 9 → a ≠ b → (TX5 a).2.1 ≠ (TX5 b).2.1 := by decide +kernel
theorem tyX5_ok : ∀ k, k < 9 → parseFieldDescriptor (TX5 k).2.2.1 = some (tyX5 k) := by decide +kernel
abbrev cX5_init : ByteArray := prog_7_method_1_code
def yX5_init : MethodName := ⟨RX5, "<init>", "([ILPressAndWait$Plan;)V"⟩
abbrev cX5_readCrossing : ByteArray := prog_7_method_2_code
def yX5_readCrossing : MethodName := ⟨RX5, "readCrossing", "(LPressAndWait$Plan;I)V"⟩
abbrev cX5_readQuestion : ByteArray := prog_7_method_3_code
def yX5_readQuestion : MethodName := ⟨RX5, "readQuestion", "(LPressAndWait$Plan;I)I"⟩
abbrev cX5_begin : ByteArray := prog_7_method_4_code
def yX5_begin : MethodName := ⟨RX5, "begin", "(LPressAndWait$Plan;I)V"⟩
abbrev cX5_fail : ByteArray := prog_7_method_5_code
def yX5_fail : MethodName := ⟨RX5, "fail", "(II)V"⟩
abbrev cX5_firstStatement : ByteArray := prog_7_method_6_code
def yX5_firstStatement : MethodName := ⟨RX5, "firstStatement", "()V"⟩
abbrev cX5_kindStatement : ByteArray := prog_7_method_7_code
def yX5_kindStatement : MethodName := ⟨RX5, "kindStatement", "()V"⟩
abbrev cX5_comesStatement : ByteArray := prog_7_method_8_code
def yX5_comesStatement : MethodName := ⟨RX5, "comesStatement", "()V"⟩
abbrev cX5_codeStatement : ByteArray := prog_7_method_9_code
def yX5_codeStatement : MethodName := ⟨RX5, "codeStatement", "(II)V"⟩
abbrev cX5_numberBehind : ByteArray := prog_7_method_10_code
def yX5_numberBehind : MethodName := ⟨RX5, "numberBehind", "(Ljava/lang/String;II)I"⟩
abbrev cX5_newName : ByteArray := prog_7_method_11_code
def yX5_newName : MethodName := ⟨RX5, "newName", "(I)V"⟩
abbrev cX5_knownKind : ByteArray := prog_7_method_12_code
def yX5_knownKind : MethodName := ⟨RX5, "knownKind", "()I"⟩
abbrev cX5_isName : ByteArray := prog_7_method_13_code
def yX5_isName : MethodName := ⟨RX5, "isName", "()Z"⟩
abbrev cX5_wrongInName : ByteArray := prog_7_method_14_code
def yX5_wrongInName : MethodName := ⟨RX5, "wrongInName", "()I"⟩
abbrev cX5_nameLetter : ByteArray := prog_7_method_15_code
def yX5_nameLetter : MethodName := ⟨RX5, "nameLetter", "(I)I"⟩
abbrev cX5_slotOf : ByteArray := prog_7_method_16_code
def yX5_slotOf : MethodName := ⟨RX5, "slotOf", "(II)I"⟩
abbrev cX5_test : ByteArray := prog_7_method_17_code
def yX5_test : MethodName := ⟨RX5, "test", "(I)V"⟩
abbrev cX5_both : ByteArray := prog_7_method_18_code
def yX5_both : MethodName := ⟨RX5, "both", "(I)V"⟩
abbrev cX5_fact : ByteArray := prog_7_method_19_code
def yX5_fact : MethodName := ⟨RX5, "fact", "(I)V"⟩
abbrev cX5_sum : ByteArray := prog_7_method_20_code
def yX5_sum : MethodName := ⟨RX5, "sum", "(I)V"⟩
abbrev cX5_product : ByteArray := prog_7_method_21_code
def yX5_product : MethodName := ⟨RX5, "product", "(I)V"⟩
abbrev cX5_part : ByteArray := prog_7_method_22_code
def yX5_part : MethodName := ⟨RX5, "part", "(I)V"⟩
abbrev cX5_pair : ByteArray := prog_7_method_23_code
def yX5_pair : MethodName := ⟨RX5, "pair", "(II)V"⟩
abbrev cX5_partWord : ByteArray := prog_7_method_24_code
def yX5_partWord : MethodName := ⟨RX5, "partWord", "()V"⟩
abbrev cX5_enters : ByteArray := prog_7_method_25_code
def yX5_enters : MethodName := ⟨RX5, "enters", "(I)Z"⟩
abbrev cX5_signHere : ByteArray := prog_7_method_26_code
def yX5_signHere : MethodName := ⟨RX5, "signHere", "()I"⟩
abbrev cX5_emit : ByteArray := prog_7_method_27_code
def yX5_emit : MethodName := ⟨RX5, "emit", "(I)V"⟩
abbrev cX5_number : ByteArray := prog_7_method_28_code
def yX5_number : MethodName := ⟨RX5, "number", "(II)I"⟩
abbrev cX5_needWord : ByteArray := prog_7_method_29_code
def yX5_needWord : MethodName := ⟨RX5, "needWord", "(Ljava/lang/String;)V"⟩
abbrev cX5_takeWord : ByteArray := prog_7_method_30_code
def yX5_takeWord : MethodName := ⟨RX5, "takeWord", "(Ljava/lang/String;)Z"⟩
abbrev cX5_wordIn : ByteArray := prog_7_method_31_code
def yX5_wordIn : MethodName := ⟨RX5, "wordIn", "(Ljava/lang/String;)I"⟩
abbrev cX5_need : ByteArray := prog_7_method_32_code
def yX5_need : MethodName := ⟨RX5, "need", "(C)V"⟩
abbrev cX5_sees : ByteArray := prog_7_method_33_code
def yX5_sees : MethodName := ⟨RX5, "sees", "(C)Z"⟩
abbrev cX5_moveTo : ByteArray := prog_7_method_34_code
def yX5_moveTo : MethodName := ⟨RX5, "moveTo", "(I)V"⟩
abbrev cX5_sortOf : ByteArray := prog_7_method_35_code
def yX5_sortOf : MethodName := ⟨RX5, "sortOf", "(I)I"⟩
def RX6 : String := "PressAndWait$State"
def TX6 : u_T := fun k => match k with
  | 0 => ("PressAndWait$State", "day", "I", false)
  | 1 => ("PressAndWait$State", "rule", "I", false)
  | 2 => ("PressAndWait$State", "green", "I", false)
  | _ => ("PressAndWait$State", "trusts", "[I", true)
def tyX6 : Nat → FieldType := fun k => match k with
  | 0 => .int
  | 1 => .int
  | 2 => .int
  | _ => .array .int
abbrev wsX60 : List Cond := u_ws RX6 TX6 4
theorem nmX6 : ∀ a, a < 4 → ∀ b, b < 4 → a ≠ b → (TX6 a).2.1 ≠ (TX6 b).2.1 := by decide +kernel
theorem tyX6_ok : ∀ k, k < 4 → parseFieldDescriptor (TX6 k).2.2.1 = some (tyX6 k) := by decide +kernel
abbrev cX6_init : ByteArray := prog_8_method_1_code
def yX6_init : MethodName := ⟨RX6, "<init>", "()V"⟩
abbrev cX6_begin : ByteArray := prog_8_method_2_code
def yX6_begin : MethodName := ⟨RX6, "begin", "(LPressAndWait$Plan;)V"⟩
abbrev cX6_copy : ByteArray := prog_8_method_3_code
def yX6_copy : MethodName := ⟨RX6, "copy", "(LPressAndWait$State;)V"⟩
def RX7 : String := "PressAndWait$Street"
def TX7 : u_T := fun k => match k with
  | 0 => ("PressAndWait$Street", "machine", "LPressAndWait$Machine;", true)
  | 1 => ("PressAndWait$Street", "plan", "LPressAndWait$Plan;", false)
  | 2 => ("PressAndWait$Street", "day", "I", false)
  | 3 => ("PressAndWait$Street", "trusts", "[I", true)
  | 4 => ("PressAndWait$Street", "rule", "I", false)
  | 5 => ("PressAndWait$Street", "green", "I", false)
  | 6 => ("PressAndWait$Street", "absent", "I", false)
  | 7 => ("PressAndWait$Street", "asksReds", "Z", false)
  | 8 => ("PressAndWait$Street", "cars", "[I", true)
  | 9 => ("PressAndWait$Street", "gaps", "[I", true)
  | 10 => ("PressAndWait$Street", "known", "[I", true)
  | 11 => ("PressAndWait$Street", "left", "[I", true)
  | 12 => ("PressAndWait$Street", "leaves", "[I", true)
  | 13 => ("PressAndWait$Street", "pressed", "I", false)
  | 14 => ("PressAndWait$Street", "crossed", "I", false)
  | 15 => ("PressAndWait$Street", "went", "I", false)
  | _ => ("PressAndWait$Street", "harmed", "I", false)
def tyX7 : Nat → FieldType := fun k => match k with
  | 0 => .object "PressAndWait$Machine"
  | 1 => .object "PressAndWait$Plan"
  | 2 => .int
  | 3 => .array .int
  | 4 => .int
  | 5 => .int
  | 6 => .int
  | 7 => .boolean
  | 8 => .array .int
  | 9 => .array .int
  | 10 => .array .int
  | 11 => .array .int
  | 12 => .array .int
  | 13 => .int
  | 14 => .int
  | 15 => .int
  | _ => .int
abbrev wsX70 : List Cond := u_ws RX7 TX7 17
theorem nmX7 : ∀ a, a < 17 → ∀ b, b < 17 → a ≠ b → (TX7 a).2.1 ≠ (TX7 b).2.1 := by decide +kernel
theorem tyX7_ok : ∀ k, k < 17 → parseFieldDescriptor (TX7 k).2.2.1 = some (tyX7 k) := by decide +kernel
abbrev cX7_init : ByteArray := prog_9_method_1_code
def yX7_init : MethodName := ⟨RX7, "<init>", "(LPressAndWait$Machine;LPressAndWait$Plan;)V"⟩
abbrev cX7_take : ByteArray := prog_9_method_2_code
def yX7_take : MethodName := ⟨RX7, "take", "(LPressAndWait$Plan;)V"⟩
abbrev cX7_lay : ByteArray := prog_9_method_3_code
def yX7_lay : MethodName := ⟨RX7, "lay", "(LPressAndWait$State;III)V"⟩
abbrev cX7_prepare : ByteArray := prog_9_method_4_code
def yX7_prepare : MethodName := ⟨RX7, "prepare", "(LPressAndWait$State;)V"⟩
abbrev cX7_drive : ByteArray := prog_9_method_5_code
def yX7_drive : MethodName := ⟨RX7, "drive", "()V"⟩
abbrev cX7_shine : ByteArray := prog_9_method_6_code
def yX7_shine : MethodName := ⟨RX7, "shine", "()V"⟩
abbrev cX7_willing : ByteArray := prog_9_method_7_code
def yX7_willing : MethodName := ⟨RX7, "willing", "()I"⟩
abbrev cX7_walk : ByteArray := prog_9_method_8_code
def yX7_walk : MethodName := ⟨RX7, "walk", "()V"⟩
abbrev cX7_goes : ByteArray := prog_9_method_9_code
def yX7_goes : MethodName := ⟨RX7, "goes", "(III)Z"⟩
abbrev cX7_describe : ByteArray := prog_9_method_10_code
def yX7_describe : MethodName := ⟨RX7, "describe", "(IIII)V"⟩
abbrev cX7_describeWhole : ByteArray := prog_9_method_11_code
def yX7_describeWhole : MethodName := ⟨RX7, "describeWhole", "(I)V"⟩
abbrev cX7_waitedBy : ByteArray := prog_9_method_12_code
def yX7_waitedBy : MethodName := ⟨RX7, "waitedBy", "(I)I"⟩
abbrev cX7_pass : ByteArray := prog_9_method_13_code
def yX7_pass : MethodName := ⟨RX7, "pass", "(LPressAndWait$State;)V"⟩
abbrev cX7_told : ByteArray := prog_9_method_14_code
def yX7_told : MethodName := ⟨RX7, "told", "(I)I"⟩
abbrev cX7_waitedByAll : ByteArray := prog_9_method_15_code
def yX7_waitedByAll : MethodName := ⟨RX7, "waitedByAll", "()I"⟩
abbrev cX7_greensForNobody : ByteArray := prog_9_method_16_code
def yX7_greensForNobody : MethodName := ⟨RX7, "greensForNobody", "()I"⟩
abbrev cX7_someoneCrosses : ByteArray := prog_9_method_17_code
def yX7_someoneCrosses : MethodName := ⟨RX7, "someoneCrosses", "(I)Z"⟩
abbrev cX7_allCross : ByteArray := prog_9_method_18_code
def yX7_allCross : MethodName := ⟨RX7, "allCross", "()Z"⟩
abbrev cX7_greensUpTo : ByteArray := prog_9_method_19_code
def yX7_greensUpTo : MethodName := ⟨RX7, "greensUpTo", "(I)I"⟩
abbrev cX7_walkers : ByteArray := prog_9_method_20_code
def yX7_walkers : MethodName := ⟨RX7, "walkers", "()I"⟩
abbrev cX7_goersByThemselves : ByteArray := prog_9_method_21_code
def yX7_goersByThemselves : MethodName := ⟨RX7, "goersByThemselves", "()I"⟩
def RX8 : String := "PressAndWait$Watch"
def TX8 : u_T := fun k => match k with
  | 0 => ("PressAndWait$Watch", "street", "LPressAndWait$Street;", true)
  | 1 => ("PressAndWait$Watch", "seenWalker", "[I", true)
  | 2 => ("PressAndWait$Watch", "seenSecond", "[I", true)
  | 3 => ("PressAndWait$Watch", "rows", "I", false)
  | 4 => ("PressAndWait$Watch", "compared", "Z", false)
  | 5 => ("PressAndWait$Watch", "seconds", "[I", true)
  | 6 => ("PressAndWait$Watch", "found", "I", false)
  | 7 => ("PressAndWait$Watch", "foundRules", "I", false)
  | 8 => ("PressAndWait$Watch", "foundGreen", "I", false)
  | 9 => ("PressAndWait$Watch", "chosen", "I", false)
  | _ => ("PressAndWait$Watch", "chosenLeft", "I", false)
def tyX8 : Nat → FieldType := fun k => match k with
  | 0 => .object "PressAndWait$Street"
  | 1 => .array .int
  | 2 => .array .int
  | 3 => .int
  | 4 => .boolean
  | 5 => .array .int
  | 6 => .int
  | 7 => .int
  | 8 => .int
  | 9 => .int
  | _ => .int
abbrev wsX80 : List Cond := u_ws RX8 TX8 11
theorem nmX8 : ∀ a, a < 11 → ∀ b, b < 11 → a ≠ b → (TX8 a).2.1 ≠ (TX8 b).2.1 := by decide +kernel
theorem tyX8_ok : ∀ k, k < 11 → parseFieldDescriptor (TX8 k).2.2.1 = some (tyX8 k) := by decide +kernel
abbrev cX8_init : ByteArray := prog_10_method_1_code
def yX8_init : MethodName := ⟨RX8, "<init>", "(LPressAndWait$Street;)V"⟩
abbrev cX8_clear : ByteArray := prog_10_method_2_code
def yX8_clear : MethodName := ⟨RX8, "clear", "()V"⟩
abbrev cX8_forget : ByteArray := prog_10_method_3_code
def yX8_forget : MethodName := ⟨RX8, "forget", "()V"⟩
abbrev cX8_accepts : ByteArray := prog_10_method_4_code
def yX8_accepts : MethodName := ⟨RX8, "accepts", "([III)Z"⟩
abbrev cX8_keep : ByteArray := prog_10_method_5_code
def yX8_keep : MethodName := ⟨RX8, "keep", "([II)I"⟩
abbrev cX8_compare : ByteArray := prog_10_method_6_code
def yX8_compare : MethodName := ⟨RX8, "compare", "(LPressAndWait$State;)V"⟩
abbrev cX8_isSo : ByteArray := prog_10_method_7_code
def yX8_isSo : MethodName := ⟨RX8, "isSo", "()Z"⟩
abbrev cX8_choose : ByteArray := prog_10_method_8_code
def yX8_choose : MethodName := ⟨RX8, "choose", "()V"⟩
abbrev cX8_mostLeft : ByteArray := prog_10_method_9_code
def yX8_mostLeft : MethodName := ⟨RX8, "mostLeft", "(I)I"⟩
def RX9 : String := "PressAndWait"
def TX9 : u_T := fun k => match k with
  | 0 => ("PressAndWait", "tape", "[I", true)
  | 1 => ("PressAndWait", "tapeSize", "I", false)
  | 2 => ("PressAndWait", "plan", "LPressAndWait$Plan;", false)
  | 3 => ("PressAndWait", "spare", "LPressAndWait$Plan;", false)
  | 4 => ("PressAndWait", "now", "LPressAndWait$State;", true)
  | 5 => ("PressAndWait", "history", "LPressAndWait$History;", true)
  | 6 => ("PressAndWait", "machine", "LPressAndWait$Machine;", true)
  | 7 => ("PressAndWait", "reader", "LPressAndWait$Reader;", true)
  | 8 => ("PressAndWait", "street", "LPressAndWait$Street;", true)
  | 9 => ("PressAndWait", "choice", "LPressAndWait$Choice;", true)
  | 10 => ("PressAndWait", "ahead", "LPressAndWait$Ahead;", true)
  | 11 => ("PressAndWait", "watch", "LPressAndWait$Watch;", true)
  | 12 => ("PressAndWait", "octets", "[I", true)
  | 13 => ("PressAndWait", "octetCount", "I", false)
  | 14 => ("PressAndWait", "refusals", "[I", true)
  | _ => ("PressAndWait", "drawn", "J", false)
def tyX9 : Nat → FieldType := fun k => match k with
  | 0 => .array .int
  | 1 => .int
  | 2 => .object "PressAndWait$Plan"
  | 3 => .object "PressAndWait$Plan"
  | 4 => .object "PressAndWait$State"
  | 5 => .object "PressAndWait$History"
  | 6 => .object "PressAndWait$Machine"
  | 7 => .object "PressAndWait$Reader"
  | 8 => .object "PressAndWait$Street"
  | 9 => .object "PressAndWait$Choice"
  | 10 => .object "PressAndWait$Ahead"
  | 11 => .object "PressAndWait$Watch"
  | 12 => .array .int
  | 13 => .int
  | 14 => .array .int
  | _ => .long
abbrev wsX90 : List Cond := u_ws RX9 TX9 16
theorem nmX9 : ∀ a, a < 16 → ∀ b, b < 16 → a ≠ b → (TX9 a).2.1 ≠ (TX9 b).2.1 := by decide +kernel
theorem tyX9_ok : ∀ k, k < 16 → parseFieldDescriptor (TX9 k).2.2.1 = some (tyX9 k) := by decide +kernel
abbrev cX9_init : ByteArray := prog_1_method_1_code
def yX9_init : MethodName := ⟨RX9, "<init>", "()V"⟩
abbrev cX9_feed : ByteArray := prog_1_method_2_code
def yX9_feed : MethodName := ⟨RX9, "feed", "(IIIII)I"⟩
abbrev cX9_end : ByteArray := prog_1_method_3_code
def yX9_end : MethodName := ⟨RX9, "end", "(I)Z"⟩
abbrev cX9_crossing : ByteArray := prog_1_method_4_code
def yX9_crossing : MethodName := ⟨RX9, "crossing", "()I"⟩
abbrev cX9_fault : ByteArray := prog_1_method_5_code
def yX9_fault : MethodName := ⟨RX9, "fault", "(I)I"⟩
abbrev cX9_has : ByteArray := prog_1_method_6_code
def yX9_has : MethodName := ⟨RX9, "has", "(I)I"⟩
abbrev cX9_letter : ByteArray := prog_1_method_7_code
def yX9_letter : MethodName := ⟨RX9, "letter", "(III)I"⟩
abbrev cX9_kind : ByteArray := prog_1_method_8_code
def yX9_kind : MethodName := ⟨RX9, "kind", "(II)I"⟩
abbrev cX9_walker : ByteArray := prog_1_method_9_code
def yX9_walker : MethodName := ⟨RX9, "walker", "(II)I"⟩
abbrev cX9_light : ByteArray := prog_1_method_10_code
def yX9_light : MethodName := ⟨RX9, "light", "(I)I"⟩
abbrev cX9_car : ByteArray := prog_1_method_11_code
def yX9_car : MethodName := ⟨RX9, "car", "(I)I"⟩
abbrev cX9_day : ByteArray := prog_1_method_12_code
def yX9_day : MethodName := ⟨RX9, "day", "(I)I"⟩
abbrev cX9_best : ByteArray := prog_1_method_13_code
def yX9_best : MethodName := ⟨RX9, "best", "(II)I"⟩
abbrev cX9_least : ByteArray := prog_1_method_14_code
def yX9_least : MethodName := ⟨RX9, "least", "()I"⟩
abbrev cX9_hold : ByteArray := prog_1_method_15_code
def yX9_hold : MethodName := ⟨RX9, "hold", "()I"⟩
abbrev cX9_later : ByteArray := prog_1_method_16_code
def yX9_later : MethodName := ⟨RX9, "later", "(II)I"⟩
abbrev cX9_doubts : ByteArray := prog_1_method_17_code
def yX9_doubts : MethodName := ⟨RX9, "doubts", "(I)I"⟩
abbrev cX9_see : ByteArray := prog_1_method_18_code
def yX9_see : MethodName := ⟨RX9, "see", "()I"⟩
abbrev cX9_fits : ByteArray := prog_1_method_19_code
def yX9_fits : MethodName := ⟨RX9, "fits", "(I)I"⟩
abbrev cX9_watched : ByteArray := prog_1_method_20_code
def yX9_watched : MethodName := ⟨RX9, "watched", "(I)I"⟩
abbrev cX9_rule : ByteArray := prog_1_method_21_code
def yX9_rule : MethodName := ⟨RX9, "rule", "(I)Z"⟩
abbrev cX9_green : ByteArray := prog_1_method_22_code
def yX9_green : MethodName := ⟨RX9, "green", "(I)Z"⟩
abbrev cX9_trust : ByteArray := prog_1_method_23_code
def yX9_trust : MethodName := ⟨RX9, "trust", "(II)Z"⟩
abbrev cX9_days : ByteArray := prog_1_method_24_code
def yX9_days : MethodName := ⟨RX9, "days", "(I)I"⟩
abbrev cX9_chance : ByteArray := prog_1_method_25_code
def yX9_chance : MethodName := ⟨RX9, "chance", "(I)I"⟩
abbrev cX9_undo : ByteArray := prog_1_method_26_code
def yX9_undo : MethodName := ⟨RX9, "undo", "()Z"⟩
abbrev cX9_seed : ByteArray := prog_1_method_27_code
def yX9_seed : MethodName := ⟨RX9, "seed", "(I)Z"⟩
abbrev cX9_ask : ByteArray := prog_1_method_28_code
def yX9_ask : MethodName := ⟨RX9, "ask", "()J"⟩
abbrev cX9_image : ByteArray := prog_1_method_29_code
def yX9_image : MethodName := ⟨RX9, "image", "()I"⟩
abbrev cX9_octet : ByteArray := prog_1_method_30_code
def yX9_octet : MethodName := ⟨RX9, "octet", "(I)I"⟩
abbrev cX9_on : ByteArray := prog_1_method_31_code
def yX9_on : MethodName := ⟨RX9, "on", "()Z"⟩
abbrev cX9_status : ByteArray := prog_1_method_32_code
def yX9_status : MethodName := ⟨RX9, "status", "(I)I"⟩
abbrev cX9_bit : ByteArray := prog_1_method_33_code
def yX9_bit : MethodName := ⟨RX9, "bit", "(II)I"⟩
abbrev cX9_check : ByteArray := prog_1_method_34_code
def yX9_check : MethodName := ⟨RX9, "check", "([II)I"⟩
abbrev cX9_refuse : ByteArray := prog_1_method_35_code
def yX9_refuse : MethodName := ⟨RX9, "refuse", "(I)I"⟩
abbrev cX9_deny : ByteArray := prog_1_method_36_code
def yX9_deny : MethodName := ⟨RX9, "deny", "(I)Z"⟩
abbrev cX9_stands : ByteArray := prog_1_method_37_code
def yX9_stands : MethodName := ⟨RX9, "stands", "()Z"⟩
abbrev cX9_isKind : ByteArray := prog_1_method_38_code
def yX9_isKind : MethodName := ⟨RX9, "isKind", "(I)Z"⟩
abbrev cX9_isWalker : ByteArray := prog_1_method_39_code
def yX9_isWalker : MethodName := ⟨RX9, "isWalker", "(I)Z"⟩
abbrev cX9_canLive : ByteArray := prog_1_method_40_code
def yX9_canLive : MethodName := ⟨RX9, "canLive", "(I)Z"⟩
abbrev cX9_putBytes : ByteArray := prog_1_method_41_code
def yX9_putBytes : MethodName := ⟨RX9, "putBytes", "(I)V"⟩
abbrev cX9_takeTape : ByteArray := prog_1_method_42_code
def yX9_takeTape : MethodName := ⟨RX9, "takeTape", "()I"⟩
abbrev cX9_act : ByteArray := prog_1_method_43_code
def yX9_act : MethodName := ⟨RX9, "act", "()V"⟩
abbrev cX9_changed : ByteArray := prog_1_method_44_code
def yX9_changed : MethodName := ⟨RX9, "changed", "()V"⟩
abbrev cX9_drawAbsent : ByteArray := prog_1_method_45_code
def yX9_drawAbsent : MethodName := ⟨RX9, "drawAbsent", "()I"⟩
abbrev cX9_isImage : ByteArray := prog_1_method_46_code
def yX9_isImage : MethodName := ⟨RX9, "isImage", "(I)Z"⟩
abbrev cX9_layToday : ByteArray := prog_1_method_47_code
def yX9_layToday : MethodName := ⟨RX9, "layToday", "()V"⟩
abbrev cX9_answer : ByteArray := prog_1_method_48_code
def yX9_answer : MethodName := ⟨RX9, "answer", "(I)J"⟩
def RX10 : String := "PressAndWaitModel"
def TX10 : u_T := fun k => match k with
  | 0 => ("PressAndWaitModel", "tape", "[I", true)
  | 1 => ("PressAndWaitModel", "taped", "I", false)
  | 2 => ("PressAndWaitModel", "at", "I", false)
  | 3 => ("PressAndWaitModel", "end", "I", false)
  | 4 => ("PressAndWaitModel", "ended", "I", false)
  | 5 => ("PressAndWaitModel", "bad", "I", false)
  | 6 => ("PressAndWaitModel", "badPlace", "I", false)
  | 7 => ("PressAndWaitModel", "fault", "I", false)
  | 8 => ("PressAndWaitModel", "faultPlace", "I", false)
  | 9 => ("PressAndWaitModel", "refused", "[I", true)
  | 10 => ("PressAndWaitModel", "cycleWord", "[C", true)
  | 11 => ("PressAndWaitModel", "greenWord", "[C", true)
  | 12 => ("PressAndWaitModel", "ruleWord", "[C", true)
  | 13 => ("PressAndWaitModel", "leastWord", "[C", true)
  | 14 => ("PressAndWaitModel", "kindWord", "[C", true)
  | 15 => ("PressAndWaitModel", "calmWord", "[C", true)
  | 16 => ("PressAndWaitModel", "paceWord", "[C", true)
  | 17 => ("PressAndWaitModel", "trustsWord", "[C", true)
  | 18 => ("PressAndWaitModel", "comesWord", "[C", true)
  | 19 => ("PressAndWaitModel", "isWord", "[C", true)
  | 20 => ("PressAndWaitModel", "atWord", "[C", true)
  | 21 => ("PressAndWaitModel", "carWord", "[C", true)
  | 22 => ("PressAndWaitModel", "redWord", "[C", true)
  | 23 => ("PressAndWaitModel", "learnsWord", "[C", true)
  | 24 => ("PressAndWaitModel", "awayWord", "[C", true)
  | 25 => ("PressAndWaitModel", "secondWord", "[C", true)
  | 26 => ("PressAndWaitModel", "dayWord", "[C", true)
  | 27 => ("PressAndWaitModel", "phaseWord", "[C", true)
  | 28 => ("PressAndWaitModel", "waitedWord", "[C", true)
  | 29 => ("PressAndWaitModel", "gapWord", "[C", true)
  | 30 => ("PressAndWaitModel", "redsWord", "[C", true)
  | 31 => ("PressAndWaitModel", "numberWord", "[C", true)
  | 32 => ("PressAndWaitModel", "wentWord", "[C", true)
  | 33 => ("PressAndWaitModel", "harmWord", "[C", true)
  | 34 => ("PressAndWaitModel", "orWord", "[C", true)
  | 35 => ("PressAndWaitModel", "andWord", "[C", true)
  | 36 => ("PressAndWaitModel", "notWord", "[C", true)
  | 37 => ("PressAndWaitModel", "allWord", "[C", true)
  | 38 => ("PressAndWaitModel", "minWord", "[C", true)
  | 39 => ("PressAndWaitModel", "maxWord", "[C", true)
  | 40 => ("PressAndWaitModel", "namePlace", "I", false)
  | 41 => ("PressAndWaitModel", "many", "[I", true)
  | 42 => ("PressAndWaitModel", "names", "[J", true)
  | 43 => ("PressAndWaitModel", "bar", "[I", true)
  | 44 => ("PressAndWaitModel", "kinds", "[I", true)
  | 45 => ("PressAndWaitModel", "trusted", "[I", true)
  | 46 => ("PressAndWaitModel", "walkers", "[I", true)
  | 47 => ("PressAndWaitModel", "awayTold", "I", false)
  | 48 => ("PressAndWaitModel", "away", "I", false)
  | 49 => ("PressAndWaitModel", "codeFrom", "[I", true)
  | 50 => ("PressAndWaitModel", "codeEnd", "[I", true)
  | 51 => ("PressAndWaitModel", "codes", "[I", true)
  | 52 => ("PressAndWaitModel", "coded", "I", false)
  | 53 => ("PressAndWaitModel", "statements", "I", false)
  | 54 => ("PressAndWaitModel", "isCrossing", "Z", false)
  | 55 => ("PressAndWaitModel", "textKind", "I", false)
  | 56 => ("PressAndWaitModel", "now", "[I", true)
  | 57 => ("PressAndWaitModel", "aside", "[I", true)
  | 58 => ("PressAndWaitModel", "askSecond", "I", false)
  | 59 => ("PressAndWaitModel", "redMany", "I", false)
  | 60 => ("PressAndWaitModel", "isCar", "[Z", true)
  | 61 => ("PressAndWaitModel", "gaps", "[I", true)
  | 62 => ("PressAndWaitModel", "isGreen", "[Z", true)
  | 63 => ("PressAndWaitModel", "isHere", "[Z", true)
  | 64 => ("PressAndWaitModel", "crosses", "[I", true)
  | 65 => ("PressAndWaitModel", "waits", "[I", true)
  | 66 => ("PressAndWaitModel", "goes", "[Z", true)
  | 67 => ("PressAndWaitModel", "harms", "[Z", true)
  | 68 => ("PressAndWaitModel", "presses", "[Z", true)
  | 69 => ("PressAndWaitModel", "crossedIn", "[Z", true)
  | 70 => ("PressAndWaitModel", "isOpen", "Z", false)
  | 71 => ("PressAndWaitModel", "lastGreen", "I", false)
  | 72 => ("PressAndWaitModel", "greenTo", "I", false)
  | 73 => ("PressAndWaitModel", "isCycleGreen", "Z", false)
  | 74 => ("PressAndWaitModel", "stillGreen", "I", false)
  | 75 => ("PressAndWaitModel", "rowMany", "I", false)
  | 76 => ("PressAndWaitModel", "rows", "[I", true)
  | 77 => ("PressAndWaitModel", "when", "[I", true)
  | 78 => ("PressAndWaitModel", "fitMany", "I", false)
  | 79 => ("PressAndWaitModel", "fitRules", "I", false)
  | 80 => ("PressAndWaitModel", "fitGreen", "I", false)
  | 81 => ("PressAndWaitModel", "kept0", "[I", true)
  | 82 => ("PressAndWaitModel", "undoable", "I", false)
  | 83 => ("PressAndWaitModel", "newest", "I", false)
  | 84 => ("PressAndWaitModel", "seeded", "J", false)
  | 85 => ("PressAndWaitModel", "firstAsked", "[C", true)
  | 86 => ("PressAndWaitModel", "lastAsked", "[C", true)
  | 87 => ("PressAndWaitModel", "oftenAsked", "[C", true)
  | 88 => ("PressAndWaitModel", "totalAsked", "[C", true)
  | 89 => ("PressAndWaitModel", "mostAsked", "[C", true)
  | 90 => ("PressAndWaitModel", "leastAsked", "[C", true)
  | 91 => ("PressAndWaitModel", "notAsked", "[C", true)
  | 92 => ("PressAndWaitModel", "andAsked", "[C", true)
  | 93 => ("PressAndWaitModel", "orAsked", "[C", true)
  | 94 => ("PressAndWaitModel", "allAsked", "[C", true)
  | 95 => ("PressAndWaitModel", "minAsked", "[C", true)
  | 96 => ("PressAndWaitModel", "maxAsked", "[C", true)
  | 97 => ("PressAndWaitModel", "secondAsked", "[C", true)
  | 98 => ("PressAndWaitModel", "dayAsked", "[C", true)
  | 99 => ("PressAndWaitModel", "phaseAsked", "[C", true)
  | 100 => ("PressAndWaitModel", "waitedAsked", "[C", true)
  | 101 => ("PressAndWaitModel", "calmAsked", "[C", true)
  | 102 => ("PressAndWaitModel", "paceAsked", "[C", true)
  | 103 => ("PressAndWaitModel", "trustsAsked", "[C", true)
  | 104 => ("PressAndWaitModel", "gapAsked", "[C", true)
  | 105 => ("PressAndWaitModel", "redsAsked", "[C", true)
  | 106 => ("PressAndWaitModel", "numberAsked", "[C", true)
  | 107 => ("PressAndWaitModel", "wentAsked", "[C", true)
  | 108 => ("PressAndWaitModel", "harmAsked", "[C", true)
  | 109 => ("PressAndWaitModel", "kindofAsked", "[C", true)
  | 110 => ("PressAndWaitModel", "qCodes", "[I", true)
  | 111 => ("PressAndWaitModel", "qCoded", "I", false)
  | 112 => ("PressAndWaitModel", "qWait", "[I", true)
  | 113 => ("PressAndWaitModel", "qWaits", "I", false)
  | 114 => ("PressAndWaitModel", "qOpened", "I", false)
  | 115 => ("PressAndWaitModel", "qBase", "I", false)
  | 116 => ("PressAndWaitModel", "qPile", "[J", true)
  | 117 => ("PressAndWaitModel", "qPiled", "I", false)
  | 118 => ("PressAndWaitModel", "qAnswer", "J", false)
  | 119 => ("PressAndWaitModel", "qIsNew", "Z", false)
  | 120 => ("PressAndWaitModel", "octet", "[I", true)
  | _ => ("PressAndWaitModel", "octets", "I", false)
def tyX10 : Nat → FieldType := fun k => match k with
  | 0 => .array .int
  | 1 => .int
  | 2 => .int
  | 3 => .int
  | 4 => .int
  | 5 => .int
  | 6 => .int
  | 7 => .int
  | 8 => .int
  | 9 => .array .int
  | 10 => .array .char
  | 11 => .array .char
  | 12 => .array .char
  | 13 => .array .char
  | 14 => .array .char
  | 15 => .array .char
  | 16 => .array .char
  | 17 => .array .char
  | 18 => .array .char
  | 19 => .array .char
  | 20 => .array .char
  | 21 => .array .char
  | 22 => .array .char
  | 23 => .array .char
  | 24 => .array .char
  | 25 => .array .char
  | 26 => .array .char
  | 27 => .array .char
  | 28 => .array .char
  | 29 => .array .char
  | 30 => .array .char
  | 31 => .array .char
  | 32 => .array .char
  | 33 => .array .char
  | 34 => .array .char
  | 35 => .array .char
  | 36 => .array .char
  | 37 => .array .char
  | 38 => .array .char
  | 39 => .array .char
  | 40 => .int
  | 41 => .array .int
  | 42 => .array .long
  | 43 => .array .int
  | 44 => .array .int
  | 45 => .array .int
  | 46 => .array .int
  | 47 => .int
  | 48 => .int
  | 49 => .array .int
  | 50 => .array .int
  | 51 => .array .int
  | 52 => .int
  | 53 => .int
  | 54 => .boolean
  | 55 => .int
  | 56 => .array .int
  | 57 => .array .int
  | 58 => .int
  | 59 => .int
  | 60 => .array .boolean
  | 61 => .array .int
  | 62 => .array .boolean
  | 63 => .array .boolean
  | 64 => .array .int
  | 65 => .array .int
  | 66 => .array .boolean
  | 67 => .array .boolean
  | 68 => .array .boolean
  | 69 => .array .boolean
  | 70 => .boolean
  | 71 => .int
  | 72 => .int
  | 73 => .boolean
  | 74 => .int
  | 75 => .int
  | 76 => .array .int
  | 77 => .array .int
  | 78 => .int
  | 79 => .int
  | 80 => .int
  | 81 => .array .int
  | 82 => .int
  | 83 => .int
  | 84 => .long
  | 85 => .array .char
  | 86 => .array .char
  | 87 => .array .char
  | 88 => .array .char
  | 89 => .array .char
  | 90 => .array .char
  | 91 => .array .char
  | 92 => .array .char
  | 93 => .array .char
  | 94 => .array .char
  | 95 => .array .char
  | 96 => .array .char
  | 97 => .array .char
  | 98 => .array .char
  | 99 => .array .char
  | 100 => .array .char
  | 101 => .array .char
  | 102 => .array .char
  | 103 => .array .char
  | 104 => .array .char
  | 105 => .array .char
  | 106 => .array .char
  | 107 => .array .char
  | 108 => .array .char
  | 109 => .array .char
  | 110 => .array .int
  | 111 => .int
  | 112 => .array .int
  | 113 => .int
  | 114 => .int
  | 115 => .int
  | 116 => .array .long
  | 117 => .int
  | 118 => .long
  | 119 => .boolean
  | 120 => .array .int
  | _ => .int
abbrev wsX100 : List Cond := u_ws RX10 TX10 122
theorem nmX10 : ∀ a, a < 122 → ∀ b, b < 122 → a ≠ b → (TX10 a).2.1 ≠ (TX10 b).2.1 := by decide +kernel
theorem tyX10_ok : ∀ k, k < 122 → parseFieldDescriptor (TX10 k).2.2.1 = some (tyX10 k) := by decide +kernel
abbrev cX10_init : ByteArray := prog_12_method_1_code
def yX10_init : MethodName := ⟨RX10, "<init>", "()V"⟩
abbrev cX10_isIn : ByteArray := prog_12_method_2_code
def yX10_isIn : MethodName := ⟨RX10, "isIn", "(JJJ)Z"⟩
abbrev cX10_feed : ByteArray := prog_12_method_3_code
def yX10_feed : MethodName := ⟨RX10, "feed", "(IIIII)I"⟩
abbrev cX10_end : ByteArray := prog_12_method_4_code
def yX10_end : MethodName := ⟨RX10, "end", "(I)Z"⟩
abbrev cX10_fail : ByteArray := prog_12_method_5_code
def yX10_fail : MethodName := ⟨RX10, "fail", "(II)V"⟩
abbrev cX10_isLetter : ByteArray := prog_12_method_6_code
def yX10_isLetter : MethodName := ⟨RX10, "isLetter", "(I)Z"⟩
abbrev cX10_isDigit : ByteArray := prog_12_method_7_code
def yX10_isDigit : MethodName := ⟨RX10, "isDigit", "(I)Z"⟩
abbrev cX10_look : ByteArray := prog_12_method_8_code
def yX10_look : MethodName := ⟨RX10, "look", "()I"⟩
abbrev cX10_isHere : ByteArray := prog_12_method_9_code
def yX10_isHere : MethodName := ⟨RX10, "isHere", "([C)Z"⟩
abbrev cX10_takes : ByteArray := prog_12_method_10_code
def yX10_takes : MethodName := ⟨RX10, "takes", "([C)Z"⟩
abbrev cX10_asks : ByteArray := prog_12_method_11_code
def yX10_asks : MethodName := ⟨RX10, "asks", "([C)V"⟩
abbrev cX10_takesSign : ByteArray := prog_12_method_12_code
def yX10_takesSign : MethodName := ⟨RX10, "takesSign", "(I)Z"⟩
abbrev cX10_asksSign : ByteArray := prog_12_method_13_code
def yX10_asksSign : MethodName := ⟨RX10, "asksSign", "(I)V"⟩
abbrev cX10_number : ByteArray := prog_12_method_14_code
def yX10_number : MethodName := ⟨RX10, "number", "(II)I"⟩
abbrev cX10_isOwnHere : ByteArray := prog_12_method_15_code
def yX10_isOwnHere : MethodName := ⟨RX10, "isOwnHere", "()Z"⟩
abbrev cX10_name : ByteArray := prog_12_method_16_code
def yX10_name : MethodName := ⟨RX10, "name", "()J"⟩
abbrev cX10_isAllowed : ByteArray := prog_12_method_17_code
def yX10_isAllowed : MethodName := ⟨RX10, "isAllowed", "(I)Z"⟩
abbrev cX10_isFull : ByteArray := prog_12_method_18_code
def yX10_isFull : MethodName := ⟨RX10, "isFull", "(III)Z"⟩
abbrev cX10_nameOf : ByteArray := prog_12_method_19_code
def yX10_nameOf : MethodName := ⟨RX10, "nameOf", "(IJ)I"⟩
abbrev cX10_newName : ByteArray := prog_12_method_20_code
def yX10_newName : MethodName := ⟨RX10, "newName", "()J"⟩
abbrev cX10_barTold : ByteArray := prog_12_method_21_code
def yX10_barTold : MethodName := ⟨RX10, "barTold", "()V"⟩
abbrev cX10_kindTold : ByteArray := prog_12_method_22_code
def yX10_kindTold : MethodName := ⟨RX10, "kindTold", "(I)V"⟩
abbrev cX10_walkerTold : ByteArray := prog_12_method_23_code
def yX10_walkerTold : MethodName := ⟨RX10, "walkerTold", "(I)V"⟩
abbrev cX10_codesTold : ByteArray := prog_12_method_24_code
def yX10_codesTold : MethodName := ⟨RX10, "codesTold", "(II)V"⟩
abbrev cX10_statementTold : ByteArray := prog_12_method_25_code
def yX10_statementTold : MethodName := ⟨RX10, "statementTold", "()V"⟩
abbrev cX10_crossing : ByteArray := prog_12_method_26_code
def yX10_crossing : MethodName := ⟨RX10, "crossing", "()I"⟩
abbrev cX10_stands : ByteArray := prog_12_method_27_code
def yX10_stands : MethodName := ⟨RX10, "stands", "()V"⟩
abbrev cX10_fault : ByteArray := prog_12_method_28_code
def yX10_fault : MethodName := ⟨RX10, "fault", "(I)I"⟩
abbrev cX10_kindMany : ByteArray := prog_12_method_29_code
def yX10_kindMany : MethodName := ⟨RX10, "kindMany", "()I"⟩
abbrev cX10_walkerMany : ByteArray := prog_12_method_30_code
def yX10_walkerMany : MethodName := ⟨RX10, "walkerMany", "()I"⟩
abbrev cX10_isKind : ByteArray := prog_12_method_31_code
def yX10_isKind : MethodName := ⟨RX10, "isKind", "(I)Z"⟩
abbrev cX10_isWalker : ByteArray := prog_12_method_32_code
def yX10_isWalker : MethodName := ⟨RX10, "isWalker", "(I)Z"⟩
abbrev cX10_kindOf : ByteArray := prog_12_method_33_code
def yX10_kindOf : MethodName := ⟨RX10, "kindOf", "(I)I"⟩
abbrev cX10_secondOf : ByteArray := prog_12_method_34_code
def yX10_secondOf : MethodName := ⟨RX10, "secondOf", "(I)I"⟩
abbrev cX10_paceOf : ByteArray := prog_12_method_35_code
def yX10_paceOf : MethodName := ⟨RX10, "paceOf", "(I)I"⟩
abbrev cX10_trustsOf : ByteArray := prog_12_method_36_code
def yX10_trustsOf : MethodName := ⟨RX10, "trustsOf", "(I)I"⟩
abbrev cX10_codesTell : ByteArray := prog_12_method_37_code
def yX10_codesTell : MethodName := ⟨RX10, "codesTell", "(II)J"⟩
abbrev cX10_laysCars : ByteArray := prog_12_method_38_code
def yX10_laysCars : MethodName := ⟨RX10, "laysCars", "()V"⟩
abbrev cX10_arrive : ByteArray := prog_12_method_39_code
def yX10_arrive : MethodName := ⟨RX10, "arrive", "(II)V"⟩
abbrev cX10_isLit : ByteArray := prog_12_method_40_code
def yX10_isLit : MethodName := ⟨RX10, "isLit", "(III)Z"⟩
abbrev cX10_isHarmed : ByteArray := prog_12_method_41_code
def yX10_isHarmed : MethodName := ⟨RX10, "isHarmed", "(II)Z"⟩
abbrev cX10_acts : ByteArray := prog_12_method_42_code
def yX10_acts : MethodName := ⟨RX10, "acts", "(III)V"⟩
abbrev cX10_dayBy : ByteArray := prog_12_method_43_code
def yX10_dayBy : MethodName := ⟨RX10, "dayBy", "(IIII)V"⟩
abbrev cX10_dayNow : ByteArray := prog_12_method_44_code
def yX10_dayNow : MethodName := ⟨RX10, "dayNow", "()V"⟩
abbrev cX10_waitedAll : ByteArray := prog_12_method_45_code
def yX10_waitedAll : MethodName := ⟨RX10, "waitedAll", "()I"⟩
abbrev cX10_counted : ByteArray := prog_12_method_46_code
def yX10_counted : MethodName := ⟨RX10, "counted", "([ZI)I"⟩
abbrev cX10_notCrossed : ByteArray := prog_12_method_47_code
def yX10_notCrossed : MethodName := ⟨RX10, "notCrossed", "()I"⟩
abbrev cX10_forNobody : ByteArray := prog_12_method_48_code
def yX10_forNobody : MethodName := ⟨RX10, "forNobody", "()I"⟩
abbrev cX10_toldOfDay : ByteArray := prog_12_method_49_code
def yX10_toldOfDay : MethodName := ⟨RX10, "toldOfDay", "(I)I"⟩
abbrev cX10_learn : ByteArray := prog_12_method_50_code
def yX10_learn : MethodName := ⟨RX10, "learn", "(I)V"⟩
abbrev cX10_dayGoes : ByteArray := prog_12_method_51_code
def yX10_dayGoes : MethodName := ⟨RX10, "dayGoes", "(I)I"⟩
abbrev cX10_putsAside : ByteArray := prog_12_method_52_code
def yX10_putsAside : MethodName := ⟨RX10, "putsAside", "()V"⟩
abbrev cX10_takesBack : ByteArray := prog_12_method_53_code
def yX10_takesBack : MethodName := ⟨RX10, "takesBack", "()V"⟩
abbrev cX10_isAhead : ByteArray := prog_12_method_54_code
def yX10_isAhead : MethodName := ⟨RX10, "isAhead", "(III)Z"⟩
abbrev cX10_isGreenLong : ByteArray := prog_12_method_55_code
def yX10_isGreenLong : MethodName := ⟨RX10, "isGreenLong", "(II)Z"⟩
abbrev cX10_has : ByteArray := prog_12_method_56_code
def yX10_has : MethodName := ⟨RX10, "has", "(I)I"⟩
abbrev cX10_letter : ByteArray := prog_12_method_57_code
def yX10_letter : MethodName := ⟨RX10, "letter", "(III)I"⟩
abbrev cX10_kind : ByteArray := prog_12_method_58_code
def yX10_kind : MethodName := ⟨RX10, "kind", "(II)I"⟩
abbrev cX10_walker : ByteArray := prog_12_method_59_code
def yX10_walker : MethodName := ⟨RX10, "walker", "(II)I"⟩
abbrev cX10_light : ByteArray := prog_12_method_60_code
def yX10_light : MethodName := ⟨RX10, "light", "(I)I"⟩
abbrev cX10_car : ByteArray := prog_12_method_61_code
def yX10_car : MethodName := ⟨RX10, "car", "(I)I"⟩
abbrev cX10_day : ByteArray := prog_12_method_62_code
def yX10_day : MethodName := ⟨RX10, "day", "(I)I"⟩
abbrev cX10_best : ByteArray := prog_12_method_63_code
def yX10_best : MethodName := ⟨RX10, "best", "(II)I"⟩
abbrev cX10_least : ByteArray := prog_12_method_64_code
def yX10_least : MethodName := ⟨RX10, "least", "()I"⟩
abbrev cX10_bits : ByteArray := prog_12_method_65_code
def yX10_bits : MethodName := ⟨RX10, "bits", "(I)I"⟩
abbrev cX10_hold : ByteArray := prog_12_method_66_code
def yX10_hold : MethodName := ⟨RX10, "hold", "()I"⟩
abbrev cX10_later : ByteArray := prog_12_method_67_code
def yX10_later : MethodName := ⟨RX10, "later", "(II)I"⟩
abbrev cX10_doubts : ByteArray := prog_12_method_68_code
def yX10_doubts : MethodName := ⟨RX10, "doubts", "(I)I"⟩
abbrev cX10_refuses : ByteArray := prog_12_method_69_code
def yX10_refuses : MethodName := ⟨RX10, "refuses", "(I)I"⟩
abbrev cX10_see : ByteArray := prog_12_method_70_code
def yX10_see : MethodName := ⟨RX10, "see", "()I"⟩
abbrev cX10_isAsSeen : ByteArray := prog_12_method_71_code
def yX10_isAsSeen : MethodName := ⟨RX10, "isAsSeen", "()Z"⟩
abbrev cX10_laysFits : ByteArray := prog_12_method_72_code
def yX10_laysFits : MethodName := ⟨RX10, "laysFits", "()V"⟩
abbrev cX10_fits : ByteArray := prog_12_method_73_code
def yX10_fits : MethodName := ⟨RX10, "fits", "(I)I"⟩
abbrev cX10_mostAlike : ByteArray := prog_12_method_74_code
def yX10_mostAlike : MethodName := ⟨RX10, "mostAlike", "(I)I"⟩
abbrev cX10_watched : ByteArray := prog_12_method_75_code
def yX10_watched : MethodName := ⟨RX10, "watched", "(I)I"⟩
abbrev cX10_keeps : ByteArray := prog_12_method_76_code
def yX10_keeps : MethodName := ⟨RX10, "keeps", "()V"⟩
abbrev cX10_undo : ByteArray := prog_12_method_77_code
def yX10_undo : MethodName := ⟨RX10, "undo", "()Z"⟩
abbrev cX10_isRefused : ByteArray := prog_12_method_78_code
def yX10_isRefused : MethodName := ⟨RX10, "isRefused", "()Z"⟩
abbrev cX10_rule : ByteArray := prog_12_method_79_code
def yX10_rule : MethodName := ⟨RX10, "rule", "(I)Z"⟩
abbrev cX10_green : ByteArray := prog_12_method_80_code
def yX10_green : MethodName := ⟨RX10, "green", "(I)Z"⟩
abbrev cX10_trust : ByteArray := prog_12_method_81_code
def yX10_trust : MethodName := ⟨RX10, "trust", "(II)Z"⟩
abbrev cX10_days : ByteArray := prog_12_method_82_code
def yX10_days : MethodName := ⟨RX10, "days", "(I)I"⟩
abbrev cX10_seed : ByteArray := prog_12_method_83_code
def yX10_seed : MethodName := ⟨RX10, "seed", "(I)Z"⟩
abbrev cX10_drawOf : ByteArray := prog_12_method_84_code
def yX10_drawOf : MethodName := ⟨RX10, "drawOf", "(I)I"⟩
abbrev cX10_chance : ByteArray := prog_12_method_85_code
def yX10_chance : MethodName := ⟨RX10, "chance", "(I)I"⟩
abbrev cX10_qCode : ByteArray := prog_12_method_86_code
def yX10_qCode : MethodName := ⟨RX10, "qCode", "(I)V"⟩
abbrev cX10_qOpens : ByteArray := prog_12_method_87_code
def yX10_qOpens : MethodName := ⟨RX10, "qOpens", "(II)V"⟩
abbrev cX10_qIsOn : ByteArray := prog_12_method_88_code
def yX10_qIsOn : MethodName := ⟨RX10, "qIsOn", "(I)Z"⟩
abbrev cX10_qDrops : ByteArray := prog_12_method_89_code
def yX10_qDrops : MethodName := ⟨RX10, "qDrops", "()V"⟩
abbrev cX10_qIsBracket : ByteArray := prog_12_method_90_code
def yX10_qIsBracket : MethodName := ⟨RX10, "qIsBracket", "(I)Z"⟩
abbrev cX10_qBracket : ByteArray := prog_12_method_91_code
def yX10_qBracket : MethodName := ⟨RX10, "qBracket", "()I"⟩
abbrev cX10_qDropsToBracket : ByteArray := prog_12_method_92_code
def yX10_qDropsToBracket : MethodName := ⟨RX10, "qDropsToBracket", "()V"⟩
abbrev cX10_qWordHere : ByteArray := prog_12_method_93_code
def yX10_qWordHere : MethodName := ⟨RX10, "qWordHere", "()I"⟩
abbrev cX10_qWordOf : ByteArray := prog_12_method_94_code
def yX10_qWordOf : MethodName := ⟨RX10, "qWordOf", "(II)I"⟩
abbrev cX10_qAsksWord : ByteArray := prog_12_method_95_code
def yX10_qAsksWord : MethodName := ⟨RX10, "qAsksWord", "(I)V"⟩
abbrev cX10_qEndsPart : ByteArray := prog_12_method_96_code
def yX10_qEndsPart : MethodName := ⟨RX10, "qEndsPart", "()V"⟩
abbrev cX10_qPartTold : ByteArray := prog_12_method_97_code
def yX10_qPartTold : MethodName := ⟨RX10, "qPartTold", "()V"⟩
abbrev cX10_qGoesOn : ByteArray := prog_12_method_98_code
def yX10_qGoesOn : MethodName := ⟨RX10, "qGoesOn", "()Z"⟩
abbrev cX10_qSums : ByteArray := prog_12_method_99_code
def yX10_qSums : MethodName := ⟨RX10, "qSums", "()V"⟩
abbrev cX10_qFact : ByteArray := prog_12_method_100_code
def yX10_qFact : MethodName := ⟨RX10, "qFact", "()V"⟩
abbrev cX10_qHasSquare : ByteArray := prog_12_method_101_code
def yX10_qHasSquare : MethodName := ⟨RX10, "qHasSquare", "()Z"⟩
abbrev cX10_qDropsNots : ByteArray := prog_12_method_102_code
def yX10_qDropsNots : MethodName := ⟨RX10, "qDropsNots", "()V"⟩
abbrev cX10_qTest : ByteArray := prog_12_method_103_code
def yX10_qTest : MethodName := ⟨RX10, "qTest", "()V"⟩
abbrev cX10_qGoesOnTest : ByteArray := prog_12_method_104_code
def yX10_qGoesOnTest : MethodName := ⟨RX10, "qGoesOnTest", "()Z"⟩
abbrev cX10_qClip : ByteArray := prog_12_method_105_code
def yX10_qClip : MethodName := ⟨RX10, "qClip", "(J)J"⟩
abbrev cX10_qFloor : ByteArray := prog_12_method_106_code
def yX10_qFloor : MethodName := ⟨RX10, "qFloor", "(JJ)J"⟩
abbrev cX10_qPuts : ByteArray := prog_12_method_107_code
def yX10_qPuts : MethodName := ⟨RX10, "qPuts", "(J)V"⟩
abbrev cX10_qJoins : ByteArray := prog_12_method_108_code
def yX10_qJoins : MethodName := ⟨RX10, "qJoins", "(I)V"⟩
abbrev cX10_qPartOf : ByteArray := prog_12_method_109_code
def yX10_qPartOf : MethodName := ⟨RX10, "qPartOf", "(II)J"⟩
abbrev cX10_qOf : ByteArray := prog_12_method_110_code
def yX10_qOf : MethodName := ⟨RX10, "qOf", "(IJI)J"⟩
abbrev cX10_qTold : ByteArray := prog_12_method_111_code
def yX10_qTold : MethodName := ⟨RX10, "qTold", "(I)J"⟩
abbrev cX10_qKind : ByteArray := prog_12_method_112_code
def yX10_qKind : MethodName := ⟨RX10, "qKind", "()I"⟩
abbrev cX10_qTakes : ByteArray := prog_12_method_113_code
def yX10_qTakes : MethodName := ⟨RX10, "qTakes", "(IJI)V"⟩
abbrev cX10_ask : ByteArray := prog_12_method_114_code
def yX10_ask : MethodName := ⟨RX10, "ask", "()J"⟩
abbrev cX10_checked : ByteArray := prog_12_method_115_code
def yX10_checked : MethodName := ⟨RX10, "checked", "([II)I"⟩
abbrev cX10_writes : ByteArray := prog_12_method_116_code
def yX10_writes : MethodName := ⟨RX10, "writes", "(I)V"⟩
abbrev cX10_image : ByteArray := prog_12_method_117_code
def yX10_image : MethodName := ⟨RX10, "image", "()I"⟩
abbrev cX10_octet : ByteArray := prog_12_method_118_code
def yX10_octet : MethodName := ⟨RX10, "octet", "(I)I"⟩
abbrev cX10_isImage : ByteArray := prog_12_method_119_code
def yX10_isImage : MethodName := ⟨RX10, "isImage", "(I)Z"⟩
abbrev cX10_on : ByteArray := prog_12_method_120_code
def yX10_on : MethodName := ⟨RX10, "on", "()Z"⟩
abbrev cX10_status : ByteArray := prog_12_method_121_code
def yX10_status : MethodName := ⟨RX10, "status", "(I)I"⟩
def RJx145de : String := "java/io/Serializable"
def TJx145de : u_T := fun k => match k with
  | _ => ("", "", "", false)
def tyJx145de : Nat → FieldType := fun k => match k with
  | _ => .int
abbrev wsJx145de0 : List Cond := u_ws RJx145de TJx145de 0
theorem nmJx145de : ∀ a, a < 0 → ∀ b, b < 0 → a ≠ b → (TJx145de a).2.1 ≠ (TJx145de b).2.1 := by decide +kernel
theorem tyJx145de_ok : ∀ k, k < 0 → parseFieldDescriptor (TJx145de k).2.2.1 = some (tyJx145de k) := by decide +kernel
def RJx9f9b0 : String := "java/lang/CharSequence"
def TJx9f9b0 : u_T := fun k => match k with
  | _ => ("", "", "", false)
def tyJx9f9b0 : Nat → FieldType := fun k => match k with
  | _ => .int
abbrev wsJx9f9b00 : List Cond := u_ws RJx9f9b0 TJx9f9b0 0
theorem nmJx9f9b0 : ∀ a, a < 0 → ∀ b, b < 0 → a ≠ b → (TJx9f9b0 a).2.1 ≠ (TJx9f9b0 b).2.1 := by decide +kernel
theorem tyJx9f9b0_ok : ∀ k, k < 0 → parseFieldDescriptor (TJx9f9b0 k).2.2.1 = some (tyJx9f9b0 k) := by decide +kernel
def RJxb160c : String := "java/lang/Comparable"
def TJxb160c : u_T := fun k => match k with
  | _ => ("", "", "", false)
def tyJxb160c : Nat → FieldType := fun k => match k with
  | _ => .int
abbrev wsJxb160c0 : List Cond := u_ws RJxb160c TJxb160c 0
theorem nmJxb160c : ∀ a, a < 0 → ∀ b, b < 0 → a ≠ b → (TJxb160c a).2.1 ≠ (TJxb160c b).2.1 := by decide +kernel
theorem tyJxb160c_ok : ∀ k, k < 0 → parseFieldDescriptor (TJxb160c k).2.2.1 = some (tyJxb160c k) := by decide +kernel
def RJ6 : String := "java/lang/Integer"
def TJ6 : u_T := fun k => match k with
  | _ => ("", "", "", false)
def tyJ6 : Nat → FieldType := fun k => match k with
  | _ => .int
abbrev wsJ60 : List Cond := u_ws RJ6 TJ6 0
theorem nmJ6 : ∀ a, a < 0 → ∀ b, b < 0 → a ≠ b → (TJ6 a).2.1 ≠ (TJ6 b).2.1 := by decide +kernel
theorem tyJ6_ok : ∀ k, k < 0 → parseFieldDescriptor (TJ6 k).2.2.1 = some (tyJ6 k) := by decide +kernel
abbrev cJ6_bitCount_0f7a4 : ByteArray := prog_13_method_49_code
def yJ6_bitCount_0f7a4 : MethodName := ⟨RJ6, "bitCount", "(I)I"⟩
def RJ9 : String := "java/lang/Math"
def TJ9 : u_T := fun k => match k with
  | _ => ("", "", "", false)
def tyJ9 : Nat → FieldType := fun k => match k with
  | _ => .int
abbrev wsJ90 : List Cond := u_ws RJ9 TJ9 0
theorem nmJ9 : ∀ a, a < 0 → ∀ b, b < 0 → a ≠ b → (TJ9 a).2.1 ≠ (TJ9 b).2.1 := by decide +kernel
theorem tyJ9_ok : ∀ k, k < 0 → parseFieldDescriptor (TJ9 k).2.2.1 = some (tyJ9 k) := by decide +kernel
abbrev cJ9_floorDiv_7cf53 : ByteArray := prog_14_method_47_code
def yJ9_floorDiv_7cf53 : MethodName := ⟨RJ9, "floorDiv", "(II)I"⟩
abbrev cJ9_max_7cf53 : ByteArray := prog_14_method_65_code
def yJ9_max_7cf53 : MethodName := ⟨RJ9, "max", "(II)I"⟩
abbrev cJ9_min_7cf53 : ByteArray := prog_14_method_69_code
def yJ9_min_7cf53 : MethodName := ⟨RJ9, "min", "(II)I"⟩
def RJ0 : String := "java/lang/String"
def TJ0 : u_T := fun k => match k with
  | _ => ("", "", "", false)
def tyJ0 : Nat → FieldType := fun k => match k with
  | _ => .int
abbrev wsJ00 : List Cond := u_ws RJ0 TJ0 0
theorem nmJ0 : ∀ a, a < 0 → ∀ b, b < 0 → a ≠ b → (TJ0 a).2.1 ≠ (TJ0 b).2.1 := by decide +kernel
theorem tyJ0_ok : ∀ k, k < 0 → parseFieldDescriptor (TJ0 k).2.2.1 = some (tyJ0 k) := by decide +kernel
abbrev cJ0_length_8abf5 : ByteArray := prog_15_method_54_code
def yJ0_length_8abf5 : MethodName := ⟨RJ0, "length", "()I"⟩
abbrev cJ0_charAt_5068e : ByteArray := prog_15_method_56_code
def yJ0_charAt_5068e : MethodName := ⟨RJ0, "charAt", "(I)C"⟩
abbrev cJ0_coder_7d493 : ByteArray := prog_15_method_152_code
def yJ0_coder_7d493 : MethodName := ⟨RJ0, "coder", "()B"⟩
abbrev cJ0_isLatin1_aae02 : ByteArray := prog_15_method_154_code
def yJ0_isLatin1_aae02 : MethodName := ⟨RJ0, "isLatin1", "()Z"⟩
abbrev cJ0_checkIndex_df160 : ByteArray := prog_15_method_155_code
def yJ0_checkIndex_df160 : MethodName := ⟨RJ0, "checkIndex", "(II)V"⟩
def RJ1 : String := "java/lang/StringLatin1"
def TJ1 : u_T := fun k => match k with
  | _ => ("", "", "", false)
def tyJ1 : Nat → FieldType := fun k => match k with
  | _ => .int
abbrev wsJ10 : List Cond := u_ws RJ1 TJ1 0
theorem nmJ1 : ∀ a, a < 0 → ∀ b, b < 0 → a ≠ b → (TJ1 a).2.1 ≠ (TJ1 b).2.1 := by decide +kernel
theorem tyJ1_ok : ∀ k, k < 0 → parseFieldDescriptor (TJ1 k).2.2.1 = some (tyJ1 k) := by decide +kernel
abbrev cJ1_charAt_3b067 : ByteArray := prog_16_method_2_code
def yJ1_charAt_3b067 : MethodName := ⟨RJ1, "charAt", "([BI)C"⟩
def RJ2 : String := "java/lang/StringUTF16"
def TJ2 : u_T := fun k => match k with
  | _ => ("", "", "", false)
def tyJ2 : Nat → FieldType := fun k => match k with
  | _ => .int
abbrev wsJ20 : List Cond := u_ws RJ2 TJ2 0
theorem nmJ2 : ∀ a, a < 0 → ∀ b, b < 0 → a ≠ b → (TJ2 a).2.1 ≠ (TJ2 b).2.1 := by decide +kernel
theorem tyJ2_ok : ∀ k, k < 0 → parseFieldDescriptor (TJ2 k).2.2.1 = some (tyJ2 k) := by decide +kernel
abbrev cJ2_getChar_3b067 : ByteArray := prog_17_method_5_code
def yJ2_getChar_3b067 : MethodName := ⟨RJ2, "getChar", "([BI)C"⟩
abbrev cJ2_length_9d52b : ByteArray := prog_17_method_6_code
def yJ2_length_9d52b : MethodName := ⟨RJ2, "length", "([B)I"⟩
abbrev cJ2_charAt_3b067 : ByteArray := prog_17_method_83_code
def yJ2_charAt_3b067 : MethodName := ⟨RJ2, "charAt", "([BI)C"⟩
abbrev cJ2_checkIndex_2214a : ByteArray := prog_17_method_91_code
def yJ2_checkIndex_2214a : MethodName := ⟨RJ2, "checkIndex", "(I[B)V"⟩
def RJ10 : String := "java/lang/System"
def TJ10 : u_T := fun k => match k with
  | _ => ("", "", "", false)
def tyJ10 : Nat → FieldType := fun k => match k with
  | _ => .int
abbrev wsJ100 : List Cond := u_ws RJ10 TJ10 0
theorem nmJ10 : ∀ a, a < 0 → ∀ b, b < 0 → a ≠ b → (TJ10 a).2.1 ≠ (TJ10 b).2.1 := by decide +kernel
theorem tyJ10_ok : ∀ k, k < 0 → parseFieldDescriptor (TJ10 k).2.2.1 = some (tyJ10 k) := by decide +kernel
def RJxfd54e : String := "java/lang/constant/Constable"
def TJxfd54e : u_T := fun k => match k with
  | _ => ("", "", "", false)
def tyJxfd54e : Nat → FieldType := fun k => match k with
  | _ => .int
abbrev wsJxfd54e0 : List Cond := u_ws RJxfd54e TJxfd54e 0
theorem nmJxfd54e : ∀ a, a < 0 → ∀ b, b < 0 → a ≠ b → (TJxfd54e a).2.1 ≠ (TJxfd54e b).2.1 := by decide +kernel
theorem tyJxfd54e_ok : ∀ k, k < 0 → parseFieldDescriptor (TJxfd54e k).2.2.1 = some (tyJxfd54e k) := by decide +kernel
def RJx3cf43 : String := "java/lang/constant/ConstantDesc"
def TJx3cf43 : u_T := fun k => match k with
  | _ => ("", "", "", false)
def tyJx3cf43 : Nat → FieldType := fun k => match k with
  | _ => .int
abbrev wsJx3cf430 : List Cond := u_ws RJx3cf43 TJx3cf43 0
theorem nmJx3cf43 : ∀ a, a < 0 → ∀ b, b < 0 → a ≠ b → (TJx3cf43 a).2.1 ≠ (TJx3cf43 b).2.1 := by decide +kernel
theorem tyJx3cf43_ok : ∀ k, k < 0 → parseFieldDescriptor (TJx3cf43 k).2.2.1 = some (tyJx3cf43 k) := by decide +kernel
def RJ7 : String := "java/util/Arrays"
def TJ7 : u_T := fun k => match k with
  | _ => ("", "", "", false)
def tyJ7 : Nat → FieldType := fun k => match k with
  | _ => .int
abbrev wsJ70 : List Cond := u_ws RJ7 TJ7 0
theorem nmJ7 : ∀ a, a < 0 → ∀ b, b < 0 → a ≠ b → (TJ7 a).2.1 ≠ (TJ7 b).2.1 := by decide +kernel
theorem tyJ7_ok : ∀ k, k < 0 → parseFieldDescriptor (TJ7 k).2.2.1 = some (tyJ7 k) := by decide +kernel
abbrev cJ7_fill_53178 : ByteArray := prog_19_method_103_code
def yJ7_fill_53178 : MethodName := ⟨RJ7, "fill", "([II)V"⟩
def RJ3 : String := "jdk/internal/util/Preconditions"
def TJ3 : u_T := fun k => match k with
  | _ => ("", "", "", false)
def tyJ3 : Nat → FieldType := fun k => match k with
  | _ => .int
abbrev wsJ30 : List Cond := u_ws RJ3 TJ3 0
theorem nmJ3 : ∀ a, a < 0 → ∀ b, b < 0 → a ≠ b → (TJ3 a).2.1 ≠ (TJ3 b).2.1 := by decide +kernel
theorem tyJ3_ok : ∀ k, k < 0 → parseFieldDescriptor (TJ3 k).2.2.1 = some (tyJ3 k) := by decide +kernel
abbrev cJ3_checkIndex_8e157 : ByteArray := prog_20_method_11_code
def yJ3_checkIndex_8e157 : MethodName := ⟨RJ3, "checkIndex", "(IILjava/util/function/BiFunction;)I"⟩
def RL : String := "PressAndWaitLaw"
abbrev cL_law : ByteArray := code
def yL_law : MethodName := ⟨RL, "law", "([I)Z"⟩
def wsL_law_r1 : List Cond := [Cond.classLink RL 7 RX9, Cond.instantiable RX9 16, Cond.initialized RX9, Cond.classLink RL 10 RX10, Cond.instantiable RX10 122, Cond.initialized RX10, Cond.methodLink RL 9 yX9_init, Cond.instanceMethod yX9_init, Cond.code yX9_init cX9_init 1 none, Cond.methodLink RX9 1 objectInit, Cond.instanceMethod objectInit, Cond.code objectInit ⟨#[0xb1]⟩ 1 none, Cond.arrayClass .int, Cond.fieldLink RX9 9 "PressAndWait" "tape" "[I", Cond.fieldLink RX9 13 "PressAndWait" "tapeSize" "I", Cond.classLink RX9 17 RX4, Cond.instantiable RX4 18, Cond.initialized RX4, Cond.fieldLink RX9 20 "PressAndWait" "plan" "LPressAndWait$Plan;", Cond.fieldLink RX9 24 "PressAndWait" "spare" "LPressAndWait$Plan;", Cond.classLink RX9 27 RX6, Cond.instantiable RX6 4, Cond.initialized RX6, Cond.fieldLink RX9 30 "PressAndWait" "now" "LPressAndWait$State;"]
def wsL_law_r2 : List Cond := [Cond.classLink RX9 34 RX2, Cond.instantiable RX2 3, Cond.initialized RX2, Cond.fieldLink RX9 37 "PressAndWait" "history" "LPressAndWait$History;", Cond.classLink RX9 41 RX3, Cond.instantiable RX3 2, Cond.initialized RX3, Cond.fieldLink RX9 44 "PressAndWait" "machine" "LPressAndWait$Machine;", Cond.classLink RX9 48 RX5, Cond.instantiable RX5 9, Cond.initialized RX5, Cond.fieldLink RX9 53 "PressAndWait" "reader" "LPressAndWait$Reader;", Cond.classLink RX9 57 RX7, Cond.instantiable RX7 17, Cond.initialized RX7, Cond.fieldLink RX9 62 "PressAndWait" "street" "LPressAndWait$Street;", Cond.classLink RX9 66 RX1, Cond.instantiable RX1 3, Cond.initialized RX1, Cond.fieldLink RX9 71 "PressAndWait" "choice" "LPressAndWait$Choice;", Cond.classLink RX9 75 RX0, Cond.instantiable RX0 5, Cond.initialized RX0, Cond.fieldLink RX9 78 "PressAndWait" "ahead" "LPressAndWait$Ahead;"]
def wsL_law_r3 : List Cond := [Cond.classLink RX9 82 RX8, Cond.instantiable RX8 11, Cond.initialized RX8, Cond.fieldLink RX9 85 "PressAndWait" "watch" "LPressAndWait$Watch;", Cond.fieldLink RX9 89 "PressAndWait" "octets" "[I", Cond.fieldLink RX9 92 "PressAndWait" "octetCount" "I", Cond.fieldLink RX9 95 "PressAndWait" "refusals" "[I", Cond.fieldLink RX9 98 "PressAndWait" "drawn" "J", Cond.instanceMethod yX4_init, Cond.code yX4_init cX4_init 1 none, Cond.methodLink RX4 3 objectInit, Cond.fieldLink RX4 9 "PressAndWait$Plan" "calm" "[I", Cond.fieldLink RX4 15 "PressAndWait$Plan" "pace" "[I", Cond.fieldLink RX4 18 "PressAndWait$Plan" "trusts" "[I", Cond.fieldLink RX4 21 "PressAndWait$Plan" "kindOf" "[I", Cond.fieldLink RX4 24 "PressAndWait$Plan" "comesAt" "[I", Cond.fieldLink RX4 27 "PressAndWait$Plan" "comers" "[I", Cond.fieldLink RX4 30 "PressAndWait$Plan" "names" "[I", Cond.fieldLink RX4 33 "PressAndWait$Plan" "code" "[I", Cond.fieldLink RX4 36 "PressAndWait$Plan" "spans" "[I", Cond.instanceMethod yX6_init, Cond.code yX6_init cX6_init 1 none, Cond.methodLink RX6 3 objectInit, Cond.fieldLink RX6 9 "PressAndWait$State" "day" "I"]
def wsL_law_r4 : List Cond := [Cond.fieldLink RX6 15 "PressAndWait$State" "rule" "I", Cond.fieldLink RX6 18 "PressAndWait$State" "green" "I", Cond.fieldLink RX6 21 "PressAndWait$State" "trusts" "[I", Cond.methodLink RX9 36 yX2_init, Cond.instanceMethod yX2_init, Cond.code yX2_init cX2_init 2 none, Cond.methodLink RX2 3 objectInit, Cond.classLink RX2 9 RX6, Cond.fieldLink RX2 11 "PressAndWait$History" "ring" "[LPressAndWait$State;", Cond.fieldLink RX2 17 "PressAndWait$History" "next" "I", Cond.fieldLink RX2 21 "PressAndWait$History" "count" "I", Cond.instanceMethod yX3_init, Cond.code yX3_init cX3_init 1 none, Cond.methodLink RX3 3 objectInit, Cond.fieldLink RX3 9 "PressAndWait$Machine" "facts" "[I", Cond.fieldLink RX3 15 "PressAndWait$Machine" "stack" "[I", Cond.methodLink RX9 50 yX5_init, Cond.instanceMethod yX5_init, Cond.code yX5_init cX5_init 3 none, Cond.methodLink RX5 5 objectInit, Cond.fieldLink RX5 11 "PressAndWait$Reader" "length" "I", Cond.fieldLink RX5 15 "PressAndWait$Reader" "at" "I", Cond.fieldLink RX5 18 "PressAndWait$Reader" "behind" "I", Cond.fieldLink RX5 21 "PressAndWait$Reader" "sort" "I"]
def wsL_law_r5 : List Cond := [Cond.fieldLink RX5 24 "PressAndWait$Reader" "allowed" "I", Cond.fieldLink RX5 27 "PressAndWait$Reader" "fault" "I", Cond.fieldLink RX5 30 "PressAndWait$Reader" "place" "I", Cond.fieldLink RX5 33 "PressAndWait$Reader" "text" "[I", Cond.fieldLink RX5 37 "PressAndWait$Reader" "plan" "LPressAndWait$Plan;", Cond.methodLink RX9 59 yX7_init, Cond.instanceMethod yX7_init, Cond.code yX7_init cX7_init 3 none, Cond.methodLink RX7 3 objectInit, Cond.fieldLink RX7 9 "PressAndWait$Street" "day" "I", Cond.fieldLink RX7 15 "PressAndWait$Street" "trusts" "[I", Cond.fieldLink RX7 19 "PressAndWait$Street" "rule" "I", Cond.fieldLink RX7 22 "PressAndWait$Street" "green" "I", Cond.fieldLink RX7 25 "PressAndWait$Street" "absent" "I", Cond.fieldLink RX7 28 "PressAndWait$Street" "asksReds" "Z", Cond.fieldLink RX7 32 "PressAndWait$Street" "cars" "[I", Cond.fieldLink RX7 35 "PressAndWait$Street" "gaps" "[I", Cond.fieldLink RX7 38 "PressAndWait$Street" "known" "[I", Cond.fieldLink RX7 41 "PressAndWait$Street" "left" "[I", Cond.fieldLink RX7 44 "PressAndWait$Street" "leaves" "[I", Cond.fieldLink RX7 47 "PressAndWait$Street" "pressed" "I", Cond.fieldLink RX7 50 "PressAndWait$Street" "crossed" "I", Cond.fieldLink RX7 53 "PressAndWait$Street" "went" "I", Cond.fieldLink RX7 56 "PressAndWait$Street" "harmed" "I"]
def wsL_law_r6 : List Cond := [Cond.fieldLink RX7 59 "PressAndWait$Street" "machine" "LPressAndWait$Machine;", Cond.fieldLink RX7 63 "PressAndWait$Street" "plan" "LPressAndWait$Plan;", Cond.methodLink RX9 68 yX1_init, Cond.instanceMethod yX1_init, Cond.code yX1_init cX1_init 2 none, Cond.methodLink RX1 3 objectInit, Cond.fieldLink RX1 11 "PressAndWait$Choice" "table" "[I", Cond.fieldLink RX1 15 "PressAndWait$Choice" "tableKnown" "Z", Cond.fieldLink RX1 19 "PressAndWait$Choice" "street" "LPressAndWait$Street;", Cond.methodLink RX9 77 yX0_init, Cond.instanceMethod yX0_init, Cond.code yX0_init cX0_init 2 none, Cond.methodLink RX0 3 objectInit, Cond.classLink RX0 9 RX6, Cond.fieldLink RX0 12 "PressAndWait$Ahead" "state" "LPressAndWait$State;", Cond.fieldLink RX0 18 "PressAndWait$Ahead" "told" "[I", Cond.fieldLink RX0 22 "PressAndWait$Ahead" "trusts" "[I", Cond.fieldLink RX0 25 "PressAndWait$Ahead" "known" "I", Cond.fieldLink RX0 29 "PressAndWait$Ahead" "street" "LPressAndWait$Street;", Cond.methodLink RX9 84 yX8_init, Cond.instanceMethod yX8_init, Cond.code yX8_init cX8_init 2 none, Cond.methodLink RX8 3 objectInit, Cond.fieldLink RX8 9 "PressAndWait$Watch" "seenWalker" "[I"]
def wsL_law_r7 : List Cond := [Cond.fieldLink RX8 15 "PressAndWait$Watch" "seenSecond" "[I", Cond.fieldLink RX8 18 "PressAndWait$Watch" "rows" "I", Cond.fieldLink RX8 22 "PressAndWait$Watch" "compared" "Z", Cond.fieldLink RX8 26 "PressAndWait$Watch" "seconds" "[I", Cond.fieldLink RX8 29 "PressAndWait$Watch" "found" "I", Cond.fieldLink RX8 32 "PressAndWait$Watch" "foundRules" "I", Cond.fieldLink RX8 35 "PressAndWait$Watch" "foundGreen" "I", Cond.fieldLink RX8 38 "PressAndWait$Watch" "chosen" "I", Cond.fieldLink RX8 41 "PressAndWait$Watch" "chosenLeft" "I", Cond.fieldLink RX8 44 "PressAndWait$Watch" "street" "LPressAndWait$Street;", Cond.methodLink RL 12 yX10_init, Cond.instanceMethod yX10_init, Cond.code yX10_init cX10_init 1 none, Cond.methodLink RX10 1 objectInit, Cond.fieldLink RX10 7 "PressAndWaitModel" "tape" "[I", Cond.fieldLink RX10 13 "PressAndWaitModel" "faultPlace" "I", Cond.fieldLink RX10 17 "PressAndWaitModel" "refused" "[I", Cond.arrayClass .char, Cond.fieldLink RX10 20 "PressAndWaitModel" "cycleWord" "[C", Cond.fieldLink RX10 24 "PressAndWaitModel" "greenWord" "[C", Cond.fieldLink RX10 27 "PressAndWaitModel" "ruleWord" "[C", Cond.fieldLink RX10 30 "PressAndWaitModel" "leastWord" "[C", Cond.fieldLink RX10 33 "PressAndWaitModel" "kindWord" "[C", Cond.fieldLink RX10 36 "PressAndWaitModel" "calmWord" "[C"]
def wsL_law_r8 : List Cond := [Cond.fieldLink RX10 39 "PressAndWaitModel" "paceWord" "[C", Cond.fieldLink RX10 42 "PressAndWaitModel" "trustsWord" "[C", Cond.fieldLink RX10 45 "PressAndWaitModel" "comesWord" "[C", Cond.fieldLink RX10 48 "PressAndWaitModel" "isWord" "[C", Cond.fieldLink RX10 51 "PressAndWaitModel" "atWord" "[C", Cond.fieldLink RX10 54 "PressAndWaitModel" "carWord" "[C", Cond.fieldLink RX10 57 "PressAndWaitModel" "redWord" "[C", Cond.fieldLink RX10 60 "PressAndWaitModel" "learnsWord" "[C", Cond.fieldLink RX10 63 "PressAndWaitModel" "awayWord" "[C", Cond.fieldLink RX10 66 "PressAndWaitModel" "secondWord" "[C", Cond.fieldLink RX10 69 "PressAndWaitModel" "dayWord" "[C", Cond.fieldLink RX10 72 "PressAndWaitModel" "phaseWord" "[C", Cond.fieldLink RX10 75 "PressAndWaitModel" "waitedWord" "[C", Cond.fieldLink RX10 78 "PressAndWaitModel" "gapWord" "[C", Cond.fieldLink RX10 81 "PressAndWaitModel" "redsWord" "[C", Cond.fieldLink RX10 84 "PressAndWaitModel" "numberWord" "[C", Cond.fieldLink RX10 87 "PressAndWaitModel" "wentWord" "[C", Cond.fieldLink RX10 90 "PressAndWaitModel" "harmWord" "[C", Cond.fieldLink RX10 93 "PressAndWaitModel" "orWord" "[C", Cond.fieldLink RX10 96 "PressAndWaitModel" "andWord" "[C", Cond.fieldLink RX10 99 "PressAndWaitModel" "notWord" "[C", Cond.fieldLink RX10 102 "PressAndWaitModel" "allWord" "[C", Cond.fieldLink RX10 105 "PressAndWaitModel" "minWord" "[C", Cond.fieldLink RX10 108 "PressAndWaitModel" "maxWord" "[C"]
def wsL_law_r9 : List Cond := [Cond.fieldLink RX10 111 "PressAndWaitModel" "many" "[I", Cond.arrayClass .long, Cond.fieldLink RX10 114 "PressAndWaitModel" "names" "[J", Cond.fieldLink RX10 118 "PressAndWaitModel" "bar" "[I", Cond.fieldLink RX10 121 "PressAndWaitModel" "kinds" "[I", Cond.fieldLink RX10 124 "PressAndWaitModel" "trusted" "[I", Cond.fieldLink RX10 127 "PressAndWaitModel" "walkers" "[I", Cond.fieldLink RX10 130 "PressAndWaitModel" "codeFrom" "[I", Cond.fieldLink RX10 133 "PressAndWaitModel" "codeEnd" "[I", Cond.fieldLink RX10 136 "PressAndWaitModel" "codes" "[I", Cond.fieldLink RX10 139 "PressAndWaitModel" "now" "[I", Cond.fieldLink RX10 142 "PressAndWaitModel" "aside" "[I", Cond.arrayClass .boolean, Cond.fieldLink RX10 145 "PressAndWaitModel" "isCar" "[Z", Cond.fieldLink RX10 149 "PressAndWaitModel" "gaps" "[I", Cond.fieldLink RX10 152 "PressAndWaitModel" "isGreen" "[Z", Cond.fieldLink RX10 155 "PressAndWaitModel" "isHere" "[Z", Cond.fieldLink RX10 158 "PressAndWaitModel" "crosses" "[I", Cond.fieldLink RX10 161 "PressAndWaitModel" "waits" "[I", Cond.fieldLink RX10 164 "PressAndWaitModel" "goes" "[Z", Cond.fieldLink RX10 167 "PressAndWaitModel" "harms" "[Z", Cond.fieldLink RX10 170 "PressAndWaitModel" "presses" "[Z", Cond.fieldLink RX10 173 "PressAndWaitModel" "crossedIn" "[Z", Cond.fieldLink RX10 176 "PressAndWaitModel" "rows" "[I"]
def wsL_law_r10 : List Cond := [Cond.fieldLink RX10 179 "PressAndWaitModel" "when" "[I", Cond.fieldLink RX10 182 "PressAndWaitModel" "kept0" "[I", Cond.fieldLink RX10 185 "PressAndWaitModel" "seeded" "J", Cond.fieldLink RX10 189 "PressAndWaitModel" "firstAsked" "[C", Cond.fieldLink RX10 192 "PressAndWaitModel" "lastAsked" "[C", Cond.fieldLink RX10 195 "PressAndWaitModel" "oftenAsked" "[C", Cond.fieldLink RX10 198 "PressAndWaitModel" "totalAsked" "[C", Cond.fieldLink RX10 201 "PressAndWaitModel" "mostAsked" "[C", Cond.fieldLink RX10 204 "PressAndWaitModel" "leastAsked" "[C", Cond.fieldLink RX10 207 "PressAndWaitModel" "notAsked" "[C", Cond.fieldLink RX10 210 "PressAndWaitModel" "andAsked" "[C", Cond.fieldLink RX10 213 "PressAndWaitModel" "orAsked" "[C", Cond.fieldLink RX10 216 "PressAndWaitModel" "allAsked" "[C", Cond.fieldLink RX10 219 "PressAndWaitModel" "minAsked" "[C", Cond.fieldLink RX10 222 "PressAndWaitModel" "maxAsked" "[C", Cond.fieldLink RX10 225 "PressAndWaitModel" "secondAsked" "[C", Cond.fieldLink RX10 228 "PressAndWaitModel" "dayAsked" "[C", Cond.fieldLink RX10 231 "PressAndWaitModel" "phaseAsked" "[C", Cond.fieldLink RX10 234 "PressAndWaitModel" "waitedAsked" "[C", Cond.fieldLink RX10 237 "PressAndWaitModel" "calmAsked" "[C", Cond.fieldLink RX10 240 "PressAndWaitModel" "paceAsked" "[C", Cond.fieldLink RX10 243 "PressAndWaitModel" "trustsAsked" "[C", Cond.fieldLink RX10 246 "PressAndWaitModel" "gapAsked" "[C", Cond.fieldLink RX10 249 "PressAndWaitModel" "redsAsked" "[C"]
def wsL_law_r11 : List Cond := [Cond.fieldLink RX10 252 "PressAndWaitModel" "numberAsked" "[C", Cond.fieldLink RX10 255 "PressAndWaitModel" "wentAsked" "[C", Cond.fieldLink RX10 258 "PressAndWaitModel" "harmAsked" "[C", Cond.fieldLink RX10 261 "PressAndWaitModel" "kindofAsked" "[C", Cond.fieldLink RX10 264 "PressAndWaitModel" "qCodes" "[I", Cond.fieldLink RX10 267 "PressAndWaitModel" "qWait" "[I", Cond.fieldLink RX10 270 "PressAndWaitModel" "qPile" "[J", Cond.fieldLink RX10 273 "PressAndWaitModel" "octet" "[I", Cond.methodLink RL 13 yX9_feed, Cond.instanceMethod yX9_feed, Cond.selects RX9 yX9_feed yX9_feed, Cond.code yX9_feed cX9_feed 6 (some .int), Cond.methodLink RX9 102 yX9_refuse, Cond.instanceMethod yX9_refuse, Cond.selects RX9 yX9_refuse yX9_refuse, Cond.code yX9_refuse cX9_refuse 2 (some .int), Cond.methodLink RX9 106 yX9_putBytes, Cond.instanceMethod yX9_putBytes, Cond.selects RX9 yX9_putBytes yX9_putBytes, Cond.code yX9_putBytes cX9_putBytes 3 none, Cond.methodLink RL 17 yX10_feed, Cond.instanceMethod yX10_feed, Cond.selects RX10 yX10_feed yX10_feed, Cond.code yX10_feed cX10_feed 8 (some .int)]
def wsL_law_r12 : List Cond := [Cond.fieldLink RX10 276 "PressAndWaitModel" "taped" "I", Cond.methodLink RL 18 yX9_end, Cond.instanceMethod yX9_end, Cond.selects RX9 yX9_end yX9_end, Cond.code yX9_end cX9_end 2 (some .boolean), Cond.methodLink RX9 110 yX9_deny, Cond.instanceMethod yX9_deny, Cond.selects RX9 yX9_deny yX9_deny, Cond.code yX9_deny cX9_deny 2 (some .boolean), Cond.methodLink RL 22 yX10_end, Cond.instanceMethod yX10_end, Cond.selects RX10 yX10_end yX10_end, Cond.code yX10_end cX10_end 2 (some .boolean), Cond.methodLink RL 23 yX9_crossing, Cond.instanceMethod yX9_crossing, Cond.selects RX9 yX9_crossing yX9_crossing, Cond.code yX9_crossing cX9_crossing 2 (some .int), Cond.fieldLink RX9 122 "PressAndWait$Reader" "fault" "I", Cond.fieldLink RX9 139 "PressAndWait$Plan" "statements" "I", Cond.methodLink RX9 114 yX9_takeTape, Cond.instanceMethod yX9_takeTape, Cond.selects RX9 yX9_takeTape yX9_takeTape, Cond.code yX9_takeTape cX9_takeTape 2 (some .int), Cond.methodLink RX9 118 yX5_readCrossing]
def wsL_law_r13 : List Cond := [Cond.instanceMethod yX5_readCrossing, Cond.selects RX5 yX5_readCrossing yX5_readCrossing, Cond.code yX5_readCrossing cX5_readCrossing 4 none, Cond.fieldLink RX5 74 "PressAndWait$Plan" "away" "I", Cond.fieldLink RX5 81 "PressAndWait$Plan" "statements" "I", Cond.methodLink RX5 41 yX5_begin, Cond.instanceMethod yX5_begin, Cond.selects RX5 yX5_begin yX5_begin, Cond.code yX5_begin cX5_begin 3 none, Cond.methodLink RX5 99 Lib.Math.min.name, Cond.static Lib.Math.min.name, Cond.initialized "java/lang/Math", Cond.code Lib.Math.min.name Lib.Math.min.code 2 (some .int), Cond.methodLink RX5 96 yX4_clear, Cond.instanceMethod yX4_clear, Cond.selects RX4 yX4_clear yX4_clear, Cond.code yX4_clear cX4_clear 1 none, Cond.fieldLink RX4 39 "PressAndWait$Plan" "cycle" "I", Cond.fieldLink RX4 43 "PressAndWait$Plan" "away" "I", Cond.fieldLink RX4 46 "PressAndWait$Plan" "statements" "I", Cond.fieldLink RX4 49 "PressAndWait$Plan" "kinds" "I", Cond.fieldLink RX4 52 "PressAndWait$Plan" "walkers" "I", Cond.fieldLink RX4 55 "PressAndWait$Plan" "size" "I", Cond.methodLink RX4 58 yJ7_fill_53178]
def wsL_law_r14 : List Cond := [Cond.static yJ7_fill_53178, Cond.initialized RJ7, Cond.code yJ7_fill_53178 cJ7_fill_53178 4 none, Cond.methodLink RX5 86 yX5_moveTo, Cond.instanceMethod yX5_moveTo, Cond.selects RX5 yX5_moveTo yX5_moveTo, Cond.code yX5_moveTo cX5_moveTo 3 none, Cond.methodLink RX5 252 yX5_sortOf, Cond.instanceMethod yX5_sortOf, Cond.selects RX5 yX5_sortOf yX5_sortOf, Cond.code yX5_sortOf cX5_sortOf 2 (some .int), Cond.methodLink RX5 45 yX5_firstStatement, Cond.instanceMethod yX5_firstStatement, Cond.selects RX5 yX5_firstStatement yX5_firstStatement, Cond.code yX5_firstStatement cX5_firstStatement 1 none, Cond.fieldLink RX5 107 "PressAndWait$Plan" "cycle" "I", Cond.fieldLink RX5 111 "PressAndWait$Plan" "green" "I", Cond.fieldLink RX5 115 "PressAndWait$Plan" "rule" "I", Cond.fieldLink RX5 119 "PressAndWait$Plan" "least" "I", Cond.methodLink RX5 70 yX5_numberBehind, Cond.instanceMethod yX5_numberBehind, Cond.selects RX5 yX5_numberBehind yX5_numberBehind, Cond.code yX5_numberBehind cX5_numberBehind 4 (some .int), Cond.methodLink RX5 144 yX5_needWord]
def wsL_law_r15 : List Cond := [Cond.instanceMethod yX5_needWord, Cond.selects RX5 yX5_needWord yX5_needWord, Cond.code yX5_needWord cX5_needWord 2 none, Cond.methodLink RX5 54 yX5_wordIn, Cond.instanceMethod yX5_wordIn, Cond.selects RX5 yX5_wordIn yX5_wordIn, Cond.code yX5_wordIn cX5_wordIn 6 (some .int), Cond.methodLink RX5 244 yJ0_length_8abf5, Cond.instanceMethod yJ0_length_8abf5, Cond.selects RJ0 yJ0_length_8abf5 yJ0_length_8abf5, Cond.initialized RJ0, Cond.code yJ0_length_8abf5 cJ0_length_8abf5 1 (some .int), Cond.fieldLink RJ0 9 "java/lang/String" "value" "[B", Cond.methodLink RJ0 335 yJ0_coder_7d493, Cond.instanceMethod yJ0_coder_7d493, Cond.selects RJ0 yJ0_coder_7d493 yJ0_coder_7d493, Cond.code yJ0_coder_7d493 cJ0_coder_7d493 1 (some .byte), Cond.fieldLink RJ0 38 "java/lang/String" "COMPACT_STRINGS" "Z", Cond.fieldLink RJ0 15 "java/lang/String" "coder" "B", Cond.methodLink RX5 248 yJ0_charAt_5068e, Cond.instanceMethod yJ0_charAt_5068e, Cond.selects RJ0 yJ0_charAt_5068e yJ0_charAt_5068e, Cond.code yJ0_charAt_5068e cJ0_charAt_5068e 2 (some .char), Cond.methodLink RJ0 492 yJ0_isLatin1_aae02]
def wsL_law_r16 : List Cond := [Cond.instanceMethod yJ0_isLatin1_aae02, Cond.selects RJ0 yJ0_isLatin1_aae02 yJ0_isLatin1_aae02, Cond.code yJ0_isLatin1_aae02 cJ0_isLatin1_aae02 1 (some .boolean), Cond.methodLink RJ0 495 yJ1_charAt_3b067, Cond.static yJ1_charAt_3b067, Cond.initialized RJ1, Cond.code yJ1_charAt_3b067 cJ1_charAt_3b067 2 (some .char), Cond.methodLink RJ1 9 yJ0_checkIndex_df160, Cond.static yJ0_checkIndex_df160, Cond.code yJ0_checkIndex_df160 cJ0_checkIndex_df160 2 none, Cond.fieldLink RJ0 1053 "jdk/internal/util/Preconditions" "SIOOBE_FORMATTER" "Ljava/util/function/BiFunction;", Cond.methodLink RJ0 1059 yJ3_checkIndex_8e157, Cond.static yJ3_checkIndex_8e157, Cond.initialized RJ3, Cond.code yJ3_checkIndex_8e157 cJ3_checkIndex_8e157 3 (some .int), Cond.methodLink RJ0 498 yJ2_charAt_3b067, Cond.static yJ2_charAt_3b067, Cond.initialized RJ2, Cond.code yJ2_charAt_3b067 cJ2_charAt_3b067 2 (some .char), Cond.methodLink RJ2 67 yJ2_checkIndex_2214a, Cond.static yJ2_checkIndex_2214a, Cond.code yJ2_checkIndex_2214a cJ2_checkIndex_2214a 2 none, Cond.methodLink RJ2 48 yJ2_length_9d52b, Cond.static yJ2_length_9d52b]
def wsL_law_r17 : List Cond := [Cond.code yJ2_length_9d52b cJ2_length_9d52b 1 (some .int), Cond.methodLink RJ2 414 yJ0_checkIndex_df160, Cond.methodLink RJ2 71 yJ2_getChar_3b067, Cond.static yJ2_getChar_3b067, Cond.code yJ2_getChar_3b067 cJ2_getChar_3b067 2 (some .char), Cond.fieldLink RJ2 44 "java/lang/StringUTF16" "$assertionsDisabled" "Z", Cond.fieldLink RJ2 59 "java/lang/StringUTF16" "HI_BYTE_SHIFT" "I", Cond.fieldLink RJ2 63 "java/lang/StringUTF16" "LO_BYTE_SHIFT" "I", Cond.methodLink RX5 78 yX5_fail, Cond.instanceMethod yX5_fail, Cond.selects RX5 yX5_fail yX5_fail, Cond.code yX5_fail cX5_fail 3 none, Cond.methodLink RX5 168 yX5_number, Cond.instanceMethod yX5_number, Cond.selects RX5 yX5_number yX5_number, Cond.code yX5_number cX5_number 5 (some .int), Cond.methodLink RX5 48 yX5_need, Cond.instanceMethod yX5_need, Cond.selects RX5 yX5_need yX5_need, Cond.code yX5_need cX5_need 2 none, Cond.methodLink RX5 213 yX5_sees, Cond.instanceMethod yX5_sees, Cond.selects RX5 yX5_sees yX5_sees, Cond.code yX5_sees cX5_sees 2 (some .boolean)]
def wsL_law_r18 : List Cond := [Cond.methodLink RX5 58 yX5_kindStatement, Cond.instanceMethod yX5_kindStatement, Cond.selects RX5 yX5_kindStatement yX5_kindStatement, Cond.code yX5_kindStatement cX5_kindStatement 2 none, Cond.fieldLink RX5 121 "PressAndWait$Plan" "kinds" "I", Cond.fieldLink RX5 127 "PressAndWait$Plan" "calm" "[I", Cond.fieldLink RX5 131 "PressAndWait$Plan" "pace" "[I", Cond.fieldLink RX5 135 "PressAndWait$Plan" "trusts" "[I", Cond.methodLink RX5 124 yX5_newName, Cond.instanceMethod yX5_newName, Cond.selects RX5 yX5_newName yX5_newName, Cond.code yX5_newName cX5_newName 3 none, Cond.fieldLink RX5 139 "PressAndWait$Plan" "walkers" "I", Cond.fieldLink RX5 181 "PressAndWait$Plan" "names" "[I", Cond.methodLink RX5 171 yX5_isName, Cond.instanceMethod yX5_isName, Cond.selects RX5 yX5_isName yX5_isName, Cond.code yX5_isName cX5_isName 1 (some .boolean), Cond.methodLink RX5 175 yX5_wrongInName, Cond.instanceMethod yX5_wrongInName, Cond.selects RX5 yX5_wrongInName yX5_wrongInName, Cond.code yX5_wrongInName cX5_wrongInName 1 (some .int), Cond.methodLink RX5 178 yX5_slotOf, Cond.instanceMethod yX5_slotOf]
def wsL_law_r19 : List Cond := [Cond.selects RX5 yX5_slotOf yX5_slotOf, Cond.code yX5_slotOf cX5_slotOf 5 (some .int), Cond.methodLink RX5 184 yX5_nameLetter, Cond.instanceMethod yX5_nameLetter, Cond.selects RX5 yX5_nameLetter yX5_nameLetter, Cond.code yX5_nameLetter cX5_nameLetter 2 (some .int), Cond.methodLink RX5 61 yX5_comesStatement, Cond.instanceMethod yX5_comesStatement, Cond.selects RX5 yX5_comesStatement yX5_comesStatement, Cond.code yX5_comesStatement cX5_comesStatement 3 none, Cond.fieldLink RX5 148 "PressAndWait$Plan" "kindOf" "[I", Cond.fieldLink RX5 156 "PressAndWait$Plan" "comesAt" "[I", Cond.fieldLink RX5 159 "PressAndWait$Plan" "comers" "[I", Cond.methodLink RX5 151 yX5_knownKind, Cond.instanceMethod yX5_knownKind, Cond.selects RX5 yX5_knownKind yX5_knownKind, Cond.code yX5_knownKind cX5_knownKind 2 (some .int), Cond.methodLink RX5 64 yX5_codeStatement, Cond.instanceMethod yX5_codeStatement, Cond.selects RX5 yX5_codeStatement yX5_codeStatement, Cond.code yX5_codeStatement cX5_codeStatement 3 none, Cond.fieldLink RX5 162 "PressAndWait$Plan" "spans" "[I", Cond.fieldLink RX5 165 "PressAndWait$Plan" "size" "I", Cond.methodLink RX5 93 yX5_sum]
def wsL_law_r20 : List Cond := [Cond.instanceMethod yX5_sum, Cond.selects RX5 yX5_sum yX5_sum, Cond.code yX5_sum cX5_sum 4 none, Cond.methodLink RX5 222 yX5_product, Cond.instanceMethod yX5_product, Cond.selects RX5 yX5_product yX5_product, Cond.methodLink RX5 199 yX5_emit, Cond.instanceMethod yX5_emit, Cond.selects RX5 yX5_emit yX5_emit, Cond.code yX5_emit cX5_emit 2 none, Cond.fieldLink RX5 241 "PressAndWait$Plan" "code" "[I", Cond.code yX5_pair cX5_pair 3 none, Cond.methodLink RX5 209 yX5_enters, Cond.instanceMethod yX5_enters, Cond.selects RX5 yX5_enters yX5_enters, Cond.code yX5_enters cX5_enters 2 (some .boolean), Cond.code yX5_part cX5_part 2 none, Cond.methodLink RX5 195 yX5_takeWord, Cond.instanceMethod yX5_takeWord, Cond.selects RX5 yX5_takeWord yX5_takeWord, Cond.code yX5_takeWord cX5_takeWord 3 (some .boolean), Cond.methodLink RX5 229 yX5_pair, Cond.instanceMethod yX5_pair, Cond.selects RX5 yX5_pair yX5_pair]
def wsL_law_r21 : List Cond := [Cond.methodLink RX5 225 yX5_part, Cond.instanceMethod yX5_part, Cond.selects RX5 yX5_part yX5_part, Cond.methodLink RX5 236 yX5_partWord, Cond.instanceMethod yX5_partWord, Cond.selects RX5 yX5_partWord yX5_partWord, Cond.code yX5_partWord cX5_partWord 2 none, Cond.code yX5_product cX5_product 4 none, Cond.methodLink RX5 90 yX5_test, Cond.instanceMethod yX5_test, Cond.selects RX5 yX5_test yX5_test, Cond.code yX5_test cX5_test 3 none, Cond.methodLink RX5 190 yX5_both, Cond.instanceMethod yX5_both, Cond.selects RX5 yX5_both yX5_both, Cond.code yX5_both cX5_both 3 none, Cond.methodLink RX5 202 yX5_fact, Cond.instanceMethod yX5_fact, Cond.selects RX5 yX5_fact yX5_fact, Cond.code yX5_fact cX5_fact 3 none, Cond.methodLink RX5 219 yX5_signHere, Cond.instanceMethod yX5_signHere, Cond.selects RX5 yX5_signHere yX5_signHere, Cond.code yX5_signHere cX5_signHere 1 (some .int)]
def wsL_law_r22 : List Cond := [Cond.methodLink RX9 125 yX6_begin, Cond.instanceMethod yX6_begin, Cond.selects RX6 yX6_begin yX6_begin, Cond.code yX6_begin cX6_begin 2 none, Cond.fieldLink RX6 25 "PressAndWait$Plan" "rule" "I", Cond.fieldLink RX6 28 "PressAndWait$Plan" "green" "I", Cond.fieldLink RX6 29 "PressAndWait$Plan" "trusts" "[I", Cond.methodLink RX6 30 arraycopyName, Cond.native arraycopyName, Cond.static arraycopyName, Cond.initialized "java/lang/System", Cond.methodLink RX9 129 yX2_clear, Cond.instanceMethod yX2_clear, Cond.selects RX2 yX2_clear yX2_clear, Cond.code yX2_clear cX2_clear 1 none, Cond.methodLink RX9 132 yX8_clear, Cond.instanceMethod yX8_clear, Cond.selects RX8 yX8_clear yX8_clear, Cond.code yX8_clear cX8_clear 1 none, Cond.methodLink RX9 133 yX7_take, Cond.instanceMethod yX7_take, Cond.selects RX7 yX7_take yX7_take, Cond.code yX7_take cX7_take 2 none, Cond.methodLink RX7 67 yX4_uses]
def wsL_law_r23 : List Cond := [Cond.instanceMethod yX4_uses, Cond.selects RX4 yX4_uses yX4_uses, Cond.code yX4_uses cX4_uses 4 (some .boolean), Cond.methodLink RX9 136 yX9_changed, Cond.instanceMethod yX9_changed, Cond.selects RX9 yX9_changed yX9_changed, Cond.code yX9_changed cX9_changed 1 none, Cond.methodLink RX9 333 yX1_forget, Cond.instanceMethod yX1_forget, Cond.selects RX1 yX1_forget yX1_forget, Cond.code yX1_forget cX1_forget 1 none, Cond.methodLink RX9 336 yX0_forget, Cond.instanceMethod yX0_forget, Cond.selects RX0 yX0_forget yX0_forget, Cond.code yX0_forget cX0_forget 1 none, Cond.methodLink RX9 337 yX8_forget, Cond.instanceMethod yX8_forget, Cond.selects RX8 yX8_forget yX8_forget, Cond.code yX8_forget cX8_forget 1 none, Cond.methodLink RL 27 yX10_crossing, Cond.instanceMethod yX10_crossing, Cond.selects RX10 yX10_crossing yX10_crossing, Cond.code yX10_crossing cX10_crossing 2 (some .int), Cond.fieldLink RX10 288 "PressAndWaitModel" "end" "I"]
def wsL_law_r24 : List Cond := [Cond.fieldLink RX10 285 "PressAndWaitModel" "at" "I", Cond.fieldLink RX10 299 "PressAndWaitModel" "ended" "I", Cond.fieldLink RX10 279 "PressAndWaitModel" "bad" "I", Cond.fieldLink RX10 282 "PressAndWaitModel" "badPlace" "I", Cond.fieldLink RX10 387 "PressAndWaitModel" "coded" "I", Cond.fieldLink RX10 402 "PressAndWaitModel" "awayTold" "I", Cond.fieldLink RX10 390 "PressAndWaitModel" "statements" "I", Cond.fieldLink RX10 411 "PressAndWaitModel" "fault" "I", Cond.methodLink RX10 405 yX10_barTold, Cond.instanceMethod yX10_barTold, Cond.selects RX10 yX10_barTold yX10_barTold, Cond.code yX10_barTold cX10_barTold 1 none, Cond.methodLink RX10 350 yX10_asks, Cond.instanceMethod yX10_asks, Cond.selects RX10 yX10_asks yX10_asks, Cond.code yX10_asks cX10_asks 2 none, Cond.methodLink RX10 305 yX10_takes, Cond.instanceMethod yX10_takes, Cond.selects RX10 yX10_takes yX10_takes, Cond.code yX10_takes cX10_takes 2 (some .boolean), Cond.methodLink RX10 302 yX10_isHere, Cond.instanceMethod yX10_isHere, Cond.selects RX10 yX10_isHere yX10_isHere, Cond.code yX10_isHere cX10_isHere 4 (some .boolean)]
def wsL_law_r25 : List Cond := [Cond.methodLink RX10 291 yX10_look, Cond.instanceMethod yX10_look, Cond.selects RX10 yX10_look yX10_look, Cond.code yX10_look cX10_look 1 (some .int), Cond.methodLink RX10 295 yX10_isLetter, Cond.static yX10_isLetter, Cond.code yX10_isLetter cX10_isLetter 1 (some .boolean), Cond.methodLink RX10 308 yX10_fail, Cond.instanceMethod yX10_fail, Cond.selects RX10 yX10_fail yX10_fail, Cond.code yX10_fail cX10_fail 3 none, Cond.methodLink RX10 354 yX10_number, Cond.instanceMethod yX10_number, Cond.selects RX10 yX10_number yX10_number, Cond.code yX10_number cX10_number 5 (some .int), Cond.methodLink RX10 315 yX10_isDigit, Cond.static yX10_isDigit, Cond.code yX10_isDigit cX10_isDigit 1 (some .boolean), Cond.methodLink RX10 318 yX10_isIn, Cond.static yX10_isIn, Cond.code yX10_isIn cX10_isIn 6 (some .boolean), Cond.methodLink RX10 358 yX10_asksSign, Cond.instanceMethod yX10_asksSign, Cond.selects RX10 yX10_asksSign yX10_asksSign]
def wsL_law_r26 : List Cond := [Cond.code yX10_asksSign cX10_asksSign 2 none, Cond.methodLink RX10 312 yX10_takesSign, Cond.instanceMethod yX10_takesSign, Cond.selects RX10 yX10_takesSign yX10_takesSign, Cond.code yX10_takesSign cX10_takesSign 2 (some .boolean), Cond.methodLink RX10 408 yX10_statementTold, Cond.instanceMethod yX10_statementTold, Cond.selects RX10 yX10_statementTold yX10_statementTold, Cond.code yX10_statementTold cX10_statementTold 2 none, Cond.methodLink RX10 393 yX10_kindTold, Cond.instanceMethod yX10_kindTold, Cond.selects RX10 yX10_kindTold yX10_kindTold, Cond.code yX10_kindTold cX10_kindTold 8 none, Cond.methodLink RX10 362 yX10_isFull, Cond.instanceMethod yX10_isFull, Cond.selects RX10 yX10_isFull yX10_isFull, Cond.code yX10_isFull cX10_isFull 4 (some .boolean), Cond.methodLink RX10 366 yX10_newName, Cond.instanceMethod yX10_newName, Cond.selects RX10 yX10_newName yX10_newName, Cond.code yX10_newName cX10_newName 4 (some .long), Cond.fieldLink RX10 326 "PressAndWaitModel" "namePlace" "I", Cond.methodLink RX10 342 yX10_name, Cond.instanceMethod yX10_name]
def wsL_law_r27 : List Cond := [Cond.selects RX10 yX10_name yX10_name, Cond.code yX10_name cX10_name 3 (some .long), Cond.constantLong RX10 329 (27), Cond.constantLong RX10 331 (97), Cond.methodLink RX10 322 yX10_isOwnHere, Cond.instanceMethod yX10_isOwnHere, Cond.selects RX10 yX10_isOwnHere yX10_isOwnHere, Cond.code yX10_isOwnHere cX10_isOwnHere 2 (some .boolean), Cond.methodLink RX10 346 yX10_nameOf, Cond.instanceMethod yX10_nameOf, Cond.selects RX10 yX10_nameOf yX10_nameOf, Cond.code yX10_nameOf cX10_nameOf 5 (some .int), Cond.methodLink RX10 396 yX10_walkerTold, Cond.instanceMethod yX10_walkerTold, Cond.selects RX10 yX10_walkerTold yX10_walkerTold, Cond.code yX10_walkerTold cX10_walkerTold 8 none, Cond.methodLink RX10 399 yX10_codesTold, Cond.instanceMethod yX10_codesTold, Cond.selects RX10 yX10_codesTold yX10_codesTold, Cond.code yX10_codesTold cX10_codesTold 4 none, Cond.fieldLink RX10 333 "PressAndWaitModel" "textKind" "I", Cond.fieldLink RX10 369 "PressAndWaitModel" "qCoded" "I", Cond.fieldLink RX10 372 "PressAndWaitModel" "qWaits" "I", Cond.fieldLink RX10 375 "PressAndWaitModel" "qOpened" "I"]
def wsL_law_r28 : List Cond := [Cond.fieldLink RX10 378 "PressAndWaitModel" "qBase" "I", Cond.methodLink RX10 381 yX10_qSums, Cond.instanceMethod yX10_qSums, Cond.selects RX10 yX10_qSums yX10_qSums, Cond.code yX10_qSums cX10_qSums 3 none, Cond.methodLink RX10 644 yX10_qPartTold, Cond.instanceMethod yX10_qPartTold, Cond.selects RX10 yX10_qPartTold yX10_qPartTold, Cond.code yX10_qPartTold cX10_qPartTold 6 none, Cond.methodLink RX10 623 yX10_qWordOf, Cond.instanceMethod yX10_qWordOf, Cond.selects RX10 yX10_qWordOf yX10_qWordOf, Cond.code yX10_qWordOf cX10_qWordOf 4 (some .int), Cond.methodLink RX10 617 yX10_qWordHere, Cond.instanceMethod yX10_qWordHere, Cond.selects RX10 yX10_qWordHere yX10_qWordHere, Cond.code yX10_qWordHere cX10_qWordHere 1 (some .int), Cond.methodLink RX10 620 yX10_isAllowed, Cond.instanceMethod yX10_isAllowed, Cond.selects RX10 yX10_isAllowed yX10_isAllowed, Cond.code yX10_isAllowed cX10_isAllowed 2 (some .boolean), Cond.constantLong RX10 336 (3), Cond.constantLong RX10 338 (8), Cond.constantLong RX10 340 (6)]
def wsL_law_r29 : List Cond := [Cond.methodLink RX10 626 yX10_qOpens, Cond.instanceMethod yX10_qOpens, Cond.selects RX10 yX10_qOpens yX10_qOpens, Cond.code yX10_qOpens cX10_qOpens 3 none, Cond.methodLink RX10 629 yX10_qAsksWord, Cond.instanceMethod yX10_qAsksWord, Cond.selects RX10 yX10_qAsksWord yX10_qAsksWord, Cond.code yX10_qAsksWord cX10_qAsksWord 2 none, Cond.methodLink RX10 608 yX10_qCode, Cond.instanceMethod yX10_qCode, Cond.selects RX10 yX10_qCode yX10_qCode, Cond.code yX10_qCode cX10_qCode 2 none, Cond.methodLink RX10 632 yX10_qEndsPart, Cond.instanceMethod yX10_qEndsPart, Cond.selects RX10 yX10_qEndsPart yX10_qEndsPart, Cond.code yX10_qEndsPart cX10_qEndsPart 1 none, Cond.methodLink RX10 614 yX10_qDrops, Cond.instanceMethod yX10_qDrops, Cond.selects RX10 yX10_qDrops yX10_qDrops, Cond.code yX10_qDrops cX10_qDrops 1 none, Cond.methodLink RX10 647 yX10_qGoesOn, Cond.instanceMethod yX10_qGoesOn, Cond.selects RX10 yX10_qGoesOn yX10_qGoesOn, Cond.code yX10_qGoesOn cX10_qGoesOn 2 (some .boolean)]
def wsL_law_r30 : List Cond := [Cond.methodLink RX10 635 yX10_qBracket, Cond.instanceMethod yX10_qBracket, Cond.selects RX10 yX10_qBracket yX10_qBracket, Cond.code yX10_qBracket cX10_qBracket 2 (some .int), Cond.methodLink RX10 611 yX10_qIsBracket, Cond.static yX10_qIsBracket, Cond.code yX10_qIsBracket cX10_qIsBracket 1 (some .boolean), Cond.methodLink RX10 638 yX10_qDropsToBracket, Cond.instanceMethod yX10_qDropsToBracket, Cond.selects RX10 yX10_qDropsToBracket yX10_qDropsToBracket, Cond.code yX10_qDropsToBracket cX10_qDropsToBracket 1 none, Cond.methodLink RX10 641 yX10_qIsOn, Cond.instanceMethod yX10_qIsOn, Cond.selects RX10 yX10_qIsOn yX10_qIsOn, Cond.code yX10_qIsOn cX10_qIsOn 2 (some .boolean), Cond.methodLink RX10 384 yX10_qTest, Cond.instanceMethod yX10_qTest, Cond.selects RX10 yX10_qTest yX10_qTest, Cond.code yX10_qTest cX10_qTest 3 none, Cond.methodLink RX10 650 yX10_qFact, Cond.instanceMethod yX10_qFact, Cond.selects RX10 yX10_qFact yX10_qFact, Cond.code yX10_qFact cX10_qFact 2 none, Cond.methodLink RX10 653 yX10_qDropsNots]
def wsL_law_r31 : List Cond := [Cond.instanceMethod yX10_qDropsNots, Cond.selects RX10 yX10_qDropsNots yX10_qDropsNots, Cond.code yX10_qDropsNots cX10_qDropsNots 1 none, Cond.methodLink RX10 656 yX10_qGoesOnTest, Cond.instanceMethod yX10_qGoesOnTest, Cond.selects RX10 yX10_qGoesOnTest yX10_qGoesOnTest, Cond.code yX10_qGoesOnTest cX10_qGoesOnTest 1 (some .boolean), Cond.methodLink RX10 659 yX10_qHasSquare, Cond.instanceMethod yX10_qHasSquare, Cond.selects RX10 yX10_qHasSquare yX10_qHasSquare, Cond.code yX10_qHasSquare cX10_qHasSquare 2 (some .boolean), Cond.methodLink RX10 414 yX10_stands, Cond.instanceMethod yX10_stands, Cond.selects RX10 yX10_stands yX10_stands, Cond.code yX10_stands cX10_stands 2 none, Cond.fieldLink RX10 417 "PressAndWaitModel" "isCrossing" "Z", Cond.fieldLink RX10 421 "PressAndWaitModel" "away" "I", Cond.fieldLink RX10 424 "PressAndWaitModel" "undoable" "I", Cond.fieldLink RX10 427 "PressAndWaitModel" "rowMany" "I", Cond.methodLink RL 28 yX9_fault, Cond.instanceMethod yX9_fault, Cond.selects RX9 yX9_fault yX9_fault, Cond.code yX9_fault cX9_fault 2 (some .int), Cond.fieldLink RX9 142 "PressAndWait$Reader" "place" "I"]
def wsL_law_r32 : List Cond := [Cond.methodLink RL 32 yX10_fault, Cond.instanceMethod yX10_fault, Cond.selects RX10 yX10_fault yX10_fault, Cond.code yX10_fault cX10_fault 2 (some .int), Cond.methodLink RL 33 yX9_has, Cond.instanceMethod yX9_has, Cond.selects RX9 yX9_has yX9_has, Cond.code yX9_has cX9_has 2 (some .int), Cond.fieldLink RX9 145 "PressAndWait$Plan" "cycle" "I", Cond.fieldLink RX9 148 "PressAndWait$Plan" "kinds" "I", Cond.fieldLink RX9 151 "PressAndWait$Plan" "walkers" "I", Cond.fieldLink RX9 154 "PressAndWait$State" "day" "I", Cond.fieldLink RX9 157 "PressAndWait$State" "rule" "I", Cond.fieldLink RX9 160 "PressAndWait$State" "green" "I", Cond.fieldLink RX9 163 "PressAndWait$Watch" "rows" "I", Cond.fieldLink RX9 166 "PressAndWait$History" "count" "I", Cond.methodLink RL 36 yX10_has, Cond.instanceMethod yX10_has, Cond.selects RX10 yX10_has yX10_has, Cond.code yX10_has cX10_has 2 (some .int), Cond.methodLink RX10 430 yX10_kindMany, Cond.instanceMethod yX10_kindMany, Cond.selects RX10 yX10_kindMany yX10_kindMany, Cond.code yX10_kindMany cX10_kindMany 1 (some .int)]
def wsL_law_r33 : List Cond := [Cond.methodLink RX10 433 yX10_walkerMany, Cond.instanceMethod yX10_walkerMany, Cond.selects RX10 yX10_walkerMany yX10_walkerMany, Cond.code yX10_walkerMany cX10_walkerMany 1 (some .int), Cond.methodLink RL 37 yX9_letter, Cond.instanceMethod yX9_letter, Cond.selects RX9 yX9_letter yX9_letter, Cond.code yX9_letter cX9_letter 6 (some .int), Cond.fieldLink RX9 175 "PressAndWait$Plan" "names" "[I", Cond.methodLink RX9 169 yX9_isKind, Cond.instanceMethod yX9_isKind, Cond.selects RX9 yX9_isKind yX9_isKind, Cond.code yX9_isKind cX9_isKind 2 (some .boolean), Cond.methodLink RX9 172 yX9_isWalker, Cond.instanceMethod yX9_isWalker, Cond.selects RX9 yX9_isWalker yX9_isWalker, Cond.code yX9_isWalker cX9_isWalker 2 (some .boolean), Cond.methodLink RL 41 yX10_letter, Cond.instanceMethod yX10_letter, Cond.selects RX10 yX10_letter yX10_letter, Cond.code yX10_letter cX10_letter 9 (some .int), Cond.constantLong RX10 526 (5), Cond.methodLink RL 42 yX9_kind, Cond.instanceMethod yX9_kind]
def wsL_law_r34 : List Cond := [Cond.selects RX9 yX9_kind yX9_kind, Cond.code yX9_kind cX9_kind 3 (some .int), Cond.fieldLink RX9 178 "PressAndWait$Plan" "calm" "[I", Cond.fieldLink RX9 181 "PressAndWait$Plan" "pace" "[I", Cond.fieldLink RX9 184 "PressAndWait$State" "trusts" "[I", Cond.methodLink RX9 187 yX4_walkersOf, Cond.instanceMethod yX4_walkersOf, Cond.selects RX4 yX4_walkersOf yX4_walkersOf, Cond.code yX4_walkersOf cX4_walkersOf 4 (some .int), Cond.methodLink RL 46 yX10_kind, Cond.instanceMethod yX10_kind, Cond.selects RX10 yX10_kind yX10_kind, Cond.code yX10_kind cX10_kind 5 (some .int), Cond.methodLink RX10 528 yX10_isKind, Cond.instanceMethod yX10_isKind, Cond.selects RX10 yX10_isKind yX10_isKind, Cond.code yX10_isKind cX10_isKind 2 (some .boolean), Cond.methodLink RX10 436 yX10_kindOf, Cond.instanceMethod yX10_kindOf, Cond.selects RX10 yX10_kindOf yX10_kindOf, Cond.code yX10_kindOf cX10_kindOf 2 (some .int), Cond.methodLink RX10 463 yX10_trustsOf, Cond.instanceMethod yX10_trustsOf, Cond.selects RX10 yX10_trustsOf yX10_trustsOf]
def wsL_law_r35 : List Cond := [Cond.code yX10_trustsOf cX10_trustsOf 2 (some .int), Cond.methodLink RL 47 yX9_walker, Cond.instanceMethod yX9_walker, Cond.selects RX9 yX9_walker yX9_walker, Cond.code yX9_walker cX9_walker 3 (some .int), Cond.fieldLink RX9 193 "PressAndWait$Plan" "kindOf" "[I", Cond.fieldLink RX9 196 "PressAndWait$Plan" "comesAt" "[I", Cond.fieldLink RX9 199 "PressAndWait$Street" "leaves" "[I", Cond.fieldLink RX9 205 "PressAndWait$Street" "went" "I", Cond.fieldLink RX9 212 "PressAndWait$Street" "harmed" "I", Cond.fieldLink RX9 215 "PressAndWait$Street" "pressed" "I", Cond.methodLink RX9 190 yX9_layToday, Cond.instanceMethod yX9_layToday, Cond.selects RX9 yX9_layToday yX9_layToday, Cond.code yX9_layToday cX9_layToday 1 none, Cond.methodLink RX9 301 yX7_lay, Cond.instanceMethod yX7_lay, Cond.selects RX7 yX7_lay yX7_lay, Cond.code yX7_lay cX7_lay 5 none, Cond.fieldLink RX7 73 "PressAndWait$Plan" "cycle" "I", Cond.methodLink RX7 76 yX7_prepare, Cond.instanceMethod yX7_prepare, Cond.selects RX7 yX7_prepare yX7_prepare, Cond.code yX7_prepare cX7_prepare 5 none]
def wsL_law_r36 : List Cond := [Cond.fieldLink RX7 86 "PressAndWait$State" "day" "I", Cond.fieldLink RX7 89 "PressAndWait$Plan" "kinds" "I", Cond.fieldLink RX7 92 "PressAndWait$State" "trusts" "[I", Cond.methodLink RX7 93 yX7_drive, Cond.instanceMethod yX7_drive, Cond.selects RX7 yX7_drive yX7_drive, Cond.code yX7_drive cX7_drive 4 none, Cond.fieldLink RX7 102 "PressAndWait$Machine" "facts" "[I", Cond.fieldLink RX7 107 "PressAndWait$Plan" "code" "[I", Cond.fieldLink RX7 110 "PressAndWait$Plan" "spans" "[I", Cond.methodLink RX7 117 Lib.Math.min.name, Cond.methodLink RX7 113 yX3_value, Cond.instanceMethod yX3_value, Cond.selects RX3 yX3_value yX3_value, Cond.code yX3_value cX3_value 7 (some .int), Cond.methodLink RX3 18 yX3_operate, Cond.static yX3_operate, Cond.code yX3_operate cX3_operate 3 (some .int), Cond.methodLink RX3 22 yX3_within, Cond.static yX3_within, Cond.code yX3_within cX3_within 2 (some .int), Cond.constantLong RX3 32 (1000000), Cond.constant RX3 34 (1000000), Cond.constantLong RX3 35 (-1000000)]
def wsL_law_r37 : List Cond := [Cond.constant RX3 37 (-1000000), Cond.methodLink RX3 26 yJ9_floorDiv_7cf53, Cond.static yJ9_floorDiv_7cf53, Cond.initialized RJ9, Cond.code yJ9_floorDiv_7cf53 cJ9_floorDiv_7cf53 3 (some .int), Cond.methodLink RX7 96 yJ7_fill_53178, Cond.methodLink RX7 80 yX7_shine, Cond.instanceMethod yX7_shine, Cond.selects RX7 yX7_shine yX7_shine, Cond.code yX7_shine cX7_shine 9 none, Cond.fieldLink RX7 131 "PressAndWait$Plan" "least" "I", Cond.methodLink RX7 134 Lib.Math.max.name, Cond.static Lib.Math.max.name, Cond.code Lib.Math.max.name Lib.Math.max.code 2 (some .int), Cond.methodLink RX7 123 yX7_willing, Cond.instanceMethod yX7_willing, Cond.selects RX7 yX7_willing yX7_willing, Cond.code yX7_willing cX7_willing 3 (some .int), Cond.fieldLink RX7 137 "PressAndWait$Plan" "walkers" "I", Cond.fieldLink RX7 140 "PressAndWait$Plan" "kindOf" "[I", Cond.methodLink RX7 127 yX4_comersIn, Cond.instanceMethod yX4_comersIn, Cond.selects RX4 yX4_comersIn yX4_comersIn, Cond.code yX4_comersIn cX4_comersIn 2 (some .int)]
def wsL_law_r38 : List Cond := [Cond.methodLink RX7 83 yX7_walk, Cond.instanceMethod yX7_walk, Cond.selects RX7 yX7_walk yX7_walk, Cond.code yX7_walk cX7_walk 9 none, Cond.fieldLink RX7 146 "PressAndWait$Plan" "pace" "[I", Cond.methodLink RX7 143 yX4_everyone, Cond.instanceMethod yX4_everyone, Cond.selects RX4 yX4_everyone yX4_everyone, Cond.code yX4_everyone cX4_everyone 1 (some .int), Cond.methodLink RX7 149 yX7_goes, Cond.instanceMethod yX7_goes, Cond.selects RX7 yX7_goes yX7_goes, Cond.code yX7_goes cX7_goes 8 (some .boolean), Cond.fieldLink RX7 153 "PressAndWait$Plan" "comesAt" "[I", Cond.methodLink RX7 156 yX7_describe, Cond.instanceMethod yX7_describe, Cond.selects RX7 yX7_describe yX7_describe, Cond.code yX7_describe cX7_describe 7 none, Cond.fieldLink RX7 160 "PressAndWait$Plan" "calm" "[I", Cond.methodLink RX9 202 yX7_waitedBy, Cond.instanceMethod yX7_waitedBy, Cond.selects RX7 yX7_waitedBy yX7_waitedBy, Cond.code yX7_waitedBy cX7_waitedBy 2 (some .int), Cond.methodLink RX9 208 yX9_bit]
def wsL_law_r39 : List Cond := [Cond.static yX9_bit, Cond.code yX9_bit cX9_bit 2 (some .int), Cond.methodLink RL 50 yX10_walker, Cond.instanceMethod yX10_walker, Cond.selects RX10 yX10_walker yX10_walker, Cond.code yX10_walker cX10_walker 3 (some .int), Cond.methodLink RX10 531 yX10_isWalker, Cond.instanceMethod yX10_isWalker, Cond.selects RX10 yX10_isWalker yX10_isWalker, Cond.code yX10_isWalker cX10_isWalker 2 (some .boolean), Cond.methodLink RX10 534 yX10_dayNow, Cond.instanceMethod yX10_dayNow, Cond.selects RX10 yX10_dayNow yX10_dayNow, Cond.code yX10_dayNow cX10_dayNow 1 none, Cond.methodLink RX10 501 yX10_laysCars, Cond.instanceMethod yX10_laysCars, Cond.selects RX10 yX10_laysCars yX10_laysCars, Cond.code yX10_laysCars cX10_laysCars 2 none, Cond.fieldLink RX10 454 "PressAndWaitModel" "askSecond" "I", Cond.methodLink RX10 457 yX10_codesTell, Cond.instanceMethod yX10_codesTell, Cond.selects RX10 yX10_codesTell yX10_codesTell, Cond.code yX10_codesTell cX10_codesTell 5 (some .long), Cond.fieldLink RX10 440 "PressAndWaitModel" "qPiled" "I"]
def wsL_law_r40 : List Cond := [Cond.methodLink RX10 443 yX10_qPuts, Cond.instanceMethod yX10_qPuts, Cond.selects RX10 yX10_qPuts yX10_qPuts, Cond.code yX10_qPuts cX10_qPuts 3 none, Cond.methodLink RX10 447 yX10_qPartOf, Cond.instanceMethod yX10_qPartOf, Cond.selects RX10 yX10_qPartOf yX10_qPartOf, Cond.code yX10_qPartOf cX10_qPartOf 3 (some .long), Cond.fieldLink RX10 488 "PressAndWaitModel" "redMany" "I", Cond.methodLink RX10 481 yX10_paceOf, Cond.instanceMethod yX10_paceOf, Cond.selects RX10 yX10_paceOf yX10_paceOf, Cond.code yX10_paceOf cX10_paceOf 2 (some .int), Cond.methodLink RX10 451 yX10_qJoins, Cond.instanceMethod yX10_qJoins, Cond.selects RX10 yX10_qJoins yX10_qJoins, Cond.code yX10_qJoins cX10_qJoins 6 none, Cond.methodLink RX10 666 yX10_qClip, Cond.static yX10_qClip, Cond.code yX10_qClip cX10_qClip 2 (some .long), Cond.constantLong RX10 662 (1000000), Cond.constantLong RX10 664 (-1000000), Cond.methodLink RX10 670 yX10_qFloor, Cond.static yX10_qFloor]
def wsL_law_r41 : List Cond := [Cond.code yX10_qFloor cX10_qFloor 6 (some .long), Cond.methodLink RX10 504 yX10_dayBy, Cond.instanceMethod yX10_dayBy, Cond.selects RX10 yX10_dayBy yX10_dayBy, Cond.code yX10_dayBy cX10_dayBy 7 none, Cond.fieldLink RX10 466 "PressAndWaitModel" "isOpen" "Z", Cond.fieldLink RX10 478 "PressAndWaitModel" "lastGreen" "I", Cond.fieldLink RX10 475 "PressAndWaitModel" "greenTo" "I", Cond.fieldLink RX10 472 "PressAndWaitModel" "isCycleGreen" "Z", Cond.methodLink RX10 491 yX10_arrive, Cond.instanceMethod yX10_arrive, Cond.selects RX10 yX10_arrive yX10_arrive, Cond.code yX10_arrive cX10_arrive 4 none, Cond.methodLink RX10 460 yX10_secondOf, Cond.instanceMethod yX10_secondOf, Cond.selects RX10 yX10_secondOf yX10_secondOf, Cond.code yX10_secondOf cX10_secondOf 2 (some .int), Cond.methodLink RX10 494 yX10_isLit, Cond.instanceMethod yX10_isLit, Cond.selects RX10 yX10_isLit yX10_isLit, Cond.code yX10_isLit cX10_isLit 5 (some .boolean), Cond.fieldLink RX10 469 "PressAndWaitModel" "stillGreen" "I", Cond.methodLink RX10 497 yX10_acts, Cond.instanceMethod yX10_acts]
def wsL_law_r42 : List Cond := [Cond.selects RX10 yX10_acts yX10_acts, Cond.code yX10_acts cX10_acts 4 none, Cond.methodLink RX10 484 yX10_isHarmed, Cond.instanceMethod yX10_isHarmed, Cond.selects RX10 yX10_isHarmed yX10_isHarmed, Cond.code yX10_isHarmed cX10_isHarmed 3 (some .boolean), Cond.methodLink RL 51 yX9_light, Cond.instanceMethod yX9_light, Cond.selects RX9 yX9_light yX9_light, Cond.code yX9_light cX9_light 2 (some .int), Cond.fieldLink RX9 222 "PressAndWait$Street" "left" "[I", Cond.methodLink RX9 218 yX9_stands, Cond.instanceMethod yX9_stands, Cond.selects RX9 yX9_stands yX9_stands, Cond.code yX9_stands cX9_stands 1 (some .boolean), Cond.methodLink RL 54 yX10_light, Cond.instanceMethod yX10_light, Cond.selects RX10 yX10_light yX10_light, Cond.code yX10_light cX10_light 2 (some .int), Cond.constantLong RX10 537 (299), Cond.methodLink RL 55 yX9_car, Cond.instanceMethod yX9_car, Cond.selects RX9 yX9_car yX9_car, Cond.code yX9_car cX9_car 2 (some .int)]
def wsL_law_r43 : List Cond := [Cond.fieldLink RX9 225 "PressAndWait$Street" "cars" "[I", Cond.methodLink RL 58 yX10_car, Cond.instanceMethod yX10_car, Cond.selects RX10 yX10_car yX10_car, Cond.code yX10_car cX10_car 2 (some .int), Cond.constantLong RX10 539 (319), Cond.methodLink RL 59 yX9_day, Cond.instanceMethod yX9_day, Cond.selects RX9 yX9_day yX9_day, Cond.code yX9_day cX9_day 2 (some .int), Cond.methodLink RX9 228 yX7_told, Cond.instanceMethod yX7_told, Cond.selects RX7 yX7_told yX7_told, Cond.code yX7_told cX7_told 2 (some .int), Cond.methodLink RX7 166 yX7_waitedByAll, Cond.instanceMethod yX7_waitedByAll, Cond.selects RX7 yX7_waitedByAll yX7_waitedByAll, Cond.code yX7_waitedByAll cX7_waitedByAll 3 (some .int), Cond.methodLink RX7 163 yX7_waitedBy, Cond.methodLink RX7 169 yJ6_bitCount_0f7a4, Cond.static yJ6_bitCount_0f7a4, Cond.initialized RJ6, Cond.code yJ6_bitCount_0f7a4 cJ6_bitCount_0f7a4 1 (some .int), Cond.constant RJ6 265 (1431655765)]
def wsL_law_r44 : List Cond := [Cond.constant RJ6 266 (858993459), Cond.constant RJ6 267 (252645135), Cond.methodLink RX7 174 yX7_greensForNobody, Cond.instanceMethod yX7_greensForNobody, Cond.selects RX7 yX7_greensForNobody yX7_greensForNobody, Cond.code yX7_greensForNobody cX7_greensForNobody 5 (some .int), Cond.methodLink RX7 177 yX7_someoneCrosses, Cond.instanceMethod yX7_someoneCrosses, Cond.selects RX7 yX7_someoneCrosses yX7_someoneCrosses, Cond.code yX7_someoneCrosses cX7_someoneCrosses 3 (some .boolean), Cond.methodLink RL 62 yX10_day, Cond.instanceMethod yX10_day, Cond.selects RX10 yX10_day yX10_day, Cond.code yX10_day cX10_day 2 (some .int), Cond.methodLink RX10 541 yX10_toldOfDay, Cond.instanceMethod yX10_toldOfDay, Cond.selects RX10 yX10_toldOfDay yX10_toldOfDay, Cond.code yX10_toldOfDay cX10_toldOfDay 2 (some .int), Cond.methodLink RX10 508 yX10_waitedAll, Cond.instanceMethod yX10_waitedAll, Cond.selects RX10 yX10_waitedAll yX10_waitedAll, Cond.code yX10_waitedAll cX10_waitedAll 3 (some .int), Cond.methodLink RX10 511 yX10_counted, Cond.static yX10_counted]
def wsL_law_r45 : List Cond := [Cond.code yX10_counted cX10_counted 4 (some .int), Cond.methodLink RX10 515 yX10_notCrossed, Cond.instanceMethod yX10_notCrossed, Cond.selects RX10 yX10_notCrossed yX10_notCrossed, Cond.code yX10_notCrossed cX10_notCrossed 3 (some .int), Cond.methodLink RX10 518 yX10_forNobody, Cond.instanceMethod yX10_forNobody, Cond.selects RX10 yX10_forNobody yX10_forNobody, Cond.code yX10_forNobody cX10_forNobody 4 (some .int), Cond.methodLink RL 63 yX9_best, Cond.instanceMethod yX9_best, Cond.selects RX9 yX9_best yX9_best, Cond.code yX9_best cX9_best 3 (some .int), Cond.methodLink RX9 231 yX1_bestOf, Cond.instanceMethod yX1_bestOf, Cond.selects RX1 yX1_bestOf yX1_bestOf, Cond.code yX1_bestOf cX1_bestOf 7 (some .int), Cond.methodLink RX1 23 yJ7_fill_53178, Cond.methodLink RX1 29 yX7_greensUpTo, Cond.instanceMethod yX7_greensUpTo, Cond.selects RX7 yX7_greensUpTo yX7_greensUpTo, Cond.code yX7_greensUpTo cX7_greensUpTo 2 (some .int), Cond.methodLink RX1 35 yX7_lay, Cond.methodLink RX1 39 yX1_enter]
def wsL_law_r46 : List Cond := [Cond.instanceMethod yX1_enter, Cond.selects RX1 yX1_enter yX1_enter, Cond.code yX1_enter cX1_enter 6 none, Cond.methodLink RX1 43 yX7_told, Cond.methodLink RL 66 yX10_best, Cond.instanceMethod yX10_best, Cond.selects RX10 yX10_best yX10_best, Cond.code yX10_best cX10_best 9 (some .int), Cond.constantLong RX10 544 (12), Cond.constantLong RX10 546 (2), Cond.methodLink RX10 548 yX10_isGreenLong, Cond.instanceMethod yX10_isGreenLong, Cond.selects RX10 yX10_isGreenLong yX10_isGreenLong, Cond.code yX10_isGreenLong cX10_isGreenLong 3 (some .boolean), Cond.methodLink RL 67 yX9_least, Cond.instanceMethod yX9_least, Cond.selects RX9 yX9_least yX9_least, Cond.code yX9_least cX9_least 1 (some .int), Cond.methodLink RX9 235 yX1_leastGreen, Cond.instanceMethod yX1_leastGreen, Cond.selects RX1 yX1_leastGreen yX1_leastGreen, Cond.code yX1_leastGreen cX1_leastGreen 4 (some .int), Cond.fieldLink RX1 46 "PressAndWait$State" "rule" "I", Cond.methodLink RX1 52 yX7_allCross]
def wsL_law_r47 : List Cond := [Cond.instanceMethod yX7_allCross, Cond.selects RX7 yX7_allCross yX7_allCross, Cond.code yX7_allCross cX7_allCross 1 (some .boolean), Cond.methodLink RL 70 yX10_least, Cond.instanceMethod yX10_least, Cond.selects RX10 yX10_least yX10_least, Cond.code yX10_least cX10_least 2 (some .int), Cond.methodLink RL 71 yX9_hold, Cond.instanceMethod yX9_hold, Cond.selects RX9 yX9_hold yX9_hold, Cond.code yX9_hold cX9_hold 1 (some .int), Cond.methodLink RX9 239 yX1_holders, Cond.instanceMethod yX1_holders, Cond.selects RX1 yX1_holders yX1_holders, Cond.code yX1_holders cX1_holders 2 (some .int), Cond.methodLink RX1 56 yX7_goersByThemselves, Cond.instanceMethod yX7_goersByThemselves, Cond.selects RX7 yX7_goersByThemselves yX7_goersByThemselves, Cond.code yX7_goersByThemselves cX7_goersByThemselves 5 (some .int), Cond.methodLink RX1 60 yJ6_bitCount_0f7a4, Cond.methodLink RL 74 yX10_hold, Cond.instanceMethod yX10_hold, Cond.selects RX10 yX10_hold yX10_hold, Cond.code yX10_hold cX10_hold 3 (some .int)]
def wsL_law_r48 : List Cond := [Cond.methodLink RX10 551 yX10_bits, Cond.static yX10_bits, Cond.code yX10_bits cX10_bits 3 (some .int), Cond.methodLink RL 75 yX9_later, Cond.instanceMethod yX9_later, Cond.selects RX9 yX9_later yX9_later, Cond.code yX9_later cX9_later 3 (some .int), Cond.fieldLink RX9 246 "PressAndWait$Ahead" "told" "[I", Cond.methodLink RX9 242 yX0_goTo, Cond.instanceMethod yX0_goTo, Cond.selects RX0 yX0_goTo yX0_goTo, Cond.code yX0_goTo cX0_goTo 4 none, Cond.fieldLink RX0 37 "PressAndWait$State" "rule" "I", Cond.fieldLink RX0 40 "PressAndWait$State" "green" "I", Cond.fieldLink RX0 55 "PressAndWait$State" "trusts" "[I", Cond.methodLink RX0 56 arraycopyName, Cond.methodLink RX0 33 yX6_copy, Cond.instanceMethod yX6_copy, Cond.selects RX6 yX6_copy yX6_copy, Cond.code yX6_copy cX6_copy 2 none, Cond.methodLink RX0 43 yX7_lay, Cond.methodLink RX0 49 yX7_told, Cond.methodLink RX0 52 yX7_pass, Cond.instanceMethod yX7_pass]
def wsL_law_r49 : List Cond := [Cond.selects RX7 yX7_pass yX7_pass, Cond.code yX7_pass cX7_pass 6 none, Cond.methodLink RL 78 yX10_later, Cond.instanceMethod yX10_later, Cond.selects RX10 yX10_later yX10_later, Cond.code yX10_later cX10_later 4 (some .int), Cond.methodLink RX10 554 yX10_isAhead, Cond.instanceMethod yX10_isAhead, Cond.selects RX10 yX10_isAhead yX10_isAhead, Cond.code yX10_isAhead cX10_isAhead 4 (some .boolean), Cond.methodLink RX10 557 yX10_putsAside, Cond.instanceMethod yX10_putsAside, Cond.selects RX10 yX10_putsAside yX10_putsAside, Cond.code yX10_putsAside cX10_putsAside 2 none, Cond.methodLink RX10 560 yX10_dayGoes, Cond.instanceMethod yX10_dayGoes, Cond.selects RX10 yX10_dayGoes yX10_dayGoes, Cond.code yX10_dayGoes cX10_dayGoes 3 (some .int), Cond.methodLink RX10 523 yX10_learn, Cond.instanceMethod yX10_learn, Cond.selects RX10 yX10_learn yX10_learn, Cond.code yX10_learn cX10_learn 6 none, Cond.constantLong RX10 521 (9), Cond.methodLink RX10 563 yX10_takesBack]
def wsL_law_r50 : List Cond := [Cond.instanceMethod yX10_takesBack, Cond.selects RX10 yX10_takesBack yX10_takesBack, Cond.code yX10_takesBack cX10_takesBack 2 none, Cond.methodLink RL 79 yX9_doubts, Cond.instanceMethod yX9_doubts, Cond.selects RX9 yX9_doubts yX9_doubts, Cond.code yX9_doubts cX9_doubts 4 (some .int), Cond.methodLink RX9 248 Lib.Math.min.name, Cond.fieldLink RX9 253 "PressAndWait$Ahead" "trusts" "[I", Cond.methodLink RL 82 yX10_doubts, Cond.instanceMethod yX10_doubts, Cond.selects RX10 yX10_doubts yX10_doubts, Cond.code yX10_doubts cX10_doubts 4 (some .int), Cond.methodLink RL 83 yX9_see, Cond.instanceMethod yX9_see, Cond.selects RX9 yX9_see yX9_see, Cond.code yX9_see cX9_see 2 (some .int), Cond.methodLink RX9 254 yX8_accepts, Cond.instanceMethod yX8_accepts, Cond.selects RX8 yX8_accepts yX8_accepts, Cond.code yX8_accepts cX8_accepts 6 (some .boolean), Cond.constant RX8 48 (65535), Cond.methodLink RX9 258 yX8_keep, Cond.instanceMethod yX8_keep]
def wsL_law_r51 : List Cond := [Cond.selects RX8 yX8_keep yX8_keep, Cond.code yX8_keep cX8_keep 5 (some .int), Cond.methodLink RL 86 yX10_see, Cond.instanceMethod yX10_see, Cond.selects RX10 yX10_see yX10_see, Cond.code yX10_see cX10_see 5 (some .int), Cond.constant RX10 566 (65535), Cond.methodLink RX10 567 yX10_refuses, Cond.instanceMethod yX10_refuses, Cond.selects RX10 yX10_refuses yX10_refuses, Cond.code yX10_refuses cX10_refuses 2 (some .int), Cond.methodLink RL 87 yX9_fits, Cond.instanceMethod yX9_fits, Cond.selects RX9 yX9_fits yX9_fits, Cond.code yX9_fits cX9_fits 2 (some .int), Cond.fieldLink RX9 266 "PressAndWait$Watch" "found" "I", Cond.fieldLink RX9 269 "PressAndWait$Watch" "foundRules" "I", Cond.fieldLink RX9 272 "PressAndWait$Watch" "foundGreen" "I", Cond.methodLink RX9 262 yX8_compare, Cond.instanceMethod yX8_compare, Cond.selects RX8 yX8_compare yX8_compare, Cond.code yX8_compare cX8_compare 5 none, Cond.fieldLink RX8 63 "PressAndWait$Street" "leaves" "[I", Cond.methodLink RX8 66 arraycopyName]
def wsL_law_r52 : List Cond := [Cond.methodLink RX8 49 yX7_greensUpTo, Cond.methodLink RX8 55 yX7_lay, Cond.methodLink RX8 59 yX8_isSo, Cond.instanceMethod yX8_isSo, Cond.selects RX8 yX8_isSo yX8_isSo, Cond.code yX8_isSo cX8_isSo 2 (some .boolean), Cond.methodLink RX8 72 yX8_choose, Cond.instanceMethod yX8_choose, Cond.selects RX8 yX8_choose yX8_choose, Cond.code yX8_choose cX8_choose 4 none, Cond.methodLink RX8 75 yX7_walkers, Cond.instanceMethod yX7_walkers, Cond.selects RX7 yX7_walkers yX7_walkers, Cond.code yX7_walkers cX7_walkers 1 (some .int), Cond.methodLink RX8 79 yX8_mostLeft, Cond.instanceMethod yX8_mostLeft, Cond.selects RX8 yX8_mostLeft yX8_mostLeft, Cond.code yX8_mostLeft cX8_mostLeft 6 (some .int), Cond.methodLink RX8 82 Lib.Math.max.name, Cond.methodLink RL 90 yX10_fits, Cond.instanceMethod yX10_fits, Cond.selects RX10 yX10_fits yX10_fits, Cond.code yX10_fits cX10_fits 2 (some .int), Cond.fieldLink RX10 570 "PressAndWaitModel" "fitMany" "I"]
def wsL_law_r53 : List Cond := [Cond.fieldLink RX10 573 "PressAndWaitModel" "fitRules" "I", Cond.fieldLink RX10 576 "PressAndWaitModel" "fitGreen" "I", Cond.methodLink RX10 582 yX10_laysFits, Cond.instanceMethod yX10_laysFits, Cond.selects RX10 yX10_laysFits yX10_laysFits, Cond.code yX10_laysFits cX10_laysFits 4 none, Cond.methodLink RX10 579 yX10_isAsSeen, Cond.instanceMethod yX10_isAsSeen, Cond.selects RX10 yX10_isAsSeen yX10_isAsSeen, Cond.code yX10_isAsSeen cX10_isAsSeen 2 (some .boolean), Cond.methodLink RL 91 yX9_watched, Cond.instanceMethod yX9_watched, Cond.selects RX9 yX9_watched yX9_watched, Cond.code yX9_watched cX9_watched 2 (some .int), Cond.fieldLink RX9 275 "PressAndWait$Watch" "chosen" "I", Cond.fieldLink RX9 278 "PressAndWait$Watch" "chosenLeft" "I", Cond.methodLink RL 94 yX10_watched, Cond.instanceMethod yX10_watched, Cond.selects RX10 yX10_watched yX10_watched, Cond.code yX10_watched cX10_watched 6 (some .int), Cond.methodLink RX10 585 yX10_mostAlike, Cond.instanceMethod yX10_mostAlike, Cond.selects RX10 yX10_mostAlike yX10_mostAlike, Cond.code yX10_mostAlike cX10_mostAlike 6 (some .int)]
def wsL_law_r54 : List Cond := [Cond.methodLink RL 95 yX9_rule, Cond.instanceMethod yX9_rule, Cond.selects RX9 yX9_rule yX9_rule, Cond.code yX9_rule cX9_rule 2 (some .boolean), Cond.methodLink RX9 281 yX9_act, Cond.instanceMethod yX9_act, Cond.selects RX9 yX9_act yX9_act, Cond.code yX9_act cX9_act 1 none, Cond.methodLink RX9 331 yX2_keep, Cond.instanceMethod yX2_keep, Cond.selects RX2 yX2_keep yX2_keep, Cond.code yX2_keep cX2_keep 2 none, Cond.methodLink RX2 29 Lib.Math.min.name, Cond.methodLink RX2 25 yX6_copy, Cond.methodLink RL 98 yX10_rule, Cond.instanceMethod yX10_rule, Cond.selects RX10 yX10_rule yX10_rule, Cond.code yX10_rule cX10_rule 2 (some .boolean), Cond.methodLink RX10 591 yX10_isRefused, Cond.instanceMethod yX10_isRefused, Cond.selects RX10 yX10_isRefused yX10_isRefused, Cond.code yX10_isRefused cX10_isRefused 1 (some .boolean), Cond.methodLink RX10 594 yX10_keeps, Cond.instanceMethod yX10_keeps]
def wsL_law_r55 : List Cond := [Cond.selects RX10 yX10_keeps yX10_keeps, Cond.code yX10_keeps cX10_keeps 2 none, Cond.fieldLink RX10 588 "PressAndWaitModel" "newest" "I", Cond.methodLink RL 99 yX9_green, Cond.instanceMethod yX9_green, Cond.selects RX9 yX9_green yX9_green, Cond.code yX9_green cX9_green 2 (some .boolean), Cond.methodLink RX9 284 yX4_allowsGreen, Cond.instanceMethod yX4_allowsGreen, Cond.selects RX4 yX4_allowsGreen yX4_allowsGreen, Cond.code yX4_allowsGreen cX4_allowsGreen 2 (some .boolean), Cond.methodLink RL 102 yX10_green, Cond.instanceMethod yX10_green, Cond.selects RX10 yX10_green yX10_green, Cond.code yX10_green cX10_green 2 (some .boolean), Cond.methodLink RL 103 yX9_trust, Cond.instanceMethod yX9_trust, Cond.selects RX9 yX9_trust yX9_trust, Cond.code yX9_trust cX9_trust 3 (some .boolean), Cond.methodLink RL 107 yX10_trust, Cond.instanceMethod yX10_trust, Cond.selects RX10 yX10_trust yX10_trust, Cond.code yX10_trust cX10_trust 3 (some .boolean), Cond.methodLink RL 108 yX9_days]
def wsL_law_r56 : List Cond := [Cond.instanceMethod yX9_days, Cond.selects RX9 yX9_days yX9_days, Cond.code yX9_days cX9_days 4 (some .int), Cond.methodLink RX9 287 yX9_canLive, Cond.instanceMethod yX9_canLive, Cond.selects RX9 yX9_canLive yX9_canLive, Cond.code yX9_canLive cX9_canLive 2 (some .boolean), Cond.methodLink RX9 290 yX7_pass, Cond.methodLink RL 111 yX10_days, Cond.instanceMethod yX10_days, Cond.selects RX10 yX10_days yX10_days, Cond.code yX10_days cX10_days 4 (some .int), Cond.methodLink RL 112 yX9_chance, Cond.instanceMethod yX9_chance, Cond.selects RX9 yX9_chance yX9_chance, Cond.code yX9_chance cX9_chance 5 (some .int), Cond.methodLink RX9 293 yX9_drawAbsent, Cond.instanceMethod yX9_drawAbsent, Cond.selects RX9 yX9_drawAbsent yX9_drawAbsent, Cond.code yX9_drawAbsent cX9_drawAbsent 3 (some .int), Cond.constantLong RX9 338 (1103515245), Cond.constantLong RX9 340 (12345), Cond.constantLong RX9 342 (2147483647), Cond.constantLong RX9 344 (64)]
def wsL_law_r57 : List Cond := [Cond.constantLong RX9 346 (100), Cond.fieldLink RX9 348 "PressAndWait$Plan" "away" "I", Cond.methodLink RX9 296 yJ6_bitCount_0f7a4, Cond.methodLink RL 115 yX10_chance, Cond.instanceMethod yX10_chance, Cond.selects RX10 yX10_chance yX10_chance, Cond.code yX10_chance cX10_chance 6 (some .int), Cond.methodLink RX10 605 yX10_drawOf, Cond.instanceMethod yX10_drawOf, Cond.selects RX10 yX10_drawOf yX10_drawOf, Cond.code yX10_drawOf cX10_drawOf 2 (some .int), Cond.constantLong RX10 597 (1103515245), Cond.constantLong RX10 599 (12345), Cond.constantLong RX10 601 (2147483648), Cond.constantLong RX10 603 (64), Cond.methodLink RL 116 yX9_undo, Cond.instanceMethod yX9_undo, Cond.selects RX9 yX9_undo yX9_undo, Cond.code yX9_undo cX9_undo 1 (some .boolean), Cond.methodLink RX9 305 yX2_giveBack, Cond.instanceMethod yX2_giveBack, Cond.selects RX2 yX2_giveBack yX2_giveBack, Cond.code yX2_giveBack cX2_giveBack 2 (some .boolean), Cond.methodLink RL 120 yX10_undo]
def wsL_law_r58 : List Cond := [Cond.instanceMethod yX10_undo, Cond.selects RX10 yX10_undo yX10_undo, Cond.code yX10_undo cX10_undo 2 (some .boolean), Cond.methodLink RL 121 yX9_seed, Cond.instanceMethod yX9_seed, Cond.selects RX9 yX9_seed yX9_seed, Cond.code yX9_seed cX9_seed 2 (some .boolean), Cond.methodLink RL 124 yX10_seed, Cond.instanceMethod yX10_seed, Cond.selects RX10 yX10_seed yX10_seed, Cond.code yX10_seed cX10_seed 2 (some .boolean), Cond.methodLink RL 125 yX9_ask, Cond.instanceMethod yX9_ask, Cond.selects RX9 yX9_ask yX9_ask, Cond.code yX9_ask cX9_ask 3 (some .long), Cond.constantLong RX9 309 (-1000000000000000), Cond.methodLink RX9 311 yX5_readQuestion, Cond.instanceMethod yX5_readQuestion, Cond.selects RX5 yX5_readQuestion yX5_readQuestion, Cond.code yX5_readQuestion cX5_readQuestion 4 (some .int), Cond.methodLink RX9 315 yX9_answer, Cond.instanceMethod yX9_answer, Cond.selects RX9 yX9_answer yX9_answer, Cond.code yX9_answer cX9_answer 14 (some .long)]
def wsL_law_r59 : List Cond := [Cond.constantLong RX9 351 (-1), Cond.fieldLink RX9 356 "PressAndWait$Plan" "code" "[I", Cond.fieldLink RX9 359 "PressAndWait$Plan" "size" "I", Cond.methodLink RX9 353 yX7_describeWhole, Cond.instanceMethod yX7_describeWhole, Cond.selects RX7 yX7_describeWhole yX7_describeWhole, Cond.code yX7_describeWhole cX7_describeWhole 4 none, Cond.methodLink RX9 362 yX3_value, Cond.methodLink RL 129 yX10_ask, Cond.instanceMethod yX10_ask, Cond.selects RX10 yX10_ask yX10_ask, Cond.code yX10_ask cX10_ask 3 (some .long), Cond.constantLong RX10 686 (-1000000000000000), Cond.constantLong RX10 681 (-1), Cond.fieldLink RX10 678 "PressAndWaitModel" "qAnswer" "J", Cond.fieldLink RX10 683 "PressAndWaitModel" "qIsNew" "Z", Cond.methodLink RX10 688 yX10_qKind, Cond.instanceMethod yX10_qKind, Cond.selects RX10 yX10_qKind yX10_qKind, Cond.code yX10_qKind cX10_qKind 2 (some .int), Cond.methodLink RX10 691 yX10_qTold, Cond.instanceMethod yX10_qTold, Cond.selects RX10 yX10_qTold yX10_qTold, Cond.code yX10_qTold cX10_qTold 4 (some .long)]
def wsL_law_r60 : List Cond := [Cond.methodLink RX10 674 yX10_qOf, Cond.instanceMethod yX10_qOf, Cond.selects RX10 yX10_qOf yX10_qOf, Cond.code yX10_qOf cX10_qOf 5 (some .long), Cond.methodLink RX10 695 yX10_qTakes, Cond.instanceMethod yX10_qTakes, Cond.selects RX10 yX10_qTakes yX10_qTakes, Cond.code yX10_qTakes cX10_qTakes 6 none, Cond.methodLink RL 130 yX9_image, Cond.instanceMethod yX9_image, Cond.selects RX9 yX9_image yX9_image, Cond.code yX9_image cX9_image 2 (some .int), Cond.methodLink RX9 319 yX9_check, Cond.static yX9_check, Cond.code yX9_check cX9_check 4 (some .int), Cond.methodLink RL 133 yX10_image, Cond.instanceMethod yX10_image, Cond.selects RX10 yX10_image yX10_image, Cond.code yX10_image cX10_image 2 (some .int), Cond.fieldLink RX10 699 "PressAndWaitModel" "octets" "I", Cond.methodLink RX10 702 yX10_writes, Cond.instanceMethod yX10_writes, Cond.selects RX10 yX10_writes yX10_writes, Cond.code yX10_writes cX10_writes 2 none]
def wsL_law_r61 : List Cond := [Cond.methodLink RX10 705 yX10_checked, Cond.static yX10_checked, Cond.code yX10_checked cX10_checked 4 (some .int), Cond.methodLink RL 134 yX9_octet, Cond.instanceMethod yX9_octet, Cond.selects RX9 yX9_octet yX9_octet, Cond.code yX9_octet cX9_octet 2 (some .int), Cond.methodLink RL 137 yX10_octet, Cond.instanceMethod yX10_octet, Cond.selects RX10 yX10_octet yX10_octet, Cond.code yX10_octet cX10_octet 2 (some .int), Cond.methodLink RL 138 yX9_on, Cond.instanceMethod yX9_on, Cond.selects RX9 yX9_on yX9_on, Cond.code yX9_on cX9_on 2 (some .boolean), Cond.methodLink RX9 325 arraycopyName, Cond.methodLink RX9 322 yX9_isImage, Cond.instanceMethod yX9_isImage, Cond.selects RX9 yX9_isImage yX9_isImage, Cond.code yX9_isImage cX9_isImage 3 (some .boolean), Cond.methodLink RL 141 yX10_on, Cond.instanceMethod yX10_on, Cond.selects RX10 yX10_on yX10_on, Cond.code yX10_on cX10_on 3 (some .boolean)]
def wsL_law_r62 : List Cond := [Cond.methodLink RX10 709 yX10_isImage, Cond.instanceMethod yX10_isImage, Cond.selects RX10 yX10_isImage yX10_isImage, Cond.code yX10_isImage cX10_isImage 3 (some .boolean), Cond.methodLink RL 142 yX9_status, Cond.instanceMethod yX9_status, Cond.selects RX9 yX9_status yX9_status, Cond.code yX9_status cX9_status 2 (some .int), Cond.methodLink RL 145 yX10_status, Cond.instanceMethod yX10_status, Cond.selects RX10 yX10_status yX10_status, Cond.code yX10_status cX10_status 2 (some .int)]
def wsL_law : List Cond := (wsL_law_r1 ++ (wsL_law_r2 ++ (wsL_law_r3 ++ (wsL_law_r4 ++ (wsL_law_r5 ++ (wsL_law_r6 ++ (wsL_law_r7 ++ (wsL_law_r8 ++ (wsL_law_r9 ++ (wsL_law_r10 ++ (wsL_law_r11 ++ (wsL_law_r12 ++ (wsL_law_r13 ++ (wsL_law_r14 ++ (wsL_law_r15 ++ (wsL_law_r16 ++ (wsL_law_r17 ++ (wsL_law_r18 ++ (wsL_law_r19 ++ (wsL_law_r20 ++ (wsL_law_r21 ++ (wsL_law_r22 ++ (wsL_law_r23 ++ (wsL_law_r24 ++ (wsL_law_r25 ++ (wsL_law_r26 ++ (wsL_law_r27 ++ (wsL_law_r28 ++ (wsL_law_r29 ++ (wsL_law_r30 ++ (wsL_law_r31 ++ (wsL_law_r32 ++ (wsL_law_r33 ++ (wsL_law_r34 ++ (wsL_law_r35 ++ (wsL_law_r36 ++ (wsL_law_r37 ++ (wsL_law_r38 ++ (wsL_law_r39 ++ (wsL_law_r40 ++ (wsL_law_r41 ++ (wsL_law_r42 ++ (wsL_law_r43 ++ (wsL_law_r44 ++ (wsL_law_r45 ++ (wsL_law_r46 ++ (wsL_law_r47 ++ (wsL_law_r48 ++ (wsL_law_r49 ++ (wsL_law_r50 ++ (wsL_law_r51 ++ (wsL_law_r52 ++ (wsL_law_r53 ++ (wsL_law_r54 ++ (wsL_law_r55 ++ (wsL_law_r56 ++ (wsL_law_r57 ++ (wsL_law_r58 ++ (wsL_law_r59 ++ (wsL_law_r60 ++ (wsL_law_r61 ++ wsL_law_r62))))))))))))))))))))))))))))))))))))))))))))))))))))))))))))) ++ wsX90 ++ wsX100 ++ wsX40 ++ wsX60 ++ wsX20 ++ wsX30 ++ wsX50 ++ wsX70 ++ wsX10 ++ wsX00 ++ wsX80 ++ ([] : List Cond)
set_option maxRecDepth 20000 in
theorem wsL_law_in : ∀ w ∈ wsL_law, w ∈ lw_tbl := fun w h => (goodIn_p wsL_law [164, 167, 172, 274, 303, 323, 337, 373, 438, 454, 480, 1215, 574, 578, 582, 1590, 586, 590, 1594, 594, 598, 602, 606, 616, 610, 613, 620, 624, 628, 633, 637, 641, 645, 649, 655, 659, 662, 665, 670, 673, 676, 679, 683, 693, 697, 704, 708, 713, 717, 721, 726, 730, 734, 741, 746, 751, 755, 767, 780, 771, 763, 776, 786, 759, 791, 795, 799, 805, 812, 819, 823, 827, 831, 835, 839, 843, 847, 1598, 1602, 1606, 1610, 1614, 1618, 1621, 1625, 1629, 1632, 1635, 1639, 1643, 1647, 1651, 1655, 1659, 1663, 1667, 1673, 1677, 1681, 1685, 1689, 1693, 1697, 1701, 1708, 1712, 1716, 1720, 1724, 1728, 1732, 1735, 1739, 1743, 1747, 1751, 1755, 1759, 1763, 1767, 852, 1771, 856, 1775, 1779, 1783, 860, 864, 868, 1787, 872, 876, 1792, 1796, 1800, 1804, 880, 884, 888, 892, 896, 900, 903, 906, 913, 919, 930, 923, 927, 934, 938, 942, 946, 950, 953, 1808, 1812, 1816, 1820, 1824, 1828, 1832, 1836, 1840, 1843, 1848, 1852, 1856, 1860, 1864, 1868, 1872, 957, 961, 1876, 965, 1881, 969, 973, 977, 981, 988, 992, 1886, 1890, 1894, 1897, 1901, 1905, 996, 1000, 1005, 1010, 1909, 1915, 1015, 1019, 1023, 1919, 1027, 1031, 1035, 1923, 1926, 1040, 1044, 1048, 1054, 1930, 1934, 1938, 1942, 1946, 1951, 1059, 1955, 1064, 1068, 1073, 1959, 1964, 1077, 1081, 1087, 1092, 1096, 1100, 1968, 1972, 1976, 1105, 1980, 1984, 1109, 1113, 1117, 1992, 1996, 2000, 1123, 1127, 2004, 1131, 2008, 1135, 1139, 2012, 1144, 1148, 2020, 2024, 1158, 1162, 1988, 1166, 2016, 1170, 1175, 1180, 1185, 2032, 2037, 2042, 2046, 2050, 1190, 1193, 2054, 2058, 2061, 1197, 2065, 1201, 1205, 2069, 2073, 1210, 2077] (by decide +kernel) (by decide +kernel) w h).1
theorem inlX0 : ∀ w ∈ wsX00, w ∈ wsL_law := fun _ h => List.mem_append_left _ (List.mem_append_left _ (List.mem_append_right _ h))
theorem inlX1 : ∀ w ∈ wsX10, w ∈ wsL_law := fun _ h => List.mem_append_left _ (List.mem_append_left _ (List.mem_append_left _ (List.mem_append_right _ h)))
theorem inlX2 : ∀ w ∈ wsX20, w ∈ wsL_law := fun _ h => List.mem_append_left _ (List.mem_append_left _ (List.mem_append_left _ (List.mem_append_left _ (List.mem_append_left _ (List.mem_append_left _ (List.mem_append_left _ (List.mem_append_right _ h)))))))
theorem inlX3 : ∀ w ∈ wsX30, w ∈ wsL_law := fun _ h => List.mem_append_left _ (List.mem_append_left _ (List.mem_append_left _ (List.mem_append_left _ (List.mem_append_left _ (List.mem_append_left _ (List.mem_append_right _ h))))))
theorem inlX4 : ∀ w ∈ wsX40, w ∈ wsL_law := fun _ h => List.mem_append_left _ (List.mem_append_left _ (List.mem_append_left _ (List.mem_append_left _ (List.mem_append_left _ (List.mem_append_left _ (List.mem_append_left _ (List.mem_append_left _ (List.mem_append_left _ (List.mem_append_right _ h)))))))))
theorem inlX5 : ∀ w ∈ wsX50, w ∈ wsL_law := fun _ h => List.mem_append_left _ (List.mem_append_left _ (List.mem_append_left _ (List.mem_append_left _ (List.mem_append_left _ (List.mem_append_right _ h)))))
theorem inlX6 : ∀ w ∈ wsX60, w ∈ wsL_law := fun _ h => List.mem_append_left _ (List.mem_append_left _ (List.mem_append_left _ (List.mem_append_left _ (List.mem_append_left _ (List.mem_append_left _ (List.mem_append_left _ (List.mem_append_left _ (List.mem_append_right _ h))))))))
theorem inlX7 : ∀ w ∈ wsX70, w ∈ wsL_law := fun _ h => List.mem_append_left _ (List.mem_append_left _ (List.mem_append_left _ (List.mem_append_left _ (List.mem_append_right _ h))))
theorem inlX8 : ∀ w ∈ wsX80, w ∈ wsL_law := fun _ h => List.mem_append_left _ (List.mem_append_right _ h)
theorem inlX9 : ∀ w ∈ wsX90, w ∈ wsL_law := fun _ h => List.mem_append_left _ (List.mem_append_left _ (List.mem_append_left _ (List.mem_append_left _ (List.mem_append_left _ (List.mem_append_left _ (List.mem_append_left _ (List.mem_append_left _ (List.mem_append_left _ (List.mem_append_left _ (List.mem_append_left _ (List.mem_append_right _ h)))))))))))
theorem inlX10 : ∀ w ∈ wsX100, w ∈ wsL_law := fun _ h => List.mem_append_left _ (List.mem_append_left _ (List.mem_append_left _ (List.mem_append_left _ (List.mem_append_left _ (List.mem_append_left _ (List.mem_append_left _ (List.mem_append_left _ (List.mem_append_left _ (List.mem_append_left _ (List.mem_append_right _ h))))))))))
abbrev vwCl : List vw_C := [(RX0, TX0, 5), (RX1, TX1, 3), (RX2, TX2, 3), (RX3, TX3, 2), (RX4, TX4, 18), (RX5, TX5, 9), (RX6, TX6, 4), (RX7, TX7, 17), (RX8, TX8, 11), (RX9, TX9, 16), (RX10, TX10, 122)]
end
section
/-! my own rows over the kit's: one list of words (wsL_law) for every method, one pack of table facts (k_K) for every contract -/
abbrev k_tys (cy : Nat → ClassId) : List (ClassId × FieldType) := [(cy 0, .int), (cy 1, .long), (cy 2, .char), (cy 3, .boolean), (cy 4, .object RX6)]
def k_xw (sq : Nat → Nat) (U : State) : Prop := va_Nw (.methodLinkNest RX9 19 yX4_init RX9) U ∧ va_Nw (.methodLinkNest RX9 29 yX6_init RX9) U ∧ va_Nw (.methodLinkNest RX9 43 yX3_init RX9) U ∧ va_Nw (.methodLinkNest RX0 11 yX6_init RX9) U ∧ va_Nw (.methodLinkNest RX2 24 yX6_init RX9) U ∧ va_AO RX6 U ∧ vk_R RX5 105 "cycle" (sq 0) U ∧ vk_R RX5 109 "green" (sq 1) U ∧ vk_R RX5 113 "rule" (sq 2) U ∧ vk_R RX5 117 "least" (sq 3) U
theorem k_xw.warm {sq : Nat → Nat} {s U : State} (hW : s.WarmedH U.vm) (h : k_xw sq s) : k_xw sq U := by
  obtain ⟨h1, h2, h3, h4, h5, h6, h7, h8, h9, h10⟩ := h
  exact ⟨va_Nw.warmM hW h1, va_Nw.warmM hW h2, va_Nw.warmM hW h3, va_Nw.warmM hW h4, va_Nw.warmM hW h5, va_AO.moved hW.alike h6, vk_R.warm hW h7, vk_R.warm hW h8, vk_R.warm hW h9, vk_R.warm hW h10⟩
theorem k_xw.same {sq : Nat → Nat} {u U : State} (hv : U.vm = u.vm) (h : k_xw sq u) : k_xw sq U := by
  obtain ⟨h1, h2, h3, h4, h5, h6, h7, h8, h9, h10⟩ := h
  exact ⟨va_Nw.same rfl hv.symm h1, va_Nw.same rfl hv.symm h2, va_Nw.same rfl hv.symm h3, va_Nw.same rfl hv.symm h4, va_Nw.same rfl hv.symm h5, va_AO.moved (by rw [hv]; exact Vm.Alike.refl _) h6, vk_R.same hv h7, vk_R.same hv h8, vk_R.same hv h9, vk_R.same hv h10⟩
def k_K (dC : Nat → ClassId) (dI : Nat → Nat → Nat) (cy : Nat → ClassId) (sq : Nat → Nat) (U : State) : Prop := va_K (dC, dI) vwCl (k_tys cy) U ∧ k_xw sq U
theorem k_K.warm {dC : Nat → ClassId} {dI : Nat → Nat → Nat} {cy : Nat → ClassId} {sq : Nat → Nat} {s U : State} (hW : s.WarmedH U.vm) (h : k_K dC dI cy sq s) : k_K dC dI cy sq U := ⟨va_K.moved hW.alike h.1, h.2.warm hW⟩
theorem k_K.calling {dC : Nat → ClassId} {dI : Nat → Nat → Nat} {cy : Nat → ClassId} {sq : Nat → Nat} {U : State} {g : JFrame} {mk : MethodId} {a : Array Value} (h : k_K dC dI cy sq U) : k_K dC dI cy sq (U.calling g mk a) := ⟨va_K.moved (u := U) (U := U.calling g mk a) (Vm.Alike.refl U.vm) h.1, k_xw.same (u := U) (U := U.calling g mk a) rfl h.2⟩
theorem ky_same {D : va_G} {cl : List vw_C} {tys : List (ClassId × FieldType)} {U : State} {c1 c2 : ClassId} {ty : FieldType} (h : va_K D cl tys U) (i j : Nat) (hi : tys[i]? = some (c1, ty)) (hj : tys[j]? = some (c2, ty)) : c2 = c1 := by
  have h1 := (h.2 i _ hi).2
  have h2 := (h.2 j _ hj).2
  cases ty with
  | object C =>
    obtain ⟨_, _, _, _, _, e1⟩ := h1
    obtain ⟨_, _, _, _, _, e2⟩ := h2
    rw [e1] at e2
    exact (Option.some.inj e2).symm
  | _ =>
    exact Option.some.inj (Eq.trans (Eq.symm h2) h1)
/-- what stands fixed while a method is walked -/
def k_cx (p : Program) (s : State) (m : MethodId) (args : Array Value) (c : Code) (cc : ByteArray) (nL : Nat) (own : String) (dC : Nat → ClassId) (dI : Nat → Nat → Nat) (cy : Nat → ClassId) (sq : Nat → Nat) : Prop :=
  p.tables.exec = Jvm.exec ∧ c.code = cc ∧ c.maxLocals = nL ∧ s.vm.findClass own = some m.cls ∧ (∀ w ∈ wsL_law, w.before args s = true) ∧ k_K dC dI cy sq s
abbrev k_Pre (dC : Nat → ClassId) (dI : Nat → Nat → Nat) (cy : Nat → ClassId) (sq : Nat → Nat) (sz : Nat) (ws : va_W) (U : State) : Prop := U.heap.size = sz ∧ va_P (dC, dI) vwCl ws U.heap ∧ k_K dC dI cy sq U ∧ va_D (fun _ => True) ws
abbrev k_B {S : Type} (dC : Nat → ClassId) (dI : Nat → Nat → Nat) (A : Nat → Prop) (B : S → va_W) : S → State → Prop := fun u t => va_P (dC, dI) vwCl (B u) t.heap ∧ va_D A (B u)
/-- a class's facts: number, fields, words, types -/
def k_cl (ci : Nat) (C : String) (T : u_T) (N : Nat) (ty0 : Nat → FieldType) : Prop := vwCl[ci]? = some (C, T, N) ∧ (∀ w ∈ u_ws C T N, w ∈ wsL_law) ∧ (∀ k, k < N → parseFieldDescriptor (T k).2.2.1 = some (ty0 k)) ∧ (∀ a, a < N → ∀ b, b < N → a ≠ b → (T a).2.1 ≠ (T b).2.1)
/-- a field as an instruction names it -/
def k_fl (own : String) (index ci k : Nat) (fin : Bool) (ty : FieldType) : Prop := ∃ (C : String) (T : u_T) (N : Nat) (ty0 : Nat → FieldType), k_cl ci C T N ty0 ∧ k < N ∧ Cond.fieldLink own index (T k).1 (T k).2.1 (T k).2.2.1 ∈ wsL_law ∧ (T k).2.2.2 = fin ∧ parseFieldDescriptor (T k).2.2.1 = some ty ∧ (fin = true → (T k).1 = own)
def k_fg (own : String) (index ci k : Nat) : Prop := ∃ (C : String) (T : u_T) (N : Nat) (ty0 : Nat → FieldType), k_cl ci C T N ty0 ∧ k < N ∧ Cond.fieldLink own index (T k).1 (T k).2.1 (T k).2.2.1 ∈ wsL_law
def k_nw (own : String) (index ci N : Nat) (fs : List Value) : Prop := ∃ (C : String) (T : u_T) (ty0 : Nat → FieldType), k_cl ci C T N ty0 ∧ Cond.classLink own index C ∈ wsL_law ∧ Cond.instantiable C N ∈ wsL_law ∧ Cond.initialized C ∈ wsL_law ∧ (∀ j, j < N → defaultValue (ty0 j) = vp_V fs j)
/-- a method as an instruction names it: virtual; a constructor; static -/
def k_mv (own : String) (index : Nat) (C : String) (y : MethodName) (bytes : ByteArray) (maxL : Nat) (ret : Option FieldType) (n : Nat) : Prop := Cond.methodLink own index y ∈ wsL_law ∧ Cond.instanceMethod y ∈ wsL_law ∧ Cond.selects C y y ∈ wsL_law ∧ Cond.initialized C ∈ wsL_law ∧ Cond.code y bytes maxL ret ∈ wsL_law ∧ (y.cls = C ∧ y.cls ≠ "java/lang/invoke/MethodHandle" ∧ y.cls ≠ "java/lang/invoke/VarHandle" ∧ (parseMethodDescriptor y.desc).map (fun d => d.parameters.length) = some n)
def k_mi (own : String) (index : Nat) (y : MethodName) (bytes : ByteArray) (maxL : Nat) (n : Nat) : Prop := Cond.methodLink own index y ∈ wsL_law ∧ Cond.instanceMethod y ∈ wsL_law ∧ Cond.initialized y.cls ∈ wsL_law ∧ Cond.code y bytes maxL none ∈ wsL_law ∧ y.name = "<init>" ∧ (y.cls ≠ "java/lang/invoke/MethodHandle" ∧ y.cls ≠ "java/lang/invoke/VarHandle" ∧ (parseMethodDescriptor y.desc).map (fun d => d.parameters.length) = some n)
/-- a constructor of a nest mate: the link stands in k_xw -/
def k_mn (y : MethodName) (bytes : ByteArray) (maxL : Nat) (n : Nat) : Prop := Cond.instanceMethod y ∈ wsL_law ∧ Cond.initialized y.cls ∈ wsL_law ∧ Cond.code y bytes maxL none ∈ wsL_law ∧ y.name = "<init>" ∧ (y.cls ≠ "java/lang/invoke/MethodHandle" ∧ y.cls ≠ "java/lang/invoke/VarHandle" ∧ (parseMethodDescriptor y.desc).map (fun d => d.parameters.length) = some n)
def k_ms (own : String) (index : Nat) (y : MethodName) (bytes : ByteArray) (maxL : Nat) (ret : Option FieldType) (n : Nat) : Prop := Cond.methodLink own index y ∈ wsL_law ∧ Cond.static y ∈ wsL_law ∧ Cond.initialized y.cls ∈ wsL_law ∧ Cond.code y bytes maxL ret ∈ wsL_law ∧ (y.cls ≠ "java/lang/invoke/MethodHandle" ∧ y.cls ≠ "java/lang/invoke/VarHandle" ∧ (parseMethodDescriptor y.desc).map (fun d => d.parameters.length) = some n)
theorem k_good : wsL_law.all goodWord = true := by decide +kernel
theorem k_goodIn {ws : List Cond} (h : ∀ w ∈ ws, w ∈ wsL_law) : GoodIn wsL_law ws := fun w hw => ⟨h w hw, good_of_word (List.all_eq_true.mp k_good w (h w hw))⟩
theorem k_goodC {y : MethodName} {b : ByteArray} {n : Nat} {r : Option FieldType} (h : Cond.code y b n r ∈ wsL_law) : GoodIn wsL_law (Cond.code y b n r :: wsL_law) := k_goodIn (fun w hw => (List.mem_cons.mp hw).elim (fun e => e ▸ h) id)
section KW
variable {p : Program} {l : Launch} {e : Env} {R : Room} {s : State} {m : MethodId} {args : Array Value} {below : List Frame} {meth : Method} {c : Code} {H : Heap} {locs : List Loc} {cells slots : Nat} {Q : State → Prop}
variable {cc : ByteArray} {pc : Nat} {ls : Array Slot} {rest : List Value} {A : Nat → Prop} {a : Nat} {ws : va_W} {H0 : Heap} {nL : Nat} {own : String} {dC : Nat → ClassId} {dI : Nat → Nat → Nat} {cy : Nat → ClassId} {sq : Nat → Nat}
theorem k_topi {x y : Int32} (h : x = y) (k : W p l e R s m args below meth c H locs cells slots Q (F0 m pc ls (.int y :: rest))) : W p l e R s m args below meth c H locs cells slots Q (F0 m pc ls (.int x :: rest)) := by subst h; exact k
theorem k_topl {x y : Int64} (h : x = y) (k : W p l e R s m args below meth c H locs cells slots Q (F0 m pc ls (.long y :: rest))) : W p l e R s m args below meth c H locs cells slots Q (F0 m pc ls (.long x :: rest)) := by subst h; exact k
theorem k_get (C0 : k_cx p s m args c cc nL own dC dI cy sq) {index ci k : Nat} (hf : k_fg own index ci k) (hP : va_P (dC, dI) vwCl ws H) (q0 : Nat) {fs : List Value} (he : ws[q0]? = some (a, .inr (ci, fs))) {v : Value} (hv : fs[k]? = some v) (hdg : decode cc pc = .ok (.getfield index, 3))
    (kk : W p l e R s m args below meth c H locs cells slots Q (F0 m (pc + 3) ls (v :: rest))) : W p l e R s m args below meth c H locs cells slots Q (F0 m pc ls (.ref a :: rest)) := by
  obtain ⟨C, T, N, ty0, ⟨h1, h2, h3, h4⟩, h5, h6⟩ := hf
  obtain ⟨hx, hb, hml, hown, hts, hK⟩ := C0
  exact va_get hx hb hts h2 hown hK.1 hP q0 he h1 k h5 (hts _ h6) (fun _ h => h) hv hdg kk
theorem k_put (C0 : k_cx p s m args c cc nL own dC dI cy sq) {index ci k : Nat} {ty : FieldType} (hf : k_fl own index ci k false ty) (hP : va_P (dC, dI) vwCl ws H) (hD : va_D A ws) (hS : va_S A H0 H locs) (q0 : Nat) {fs : List Value} (he : ws[q0]? = some (a, .inr (ci, fs))) {v : Value} (hn : narrow ty v = v) (hfit : fits ty v = true) (hl : k < fs.length) (hdg : decode cc pc = .ok (.putfield index, 3))
    (kk : ∀ (H1 : Heap) (locs1 : List Loc), va_P (dC, dI) vwCl (ws.set q0 (a, .inr (ci, fs.set k v))) H1 → va_D A (ws.set q0 (a, .inr (ci, fs.set k v))) → va_S A H0 H1 locs1 → W p l e R s m args below meth c H1 locs1 cells slots Q (F0 m (pc + 3) ls rest)) : W p l e R s m args below meth c H locs cells slots Q (F0 m pc ls (v :: .ref a :: rest)) := by
  obtain ⟨C, T, N, ty0, ⟨h1, h2, h3, h4⟩, h5, h6, h7, h8, h9⟩ := hf
  obtain ⟨hx, hb, hml, hown, hts, hK⟩ := C0
  exact va_put hx hb hts h2 ty0 h3 h4 hown hK.1 hP hD hS q0 he h1 k h5 (hts _ h6) (fun _ h => h) h7 h8 hn hfit hl hdg kk
theorem k_putF (C0 : k_cx p s m args c cc nL own dC dI cy sq) (hin : meth.name = "<init>") {index ci k : Nat} {ty : FieldType} (hf : k_fl own index ci k true ty) (hP : va_P (dC, dI) vwCl ws H) (hD : va_D A ws) (hS : va_S A H0 H locs) (q0 : Nat) {fs : List Value} (he : ws[q0]? = some (a, .inr (ci, fs))) {v : Value} (hn : narrow ty v = v) (hfit : fits ty v = true) (hl : k < fs.length) (hdg : decode cc pc = .ok (.putfield index, 3))
    (kk : ∀ (H1 : Heap) (locs1 : List Loc), va_P (dC, dI) vwCl (ws.set q0 (a, .inr (ci, fs.set k v))) H1 → va_D A (ws.set q0 (a, .inr (ci, fs.set k v))) → va_S A H0 H1 locs1 → W p l e R s m args below meth c H1 locs1 cells slots Q (F0 m (pc + 3) ls rest)) : W p l e R s m args below meth c H locs cells slots Q (F0 m pc ls (v :: .ref a :: rest)) := by
  obtain ⟨C, T, N, ty0, ⟨h1, h2, h3, h4⟩, h5, h6, h7, h8, h9⟩ := hf
  obtain ⟨hx, hb, hml, hown, hts, hK⟩ := C0
  exact va_putF hx hb hts h2 ty0 h3 h4 hown hK.1 hP hD hS q0 he h1 k h5 (hts _ h6) (fun _ h => h) h7 hin (h9 rfl) h8 hn hfit hl hdg kk
theorem k_new (C0 : k_cx p s m args c cc nL own dC dI cy sq) {index ci N : Nat} {fs : List Value} (hf : k_nw own index ci N fs) (hP : va_P (dC, dI) vwCl ws H) (hD : va_D A ws) (hS : va_S A H0 H locs) (hA : ∀ q, H0.size ≤ q → A q) (k n : Nat) (h1 : cells + 1 ≤ k) (h2 : slots + N ≤ n) (h3 : k ≤ R.cells) (h4 : n ≤ R.slots) (hdg : decode cc pc = .ok (.new index, 3))
    (kk : ∀ (q : Nat) (H1 : Heap), va_P (dC, dI) vwCl (ws ++ [(q, .inr (ci, fs))]) H1 → va_D A (ws ++ [(q, .inr (ci, fs))]) → va_S A H0 H1 locs → W p l e R s m args below meth c H1 locs k n Q (F0 m (pc + 3) ls (.ref q :: rest))) : W p l e R s m args below meth c H locs cells slots Q (F0 m pc ls rest) := by
  obtain ⟨C, T, ty0, ⟨g1, g2, g3, g4⟩, g5, g6, g7, g8⟩ := hf
  obtain ⟨hx, hb, hml, hown, hts, hK⟩ := C0
  exact va_new hx hb hts g2 ty0 g3 hown (hts _ g5) (hts _ g6) (hts _ g7) hK.1 hP hD hS hA g1 g8 (Nat.le_trans h1 h3) (Nat.le_trans h2 h4) hdg (fun q H1 a1 a2 a3 => W.widen h1 h2 (kk q H1 a1 a2 a3))
theorem k_newa (C0 : k_cx p s m args c cc nL own dC dI cy sq) (t0 : Nat) {cA : ClassId} {ty : FieldType} (ht : (k_tys cy)[t0]? = some (cA, ty)) {atype : ArrayType} (hty : newarray.typeOf atype = ty) (harr : Cond.arrayClass (newarray.typeOf atype) ∈ wsL_law) (hP : va_P (dC, dI) vwCl ws H) (hD : va_D A ws) (hS : va_S A H0 H locs) (hA : ∀ q, H0.size ≤ q → A q) {n : Int32} {N' : Nat} {a0 : vp_A} (ha : ∀ cB : ClassId, vp_cell cB a0 = arrV cB N' (fun _ => defaultValue ty)) (hn : ¬ n < 0) (hN : n.toNatClampNeg = N') (hbytes : N' * componentBytes ty ≤ 536870912) (k j : Nat) (h1 : cells + 1 ≤ k) (h2 : slots + N' ≤ j) (h3 : k ≤ R.cells) (h4 : j ≤ R.slots) (hdg : decode cc pc = .ok (.newarray atype, 2))
    (kk : ∀ (q : Nat) (H1 : Heap), va_P (dC, dI) vwCl (ws ++ [(q, .inl (cA, a0))]) H1 → va_D A (ws ++ [(q, .inl (cA, a0))]) → va_S A H0 H1 locs → W p l e R s m args below meth c H1 locs k j Q (F0 m (pc + 2) ls (.ref q :: rest))) : W p l e R s m args below meth c H locs cells slots Q (F0 m pc ls (.int n :: rest)) := by
  obtain ⟨hx, hb, hml, hown, hts, hK⟩ := C0
  refine va_newa hx hb (hts _ harr) hty hK.1 hP hD hS hA ha hn hN hbytes (Nat.le_trans h1 h3) (Nat.le_trans h2 h4) hdg (fun q cB H1 hK2 a1 a2 a3 => ?_)
  obtain rfl : cB = cA := ky_same hK2 t0 5 (by rw [List.getElem?_append_left (List.getElem?_eq_some_iff.mp ht).1]; exact ht) rfl
  exact W.widen h1 h2 (kk q H1 a1 a2 a3)
theorem k_newq (C0 : k_cx p s m args c cc nL own dC dI cy sq) {index : Nat} (hcl : Cond.classLink own index RX6 ∈ wsL_law) (hP : va_P (dC, dI) vwCl ws H) (hD : va_D A ws) (hS : va_S A H0 H locs) (hA : ∀ q, H0.size ≤ q → A q) {n : Int32} {N' : Nat} (hn : ¬ n < 0) (hN : n.toNatClampNeg = N') (hbytes : N' * 4 ≤ 536870912) (k j : Nat) (h1 : cells + 1 ≤ k) (h2 : slots + N' ≤ j) (h3 : k ≤ R.cells) (h4 : j ≤ R.slots) (hdg : decode cc pc = .ok (.anewarray index, 3))
    (kk : ∀ (q : Nat) (H1 : Heap), va_P (dC, dI) vwCl (ws ++ [(q, .inl (cy 4, N', .inr (.inr (.inr (.inr (fun _ => none))))))]) H1 → va_D A (ws ++ [(q, .inl (cy 4, N', .inr (.inr (.inr (.inr (fun _ => none))))))]) → va_S A H0 H1 locs → W p l e R s m args below meth c H1 locs k j Q (F0 m (pc + 3) ls (.ref q :: rest))) : W p l e R s m args below meth c H locs cells slots Q (F0 m pc ls (.int n :: rest)) := by
  obtain ⟨hx, hb, hml, hown, hts, hK⟩ := C0
  refine va_newq hx hb hown (hts _ hcl) hK.2.2.2.2.2.2.1 hK.1 hP hD hS hA hn hN hbytes (Nat.le_trans h1 h3) (Nat.le_trans h2 h4) hdg (fun q cB H1 hK2 a1 a2 a3 => ?_)
  obtain rfl : cB = cy 4 := ky_same hK2 4 5 rfl rfl
  exact W.widen h1 h2 (kk q H1 a1 a2 a3)
theorem k_obj (C0 : k_cx p s m args c cc nL own dC dI cy sq) {idx : Nat} (h1 : Cond.methodLink own idx objectInit ∈ wsL_law) (h2 : Cond.instanceMethod objectInit ∈ wsL_law) (h3 : Cond.code objectInit ⟨#[0xb1]⟩ 1 none ∈ wsL_law) {lv : List (Nat × Value)} (hl : lv_has ls nL lv) (hdg : decode cc pc = .ok (.invokespecial idx, 3)) (hfr : 1 ≤ R.frames) (hlo : (rest.map fun v => v.category).sum + 12 ≤ R.locals)
    (kk : W p l e R s m args below meth c H locs cells slots Q (F0 m (pc + 3) ls rest)) : W p l e R s m args below meth c H locs cells slots Q (F0 m pc ls (.ref a :: rest)) := by
  obtain ⟨hx, hb, hml, hown, hts, hK⟩ := C0
  refine W.objInit hx hb hown (hts _ h1) (hts _ h2) (hts _ h3) rfl (by rw [hml]; exact hl.1) rfl hdg hfr (by show 2 * 0 + _ + 12 ≤ _; omega) ?_
  exact W.eq (g2 := F0 m (pc + 3) ls rest) rfl kk
end KW
theorem k_in (i : Int32) (n : Nat) (h : (decide (i < 0) || decide (n ≤ i.toNatClampNeg)) = false) : vp_in i n := by
  intro hh
  rcases hh with hh | hh <;> simp [hh] at h
theorem k_nb (x : Int32) (h : narrow .boolean (.int x) = .int x) : narrow .boolean (.int x) = .int x := h
theorem k_fb (x : Int32) (h : fits .boolean (.int x) = true) : fits .boolean (.int x) = true := h
section KX
variable {p : Program} {l : Launch} {e : Env} {R : Room} {s : State} {m : MethodId} {args : Array Value} {below : List Frame} {meth : Method} {c : Code} {H : Heap} {locs : List Loc} {cells slots : Nat} {Q : State → Prop}
variable {cc : ByteArray} {pc : Nat} {ls : Array Slot} {rest : List Value} {A : Nat → Prop} {a : Nat} {H0 : Heap} {nL : Nat} {own : String} {dC : Nat → ClassId} {dI : Nat → Nat → Nat} {cy : Nat → ClassId} {sq : Nat → Nat}
/-- a store into the row made last, whatever the rest of the world is -/
theorem k_castX (C0 : k_cx p s m args c cc nL own dC dI cy sq) {X : va_W} {n : Nat} {f : Nat → Int32} (hP : va_P (dC, dI) vwCl (X ++ [(a, .inl (cy 2, n, .inl f))]) H) (hD : va_D A (X ++ [(a, .inl (cy 2, n, .inl f))])) (hS : va_S A H0 H locs) {i x : Int32} (hin : vp_in i n) (hdg : decode cc pc = .ok (.castore, 1))
    (kk : ∀ (g : Nat → Int32) (H1 : Heap) (locs1 : List Loc), va_P (dC, dI) vwCl (X ++ [(a, .inl (cy 2, n, .inl g))]) H1 → va_D A (X ++ [(a, .inl (cy 2, n, .inl g))]) → va_S A H0 H1 locs1 → W p l e R s m args below meth c H1 locs1 cells slots Q (F0 m (pc + 1) ls rest)) : W p l e R s m args below meth c H locs cells slots Q (F0 m pc ls (.int x :: .int i :: .ref a :: rest)) := by
  refine va_cast C0.1 C0.2.1 C0.2.2.2.2.2.1 hP hD hS X.length 2 (by simp) rfl hin hdg (fun H1 locs1 h1 h2 h3 => ?_)
  have e1 : ∀ z : Nat × va_E, (X ++ [(a, .inl (cy 2, n, .inl f))]).set X.length z = X ++ [z] := fun z => by simp
  rw [e1] at h1 h2
  exact kk _ H1 locs1 h1 h2 h3
end KX
end
section
/-! calls by contract, the world split and joined in one row -/
abbrev k_Qi {S : Type} (dC : Nat → ClassId) (dI : Nat → Nat → Nat) (post : Int32 → S → Prop) (B : S → va_W) : (Nat → Prop) → Array Value → State → Outcome → State → Prop := fun A => va_Qi post (k_B dC dI A B) A
abbrev k_Ql {S : Type} (dC : Nat → ClassId) (dI : Nat → Nat → Nat) (post : Int64 → S → Prop) (B : S → va_W) : (Nat → Prop) → Array Value → State → Outcome → State → Prop := fun A => va_Ql post (k_B dC dI A B) A
abbrev k_Qv {S : Type} (dC : Nat → ClassId) (dI : Nat → Nat → Nat) (post : S → Prop) (B : S → va_W) : (Nat → Prop) → Array Value → State → Outcome → State → Prop := fun A => va_Qv post (k_B dC dI A B) A
/-- a contract -/
def k_Met (l : Launch) (y : MethodName) (bytes : ByteArray) (maxL : Nat) (ret : Option FieldType) (rm : Room) (dC : Nat → ClassId) (dI : Nat → Nat → Nat) (cy : Nat → ClassId) (sq : Nat → Nat) (av : List Value) (wc : va_W) (Qc : (Nat → Prop) → Array Value → State → Outcome → State → Prop) : Prop :=
  ∀ sz : Nat, Met l y (Cond.code y bytes maxL ret :: wsL_law) rm (va_Pc av (k_Pre dC dI cy sq sz wc)) (Qc (va_A wc sz)) rm.cells rm.slots (va_A wc sz)
theorem k_P_sub {D : va_G} {cl : List vw_C} {ws wc : va_W} {H : Heap} (hP : va_P D cl ws H) (is : List Nat) (hC : is.map (fun i => ws[i]?) = wc.map some) : va_P D cl wc H := by
  intro k q hq
  have h1 : (is.map (fun i => ws[i]?))[k]? = some (some q) := by rw [hC, List.getElem?_map, hq]; rfl
  rw [List.getElem?_map] at h1
  cases hi : is[k]? with
  | none => rw [hi] at h1; cases h1
  | some i => rw [hi] at h1; exact hP i q (Option.some.inj h1)
section KC
variable {p : Program} {l : Launch} {e : Env} {R : Room} {s : State} {m : MethodId} {args : Array Value} {below : List Frame} {meth : Method} {c : Code} {H : Heap} {locs : List Loc} {cells slots : Nat} {Q : State → Prop}
variable {cc : ByteArray} {pc : Nat} {ls : Array Slot} {rest st0 : List Value} {A : Nat → Prop} {ws : va_W} {H0 : Heap} {nL : Nat} {own : String} {dC : Nat → ClassId} {dI : Nat → Nat → Nat} {cy : Nat → ClassId} {sq : Nat → Nat}
variable {y : MethodName} {bytes : ByteArray} {maxL n index mc ms : Nat} {ret : Option FieldType} {rm : Room} {C host : String} {b : Nat} {As av : List Value} {wc wr : va_W} {S : Type} {Qc : (Nat → Prop) → Array Value → State → Outcome → State → Prop}
theorem k_preS (C0 : k_cx p s m args c cc nL own dC dI cy sq) (hP : va_P (dC, dI) vwCl wc H) (hD : va_D A wc) : PreS s H (va_Pc av (k_Pre dC dI cy sq H.size wc)) av :=
  ⟨fun a U g mk q => ⟨q.1, q.2.1, q.2.2.1, q.2.2.2.1.calling, q.2.2.2.2⟩, fun U hU hW => ⟨rfl, by rw [hU], by rw [hU]; exact hP, C0.2.2.2.2.2.warm hW, hD.weaken (fun _ _ _ _ => trivial)⟩⟩
theorem k_runV (C0 : k_cx p s m args c cc nL own dC dI cy sq) (hM : k_Met l y bytes maxL ret rm dC dI cy sq (.ref b :: As) wc Qc) (hm : k_mv own index C y bytes maxL ret n) (hP : va_P (dC, dI) vwCl wc H) (hD : va_D A wc) {ci : Nat} {cq : vw_C} {fs : List Value} (hci : vwCl[ci]? = some cq) (hcq : cq.1 = C) (hrv : wc[0]? = some (b, .inr (ci, fs))) {lv : List (Nat × Value)} (hl : lv_has ls nL lv) (hn : As.length = n) (hst : st0 = As.reverse ++ .ref b :: rest) (hrest : (rest.map fun v => v.category).sum ≤ 8) (hR : rm.frames + 1 ≤ R.frames ∧ 8 + (maxL + 11) + rm.locals ≤ R.locals) (hf : cells + rm.cells ≤ R.cells ∧ slots + rm.slots ≤ R.slots) (hdg : decode cc pc = .ok (.invokevirtual index, 3)) :
    va_Run p l e R s m args below meth c H locs cells slots rm.cells rm.slots (F0 m pc ls st0) rest (Qc (va_A wc H.size) (Value.ref b :: As).toArray) (va_A wc H.size) := by
  have C1 := C0
  obtain ⟨hx, hb, hml, hown, hts, hK⟩ := C1
  obtain ⟨m1, m2, m3, m4, m5, m6, m7⟩ := hm
  subst m6
  subst hst
  have hr := va_recv hK.1 hP hci hrv
  rw [hcq] at hr
  have hps := k_preS (av := .ref b :: As) C0 hP hD
  exact va_runV (n := n) (index := index) (bytes := bytes) (maxL := maxL) (ret := ret) (As := As) (rest := rest) ⟨hx, hb, hml, hown, hts⟩ (hM H.size) ⟨callB_of n hts (k_goodC m5) rfl rfl rfl (hts _ m4) (hts _ m1) m7 hR, hts _ m2, hts _ m3⟩ ⟨hps.1, hr, hps.2⟩ rfl hn hl.1 rfl (lv_room hrest) hdg hf
theorem k_runI (C0 : k_cx p s m args c cc nL own dC dI cy sq) (hM : k_Met l y bytes maxL none rm dC dI cy sq (.ref b :: As) wc Qc) (hm : k_mi own index y bytes maxL n) (hP : va_P (dC, dI) vwCl wc H) (hD : va_D A wc) {lv : List (Nat × Value)} (hl : lv_has ls nL lv) (hn : As.length = n) (hst : st0 = As.reverse ++ .ref b :: rest) (hrest : (rest.map fun v => v.category).sum ≤ 8) (hR : rm.frames + 1 ≤ R.frames ∧ 8 + (maxL + 11) + rm.locals ≤ R.locals) (hf : cells + rm.cells ≤ R.cells ∧ slots + rm.slots ≤ R.slots) (hdg : decode cc pc = .ok (.invokespecial index, 3)) :
    va_Run p l e R s m args below meth c H locs cells slots rm.cells rm.slots (F0 m pc ls st0) rest (Qc (va_A wc H.size) (Value.ref b :: As).toArray) (va_A wc H.size) := by
  have C1 := C0
  obtain ⟨hx, hb, hml, hown, hts, hK⟩ := C1
  obtain ⟨m1, m2, m3, m4, m5, m6⟩ := hm
  subst hst
  exact va_runI (n := n) (index := index) (bytes := bytes) (maxL := maxL) (As := As) (rest := rest) ⟨hx, hb, hml, hown, hts⟩ (hM H.size) ⟨callB_of n hts (k_goodC m4) rfl rfl rfl (hts _ m3) (hts _ m1) m6 hR, m5, hts _ m2⟩ (k_preS (av := .ref b :: As) C0 hP hD) rfl hn hl.1 rfl (lv_room hrest) hdg hf
theorem k_runN (C0 : k_cx p s m args c cc nL own dC dI cy sq) (hM : k_Met l y bytes maxL none rm dC dI cy sq (.ref b :: As) wc Qc) (hm : k_mn y bytes maxL n) (hlk : va_Nw (.methodLinkNest own index y host) s) (hP : va_P (dC, dI) vwCl wc H) (hD : va_D A wc) {lv : List (Nat × Value)} (hl : lv_has ls nL lv) (hn : As.length = n) (hst : st0 = As.reverse ++ .ref b :: rest) (hrest : (rest.map fun v => v.category).sum ≤ 8) (hR : rm.frames + 1 ≤ R.frames ∧ 8 + (maxL + 11) + rm.locals ≤ R.locals) (hf : cells + rm.cells ≤ R.cells ∧ slots + rm.slots ≤ R.slots) (hdg : decode cc pc = .ok (.invokespecial index, 3)) :
    va_Run p l e R s m args below meth c H locs cells slots rm.cells rm.slots (F0 m pc ls st0) rest (Qc (va_A wc H.size) (Value.ref b :: As).toArray) (va_A wc H.size) := by
  have C1 := C0
  obtain ⟨hx, hb, hml, hown, hts, hK⟩ := C1
  obtain ⟨m2, m3, m4, m5, m6⟩ := hm
  subst hst
  exact va_runIN (n := n) (index := index) (bytes := bytes) (maxL := maxL) (host := host) (As := As) (rest := rest) ⟨hx, hb, hml, hown, hts⟩ (hM H.size) ⟨va_cnB n hts (k_goodC m4) rfl rfl rfl hlk (hts _ m3) m6 hR, m5, hts _ m2⟩ (k_preS (av := .ref b :: As) C0 hP hD) rfl hn hl.1 rfl (lv_room hrest) hdg hf
theorem k_runS (C0 : k_cx p s m args c cc nL own dC dI cy sq) (hM : k_Met l y bytes maxL ret rm dC dI cy sq As wc Qc) (hm : k_ms own index y bytes maxL ret n) (hP : va_P (dC, dI) vwCl wc H) (hD : va_D A wc) {lv : List (Nat × Value)} (hl : lv_has ls nL lv) (hn : As.length = n) (hst : st0 = As.reverse ++ rest) (hrest : (rest.map fun v => v.category).sum ≤ 8) (hR : rm.frames + 1 ≤ R.frames ∧ 8 + (maxL + 11) + rm.locals ≤ R.locals) (hf : cells + rm.cells ≤ R.cells ∧ slots + rm.slots ≤ R.slots) (hdg : decode cc pc = .ok (.invokestatic index, 3)) :
    va_Run p l e R s m args below meth c H locs cells slots rm.cells rm.slots (F0 m pc ls st0) rest (Qc (va_A wc H.size) As.toArray) (va_A wc H.size) := by
  have C1 := C0
  obtain ⟨hx, hb, hml, hown, hts, hK⟩ := C1
  obtain ⟨m1, m2, m3, m4, m6⟩ := hm
  subst hst
  exact va_runS (n := n) (index := index) (bytes := bytes) (maxL := maxL) (ret := ret) (As := As) (rest := rest) ⟨hx, hb, hml, hown, hts⟩ (hM H.size) ⟨callB_of n hts (k_goodC m4) rfl rfl rfl (hts _ m3) (hts _ m1) m6 hR, hts _ m2⟩ (k_preS (av := As) C0 hP hD) rfl hn hl.1 rfl (lv_room hrest) hdg hf
/-- the world split by places, a call, the world joined: an int, a long, nothing comes back -/
theorem k_ji {post : Int32 → S → Prop} {B : S → va_W} {a : Array Value} (hP : va_P (dC, dI) vwCl ws H) (hD : va_D A ws) (hS : va_S A H0 H locs) (hA : ∀ q, H0.size ≤ q → A q) (isC isR : List Nat) (hC : isC.map (fun i => ws[i]?) = wc.map some) (hRr : isR.map (fun i => ws[i]?) = wr.map some) (hnC : va_nd isC = true) (hnR : va_nd isR = true) (hdis : ∀ i ∈ isR, i ∉ isC) (k j : Nat) (h1 : cells + mc ≤ k) (h2 : slots + ms ≤ j)
    (hr : va_P (dC, dI) vwCl wc H → va_D A wc → va_Run p l e R s m args below meth c H locs cells slots mc ms (F0 m pc ls st0) rest (k_Qi dC dI post B (va_A wc H.size) a) (va_A wc H.size))
    (kk : ∀ (r : Int32) (u : S) (H1 : Heap) (locs1 : List Loc), post r u → va_P (dC, dI) vwCl (wr ++ B u) H1 → va_D A (wr ++ B u) → va_S A H0 H1 locs1 → W p l e R s m args below meth c H1 locs1 k j Q (F0 m (pc + 3) ls (.int r :: rest))) : W p l e R s m args below meth c H locs cells slots Q (F0 m pc ls st0) := by
  have hFc := va_free (wc := wc) hD hS hA isC hC
  refine va_calli (hr (k_P_sub hP isC hC) (hD.sub isC hnC hC)) hS (fun q _ h => hFc q h) hFc (fun r u t H1 locs1 ht hvm hw hB hz hk hS1 => ?_)
  obtain ⟨hP1, hD1⟩ := hB
  rw [ht] at hP1
  obtain ⟨hP2, hD2⟩ := va_join hP hD isC isR hC hRr hnR hdis hk hFc hP1 hD1
  exact W.widen h1 h2 (kk r u H1 locs1 hw hP2 hD2 hS1)
theorem k_jl {post : Int64 → S → Prop} {B : S → va_W} {a : Array Value} (hP : va_P (dC, dI) vwCl ws H) (hD : va_D A ws) (hS : va_S A H0 H locs) (hA : ∀ q, H0.size ≤ q → A q) (isC isR : List Nat) (hC : isC.map (fun i => ws[i]?) = wc.map some) (hRr : isR.map (fun i => ws[i]?) = wr.map some) (hnC : va_nd isC = true) (hnR : va_nd isR = true) (hdis : ∀ i ∈ isR, i ∉ isC) (k j : Nat) (h1 : cells + mc ≤ k) (h2 : slots + ms ≤ j)
    (hr : va_P (dC, dI) vwCl wc H → va_D A wc → va_Run p l e R s m args below meth c H locs cells slots mc ms (F0 m pc ls st0) rest (k_Ql dC dI post B (va_A wc H.size) a) (va_A wc H.size))
    (kk : ∀ (r : Int64) (u : S) (H1 : Heap) (locs1 : List Loc), post r u → va_P (dC, dI) vwCl (wr ++ B u) H1 → va_D A (wr ++ B u) → va_S A H0 H1 locs1 → W p l e R s m args below meth c H1 locs1 k j Q (F0 m (pc + 3) ls (.long r :: rest))) : W p l e R s m args below meth c H locs cells slots Q (F0 m pc ls st0) := by
  have hFc := va_free (wc := wc) hD hS hA isC hC
  refine va_calll (hr (k_P_sub hP isC hC) (hD.sub isC hnC hC)) hS (fun q _ h => hFc q h) hFc (fun r u t H1 locs1 ht hvm hw hB hz hk hS1 => ?_)
  obtain ⟨hP1, hD1⟩ := hB
  rw [ht] at hP1
  obtain ⟨hP2, hD2⟩ := va_join hP hD isC isR hC hRr hnR hdis hk hFc hP1 hD1
  exact W.widen h1 h2 (kk r u H1 locs1 hw hP2 hD2 hS1)
theorem k_jv {post : S → Prop} {B : S → va_W} {a : Array Value} (hP : va_P (dC, dI) vwCl ws H) (hD : va_D A ws) (hS : va_S A H0 H locs) (hA : ∀ q, H0.size ≤ q → A q) (isC isR : List Nat) (hC : isC.map (fun i => ws[i]?) = wc.map some) (hRr : isR.map (fun i => ws[i]?) = wr.map some) (hnC : va_nd isC = true) (hnR : va_nd isR = true) (hdis : ∀ i ∈ isR, i ∉ isC) (k j : Nat) (h1 : cells + mc ≤ k) (h2 : slots + ms ≤ j)
    (hr : va_P (dC, dI) vwCl wc H → va_D A wc → va_Run p l e R s m args below meth c H locs cells slots mc ms (F0 m pc ls st0) rest (k_Qv dC dI post B (va_A wc H.size) a) (va_A wc H.size))
    (kk : ∀ (u : S) (H1 : Heap) (locs1 : List Loc), post u → va_P (dC, dI) vwCl (wr ++ B u) H1 → va_D A (wr ++ B u) → va_S A H0 H1 locs1 → W p l e R s m args below meth c H1 locs1 k j Q (F0 m (pc + 3) ls rest)) : W p l e R s m args below meth c H locs cells slots Q (F0 m pc ls st0) := by
  have hFc := va_free (wc := wc) hD hS hA isC hC
  refine va_callv (hr (k_P_sub hP isC hC) (hD.sub isC hnC hC)) hS (fun q _ h => hFc q h) hFc (fun u t H1 locs1 ht hvm hw hB hz hk hS1 => ?_)
  obtain ⟨hP1, hD1⟩ := hB
  rw [ht] at hP1
  obtain ⟨hP2, hD2⟩ := va_join hP hD isC isR hC hRr hnR hdis hk hFc hP1 hD1
  exact W.widen h1 h2 (kk u H1 locs1 hw hP2 hD2 hS1)
/-- a method's return -/
theorem k_iret (hx : p.tables.exec = Jvm.exec) (hb : c.code = cc) {ty : FieldType} (hr : meth.sig.returnType = some ty) (hlk : meth.locks = false) {post : Int32 → S → Prop} {B : S → va_W} {v : Int32} (hn : narrow ty (.int v) = .int v) (u : S) (hS : va_S A s.heap H locs) (hp : post v u) (hP : va_P (dC, dI) vwCl (B u) H) (hD : va_D A (B u)) (h1 : cells ≤ mc) (h2 : slots ≤ ms) (hdg : decode cc pc = .ok (.ireturn, 1)) :
    W p l e R s m args below meth c H locs cells slots (MQ below (k_Qi dC dI post B A) args s mc ms A) (F0 m pc ls [.int v]) :=
  W.widen h1 h2 (W.zret hx hb hr hn (fun t ht hW => ⟨⟨v, u, rfl, hp, by rw [ht]; exact hP, hD⟩, hS.F ht⟩) hS.2.2 hdg hlk)
theorem k_lret (hx : p.tables.exec = Jvm.exec) (hb : c.code = cc) (hr : meth.sig.returnType = some .long) (hlk : meth.locks = false) {post : Int64 → S → Prop} {B : S → va_W} {v : Int64} (u : S) (hS : va_S A s.heap H locs) (hp : post v u) (hP : va_P (dC, dI) vwCl (B u) H) (hD : va_D A (B u)) (h1 : cells ≤ mc) (h2 : slots ≤ ms) (hdg : decode cc pc = .ok (.lreturn, 1)) :
    W p l e R s m args below meth c H locs cells slots (MQ below (k_Ql dC dI post B A) args s mc ms A) (F0 m pc ls [.long v]) :=
  W.widen h1 h2 (W.lret hx hb hr (fun t ht hW => ⟨⟨v, u, rfl, hp, by rw [ht]; exact hP, hD⟩, hS.F ht⟩) hS.2.2 hdg hlk)
theorem k_vret (hx : p.tables.exec = Jvm.exec) (hb : c.code = cc) (hr : meth.sig.returnType = none) (hlk : meth.locks = false) {post : S → Prop} {B : S → va_W} (u : S) (hS : va_S A s.heap H locs) (hp : post u) (hP : va_P (dC, dI) vwCl (B u) H) (hD : va_D A (B u)) (h1 : cells ≤ mc) (h2 : slots ≤ ms) (hdg : decode cc pc = .ok (.return_, 1)) :
    W p l e R s m args below meth c H locs cells slots (MQ below (k_Qv dC dI post B A) args s mc ms A) (F0 m pc ls []) :=
  W.widen h1 h2 (W.vret hx hb hr (fun t ht hW => ⟨⟨u, rfl, hp, by rw [ht]; exact hP, hD⟩, hS.F ht⟩) hS.2.2 hdg hlk)
end KC
/-- a contract out of the walk of its body -/
theorem k_ofW {l : Launch} {y : MethodName} {bytes : ByteArray} {maxL : Nat} {ret : Option FieldType} {rm : Room} {dC : Nat → ClassId} {dI : Nat → Nat → Nat} {cy : Nat → ClassId} {sq : Nat → Nat} {av : List Value} {wc : va_W} {Qc : (Nat → Prop) → Array Value → State → Outcome → State → Prop} (hy : plainName y.cls = true) (hlen : (lg_sl av).length ≤ maxL)
    (body : ∀ (p : Program) (e : Env) (s : State) (m : MethodId) (below : List Frame) (meth : Method) (c : Code) (A : Nat → Prop) (ls : Array Slot) (H : Heap) (locs : List Loc), k_cx p s m av.toArray c bytes maxL y.cls dC dI cy sq → meth.sig.returnType = ret → meth.locks = false → meth.name = y.name → va_P (dC, dI) vwCl wc H → va_D A wc → (∀ q, s.heap.size ≤ q → A q) → va_S A s.heap H locs → lv_has ls maxL (lv_args 0 av) → W p l e rm s m av.toArray below meth c H locs 0 0 (MQ below (Qc A) av.toArray s rm.cells rm.slots A) (F0 m 0 ls [])) :
    k_Met l y bytes maxL ret rm dC dI cy sq av wc Qc := by
  intro sz
  refine Met.ofW (cc := bytes) (maxL := maxL) (ret := ret) hy rfl ?_
  intro p e s m args below meth c s₁ B hml hv
  obtain ⟨rfl, hsz, hP, hK, hD0⟩ := hv
  have hts := atoms_spec (ws := Cond.code y bytes maxL ret :: wsL_law) B.pre
  subst hsz
  have hl := lv_entry av (n := maxL) hlen
  rw [lg_entry_eq]
  exact body p e s m below meth c _ _ s.heap [] ⟨B.exec, B.bytes, hml, findClass_of_methodNamed B.named, fun w h => hts w (List.mem_cons_of_mem _ h), hK⟩ B.returns B.notSynchronized (name_of_methodNamed B.named B.method).1 hP hD0.self (fun q h => Or.inr h) va_S.rf hl
end
