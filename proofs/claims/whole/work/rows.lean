section
-- ===== PART A: goes FIRST, ahead of the names: the tables' words, and 'selects' of the private methods out of them =====
/-- a private method of a class that the tables say can be made, by its rows of tables_1 -/
def lw_okq (q : MethodName × Nat) : Prop := (q.1.cls ≠ "java/lang/invoke/MethodHandle" ∧ q.1.cls ≠ "java/lang/invoke/VarHandle") ∧ Cond.instantiable q.1.cls q.2 ∈ tables_1 ∧ Cond.privateMethod q.1 ∈ tables_1 ∧ Cond.instanceMethod q.1 ∈ tables_1
theorem lw_p0 : lw_okq (⟨"LabelGuard", "forgetChecks", "()V"⟩, 17) := ⟨⟨by decide +kernel, by decide +kernel⟩, List.mem_of_getElem? (i := 21) (by decide +kernel), List.mem_of_getElem? (i := 357) (by decide +kernel), List.mem_of_getElem? (i := 358) (by decide +kernel)⟩
theorem lw_p1 : lw_okq (⟨"LabelGuard$Follower", "makeRow", "(LLabelGuard$Node;I)Z"⟩, 3) := ⟨⟨by decide +kernel, by decide +kernel⟩, List.mem_of_getElem? (i := 92) (by decide +kernel), List.mem_of_getElem? (i := 401) (by decide +kernel), List.mem_of_getElem? (i := 402) (by decide +kernel)⟩
theorem lw_p2 : lw_okq (⟨"LabelGuard$Follower", "makeStatement", "(LLabelGuard$Node;I)Z"⟩, 3) := ⟨⟨by decide +kernel, by decide +kernel⟩, List.mem_of_getElem? (i := 92) (by decide +kernel), List.mem_of_getElem? (i := 405) (by decide +kernel), List.mem_of_getElem? (i := 406) (by decide +kernel)⟩
theorem lw_p3 : lw_okq (⟨"LabelGuard$Follower", "makeChoice", "(LLabelGuard$Node;I)Z"⟩, 3) := ⟨⟨by decide +kernel, by decide +kernel⟩, List.mem_of_getElem? (i := 92) (by decide +kernel), List.mem_of_getElem? (i := 409) (by decide +kernel), List.mem_of_getElem? (i := 410) (by decide +kernel)⟩
theorem lw_p4 : lw_okq (⟨"LabelGuard$Follower", "valueOf", "(LLabelGuard$Node;I)I"⟩, 3) := ⟨⟨by decide +kernel, by decide +kernel⟩, List.mem_of_getElem? (i := 92) (by decide +kernel), List.mem_of_getElem? (i := 413) (by decide +kernel), List.mem_of_getElem? (i := 414) (by decide +kernel)⟩
theorem lw_p5 : lw_okq (⟨"LabelGuard$Follower", "makeLoop", "(LLabelGuard$Node;I)Z"⟩, 3) := ⟨⟨by decide +kernel, by decide +kernel⟩, List.mem_of_getElem? (i := 92) (by decide +kernel), List.mem_of_getElem? (i := 421) (by decide +kernel), List.mem_of_getElem? (i := 422) (by decide +kernel)⟩
theorem lw_p6 : lw_okq (⟨"java/lang/Throwable", "fillInStackTrace", "(I)Ljava/lang/Throwable;"⟩, 6) := ⟨⟨by decide +kernel, by decide +kernel⟩, List.mem_of_getElem? (i := 471) (by decide +kernel), List.mem_of_getElem? (i := 469) (by decide +kernel), List.mem_of_getElem? (i := 470) (by decide +kernel)⟩
theorem lw_p7 : lw_okq (⟨"LabelGuard$Reader", "readRow", "(I)LLabelGuard$Node;"⟩, 4) := ⟨⟨by decide +kernel, by decide +kernel⟩, List.mem_of_getElem? (i := 52) (by decide +kernel), List.mem_of_getElem? (i := 565) (by decide +kernel), List.mem_of_getElem? (i := 566) (by decide +kernel)⟩
theorem lw_p8 : lw_okq (⟨"LabelGuard$Reader", "atStatement", "()Z"⟩, 4) := ⟨⟨by decide +kernel, by decide +kernel⟩, List.mem_of_getElem? (i := 52) (by decide +kernel), List.mem_of_getElem? (i := 569) (by decide +kernel), List.mem_of_getElem? (i := 570) (by decide +kernel)⟩
theorem lw_p9 : lw_okq (⟨"LabelGuard$Reader", "current", "()I"⟩, 4) := ⟨⟨by decide +kernel, by decide +kernel⟩, List.mem_of_getElem? (i := 52) (by decide +kernel), List.mem_of_getElem? (i := 573) (by decide +kernel), List.mem_of_getElem? (i := 574) (by decide +kernel)⟩
theorem lw_p10 : lw_okq (⟨"LabelGuard$Reader", "readStatement", "(I)LLabelGuard$Node;"⟩, 4) := ⟨⟨by decide +kernel, by decide +kernel⟩, List.mem_of_getElem? (i := 52) (by decide +kernel), List.mem_of_getElem? (i := 580) (by decide +kernel), List.mem_of_getElem? (i := 581) (by decide +kernel)⟩
theorem lw_p11 : lw_okq (⟨"LabelGuard$Reader", "readChoice", "(I)LLabelGuard$Node;"⟩, 4) := ⟨⟨by decide +kernel, by decide +kernel⟩, List.mem_of_getElem? (i := 52) (by decide +kernel), List.mem_of_getElem? (i := 584) (by decide +kernel), List.mem_of_getElem? (i := 585) (by decide +kernel)⟩
theorem lw_p12 : lw_okq (⟨"LabelGuard$Reader", "readExpression", "(I)LLabelGuard$Node;"⟩, 4) := ⟨⟨by decide +kernel, by decide +kernel⟩, List.mem_of_getElem? (i := 52) (by decide +kernel), List.mem_of_getElem? (i := 588) (by decide +kernel), List.mem_of_getElem? (i := 589) (by decide +kernel)⟩
theorem lw_p13 : lw_okq (⟨"LabelGuard$Reader", "readNumber", "()LLabelGuard$Node;"⟩, 4) := ⟨⟨by decide +kernel, by decide +kernel⟩, List.mem_of_getElem? (i := 52) (by decide +kernel), List.mem_of_getElem? (i := 595) (by decide +kernel), List.mem_of_getElem? (i := 596) (by decide +kernel)⟩
theorem lw_p14 : lw_okq (⟨"LabelGuard$Reader", "readBrackets", "(I)LLabelGuard$Node;"⟩, 4) := ⟨⟨by decide +kernel, by decide +kernel⟩, List.mem_of_getElem? (i := 52) (by decide +kernel), List.mem_of_getElem? (i := 643) (by decide +kernel), List.mem_of_getElem? (i := 644) (by decide +kernel)⟩
theorem lw_p15 : lw_okq (⟨"LabelGuard$Reader", "open", "(II)Z"⟩, 4) := ⟨⟨by decide +kernel, by decide +kernel⟩, List.mem_of_getElem? (i := 52) (by decide +kernel), List.mem_of_getElem? (i := 647) (by decide +kernel), List.mem_of_getElem? (i := 648) (by decide +kernel)⟩
def lw_privs_1 : List (MethodName × Nat) := [(⟨"LabelGuard", "forgetChecks", "()V"⟩, 17), (⟨"LabelGuard$Follower", "makeRow", "(LLabelGuard$Node;I)Z"⟩, 3), (⟨"LabelGuard$Follower", "makeStatement", "(LLabelGuard$Node;I)Z"⟩, 3), (⟨"LabelGuard$Follower", "makeChoice", "(LLabelGuard$Node;I)Z"⟩, 3), (⟨"LabelGuard$Follower", "valueOf", "(LLabelGuard$Node;I)I"⟩, 3), (⟨"LabelGuard$Follower", "makeLoop", "(LLabelGuard$Node;I)Z"⟩, 3), (⟨"java/lang/Throwable", "fillInStackTrace", "(I)Ljava/lang/Throwable;"⟩, 6), (⟨"LabelGuard$Reader", "readRow", "(I)LLabelGuard$Node;"⟩, 4), (⟨"LabelGuard$Reader", "atStatement", "()Z"⟩, 4), (⟨"LabelGuard$Reader", "current", "()I"⟩, 4), (⟨"LabelGuard$Reader", "readStatement", "(I)LLabelGuard$Node;"⟩, 4), (⟨"LabelGuard$Reader", "readChoice", "(I)LLabelGuard$Node;"⟩, 4), (⟨"LabelGuard$Reader", "readExpression", "(I)LLabelGuard$Node;"⟩, 4), (⟨"LabelGuard$Reader", "readNumber", "()LLabelGuard$Node;"⟩, 4), (⟨"LabelGuard$Reader", "readBrackets", "(I)LLabelGuard$Node;"⟩, 4), (⟨"LabelGuard$Reader", "open", "(II)Z"⟩, 4)]
theorem lw_r1 : ∀ q ∈ lw_privs_1, lw_okq q := List.forall_mem_cons.mpr ⟨lw_p0, List.forall_mem_cons.mpr ⟨lw_p1, List.forall_mem_cons.mpr ⟨lw_p2, List.forall_mem_cons.mpr ⟨lw_p3, List.forall_mem_cons.mpr ⟨lw_p4, List.forall_mem_cons.mpr ⟨lw_p5, List.forall_mem_cons.mpr ⟨lw_p6, List.forall_mem_cons.mpr ⟨lw_p7, List.forall_mem_cons.mpr ⟨lw_p8, List.forall_mem_cons.mpr ⟨lw_p9, List.forall_mem_cons.mpr ⟨lw_p10, List.forall_mem_cons.mpr ⟨lw_p11, List.forall_mem_cons.mpr ⟨lw_p12, List.forall_mem_cons.mpr ⟨lw_p13, List.forall_mem_cons.mpr ⟨lw_p14, List.forall_mem_cons.mpr ⟨lw_p15, fun _ h => absurd h List.not_mem_nil⟩⟩⟩⟩⟩⟩⟩⟩⟩⟩⟩⟩⟩⟩⟩⟩
theorem lw_p16 : lw_okq (⟨"LabelGuard$Reader", "readOperation", "()I"⟩, 4) := ⟨⟨by decide +kernel, by decide +kernel⟩, List.mem_of_getElem? (i := 52) (by decide +kernel), List.mem_of_getElem? (i := 651) (by decide +kernel), List.mem_of_getElem? (i := 652) (by decide +kernel)⟩
theorem lw_p17 : lw_okq (⟨"LabelGuard$Reader", "skip", "(I)Z"⟩, 4) := ⟨⟨by decide +kernel, by decide +kernel⟩, List.mem_of_getElem? (i := 52) (by decide +kernel), List.mem_of_getElem? (i := 655) (by decide +kernel), List.mem_of_getElem? (i := 656) (by decide +kernel)⟩
theorem lw_p18 : lw_okq (⟨"LabelGuard$Reader", "readBlock", "(I)LLabelGuard$Node;"⟩, 4) := ⟨⟨by decide +kernel, by decide +kernel⟩, List.mem_of_getElem? (i := 52) (by decide +kernel), List.mem_of_getElem? (i := 659) (by decide +kernel), List.mem_of_getElem? (i := 660) (by decide +kernel)⟩
theorem lw_p19 : lw_okq (⟨"LabelGuard$Reader", "readLoop", "(I)LLabelGuard$Node;"⟩, 4) := ⟨⟨by decide +kernel, by decide +kernel⟩, List.mem_of_getElem? (i := 52) (by decide +kernel), List.mem_of_getElem? (i := 663) (by decide +kernel), List.mem_of_getElem? (i := 664) (by decide +kernel)⟩
theorem lw_p20 : lw_okq (⟨"LabelGuard$Reader", "readAssignment", "(II)LLabelGuard$Node;"⟩, 4) := ⟨⟨by decide +kernel, by decide +kernel⟩, List.mem_of_getElem? (i := 52) (by decide +kernel), List.mem_of_getElem? (i := 667) (by decide +kernel), List.mem_of_getElem? (i := 668) (by decide +kernel)⟩
theorem lw_p21 : lw_okq (⟨"LabelGuard$ProgramLabels", "flowRow", "(LLabelGuard$Node;II)V"⟩, 4) := ⟨⟨by decide +kernel, by decide +kernel⟩, List.mem_of_getElem? (i := 71) (by decide +kernel), List.mem_of_getElem? (i := 682) (by decide +kernel), List.mem_of_getElem? (i := 683) (by decide +kernel)⟩
theorem lw_p22 : lw_okq (⟨"LabelGuard$ProgramLabels", "flowChoice", "(LLabelGuard$Node;II)V"⟩, 4) := ⟨⟨by decide +kernel, by decide +kernel⟩, List.mem_of_getElem? (i := 71) (by decide +kernel), List.mem_of_getElem? (i := 686) (by decide +kernel), List.mem_of_getElem? (i := 687) (by decide +kernel)⟩
theorem lw_p23 : lw_okq (⟨"LabelGuard$ProgramLabels", "labelOf", "(LLabelGuard$Node;I)I"⟩, 4) := ⟨⟨by decide +kernel, by decide +kernel⟩, List.mem_of_getElem? (i := 71) (by decide +kernel), List.mem_of_getElem? (i := 690) (by decide +kernel), List.mem_of_getElem? (i := 691) (by decide +kernel)⟩
theorem lw_p24 : lw_okq (⟨"LabelGuard$ProgramLabels", "raiseBy", "([I)V"⟩, 4) := ⟨⟨by decide +kernel, by decide +kernel⟩, List.mem_of_getElem? (i := 71) (by decide +kernel), List.mem_of_getElem? (i := 695) (by decide +kernel), List.mem_of_getElem? (i := 696) (by decide +kernel)⟩
theorem lw_p25 : lw_okq (⟨"LabelGuard$ProgramLabels", "flowLoop", "(LLabelGuard$Node;II)V"⟩, 4) := ⟨⟨by decide +kernel, by decide +kernel⟩, List.mem_of_getElem? (i := 71) (by decide +kernel), List.mem_of_getElem? (i := 699) (by decide +kernel), List.mem_of_getElem? (i := 700) (by decide +kernel)⟩
theorem lw_p26 : lw_okq (⟨"LabelGuard$ProgramLabels", "areLabels", "([I)Z"⟩, 4) := ⟨⟨by decide +kernel, by decide +kernel⟩, List.mem_of_getElem? (i := 71) (by decide +kernel), List.mem_of_getElem? (i := 704) (by decide +kernel), List.mem_of_getElem? (i := 705) (by decide +kernel)⟩
theorem lw_p27 : lw_okq (⟨"LabelGuard$Code", "addRow", "(LLabelGuard$Node;I)V"⟩, 3) := ⟨⟨by decide +kernel, by decide +kernel⟩, List.mem_of_getElem? (i := 108) (by decide +kernel), List.mem_of_getElem? (i := 722) (by decide +kernel), List.mem_of_getElem? (i := 723) (by decide +kernel)⟩
theorem lw_p28 : lw_okq (⟨"LabelGuard$Code", "addExpression", "(LLabelGuard$Node;I)V"⟩, 3) := ⟨⟨by decide +kernel, by decide +kernel⟩, List.mem_of_getElem? (i := 108) (by decide +kernel), List.mem_of_getElem? (i := 726) (by decide +kernel), List.mem_of_getElem? (i := 727) (by decide +kernel)⟩
theorem lw_p29 : lw_okq (⟨"LabelGuard$Code", "addChoice", "(LLabelGuard$Node;I)V"⟩, 3) := ⟨⟨by decide +kernel, by decide +kernel⟩, List.mem_of_getElem? (i := 108) (by decide +kernel), List.mem_of_getElem? (i := 731) (by decide +kernel), List.mem_of_getElem? (i := 732) (by decide +kernel)⟩
theorem lw_p30 : lw_okq (⟨"LabelGuard$Code", "aimHere", "(I)V"⟩, 3) := ⟨⟨by decide +kernel, by decide +kernel⟩, List.mem_of_getElem? (i := 108) (by decide +kernel), List.mem_of_getElem? (i := 735) (by decide +kernel), List.mem_of_getElem? (i := 736) (by decide +kernel)⟩
theorem lw_p31 : lw_okq (⟨"LabelGuard$Code", "addLoop", "(LLabelGuard$Node;II)V"⟩, 3) := ⟨⟨by decide +kernel, by decide +kernel⟩, List.mem_of_getElem? (i := 108) (by decide +kernel), List.mem_of_getElem? (i := 739) (by decide +kernel), List.mem_of_getElem? (i := 740) (by decide +kernel)⟩
def lw_privs_2 : List (MethodName × Nat) := [(⟨"LabelGuard$Reader", "readOperation", "()I"⟩, 4), (⟨"LabelGuard$Reader", "skip", "(I)Z"⟩, 4), (⟨"LabelGuard$Reader", "readBlock", "(I)LLabelGuard$Node;"⟩, 4), (⟨"LabelGuard$Reader", "readLoop", "(I)LLabelGuard$Node;"⟩, 4), (⟨"LabelGuard$Reader", "readAssignment", "(II)LLabelGuard$Node;"⟩, 4), (⟨"LabelGuard$ProgramLabels", "flowRow", "(LLabelGuard$Node;II)V"⟩, 4), (⟨"LabelGuard$ProgramLabels", "flowChoice", "(LLabelGuard$Node;II)V"⟩, 4), (⟨"LabelGuard$ProgramLabels", "labelOf", "(LLabelGuard$Node;I)I"⟩, 4), (⟨"LabelGuard$ProgramLabels", "raiseBy", "([I)V"⟩, 4), (⟨"LabelGuard$ProgramLabels", "flowLoop", "(LLabelGuard$Node;II)V"⟩, 4), (⟨"LabelGuard$ProgramLabels", "areLabels", "([I)Z"⟩, 4), (⟨"LabelGuard$Code", "addRow", "(LLabelGuard$Node;I)V"⟩, 3), (⟨"LabelGuard$Code", "addExpression", "(LLabelGuard$Node;I)V"⟩, 3), (⟨"LabelGuard$Code", "addChoice", "(LLabelGuard$Node;I)V"⟩, 3), (⟨"LabelGuard$Code", "aimHere", "(I)V"⟩, 3), (⟨"LabelGuard$Code", "addLoop", "(LLabelGuard$Node;II)V"⟩, 3)]
theorem lw_r2 : ∀ q ∈ lw_privs_2, lw_okq q := List.forall_mem_cons.mpr ⟨lw_p16, List.forall_mem_cons.mpr ⟨lw_p17, List.forall_mem_cons.mpr ⟨lw_p18, List.forall_mem_cons.mpr ⟨lw_p19, List.forall_mem_cons.mpr ⟨lw_p20, List.forall_mem_cons.mpr ⟨lw_p21, List.forall_mem_cons.mpr ⟨lw_p22, List.forall_mem_cons.mpr ⟨lw_p23, List.forall_mem_cons.mpr ⟨lw_p24, List.forall_mem_cons.mpr ⟨lw_p25, List.forall_mem_cons.mpr ⟨lw_p26, List.forall_mem_cons.mpr ⟨lw_p27, List.forall_mem_cons.mpr ⟨lw_p28, List.forall_mem_cons.mpr ⟨lw_p29, List.forall_mem_cons.mpr ⟨lw_p30, List.forall_mem_cons.mpr ⟨lw_p31, fun _ h => absurd h List.not_mem_nil⟩⟩⟩⟩⟩⟩⟩⟩⟩⟩⟩⟩⟩⟩⟩⟩
theorem lw_p32 : lw_okq (⟨"LabelGuard$Shape", "partsFit", "()Z"⟩, 5) := ⟨⟨by decide +kernel, by decide +kernel⟩, List.mem_of_getElem? (i := 124) (by decide +kernel), List.mem_of_getElem? (i := 755) (by decide +kernel), List.mem_of_getElem? (i := 756) (by decide +kernel)⟩
theorem lw_p33 : lw_okq (⟨"LabelGuard$Shape", "waysFit", "()Z"⟩, 5) := ⟨⟨by decide +kernel, by decide +kernel⟩, List.mem_of_getElem? (i := 124) (by decide +kernel), List.mem_of_getElem? (i := 762) (by decide +kernel), List.mem_of_getElem? (i := 763) (by decide +kernel)⟩
theorem lw_p34 : lw_okq (⟨"LabelGuard$Shape", "goesOnWell", "(I)Z"⟩, 5) := ⟨⟨by decide +kernel, by decide +kernel⟩, List.mem_of_getElem? (i := 124) (by decide +kernel), List.mem_of_getElem? (i := 766) (by decide +kernel), List.mem_of_getElem? (i := 767) (by decide +kernel)⟩
theorem lw_p35 : lw_okq (⟨"LabelGuard$Shape", "comesTo", "(II)Z"⟩, 5) := ⟨⟨by decide +kernel, by decide +kernel⟩, List.mem_of_getElem? (i := 124) (by decide +kernel), List.mem_of_getElem? (i := 783) (by decide +kernel), List.mem_of_getElem? (i := 784) (by decide +kernel)⟩
theorem lw_p36 : lw_okq (⟨"LabelGuard$Shape", "allCanEnd", "()Z"⟩, 5) := ⟨⟨by decide +kernel, by decide +kernel⟩, List.mem_of_getElem? (i := 124) (by decide +kernel), List.mem_of_getElem? (i := 787) (by decide +kernel), List.mem_of_getElem? (i := 788) (by decide +kernel)⟩
theorem lw_p37 : lw_okq (⟨"LabelGuard$Shape", "findEnding", "()I"⟩, 5) := ⟨⟨by decide +kernel, by decide +kernel⟩, List.mem_of_getElem? (i := 124) (by decide +kernel), List.mem_of_getElem? (i := 791) (by decide +kernel), List.mem_of_getElem? (i := 792) (by decide +kernel)⟩
theorem lw_p38 : lw_okq (⟨"LabelGuard$Shape", "canEnd", "(I)Z"⟩, 5) := ⟨⟨by decide +kernel, by decide +kernel⟩, List.mem_of_getElem? (i := 124) (by decide +kernel), List.mem_of_getElem? (i := 795) (by decide +kernel), List.mem_of_getElem? (i := 796) (by decide +kernel)⟩
theorem lw_p39 : lw_okq (⟨"LabelGuard$Shape", "isEnding", "(I)Z"⟩, 5) := ⟨⟨by decide +kernel, by decide +kernel⟩, List.mem_of_getElem? (i := 124) (by decide +kernel), List.mem_of_getElem? (i := 799) (by decide +kernel), List.mem_of_getElem? (i := 800) (by decide +kernel)⟩
theorem lw_p40 : lw_okq (⟨"LabelGuard$Regions", "findPassed", "()V"⟩, 6) := ⟨⟨by decide +kernel, by decide +kernel⟩, List.mem_of_getElem? (i := 147) (by decide +kernel), List.mem_of_getElem? (i := 808) (by decide +kernel), List.mem_of_getElem? (i := 809) (by decide +kernel)⟩
theorem lw_p41 : lw_okq (⟨"LabelGuard$Regions", "narrowAll", "()Z"⟩, 6) := ⟨⟨by decide +kernel, by decide +kernel⟩, List.mem_of_getElem? (i := 147) (by decide +kernel), List.mem_of_getElem? (i := 833) (by decide +kernel), List.mem_of_getElem? (i := 834) (by decide +kernel)⟩
theorem lw_p42 : lw_okq (⟨"LabelGuard$Regions", "collect", "(I)V"⟩, 6) := ⟨⟨by decide +kernel, by decide +kernel⟩, List.mem_of_getElem? (i := 147) (by decide +kernel), List.mem_of_getElem? (i := 843) (by decide +kernel), List.mem_of_getElem? (i := 844) (by decide +kernel)⟩
theorem lw_p43 : lw_okq (⟨"LabelGuard$Regions", "visitNext", "(II)V"⟩, 6) := ⟨⟨by decide +kernel, by decide +kernel⟩, List.mem_of_getElem? (i := 147) (by decide +kernel), List.mem_of_getElem? (i := 847) (by decide +kernel), List.mem_of_getElem? (i := 848) (by decide +kernel)⟩
theorem lw_p44 : lw_okq (⟨"LabelGuard$Regions", "visit", "(II)V"⟩, 6) := ⟨⟨by decide +kernel, by decide +kernel⟩, List.mem_of_getElem? (i := 147) (by decide +kernel), List.mem_of_getElem? (i := 851) (by decide +kernel), List.mem_of_getElem? (i := 852) (by decide +kernel)⟩
theorem lw_p45 : lw_okq (⟨"LabelGuard$CodeLabels", "raise", "(III)V"⟩, 7) := ⟨⟨by decide +kernel, by decide +kernel⟩, List.mem_of_getElem? (i := 186) (by decide +kernel), List.mem_of_getElem? (i := 866) (by decide +kernel), List.mem_of_getElem? (i := 867) (by decide +kernel)⟩
theorem lw_p46 : lw_okq (⟨"LabelGuard$CodeLabels", "pass", "(I)V"⟩, 7) := ⟨⟨by decide +kernel, by decide +kernel⟩, List.mem_of_getElem? (i := 186) (by decide +kernel), List.mem_of_getElem? (i := 872) (by decide +kernel), List.mem_of_getElem? (i := 873) (by decide +kernel)⟩
theorem lw_p47 : lw_okq (⟨"LabelGuard$CodeLabels", "change", "(III)V"⟩, 7) := ⟨⟨by decide +kernel, by decide +kernel⟩, List.mem_of_getElem? (i := 186) (by decide +kernel), List.mem_of_getElem? (i := 879) (by decide +kernel), List.mem_of_getElem? (i := 880) (by decide +kernel)⟩
def lw_privs_3 : List (MethodName × Nat) := [(⟨"LabelGuard$Shape", "partsFit", "()Z"⟩, 5), (⟨"LabelGuard$Shape", "waysFit", "()Z"⟩, 5), (⟨"LabelGuard$Shape", "goesOnWell", "(I)Z"⟩, 5), (⟨"LabelGuard$Shape", "comesTo", "(II)Z"⟩, 5), (⟨"LabelGuard$Shape", "allCanEnd", "()Z"⟩, 5), (⟨"LabelGuard$Shape", "findEnding", "()I"⟩, 5), (⟨"LabelGuard$Shape", "canEnd", "(I)Z"⟩, 5), (⟨"LabelGuard$Shape", "isEnding", "(I)Z"⟩, 5), (⟨"LabelGuard$Regions", "findPassed", "()V"⟩, 6), (⟨"LabelGuard$Regions", "narrowAll", "()Z"⟩, 6), (⟨"LabelGuard$Regions", "collect", "(I)V"⟩, 6), (⟨"LabelGuard$Regions", "visitNext", "(II)V"⟩, 6), (⟨"LabelGuard$Regions", "visit", "(II)V"⟩, 6), (⟨"LabelGuard$CodeLabels", "raise", "(III)V"⟩, 7), (⟨"LabelGuard$CodeLabels", "pass", "(I)V"⟩, 7), (⟨"LabelGuard$CodeLabels", "change", "(III)V"⟩, 7)]
theorem lw_r3 : ∀ q ∈ lw_privs_3, lw_okq q := List.forall_mem_cons.mpr ⟨lw_p32, List.forall_mem_cons.mpr ⟨lw_p33, List.forall_mem_cons.mpr ⟨lw_p34, List.forall_mem_cons.mpr ⟨lw_p35, List.forall_mem_cons.mpr ⟨lw_p36, List.forall_mem_cons.mpr ⟨lw_p37, List.forall_mem_cons.mpr ⟨lw_p38, List.forall_mem_cons.mpr ⟨lw_p39, List.forall_mem_cons.mpr ⟨lw_p40, List.forall_mem_cons.mpr ⟨lw_p41, List.forall_mem_cons.mpr ⟨lw_p42, List.forall_mem_cons.mpr ⟨lw_p43, List.forall_mem_cons.mpr ⟨lw_p44, List.forall_mem_cons.mpr ⟨lw_p45, List.forall_mem_cons.mpr ⟨lw_p46, List.forall_mem_cons.mpr ⟨lw_p47, fun _ h => absurd h List.not_mem_nil⟩⟩⟩⟩⟩⟩⟩⟩⟩⟩⟩⟩⟩⟩⟩⟩
theorem lw_p48 : lw_okq (⟨"LabelGuard$CodeLabels", "raiseRegion", "(I)V"⟩, 7) := ⟨⟨by decide +kernel, by decide +kernel⟩, List.mem_of_getElem? (i := 186) (by decide +kernel), List.mem_of_getElem? (i := 885) (by decide +kernel), List.mem_of_getElem? (i := 886) (by decide +kernel)⟩
theorem lw_p49 : lw_okq (⟨"LabelGuard$CodeLabels", "comeTo", "(I)V"⟩, 7) := ⟨⟨by decide +kernel, by decide +kernel⟩, List.mem_of_getElem? (i := 186) (by decide +kernel), List.mem_of_getElem? (i := 894) (by decide +kernel), List.mem_of_getElem? (i := 895) (by decide +kernel)⟩
theorem lw_p50 : lw_okq (⟨"LabelGuard$Machine", "step", "(I)I"⟩, 4) := ⟨⟨by decide +kernel, by decide +kernel⟩, List.mem_of_getElem? (i := 215) (by decide +kernel), List.mem_of_getElem? (i := 924) (by decide +kernel), List.mem_of_getElem? (i := 925) (by decide +kernel)⟩
theorem lw_p51 : lw_okq (⟨"LabelGuard$Machine", "push", "(I)V"⟩, 4) := ⟨⟨by decide +kernel, by decide +kernel⟩, List.mem_of_getElem? (i := 215) (by decide +kernel), List.mem_of_getElem? (i := 929) (by decide +kernel), List.mem_of_getElem? (i := 930) (by decide +kernel)⟩
theorem lw_p52 : lw_okq (⟨"LabelGuard$Machine", "pop", "()I"⟩, 4) := ⟨⟨by decide +kernel, by decide +kernel⟩, List.mem_of_getElem? (i := 215) (by decide +kernel), List.mem_of_getElem? (i := 934) (by decide +kernel), List.mem_of_getElem? (i := 935) (by decide +kernel)⟩
theorem lw_p53 : lw_okq (⟨"LabelGuardModel", "isOrder", "(I)Z"⟩, 50) := ⟨⟨by decide +kernel, by decide +kernel⟩, List.mem_of_getElem? (i := 941) (by decide +kernel), List.mem_of_getElem? (i := 1107) (by decide +kernel), List.mem_of_getElem? (i := 1108) (by decide +kernel)⟩
theorem lw_p54 : lw_okq (⟨"LabelGuardModel", "isLattice", "(I)Z"⟩, 50) := ⟨⟨by decide +kernel, by decide +kernel⟩, List.mem_of_getElem? (i := 941) (by decide +kernel), List.mem_of_getElem? (i := 1111) (by decide +kernel), List.mem_of_getElem? (i := 1112) (by decide +kernel)⟩
theorem lw_p55 : lw_okq (⟨"LabelGuardModel", "bound", "(IIIZ)I"⟩, 50) := ⟨⟨by decide +kernel, by decide +kernel⟩, List.mem_of_getElem? (i := 941) (by decide +kernel), List.mem_of_getElem? (i := 1115) (by decide +kernel), List.mem_of_getElem? (i := 1116) (by decide +kernel)⟩
theorem lw_p56 : lw_okq (⟨"LabelGuardModel", "fits", "(IIZ)Z"⟩, 50) := ⟨⟨by decide +kernel, by decide +kernel⟩, List.mem_of_getElem? (i := 941) (by decide +kernel), List.mem_of_getElem? (i := 1119) (by decide +kernel), List.mem_of_getElem? (i := 1120) (by decide +kernel)⟩
theorem lw_p57 : lw_okq (⟨"LabelGuardModel", "isLevel", "(I)Z"⟩, 50) := ⟨⟨by decide +kernel, by decide +kernel⟩, List.mem_of_getElem? (i := 941) (by decide +kernel), List.mem_of_getElem? (i := 1127) (by decide +kernel), List.mem_of_getElem? (i := 1128) (by decide +kernel)⟩
theorem lw_p58 : lw_okq (⟨"LabelGuardModel", "joined", "(II)I"⟩, 50) := ⟨⟨by decide +kernel, by decide +kernel⟩, List.mem_of_getElem? (i := 941) (by decide +kernel), List.mem_of_getElem? (i := 1131) (by decide +kernel), List.mem_of_getElem? (i := 1132) (by decide +kernel)⟩
theorem lw_p59 : lw_okq (⟨"LabelGuardModel", "read", "()Z"⟩, 50) := ⟨⟨by decide +kernel, by decide +kernel⟩, List.mem_of_getElem? (i := 941) (by decide +kernel), List.mem_of_getElem? (i := 1148) (by decide +kernel), List.mem_of_getElem? (i := 1149) (by decide +kernel)⟩
theorem lw_p60 : lw_okq (⟨"LabelGuardModel", "part", "(II)I"⟩, 50) := ⟨⟨by decide +kernel, by decide +kernel⟩, List.mem_of_getElem? (i := 941) (by decide +kernel), List.mem_of_getElem? (i := 1152) (by decide +kernel), List.mem_of_getElem? (i := 1153) (by decide +kernel)⟩
theorem lw_p61 : lw_okq (⟨"LabelGuardModel", "here", "()C"⟩, 50) := ⟨⟨by decide +kernel, by decide +kernel⟩, List.mem_of_getElem? (i := 941) (by decide +kernel), List.mem_of_getElem? (i := 1156) (by decide +kernel), List.mem_of_getElem? (i := 1157) (by decide +kernel)⟩
theorem lw_p62 : lw_okq (⟨"LabelGuardModel", "takes", "(C)Z"⟩, 50) := ⟨⟨by decide +kernel, by decide +kernel⟩, List.mem_of_getElem? (i := 941) (by decide +kernel), List.mem_of_getElem? (i := 1163) (by decide +kernel), List.mem_of_getElem? (i := 1164) (by decide +kernel)⟩
theorem lw_p63 : lw_okq (⟨"LabelGuardModel", "expression", "(I)Z"⟩, 50) := ⟨⟨by decide +kernel, by decide +kernel⟩, List.mem_of_getElem? (i := 941) (by decide +kernel), List.mem_of_getElem? (i := 1167) (by decide +kernel), List.mem_of_getElem? (i := 1168) (by decide +kernel)⟩
def lw_privs_4 : List (MethodName × Nat) := [(⟨"LabelGuard$CodeLabels", "raiseRegion", "(I)V"⟩, 7), (⟨"LabelGuard$CodeLabels", "comeTo", "(I)V"⟩, 7), (⟨"LabelGuard$Machine", "step", "(I)I"⟩, 4), (⟨"LabelGuard$Machine", "push", "(I)V"⟩, 4), (⟨"LabelGuard$Machine", "pop", "()I"⟩, 4), (⟨"LabelGuardModel", "isOrder", "(I)Z"⟩, 50), (⟨"LabelGuardModel", "isLattice", "(I)Z"⟩, 50), (⟨"LabelGuardModel", "bound", "(IIIZ)I"⟩, 50), (⟨"LabelGuardModel", "fits", "(IIZ)Z"⟩, 50), (⟨"LabelGuardModel", "isLevel", "(I)Z"⟩, 50), (⟨"LabelGuardModel", "joined", "(II)I"⟩, 50), (⟨"LabelGuardModel", "read", "()Z"⟩, 50), (⟨"LabelGuardModel", "part", "(II)I"⟩, 50), (⟨"LabelGuardModel", "here", "()C"⟩, 50), (⟨"LabelGuardModel", "takes", "(C)Z"⟩, 50), (⟨"LabelGuardModel", "expression", "(I)Z"⟩, 50)]
theorem lw_r4 : ∀ q ∈ lw_privs_4, lw_okq q := List.forall_mem_cons.mpr ⟨lw_p48, List.forall_mem_cons.mpr ⟨lw_p49, List.forall_mem_cons.mpr ⟨lw_p50, List.forall_mem_cons.mpr ⟨lw_p51, List.forall_mem_cons.mpr ⟨lw_p52, List.forall_mem_cons.mpr ⟨lw_p53, List.forall_mem_cons.mpr ⟨lw_p54, List.forall_mem_cons.mpr ⟨lw_p55, List.forall_mem_cons.mpr ⟨lw_p56, List.forall_mem_cons.mpr ⟨lw_p57, List.forall_mem_cons.mpr ⟨lw_p58, List.forall_mem_cons.mpr ⟨lw_p59, List.forall_mem_cons.mpr ⟨lw_p60, List.forall_mem_cons.mpr ⟨lw_p61, List.forall_mem_cons.mpr ⟨lw_p62, List.forall_mem_cons.mpr ⟨lw_p63, fun _ h => absurd h List.not_mem_nil⟩⟩⟩⟩⟩⟩⟩⟩⟩⟩⟩⟩⟩⟩⟩⟩
theorem lw_p64 : lw_okq (⟨"LabelGuardModel", "begin", "(I)I"⟩, 50) := ⟨⟨by decide +kernel, by decide +kernel⟩, List.mem_of_getElem? (i := 941) (by decide +kernel), List.mem_of_getElem? (i := 1171) (by decide +kernel), List.mem_of_getElem? (i := 1172) (by decide +kernel)⟩
theorem lw_p65 : lw_okq (⟨"LabelGuardModel", "opens", "(C)Z"⟩, 50) := ⟨⟨by decide +kernel, by decide +kernel⟩, List.mem_of_getElem? (i := 941) (by decide +kernel), List.mem_of_getElem? (i := 1175) (by decide +kernel), List.mem_of_getElem? (i := 1176) (by decide +kernel)⟩
theorem lw_p66 : lw_okq (⟨"LabelGuardModel", "closes", "(C)Z"⟩, 50) := ⟨⟨by decide +kernel, by decide +kernel⟩, List.mem_of_getElem? (i := 941) (by decide +kernel), List.mem_of_getElem? (i := 1185) (by decide +kernel), List.mem_of_getElem? (i := 1186) (by decide +kernel)⟩
theorem lw_p67 : lw_okq (⟨"LabelGuardModel", "measure", "()V"⟩, 50) := ⟨⟨by decide +kernel, by decide +kernel⟩, List.mem_of_getElem? (i := 941) (by decide +kernel), List.mem_of_getElem? (i := 1189) (by decide +kernel), List.mem_of_getElem? (i := 1190) (by decide +kernel)⟩
theorem lw_p68 : lw_okq (⟨"LabelGuardModel", "lay", "()V"⟩, 50) := ⟨⟨by decide +kernel, by decide +kernel⟩, List.mem_of_getElem? (i := 941) (by decide +kernel), List.mem_of_getElem? (i := 1193) (by decide +kernel), List.mem_of_getElem? (i := 1194) (by decide +kernel)⟩
theorem lw_p69 : lw_okq (⟨"LabelGuardModel", "say", "(III)V"⟩, 50) := ⟨⟨by decide +kernel, by decide +kernel⟩, List.mem_of_getElem? (i := 941) (by decide +kernel), List.mem_of_getElem? (i := 1197) (by decide +kernel), List.mem_of_getElem? (i := 1198) (by decide +kernel)⟩
theorem lw_p70 : lw_okq (⟨"LabelGuardModel", "labelProgram", "()V"⟩, 50) := ⟨⟨by decide +kernel, by decide +kernel⟩, List.mem_of_getElem? (i := 941) (by decide +kernel), List.mem_of_getElem? (i := 1201) (by decide +kernel), List.mem_of_getElem? (i := 1202) (by decide +kernel)⟩
theorem lw_p71 : lw_okq (⟨"LabelGuardModel", "setIn", "(II)V"⟩, 50) := ⟨⟨by decide +kernel, by decide +kernel⟩, List.mem_of_getElem? (i := 941) (by decide +kernel), List.mem_of_getElem? (i := 1205) (by decide +kernel), List.mem_of_getElem? (i := 1206) (by decide +kernel)⟩
theorem lw_p72 : lw_okq (⟨"LabelGuardModel", "row", "(I)V"⟩, 50) := ⟨⟨by decide +kernel, by decide +kernel⟩, List.mem_of_getElem? (i := 941) (by decide +kernel), List.mem_of_getElem? (i := 1209) (by decide +kernel), List.mem_of_getElem? (i := 1210) (by decide +kernel)⟩
theorem lw_p73 : lw_okq (⟨"LabelGuardModel", "take", "([II)V"⟩, 50) := ⟨⟨by decide +kernel, by decide +kernel⟩, List.mem_of_getElem? (i := 941) (by decide +kernel), List.mem_of_getElem? (i := 1213) (by decide +kernel), List.mem_of_getElem? (i := 1214) (by decide +kernel)⟩
theorem lw_p74 : lw_okq (⟨"LabelGuardModel", "statement", "(I)V"⟩, 50) := ⟨⟨by decide +kernel, by decide +kernel⟩, List.mem_of_getElem? (i := 941) (by decide +kernel), List.mem_of_getElem? (i := 1217) (by decide +kernel), List.mem_of_getElem? (i := 1218) (by decide +kernel)⟩
theorem lw_p75 : lw_okq (⟨"LabelGuardModel", "labelOf", "(I)I"⟩, 50) := ⟨⟨by decide +kernel, by decide +kernel⟩, List.mem_of_getElem? (i := 941) (by decide +kernel), List.mem_of_getElem? (i := 1221) (by decide +kernel), List.mem_of_getElem? (i := 1222) (by decide +kernel)⟩
theorem lw_p76 : lw_okq (⟨"LabelGuardModel", "joinOut", "(I)V"⟩, 50) := ⟨⟨by decide +kernel, by decide +kernel⟩, List.mem_of_getElem? (i := 941) (by decide +kernel), List.mem_of_getElem? (i := 1225) (by decide +kernel), List.mem_of_getElem? (i := 1226) (by decide +kernel)⟩
theorem lw_p77 : lw_okq (⟨"LabelGuardModel", "setOut", "(I)V"⟩, 50) := ⟨⟨by decide +kernel, by decide +kernel⟩, List.mem_of_getElem? (i := 941) (by decide +kernel), List.mem_of_getElem? (i := 1229) (by decide +kernel), List.mem_of_getElem? (i := 1230) (by decide +kernel)⟩
theorem lw_p78 : lw_okq (⟨"LabelGuardModel", "shape", "()Z"⟩, 50) := ⟨⟨by decide +kernel, by decide +kernel⟩, List.mem_of_getElem? (i := 941) (by decide +kernel), List.mem_of_getElem? (i := 1257) (by decide +kernel), List.mem_of_getElem? (i := 1258) (by decide +kernel)⟩
theorem lw_p79 : lw_okq (⟨"LabelGuardModel", "plain", "()Z"⟩, 50) := ⟨⟨by decide +kernel, by decide +kernel⟩, List.mem_of_getElem? (i := 941) (by decide +kernel), List.mem_of_getElem? (i := 1261) (by decide +kernel), List.mem_of_getElem? (i := 1262) (by decide +kernel)⟩
def lw_privs_5 : List (MethodName × Nat) := [(⟨"LabelGuardModel", "begin", "(I)I"⟩, 50), (⟨"LabelGuardModel", "opens", "(C)Z"⟩, 50), (⟨"LabelGuardModel", "closes", "(C)Z"⟩, 50), (⟨"LabelGuardModel", "measure", "()V"⟩, 50), (⟨"LabelGuardModel", "lay", "()V"⟩, 50), (⟨"LabelGuardModel", "say", "(III)V"⟩, 50), (⟨"LabelGuardModel", "labelProgram", "()V"⟩, 50), (⟨"LabelGuardModel", "setIn", "(II)V"⟩, 50), (⟨"LabelGuardModel", "row", "(I)V"⟩, 50), (⟨"LabelGuardModel", "take", "([II)V"⟩, 50), (⟨"LabelGuardModel", "statement", "(I)V"⟩, 50), (⟨"LabelGuardModel", "labelOf", "(I)I"⟩, 50), (⟨"LabelGuardModel", "joinOut", "(I)V"⟩, 50), (⟨"LabelGuardModel", "setOut", "(I)V"⟩, 50), (⟨"LabelGuardModel", "shape", "()Z"⟩, 50), (⟨"LabelGuardModel", "plain", "()Z"⟩, 50)]
theorem lw_r5 : ∀ q ∈ lw_privs_5, lw_okq q := List.forall_mem_cons.mpr ⟨lw_p64, List.forall_mem_cons.mpr ⟨lw_p65, List.forall_mem_cons.mpr ⟨lw_p66, List.forall_mem_cons.mpr ⟨lw_p67, List.forall_mem_cons.mpr ⟨lw_p68, List.forall_mem_cons.mpr ⟨lw_p69, List.forall_mem_cons.mpr ⟨lw_p70, List.forall_mem_cons.mpr ⟨lw_p71, List.forall_mem_cons.mpr ⟨lw_p72, List.forall_mem_cons.mpr ⟨lw_p73, List.forall_mem_cons.mpr ⟨lw_p74, List.forall_mem_cons.mpr ⟨lw_p75, List.forall_mem_cons.mpr ⟨lw_p76, List.forall_mem_cons.mpr ⟨lw_p77, List.forall_mem_cons.mpr ⟨lw_p78, List.forall_mem_cons.mpr ⟨lw_p79, fun _ h => absurd h List.not_mem_nil⟩⟩⟩⟩⟩⟩⟩⟩⟩⟩⟩⟩⟩⟩⟩⟩
theorem lw_p80 : lw_okq (⟨"LabelGuardModel", "heights", "()Z"⟩, 50) := ⟨⟨by decide +kernel, by decide +kernel⟩, List.mem_of_getElem? (i := 941) (by decide +kernel), List.mem_of_getElem? (i := 1265) (by decide +kernel), List.mem_of_getElem? (i := 1266) (by decide +kernel)⟩
theorem lw_p81 : lw_okq (⟨"LabelGuardModel", "nextOf", "(II)I"⟩, 50) := ⟨⟨by decide +kernel, by decide +kernel⟩, List.mem_of_getElem? (i := 941) (by decide +kernel), List.mem_of_getElem? (i := 1275) (by decide +kernel), List.mem_of_getElem? (i := 1276) (by decide +kernel)⟩
theorem lw_p82 : lw_okq (⟨"LabelGuardModel", "comesToEnd", "(II)Z"⟩, 50) := ⟨⟨by decide +kernel, by decide +kernel⟩, List.mem_of_getElem? (i := 941) (by decide +kernel), List.mem_of_getElem? (i := 1279) (by decide +kernel), List.mem_of_getElem? (i := 1280) (by decide +kernel)⟩
theorem lw_p83 : lw_okq (⟨"LabelGuardModel", "labelCode", "()V"⟩, 50) := ⟨⟨by decide +kernel, by decide +kernel⟩, List.mem_of_getElem? (i := 941) (by decide +kernel), List.mem_of_getElem? (i := 1283) (by decide +kernel), List.mem_of_getElem? (i := 1284) (by decide +kernel)⟩
theorem lw_p84 : lw_okq (⟨"LabelGuardModel", "findRegion", "(I)V"⟩, 50) := ⟨⟨by decide +kernel, by decide +kernel⟩, List.mem_of_getElem? (i := 941) (by decide +kernel), List.mem_of_getElem? (i := 1287) (by decide +kernel), List.mem_of_getElem? (i := 1288) (by decide +kernel)⟩
theorem lw_p85 : lw_okq (⟨"LabelGuardModel", "come", "(II)V"⟩, 50) := ⟨⟨by decide +kernel, by decide +kernel⟩, List.mem_of_getElem? (i := 941) (by decide +kernel), List.mem_of_getElem? (i := 1291) (by decide +kernel), List.mem_of_getElem? (i := 1292) (by decide +kernel)⟩
theorem lw_p86 : lw_okq (⟨"LabelGuardModel", "findContext", "(I)V"⟩, 50) := ⟨⟨by decide +kernel, by decide +kernel⟩, List.mem_of_getElem? (i := 941) (by decide +kernel), List.mem_of_getElem? (i := 1295) (by decide +kernel), List.mem_of_getElem? (i := 1296) (by decide +kernel)⟩
theorem lw_p87 : lw_okq (⟨"LabelGuardModel", "leave", "(I)V"⟩, 50) := ⟨⟨by decide +kernel, by decide +kernel⟩, List.mem_of_getElem? (i := 941) (by decide +kernel), List.mem_of_getElem? (i := 1299) (by decide +kernel), List.mem_of_getElem? (i := 1300) (by decide +kernel)⟩
theorem lw_p88 : lw_okq (⟨"LabelGuardModel", "goOver", "([I[III)I"⟩, 50) := ⟨⟨by decide +kernel, by decide +kernel⟩, List.mem_of_getElem? (i := 941) (by decide +kernel), List.mem_of_getElem? (i := 1319) (by decide +kernel), List.mem_of_getElem? (i := 1320) (by decide +kernel)⟩
def lw_privs_6 : List (MethodName × Nat) := [(⟨"LabelGuardModel", "heights", "()Z"⟩, 50), (⟨"LabelGuardModel", "nextOf", "(II)I"⟩, 50), (⟨"LabelGuardModel", "comesToEnd", "(II)Z"⟩, 50), (⟨"LabelGuardModel", "labelCode", "()V"⟩, 50), (⟨"LabelGuardModel", "findRegion", "(I)V"⟩, 50), (⟨"LabelGuardModel", "come", "(II)V"⟩, 50), (⟨"LabelGuardModel", "findContext", "(I)V"⟩, 50), (⟨"LabelGuardModel", "leave", "(I)V"⟩, 50), (⟨"LabelGuardModel", "goOver", "([I[III)I"⟩, 50)]
theorem lw_r6 : ∀ q ∈ lw_privs_6, lw_okq q := List.forall_mem_cons.mpr ⟨lw_p80, List.forall_mem_cons.mpr ⟨lw_p81, List.forall_mem_cons.mpr ⟨lw_p82, List.forall_mem_cons.mpr ⟨lw_p83, List.forall_mem_cons.mpr ⟨lw_p84, List.forall_mem_cons.mpr ⟨lw_p85, List.forall_mem_cons.mpr ⟨lw_p86, List.forall_mem_cons.mpr ⟨lw_p87, List.forall_mem_cons.mpr ⟨lw_p88, fun _ h => absurd h List.not_mem_nil⟩⟩⟩⟩⟩⟩⟩⟩⟩
def lw_privs : List (MethodName × Nat) := lw_privs_1 ++ (lw_privs_2 ++ (lw_privs_3 ++ (lw_privs_4 ++ (lw_privs_5 ++ (lw_privs_6)))))
def lw_tbl : List Cond := k2_sels lw_privs ++ tables_1
theorem lw_privs_ok : ∀ q ∈ lw_privs, lw_okq q := by
  show ∀ q ∈ lw_privs_1 ++ (lw_privs_2 ++ (lw_privs_3 ++ (lw_privs_4 ++ (lw_privs_5 ++ (lw_privs_6))))), lw_okq q
  exact List.forall_mem_append.mpr ⟨lw_r1, List.forall_mem_append.mpr ⟨lw_r2, List.forall_mem_append.mpr ⟨lw_r3, List.forall_mem_append.mpr ⟨lw_r4, List.forall_mem_append.mpr ⟨lw_r5, lw_r6⟩⟩⟩⟩⟩
end
section
/-! ===== BEGIN words of one list among another's, by their places ===== -/
theorem goodIn_r {big : List Cond} (ws : List Cond) (ps : List Nat) (hp : ws = ps.filterMap (fun i => big[i]?)) (h : ws.all goodWord = true) : GoodIn big ws := by
  intro w hw
  have h1 := List.all_eq_true.mp h w hw
  rw [hp] at hw
  obtain ⟨i, -, hi⟩ := List.mem_filterMap.mp hw
  have hm : w ∈ big := by first | exact List.mem_of_getElem? hi | exact List.getElem?_mem hi
  exact ⟨hm, good_of_word h1⟩
theorem goodIn_app {big a b : List Cond} (ha : GoodIn big a) (hb : GoodIn big b) : GoodIn big (a ++ b) := fun w h => (List.mem_append.mp h).elim (ha w) (hb w)
theorem goodIn_ca {big a b : List Cond} {c : Cond} (ha : GoodIn big (c :: a)) (hb : GoodIn big b) : GoodIn big (c :: (a ++ b)) := fun w h => (List.mem_cons.mp h).elim (fun e => ha w (List.mem_cons.mpr (Or.inl e))) (fun h => (List.mem_append.mp h).elim (fun h => ha w (List.mem_cons.mpr (Or.inr h))) (hb w))
theorem goodIn_sub {big ws : List Cond} (hm : ∀ w ∈ ws, w ∈ big) (h : ws.all goodWord = true) : GoodIn big ws := fun w hw => ⟨hm w hw, good_of_word (List.all_eq_true.mp h w hw)⟩
/-! ===== END ===== -/


/-! ===== BEGIN exceptions that leave a method, and their catching by the caller (launches without stack traces) ===== -/
section VXA
/-! The laws vx_back, vx_callV, vx_callS, vx_callSW, vx_throw0, vx_throwS follow proofs of the library, with one case more: JvmDerived/Free/Laws.lean (Back.of_free), Shelf42/LK1.lean (callV, callS), Shelf/KitTraced.lean (throwNew0V, throwNewS). -/
/-- where a method has thrown q: the class by its name, the cell, what was written, the world -/
def vx_T (XC : String → State → State → Prop) (st : State) (q : Addr) (t : State) (mc ms : Nat) (free : Addr → Prop) : Prop :=
  ∃ (E : String) (ce : Cell) (L : List Loc), XC E st t ∧ t.heap[q]? = some ce ∧ ce.vm = .none ∧ st.vm.findClass E = some ce.cls ∧ st.WarmedH t.vm ∧ st.sameButNew ({ t with vm := st.vm } : State) L mc ms ∧ ∀ z ∈ L, free z.base
def vx_Q (Qc : Array Value → State → Outcome → State → Prop) (XC : String → State → State → Prop) (mc ms : Nat) (free : Addr → Prop) : Array Value → State → Outcome → State → Prop := fun a st o t =>
  (Qc a st o t ∧ ∃ L, FrameEnd st o t L mc ms ∧ ∀ q ∈ L, free q.base) ∨ ∃ q, o = .threw q ∧ vx_T XC st q t mc ms free
/-- a callee that returns or throws -/
def vx_Met (l : Launch) (y : MethodName) (ws : List Cond) (rm : Room) (Pc : Array Value → State → Prop) (Qc : Array Value → State → Outcome → State → Prop) (XC : String → State → State → Prop) (mc ms : Nat) (free : Addr → Prop) : Prop :=
  MetFree l y (headSpec ws rm) Pc (fun _ _ _ _ _ => True) (vx_Q Qc XC mc ms free)
def vx_Post (XC : String → State → State → Prop) (mc ms : Nat) (free : Addr → Prop) : Pt → Array Value → Addr → Pt → Prop := fun A a q B =>
  ∃ (g : JFrame) (mk : MethodId) (t : State) (L : List Loc) (E : String) (ce : Cell), B.U.heap = t.heap ∧ B.U.vm = t.vm ∧ XC E (A.U.calling g mk a) t ∧ t.heap[q]? = some ce ∧ ce.vm = .none ∧ A.U.vm.findClass E = some ce.cls ∧ B.locs = A.locs ++ L ∧ (∀ z ∈ L, free z.base) ∧ B.cells = A.cells + mc ∧ B.slots = A.slots + ms
def vx_Back (l : Launch) (R : Room) (p : Program) (e : Env) (below : List Frame) (s : State) (sargs : Array Value) (y : MethodName) (len W9 : Nat)
    (Pre : Pt → Array Value → Prop) (Post : Pt → Array Value → Option Value → Pt → Prop) (PostX : Pt → Array Value → Addr → Pt → Prop) : Prop :=
  ∀ (m : MethodId) (meth : Method) (c : Code) (A : Pt) (g : JFrame) (ig : Instr) (mk : MethodId) (a : Array Value),
    Stand p l e R s m sargs below meth c A.U A.locs A.cells A.slots → g.method = m → g.locals.size = c.maxLocals → decode c.code g.pc = .ok (ig, len) →
    2 * g.monitorRoom + (g.stack.map fun v => v.category).sum ≤ W9 → A.U.methodNamed? y = some mk → Pre A a →
    (∃ (v : Option Value) (B : Pt), Stand p l e R s m sargs below meth c B.U B.locs B.cells B.slots ∧ Post A a v B ∧
      Steps p.tables e below (doInvoke e (A.U.setTop g) [] mk a).1 (B.U.setTop { g with pc := g.pc + len, stack := v.toList ++ g.stack })) ∨
    (∃ (q : Addr) (B : Pt), Stand p l e R s m sargs below meth c B.U B.locs B.cells B.slots ∧ PostX A a q B ∧
      Steps p.tables e below (doInvoke e (A.U.setTop g) [] mk a).1 ((B.U.setTop g).pushFrame (.throwing q)))
section Payer
variable {l : Launch} {R : Room} {p : Program} {e : Env} {below : List Frame} {s : State} {sargs : Array Value} {y : MethodName} {len W9 : Nat}
theorem vx_back {ws : List Cond} {rm : Room} {Pc : Array Value → State → Prop} {Qc : Array Value → State → Outcome → State → Prop} {XC : String → State → State → Prop} {mc ms : Nat} {free : Addr → Prop} {bytes : ByteArray} {maxL : Nat} {ret : Option FieldType}
    (hM : vx_Met l y ws rm Pc Qc XC mc ms free) (hblind : FrameBlind Pc) (hrc : rm.cells = mc) (hrs : rm.slots = ms)
    (hframes : rm.frames + 1 ≤ R.frames) (hlocals : W9 + (maxL + 11) + rm.locals ≤ R.locals)
    (hws : ∀ w ∈ ws, ∀ a' U, s.WarmedH U.vm → w.before a' U = true) (hcode : Cond.code y bytes maxL ret ∈ ws) (hinit : ∀ a' U, s.WarmedH U.vm → (Cond.initialized y.cls).before a' U = true) :
    vx_Back l R p e below s sargs y len W9 (PreOf R mc ms Pc) (PostOf Qc mc ms free) (vx_Post XC mc ms free) := by
  intro m meth c A g ig mk a X hg hsize hdg hW hn hp
  have h1 : (headSpec ws rm).pre.before a A.U = true := atoms_intro fun w hw => hws w hw _ _ X.warmed
  have h2 : (Cond.code y bytes maxL ret).before a A.U = true := hws _ hcode _ _ X.warmed
  have h3 : (Cond.initialized y.cls).before a A.U = true := hinit _ _ X.warmed
  have h4 : A.cells + (headSpec ws rm).room.cells ≤ R.cells := by rw [show (headSpec ws rm).room.cells = mc from hrc]; exact hp.1
  have h5 : A.slots + (headSpec ws rm).room.slots ≤ R.slots := by rw [show (headSpec ws rm).room.slots = ms from hrs]; exact hp.2.1
  have hPc : Pc a (A.U.calling g mk a) := hblind _ _ _ _ hp.2.2
  obtain ⟨U, Ls, c0, s0⟩ := A
  dsimp only [Pt.U, Pt.locs, Pt.cells, Pt.slots] at h1 h2 h3 h4 h5 X hn hPc ⊢
  obtain ⟨methY, cY, hmY, hcY, -, hlY, -, -, -, -⟩ := Cond.code_spec hn h2
  obtain ⟨kY, hkY, -⟩ := className_of_methodNamed hn
  have hinitY : kY.init = .initialized := Cond.initialized_spec (findClass_of_methodNamed hn) hkY h3
  have h : At U g.method c below := by rw [hg]; exact X.here
  have hlocals9 : W9 + (maxL + 11) + (headSpec ws rm).room.locals ≤ R.locals := hlocals
  have happ : (headSpec ws rm).appliesLoose y e.platform (U.calling g mk a) = true :=
    Spec.appliesLoose_calling (g := g) h hdg hn hkY hinitY
      (X.room_calling (g := g) (R' := (headSpec ws rm).room) hsize hmY hcY hframes (by rw [hlY]; omega) h4 h5) h1
  obtain ⟨mid, hmid⟩ := h.above
  have hfr : (U.setTop g).frames = (.java g :: mid) ++ below := by rw [State.frames_setTop' g h.top, hmid]; rfl
  obtain ⟨o, s₂, hsteps, -, hend, hq⟩ := Steps.callFree hM p X.admits X.cas X.clock (acts := []) hfr happ hPc trivial
  have hq' : vx_Q Qc XC mc ms free a (U.calling g mk a) o s₂ := hq
  rw [State.frames_setTop' g h.top] at hend
  obtain ⟨g₀, hg0⟩ := Option.isSome_iff_exists.mp h.top
  obtain ⟨r, hr⟩ := State.topJava?_eq_some.mp hg0
  have hr' : (({ U with heap := s₂.heap, slotsUsed := s₂.slotsUsed } : State).setVm s₂.vm).frames = .java g₀ :: r := hr
  rcases hq' with ⟨hqc, L, hfe, hL⟩ | ⟨q, rfl, E, ce, L, hx, hce, hcv, hcl, hW₂, hsm, hL⟩
  · obtain ⟨⟨v, rfl⟩, hW₂, e2, q2, q3, q4, q5, q6⟩ := id hfe
    have e3 : s₂ = ({ (U.calling g mk a).setFrames s₂.frames with heap := s₂.heap, slotsUsed := s₂.slotsUsed } : State).setVm s₂.vm := by
      have : s₂ = ({ s₂ with vm := (U.calling g mk a).vm } : State).setVm s₂.vm := rfl
      rw [e2] at this
      exact this
    obtain ⟨c₂, i₂, len₂, hc₂, hd₂, hf₂⟩ := hend
    have hW' : U.WarmedH s₂.vm := hW₂
    have hcc : c₂ = c := by
      have h1 : s₂.code? g.method = U.code? g.method := by
        rw [State.code?_eq, State.code?_eq, hW'.alike.method?]
      exact Option.some.inj (hc₂.symm.trans (h1.trans h.code))
    subst hcc
    have hlen : len₂ = len := by rw [hdg] at hd₂; cases hd₂; rfl
    subst hlen
    have hs₂ : s₂ = (({ U with heap := s₂.heap, slotsUsed := s₂.slotsUsed } : State).setVm s₂.vm).setTop { g with pc := g.pc + len₂, stack := v.toList ++ g.stack } := by
      refine e3.trans ?_
      rw [hf₂, State.calling_eq h.top, State.setFrames_setFrames, State.setTop_of_frames _ hr', hr]
      rfl
    have hsame : U.sameButNew ({ U with heap := s₂.heap, slotsUsed := s₂.slotsUsed } : State) L mc ms := by
      refine ⟨?_, q2, q3, q4, q5, q6⟩
      obtain ⟨t, ht, -⟩ := State.frames_cons hr
      show ({ U with heap := s₂.heap, slotsUsed := s₂.slotsUsed } : State) = { U.setFrames U.frames with heap := s₂.heap, slotsUsed := s₂.slotsUsed }
      rw [State.setFrames_self ht]
    subst hg
    refine Or.inl ⟨v, ⟨(({ U with heap := s₂.heap, slotsUsed := s₂.slotsUsed } : State).setVm s₂.vm), Ls ++ L, c0 + mc, s0 + ms⟩,
      ⟨X.admits, X.cas, X.clock, X.frames, X.room, X.hears, X.method, X.code, (X.here.setHeapUsed s₂.heap s₂.slotsUsed).setVm hW'.alike, X.tail, State.WarmedH.trans X.warmed hW', X.limits, X.bytes, X.same.trans (hsame.setVm s.vm)⟩,
      ⟨g, mk, s₂, L, rfl, rfl, hqc, rfl, hL, rfl, rfl⟩, ?_⟩
    show Steps p.tables e below _ ((({ U with heap := s₂.heap, slotsUsed := s₂.slotsUsed } : State).setVm s₂.vm).setTop { g with pc := g.pc + len₂, stack := v.toList ++ g.stack })
    rw [← hs₂]
    exact hsteps
  · obtain ⟨e2, q2, q3, q4, q5, q6⟩ := id hsm
    have e3 : s₂ = ({ (U.calling g mk a).setFrames s₂.frames with heap := s₂.heap, slotsUsed := s₂.slotsUsed } : State).setVm s₂.vm := by
      have : s₂ = ({ s₂ with vm := (U.calling g mk a).vm } : State).setVm s₂.vm := rfl
      rw [e2] at this
      exact this
    have hf₂ : s₂.frames = .throwing q :: .java g :: U.frames.tail := hend
    have hW' : U.WarmedH s₂.vm := hW₂
    have hs₂ : s₂ = ((({ U with heap := s₂.heap, slotsUsed := s₂.slotsUsed } : State).setVm s₂.vm).setTop g).pushFrame (.throwing q) := by
      refine e3.trans ?_
      rw [hf₂, State.calling_eq h.top, State.setFrames_setFrames, State.pushFrame, State.frames_setTop _ hr', State.setTop_of_frames _ hr', State.setFrames_setFrames, hr]
      rfl
    have hsame : U.sameButNew ({ U with heap := s₂.heap, slotsUsed := s₂.slotsUsed } : State) L mc ms := by
      refine ⟨?_, q2, q3, q4, q5, q6⟩
      obtain ⟨t, ht, -⟩ := State.frames_cons hr
      show ({ U with heap := s₂.heap, slotsUsed := s₂.slotsUsed } : State) = { U.setFrames U.frames with heap := s₂.heap, slotsUsed := s₂.slotsUsed }
      rw [State.setFrames_self ht]
    subst hg
    refine Or.inr ⟨q, ⟨(({ U with heap := s₂.heap, slotsUsed := s₂.slotsUsed } : State).setVm s₂.vm), Ls ++ L, c0 + mc, s0 + ms⟩,
      ⟨X.admits, X.cas, X.clock, X.frames, X.room, X.hears, X.method, X.code, (X.here.setHeapUsed s₂.heap s₂.slotsUsed).setVm hW'.alike, X.tail, State.WarmedH.trans X.warmed hW', X.limits, X.bytes, X.same.trans (hsame.setVm s.vm)⟩,
      ⟨g, mk, s₂, L, E, ce, rfl, rfl, hx, hce, hcv, hcl, rfl, hL, rfl, rfl⟩, ?_⟩
    show Steps p.tables e below _ (((({ U with heap := s₂.heap, slotsUsed := s₂.slotsUsed } : State).setVm s₂.vm).setTop g).pushFrame (.throwing q))
    rw [← hs₂]
    exact hsteps
end Payer
section Calls
variable {p : Program} {l : Launch} {e : Env} {R : Room} {s : State} {m : MethodId} {args : Array Value} {below : List Frame} {meth : Method} {c : Code} {T : State} {locs : List Loc} {cells slots : Nat}
theorem vx_callV (X : Stand p l e R s m args below meth c T locs cells slots) (hexec : p.tables.exec = Jvm.exec) {own C : String} {index : Nat} {y : MethodName} {bytes : ByteArray} {maxL : Nat} {ret : Option FieldType}
    (hown : s.vm.findClass own = some m.cls) (hlink : (Cond.methodLink own index y).before args s = true) (hinst : (Cond.instanceMethod y).before args s = true) (hsel : (Cond.selects C y y).before args s = true)
    (hcode : (Cond.code y bytes maxL ret).before args s = true) (hy : y.cls ≠ "java/lang/invoke/MethodHandle" ∧ y.cls ≠ "java/lang/invoke/VarHandle")
    {W9 : Nat} {Pre : Pt → Array Value → Prop} {Post : Pt → Array Value → Option Value → Pt → Prop} {PostX : Pt → Array Value → Addr → Pt → Prop} (hK : vx_Back l R p e below s args y 3 W9 Pre Post PostX)
    {b : Addr} {cellB : Cell} (hcell : T.heap[b]? = some cellB) (hobj : cellB.vm.isStatics = false) (hcls : s.vm.findClass C = some cellB.cls)
    {g : JFrame} (hg : g.method = m) (hsize : g.locals.size = c.maxLocals) {argsL rest : List Value} (hlen : ∀ sig, parseMethodDescriptor y.desc = some sig → argsL.length = sig.parameters.length)
    (hstack : g.stack = argsL.reverse ++ .ref b :: rest) (hW : 2 * g.monitorRoom + (rest.map fun v => v.category).sum ≤ W9) (hdg : decode c.code g.pc = .ok (.invokevirtual index, 3))
    (hpre : ∀ vm₁, s.WarmedH vm₁ → Pre ⟨T.setVm vm₁, locs, cells, slots⟩ (Value.ref b :: argsL).toArray) :
    (∃ (v : Option Value) (vm₁ : Vm) (B : Pt), s.WarmedH vm₁ ∧ Stand p l e R s m args below meth c B.U B.locs B.cells B.slots ∧ Post ⟨T.setVm vm₁, locs, cells, slots⟩ (Value.ref b :: argsL).toArray v B ∧
      ∀ target, Steps p.tables e below (B.U.setTop { g with pc := g.pc + 3, stack := v.toList ++ rest }) target → Steps p.tables e below (T.setTop g) target) ∨
    (∃ (q : Addr) (vm₁ : Vm) (B : Pt), s.WarmedH vm₁ ∧ Stand p l e R s m args below meth c B.U B.locs B.cells B.slots ∧ PostX ⟨T.setVm vm₁, locs, cells, slots⟩ (Value.ref b :: argsL).toArray q B ∧
      Steps p.tables e below (T.setTop g) ((B.U.setTop { g with stack := rest }).pushFrame (.throwing q))) := by
  obtain ⟨mk, methM, hnamed, hmethM, hstM, habM⟩ := Cond.instanceMethod_spec hinst
  obtain ⟨methM', cM, hmethM', -, -, -, -, -, -, hsigM⟩ := Cond.code_spec hnamed hcode
  cases hmethM.symm.trans hmethM'
  obtain ⟨c2, r2, m2, q1, q2, q3, q4, kP, hkP, hkPi⟩ := Cond.selects_spec hsel
  cases hcls.symm.trans q1
  cases (State.methodFound?_of_named hnamed hy).symm.trans q2
  cases hnamed.symm.trans q3
  have hselP : selectMethod e.platform s.vm cellB.cls mk = .method mk := by rw [Launch.admits_selectMethod X.admits]; exact q4
  obtain ⟨vm₁, X₁, hstep₁⟩ := X.invokevirtual hexec hown hlink hnamed hmethM hstM hkP hkPi hy (a := b) (cell := cellB) hcell
    (fun z h => by rw [h] at hobj; cases hobj) hselP hmethM habM hkP hkPi (g := g) hg (argsL := argsL) (rest := rest) (hlen _ hsigM) hstack hdg
  rcases hK m meth c ⟨T.setVm vm₁, locs, cells, slots⟩ { g with stack := rest } (.invokevirtual index) mk (Value.ref b :: argsL).toArray X₁ hg hsize hdg hW (X₁.named hnamed) (hpre vm₁ X₁.warmed) with ⟨v, B, X', hpost, hsteps⟩ | ⟨q, B, X', hpost, hsteps⟩
  · exact Or.inl ⟨v, vm₁, B, X₁.warmed, X', hpost, fun target h => hstep₁ _ fun acts => by rw [doInvoke_state]; exact hsteps.trans h⟩
  · exact Or.inr ⟨q, vm₁, B, X₁.warmed, X', hpost, hstep₁ _ fun acts => by rw [doInvoke_state]; exact hsteps⟩
theorem vx_callS (X : Stand p l e R s m args below meth c T locs cells slots) (hexec : p.tables.exec = Jvm.exec) {own : String} {index : Nat} {y : MethodName} {bytes : ByteArray} {maxL : Nat} {ret : Option FieldType}
    (hown : s.vm.findClass own = some m.cls) (hlink : (Cond.methodLink own index y).before args s = true) (hstat : (Cond.static y).before args s = true) (hinit : (Cond.initialized y.cls).before args s = true)
    (hcode : (Cond.code y bytes maxL ret).before args s = true) (hy : y.cls ≠ "java/lang/invoke/MethodHandle" ∧ y.cls ≠ "java/lang/invoke/VarHandle")
    {W9 : Nat} {Pre : Pt → Array Value → Prop} {Post : Pt → Array Value → Option Value → Pt → Prop} {PostX : Pt → Array Value → Addr → Pt → Prop} (hK : vx_Back l R p e below s args y 3 W9 Pre Post PostX)
    {g : JFrame} (hg : g.method = m) (hsize : g.locals.size = c.maxLocals) {argsL rest : List Value} (hlen : ∀ sig, parseMethodDescriptor y.desc = some sig → argsL.length = sig.parameters.length)
    (hstack : g.stack = argsL.reverse ++ rest) (hW : 2 * g.monitorRoom + (rest.map fun v => v.category).sum ≤ W9) (hdg : decode c.code g.pc = .ok (.invokestatic index, 3))
    (hpre : ∀ vm₁, s.WarmedH vm₁ → Pre ⟨T.setVm vm₁, locs, cells, slots⟩ argsL.toArray) :
    (∃ (v : Option Value) (vm₁ : Vm) (B : Pt), s.WarmedH vm₁ ∧ Stand p l e R s m args below meth c B.U B.locs B.cells B.slots ∧ Post ⟨T.setVm vm₁, locs, cells, slots⟩ argsL.toArray v B ∧
      ∀ target, Steps p.tables e below (B.U.setTop { g with pc := g.pc + 3, stack := v.toList ++ rest }) target → Steps p.tables e below (T.setTop g) target) ∨
    (∃ (q : Addr) (vm₁ : Vm) (B : Pt), s.WarmedH vm₁ ∧ Stand p l e R s m args below meth c B.U B.locs B.cells B.slots ∧ PostX ⟨T.setVm vm₁, locs, cells, slots⟩ argsL.toArray q B ∧
      Steps p.tables e below (T.setTop g) ((B.U.setTop { g with stack := rest }).pushFrame (.throwing q))) := by
  obtain ⟨mk, hnamed⟩ := Cond.code_named hcode
  obtain ⟨methM, cM, hmethM, -, -, -, -, -, -, hsigM⟩ := Cond.code_spec hnamed hcode
  have hstatic : methM.isStatic = true := Cond.static_spec hnamed hmethM hstat
  obtain ⟨kP, hkP, -⟩ := className_of_methodNamed hnamed
  have hinitP : kP.init = .initialized := Cond.initialized_spec (findClass_of_methodNamed hnamed) hkP hinit
  obtain ⟨vm₁, X₁, hstep₁⟩ := X.invokestatic hexec hown hlink hnamed hmethM hstatic hkP hinitP hy (g := g) hg (argsL := argsL) (rest := rest) (hlen _ hsigM) hstack hdg
  rcases hK m meth c ⟨T.setVm vm₁, locs, cells, slots⟩ { g with stack := rest } (.invokestatic index) mk argsL.toArray X₁ hg hsize hdg hW (X₁.named hnamed) (hpre vm₁ X₁.warmed) with ⟨v, B, X', hpost, hsteps⟩ | ⟨q, B, X', hpost, hsteps⟩
  · exact Or.inl ⟨v, vm₁, B, X₁.warmed, X', hpost, fun target h => hstep₁ _ fun acts => by rw [doInvoke_state]; exact hsteps.trans h⟩
  · exact Or.inr ⟨q, vm₁, B, X₁.warmed, X', hpost, hstep₁ _ fun acts => by rw [doInvoke_state]; exact hsteps⟩
end Calls
theorem vx_cls {s : State} {T : State} {vm₁ : Vm} {E : String} {k : ClassId} (hW : s.WarmedH vm₁) (h : (T.setVm vm₁).vm.findClass E = some k) : s.vm.findClass E = some k := by
  have h1 : vm₁.findClass E = some k := h
  rw [hW.alike.findClass] at h1
  exact h1
/-- the method's frame g, with q thrown over it -/
def vx_W (p : Program) (l : Launch) (e : Env) (R : Room) (s : State) (m : MethodId) (args : Array Value) (below : List Frame) (meth : Method) (c : Code) (H : Heap) (locs : List Loc) (cells slots : Nat) (Q : State → Prop) (g : JFrame) (q : Addr) : Prop :=
  ∀ T : State, T.heap = H → Stand p l e R s m args below meth c T locs cells slots → ∃ t, Steps p.tables e below ((T.setTop g).pushFrame (.throwing q)) t ∧ Q t
def vx_Run (p : Program) (l : Launch) (e : Env) (R : Room) (s : State) (m : MethodId) (args : Array Value) (below : List Frame) (meth : Method) (c : Code) (H : Heap) (locs : List Loc) (cells slots mc ms : Nat) (g : JFrame) (rest : List Value) (Qa : State → Outcome → State → Prop) (XC : String → State → State → Prop) (free : Addr → Prop) : Prop :=
  ∀ T : State, T.heap = H → Stand p l e R s m args below meth c T locs cells slots →
    (∃ (v : Option Value) (st₀ t T' : State) (L : List Loc), st₀.heap = H ∧ Stand p l e R s m args below meth c T' (locs ++ L) (cells + mc) (slots + ms) ∧ (∀ q ∈ L, free q.base) ∧ T'.heap = t.heap ∧ T'.vm = t.vm ∧ Qa st₀ (.returned v) t ∧
      Goes p e below T g T' { g with pc := g.pc + 3, stack := v.toList ++ rest }) ∨
    (∃ (q : Addr) (st₀ t T' : State) (L : List Loc) (E : String) (ce : Cell), st₀.heap = H ∧ Stand p l e R s m args below meth c T' (locs ++ L) (cells + mc) (slots + ms) ∧ (∀ z ∈ L, free z.base) ∧ T'.heap = t.heap ∧ T'.vm = t.vm ∧ XC E st₀ t ∧ t.heap[q]? = some ce ∧ ce.vm = .none ∧ s.vm.findClass E = some ce.cls ∧
      Steps p.tables e below (T.setTop g) ((T'.setTop { g with stack := rest }).pushFrame (.throwing q)))
def vx_X {S : Type} (px : S → Prop) (B : String → S → State → Prop) (A : Nat → Prop) : String → State → State → Prop := fun E st t => ∃ u : S, px u ∧ B E u t ∧ va_F A st t
section Runs
variable {p : Program} {l : Launch} {e : Env} {R : Room} {s : State} {m : MethodId} {args : Array Value} {below : List Frame} {meth : Method} {c : Code} {H : Heap} {locs : List Loc} {cells slots : Nat}
variable {y : MethodName} {bytes cc : ByteArray} {maxL nL mc ms n index : Nat} {ret : Option FieldType} {ws : List Cond} {rm : Room} {Pc : Array Value → State → Prop} {Qc : Array Value → State → Outcome → State → Prop} {XC : String → State → State → Prop} {free : Addr → Prop} {Ts : List Cond} {own C : String} {b : Addr} {As rest : List Value} {g : JFrame}
theorem vx_callBack (cb : CallB R s args own index y bytes maxL ret ws rm mc ms n) (hM : vx_Met l y ws rm Pc Qc XC mc ms free) (hbl : FrameBlind Pc) : vx_Back l R p e below s args y 3 8 (PreOf R mc ms Pc) (PostOf Qc mc ms free) (vx_Post XC mc ms free) := by
  obtain ⟨hrc, hrs, hfr, hlo, hws, hcw, -, hini, -⟩ := cb
  exact vx_back (bytes := bytes) (maxL := maxL) (ret := ret) hM hbl hrc hrs hfr hlo hws hcw (fun a' U hW => word_at hW (Or.inl (by first | rfl | simp [Cond.onTables, Cond.keeps, Cond.steady])) hini)
theorem vx_runV (S : CallFix p m c cc nL s args Ts own) (hM : vx_Met l y ws rm Pc Qc XC mc ms free) (cw : CallW R s args own C index y bytes maxL ret ws rm mc ms n) (hp : PreV s H C b Pc As)
    (hg : g.method = m) (hn : As.length = n) (hsize : g.locals.size = nL) (hstack : g.stack = As.reverse ++ .ref b :: rest) (hW : 2 * g.monitorRoom + (rest.map fun v => v.category).sum ≤ 8) (hdg : decode cc g.pc = .ok (.invokevirtual index, 3)) (hf : cells + mc ≤ R.cells ∧ slots + ms ≤ R.slots) :
    vx_Run p l e R s m args below meth c H locs cells slots mc ms g rest (Qc (Value.ref b :: As).toArray) XC free := by
  have hK : vx_Back l R p e below s args y 3 8 (PreOf R mc ms Pc) (PostOf Qc mc ms free) (vx_Post XC mc ms free) := vx_callBack cw.1 hM hp.1
  obtain ⟨⟨-, -, -, -, -, -, hcode, -, hy, hlen, hl⟩, hin, hse⟩ := cw
  obtain ⟨hx, hb, hml, ho, -⟩ := S
  obtain ⟨-, ⟨cellB, hcB, hoB, hclB⟩, hPc⟩ := hp
  intro T hT X
  rcases vx_callV X hx (C := C) (bytes := bytes) (maxL := maxL) (ret := ret) ho hl hin hse hcode hy hK (by rw [hT]; exact hcB) hoB hclB hg (hsize.trans hml.symm) (argsL := As) (rest := rest) (fun sig h => hn.trans (hlen sig h)) hstack hW (by rw [hb]; exact hdg)
    (fun vm₁ hW₁ => ⟨hf.1, hf.2, hPc (T.setVm vm₁) hT hW₁⟩) with ⟨v, vm₁, ⟨U', l2, c2, s2⟩, hW₁, X', ⟨g', mk, t, L, e1, e2, hq, h1, hL, h2, h3⟩, st⟩ | ⟨q, vm₁, ⟨U', l2, c2, s2⟩, hW₁, X', ⟨g', mk, t, L, E, ce, e1, e2, hq, hce, hcv, hcl, h1, hL, h2, h3⟩, st⟩
  · dsimp only [Pt.U, Pt.locs, Pt.cells, Pt.slots] at X' e1 e2 h1 h2 h3 st
    subst h1; subst h2; subst h3
    exact Or.inl ⟨v, (T.setVm vm₁).calling g' mk (Value.ref b :: As).toArray, t, U', L, hT, X', hL, e1, e2, hq, st⟩
  · dsimp only [Pt.U, Pt.locs, Pt.cells, Pt.slots] at X' e1 e2 h1 h2 h3 st hcl
    subst h1; subst h2; subst h3
    exact Or.inr ⟨q, (T.setVm vm₁).calling g' mk (Value.ref b :: As).toArray, t, U', L, E, ce, hT, X', hL, e1, e2, hq, hce, hcv, vx_cls hW₁ hcl, st⟩
theorem vx_runS (S : CallFix p m c cc nL s args Ts own) (hM : vx_Met l y ws rm Pc Qc XC mc ms free) (cw : CallB R s args own index y bytes maxL ret ws rm mc ms n ∧ (Cond.static y).before args s = true) (hp : PreS s H Pc As)
    (hg : g.method = m) (hn : As.length = n) (hsize : g.locals.size = nL) (hstack : g.stack = As.reverse ++ rest) (hW : 2 * g.monitorRoom + (rest.map fun v => v.category).sum ≤ 8) (hdg : decode cc g.pc = .ok (.invokestatic index, 3)) (hf : cells + mc ≤ R.cells ∧ slots + ms ≤ R.slots) :
    vx_Run p l e R s m args below meth c H locs cells slots mc ms g rest (Qc As.toArray) XC free := by
  have hK : vx_Back l R p e below s args y 3 8 (PreOf R mc ms Pc) (PostOf Qc mc ms free) (vx_Post XC mc ms free) := vx_callBack cw.1 hM hp.1
  obtain ⟨⟨-, -, -, -, -, -, hcode, hini, hy, hlen, hl⟩, hstt⟩ := cw
  obtain ⟨hx, hb, hml, ho, -⟩ := S
  intro T hT X
  rcases vx_callS X hx (bytes := bytes) (maxL := maxL) (ret := ret) ho hl hstt hini hcode hy hK hg (hsize.trans hml.symm) (argsL := As) (rest := rest) (fun sig h => hn.trans (hlen sig h)) hstack hW (by rw [hb]; exact hdg)
    (fun vm₁ hW₁ => ⟨hf.1, hf.2, hp.2 (T.setVm vm₁) hT hW₁⟩) with ⟨v, vm₁, ⟨U', l2, c2, s2⟩, hW₁, X', ⟨g', mk, t, L, e1, e2, hq, h1, hL, h2, h3⟩, st⟩ | ⟨q, vm₁, ⟨U', l2, c2, s2⟩, hW₁, X', ⟨g', mk, t, L, E, ce, e1, e2, hq, hce, hcv, hcl, h1, hL, h2, h3⟩, st⟩
  · dsimp only [Pt.U, Pt.locs, Pt.cells, Pt.slots] at X' e1 e2 h1 h2 h3 st
    subst h1; subst h2; subst h3
    exact Or.inl ⟨v, (T.setVm vm₁).calling g' mk As.toArray, t, U', L, hT, X', hL, e1, e2, hq, st⟩
  · dsimp only [Pt.U, Pt.locs, Pt.cells, Pt.slots] at X' e1 e2 h1 h2 h3 st hcl
    subst h1; subst h2; subst h3
    exact Or.inr ⟨q, (T.setVm vm₁).calling g' mk As.toArray, t, U', L, E, ce, hT, X', hL, e1, e2, hq, hce, hcv, vx_cls hW₁ hcl, st⟩
end Runs
section Rows
variable {p : Program} {l : Launch} {e : Env} {R : Room} {s : State} {m : MethodId} {args : Array Value} {below : List Frame} {meth : Method} {c : Code} {H : Heap} {locs : List Loc} {cells slots : Nat} {Q : State → Prop}
variable {mc ms : Nat} {free : Addr → Prop} {A0 A1 : Nat → Prop} {H0 : Heap} {a : Array Value} {pc : Nat} {ls : Array Slot} {st0 rest : List Value}
theorem vx_keep {st₀ t T' : State} {L : List Loc} (h0 : st₀.heap = H) (e1 : T'.heap = t.heap) (hS : va_S A0 H0 H locs) (hA : ∀ q, q < H.size → A1 q → A0 q) (hf : ∀ q, free q → A0 q) (hL : ∀ q ∈ L, free q.base) (hF : va_F A1 st₀ t) :
    H.size ≤ T'.heap.size ∧ (∀ q : Nat, q < H.size → ¬ A1 q → T'.heap[q]? = H[q]?) ∧ va_S A0 H0 T'.heap (locs ++ L) := by
  obtain ⟨hz, hk⟩ := hF
  rw [h0] at hz hk
  exact ⟨by rw [e1]; exact hz, fun q h1 h2 => by rw [e1]; exact hk q h1 h2,
    ⟨Nat.le_trans hS.1 (by rw [e1]; exact hz), fun q h1 h2 => by rw [e1, hk q (Nat.lt_of_lt_of_le h1 hS.1) (fun z => h2 (hA q (Nat.lt_of_lt_of_le h1 hS.1) z))]; exact hS.2.1 q h1 h2, fun q hq => by
      rcases List.mem_append.mp hq with h | h
      · exact hS.2.2 q h
      · exact hf _ (hL q h)⟩⟩
theorem vx_calli {S SX : Type} {post : Int32 → S → Prop} {px : SX → Prop} {B : S → State → Prop} {BX : String → SX → State → Prop} {AX : Nat → Prop} (hr : vx_Run p l e R s m args below meth c H locs cells slots mc ms (F0 m pc ls st0) rest (va_Qi post B A1 a) (vx_X px BX AX) free) (hS : va_S A0 H0 H locs) (hA : ∀ q, q < H.size → A1 q → A0 q) (hf : ∀ q, free q → A0 q) (hAX : ∀ q, q < H.size → AX q → A0 q)
    (kx : ∀ (E : String) (ce : Cell) (q9 : Addr) (u : SX) (t : State) (H1 : Heap) (locs1 : List Loc), t.heap = H1 → s.vm.Alike t.vm → px u → BX E u t → H.size ≤ H1.size → (∀ q : Nat, q < H.size → ¬ AX q → H1[q]? = H[q]?) → va_S A0 H0 H1 locs1 → H1[q9]? = some ce → ce.vm = .none → s.vm.findClass E = some ce.cls → vx_W p l e R s m args below meth c H1 locs1 (cells + mc) (slots + ms) Q (F0 m pc ls rest) q9)
    (kk : ∀ (r : Int32) (u : S) (t : State) (H1 : Heap) (locs1 : List Loc), t.heap = H1 → s.vm.Alike t.vm → post r u → B u t → H.size ≤ H1.size → (∀ q : Nat, q < H.size → ¬ A1 q → H1[q]? = H[q]?) → va_S A0 H0 H1 locs1 → W p l e R s m args below meth c H1 locs1 (cells + mc) (slots + ms) Q (F0 m (pc + 3) ls (.int r :: rest))) : W p l e R s m args below meth c H locs cells slots Q (F0 m pc ls st0) := by
  intro T hT X
  rcases hr T hT X with ⟨v, st₀, t, T', L, h0, X', hL, e1, e2, ⟨⟨r, u, hv, hp, hb⟩, hF⟩, st⟩ | ⟨q, st₀, t, T', L, E, ce, h0, X', hL, e1, e2, ⟨u, hp, hb, hF⟩, hce, hcv, hcl, st⟩
  · cases hv
    obtain ⟨k1, k2, k3⟩ := vx_keep h0 e1 hS hA hf hL hF
    obtain ⟨t2, a1, b1⟩ := kk r u t T'.heap (locs ++ L) e1.symm (by rw [← e2]; exact X'.warmed.alike) hp hb k1 k2 k3 T' rfl X'
    exact ⟨t2, st t2 a1, b1⟩
  · obtain ⟨k1, k2, k3⟩ := vx_keep h0 e1 hS hAX hf hL hF
    obtain ⟨t2, a1, b1⟩ := kx E ce q u t T'.heap (locs ++ L) e1.symm (by rw [← e2]; exact X'.warmed.alike) hp hb k1 k2 k3 (by rw [e1]; exact hce) hcv hcl T' rfl X'
    exact ⟨t2, st.trans a1, b1⟩
theorem vx_calll {S SX : Type} {post : Int64 → S → Prop} {px : SX → Prop} {B : S → State → Prop} {BX : String → SX → State → Prop} {AX : Nat → Prop} (hr : vx_Run p l e R s m args below meth c H locs cells slots mc ms (F0 m pc ls st0) rest (va_Ql post B A1 a) (vx_X px BX AX) free) (hS : va_S A0 H0 H locs) (hA : ∀ q, q < H.size → A1 q → A0 q) (hf : ∀ q, free q → A0 q) (hAX : ∀ q, q < H.size → AX q → A0 q)
    (kx : ∀ (E : String) (ce : Cell) (q9 : Addr) (u : SX) (t : State) (H1 : Heap) (locs1 : List Loc), t.heap = H1 → s.vm.Alike t.vm → px u → BX E u t → H.size ≤ H1.size → (∀ q : Nat, q < H.size → ¬ AX q → H1[q]? = H[q]?) → va_S A0 H0 H1 locs1 → H1[q9]? = some ce → ce.vm = .none → s.vm.findClass E = some ce.cls → vx_W p l e R s m args below meth c H1 locs1 (cells + mc) (slots + ms) Q (F0 m pc ls rest) q9)
    (kk : ∀ (r : Int64) (u : S) (t : State) (H1 : Heap) (locs1 : List Loc), t.heap = H1 → s.vm.Alike t.vm → post r u → B u t → H.size ≤ H1.size → (∀ q : Nat, q < H.size → ¬ A1 q → H1[q]? = H[q]?) → va_S A0 H0 H1 locs1 → W p l e R s m args below meth c H1 locs1 (cells + mc) (slots + ms) Q (F0 m (pc + 3) ls (.long r :: rest))) : W p l e R s m args below meth c H locs cells slots Q (F0 m pc ls st0) := by
  intro T hT X
  rcases hr T hT X with ⟨v, st₀, t, T', L, h0, X', hL, e1, e2, ⟨⟨r, u, hv, hp, hb⟩, hF⟩, st⟩ | ⟨q, st₀, t, T', L, E, ce, h0, X', hL, e1, e2, ⟨u, hp, hb, hF⟩, hce, hcv, hcl, st⟩
  · cases hv
    obtain ⟨k1, k2, k3⟩ := vx_keep h0 e1 hS hA hf hL hF
    obtain ⟨t2, a1, b1⟩ := kk r u t T'.heap (locs ++ L) e1.symm (by rw [← e2]; exact X'.warmed.alike) hp hb k1 k2 k3 T' rfl X'
    exact ⟨t2, st t2 a1, b1⟩
  · obtain ⟨k1, k2, k3⟩ := vx_keep h0 e1 hS hAX hf hL hF
    obtain ⟨t2, a1, b1⟩ := kx E ce q u t T'.heap (locs ++ L) e1.symm (by rw [← e2]; exact X'.warmed.alike) hp hb k1 k2 k3 (by rw [e1]; exact hce) hcv hcl T' rfl X'
    exact ⟨t2, st.trans a1, b1⟩
theorem vx_callf {S SX : Type} {post : UInt32 → S → Prop} {px : SX → Prop} {B : S → State → Prop} {BX : String → SX → State → Prop} {AX : Nat → Prop} (hr : vx_Run p l e R s m args below meth c H locs cells slots mc ms (F0 m pc ls st0) rest (va_Qf post B A1 a) (vx_X px BX AX) free) (hS : va_S A0 H0 H locs) (hA : ∀ q, q < H.size → A1 q → A0 q) (hf : ∀ q, free q → A0 q) (hAX : ∀ q, q < H.size → AX q → A0 q)
    (kx : ∀ (E : String) (ce : Cell) (q9 : Addr) (u : SX) (t : State) (H1 : Heap) (locs1 : List Loc), t.heap = H1 → s.vm.Alike t.vm → px u → BX E u t → H.size ≤ H1.size → (∀ q : Nat, q < H.size → ¬ AX q → H1[q]? = H[q]?) → va_S A0 H0 H1 locs1 → H1[q9]? = some ce → ce.vm = .none → s.vm.findClass E = some ce.cls → vx_W p l e R s m args below meth c H1 locs1 (cells + mc) (slots + ms) Q (F0 m pc ls rest) q9)
    (kk : ∀ (r : UInt32) (u : S) (t : State) (H1 : Heap) (locs1 : List Loc), t.heap = H1 → s.vm.Alike t.vm → post r u → B u t → H.size ≤ H1.size → (∀ q : Nat, q < H.size → ¬ A1 q → H1[q]? = H[q]?) → va_S A0 H0 H1 locs1 → W p l e R s m args below meth c H1 locs1 (cells + mc) (slots + ms) Q (F0 m (pc + 3) ls (.float r :: rest))) : W p l e R s m args below meth c H locs cells slots Q (F0 m pc ls st0) := by
  intro T hT X
  rcases hr T hT X with ⟨v, st₀, t, T', L, h0, X', hL, e1, e2, ⟨⟨r, u, hv, hp, hb⟩, hF⟩, st⟩ | ⟨q, st₀, t, T', L, E, ce, h0, X', hL, e1, e2, ⟨u, hp, hb, hF⟩, hce, hcv, hcl, st⟩
  · cases hv
    obtain ⟨k1, k2, k3⟩ := vx_keep h0 e1 hS hA hf hL hF
    obtain ⟨t2, a1, b1⟩ := kk r u t T'.heap (locs ++ L) e1.symm (by rw [← e2]; exact X'.warmed.alike) hp hb k1 k2 k3 T' rfl X'
    exact ⟨t2, st t2 a1, b1⟩
  · obtain ⟨k1, k2, k3⟩ := vx_keep h0 e1 hS hAX hf hL hF
    obtain ⟨t2, a1, b1⟩ := kx E ce q u t T'.heap (locs ++ L) e1.symm (by rw [← e2]; exact X'.warmed.alike) hp hb k1 k2 k3 (by rw [e1]; exact hce) hcv hcl T' rfl X'
    exact ⟨t2, st.trans a1, b1⟩
theorem vx_calld {S SX : Type} {post : UInt64 → S → Prop} {px : SX → Prop} {B : S → State → Prop} {BX : String → SX → State → Prop} {AX : Nat → Prop} (hr : vx_Run p l e R s m args below meth c H locs cells slots mc ms (F0 m pc ls st0) rest (va_Qd post B A1 a) (vx_X px BX AX) free) (hS : va_S A0 H0 H locs) (hA : ∀ q, q < H.size → A1 q → A0 q) (hf : ∀ q, free q → A0 q) (hAX : ∀ q, q < H.size → AX q → A0 q)
    (kx : ∀ (E : String) (ce : Cell) (q9 : Addr) (u : SX) (t : State) (H1 : Heap) (locs1 : List Loc), t.heap = H1 → s.vm.Alike t.vm → px u → BX E u t → H.size ≤ H1.size → (∀ q : Nat, q < H.size → ¬ AX q → H1[q]? = H[q]?) → va_S A0 H0 H1 locs1 → H1[q9]? = some ce → ce.vm = .none → s.vm.findClass E = some ce.cls → vx_W p l e R s m args below meth c H1 locs1 (cells + mc) (slots + ms) Q (F0 m pc ls rest) q9)
    (kk : ∀ (r : UInt64) (u : S) (t : State) (H1 : Heap) (locs1 : List Loc), t.heap = H1 → s.vm.Alike t.vm → post r u → B u t → H.size ≤ H1.size → (∀ q : Nat, q < H.size → ¬ A1 q → H1[q]? = H[q]?) → va_S A0 H0 H1 locs1 → W p l e R s m args below meth c H1 locs1 (cells + mc) (slots + ms) Q (F0 m (pc + 3) ls (.double r :: rest))) : W p l e R s m args below meth c H locs cells slots Q (F0 m pc ls st0) := by
  intro T hT X
  rcases hr T hT X with ⟨v, st₀, t, T', L, h0, X', hL, e1, e2, ⟨⟨r, u, hv, hp, hb⟩, hF⟩, st⟩ | ⟨q, st₀, t, T', L, E, ce, h0, X', hL, e1, e2, ⟨u, hp, hb, hF⟩, hce, hcv, hcl, st⟩
  · cases hv
    obtain ⟨k1, k2, k3⟩ := vx_keep h0 e1 hS hA hf hL hF
    obtain ⟨t2, a1, b1⟩ := kk r u t T'.heap (locs ++ L) e1.symm (by rw [← e2]; exact X'.warmed.alike) hp hb k1 k2 k3 T' rfl X'
    exact ⟨t2, st t2 a1, b1⟩
  · obtain ⟨k1, k2, k3⟩ := vx_keep h0 e1 hS hAX hf hL hF
    obtain ⟨t2, a1, b1⟩ := kx E ce q u t T'.heap (locs ++ L) e1.symm (by rw [← e2]; exact X'.warmed.alike) hp hb k1 k2 k3 (by rw [e1]; exact hce) hcv hcl T' rfl X'
    exact ⟨t2, st.trans a1, b1⟩
theorem vx_callv {S SX : Type} {post : S → Prop} {px : SX → Prop} {B : S → State → Prop} {BX : String → SX → State → Prop} {AX : Nat → Prop} (hr : vx_Run p l e R s m args below meth c H locs cells slots mc ms (F0 m pc ls st0) rest (va_Qv post B A1 a) (vx_X px BX AX) free) (hS : va_S A0 H0 H locs) (hA : ∀ q, q < H.size → A1 q → A0 q) (hf : ∀ q, free q → A0 q) (hAX : ∀ q, q < H.size → AX q → A0 q)
    (kx : ∀ (E : String) (ce : Cell) (q9 : Addr) (u : SX) (t : State) (H1 : Heap) (locs1 : List Loc), t.heap = H1 → s.vm.Alike t.vm → px u → BX E u t → H.size ≤ H1.size → (∀ q : Nat, q < H.size → ¬ AX q → H1[q]? = H[q]?) → va_S A0 H0 H1 locs1 → H1[q9]? = some ce → ce.vm = .none → s.vm.findClass E = some ce.cls → vx_W p l e R s m args below meth c H1 locs1 (cells + mc) (slots + ms) Q (F0 m pc ls rest) q9)
    (kk : ∀ (u : S) (t : State) (H1 : Heap) (locs1 : List Loc), t.heap = H1 → s.vm.Alike t.vm → post u → B u t → H.size ≤ H1.size → (∀ q : Nat, q < H.size → ¬ A1 q → H1[q]? = H[q]?) → va_S A0 H0 H1 locs1 → W p l e R s m args below meth c H1 locs1 (cells + mc) (slots + ms) Q (F0 m (pc + 3) ls (rest))) : W p l e R s m args below meth c H locs cells slots Q (F0 m pc ls st0) := by
  intro T hT X
  rcases hr T hT X with ⟨v, st₀, t, T', L, h0, X', hL, e1, e2, ⟨⟨u, hv, hp, hb⟩, hF⟩, st⟩ | ⟨q, st₀, t, T', L, E, ce, h0, X', hL, e1, e2, ⟨u, hp, hb, hF⟩, hce, hcv, hcl, st⟩
  · cases hv
    obtain ⟨k1, k2, k3⟩ := vx_keep h0 e1 hS hA hf hL hF
    obtain ⟨t2, a1, b1⟩ := kk u t T'.heap (locs ++ L) e1.symm (by rw [← e2]; exact X'.warmed.alike) hp hb k1 k2 k3 T' rfl X'
    exact ⟨t2, st t2 a1, b1⟩
  · obtain ⟨k1, k2, k3⟩ := vx_keep h0 e1 hS hAX hf hL hF
    obtain ⟨t2, a1, b1⟩ := kx E ce q u t T'.heap (locs ++ L) e1.symm (by rw [← e2]; exact X'.warmed.alike) hp hb k1 k2 k3 (by rw [e1]; exact hce) hcv hcl T' rfl X'
    exact ⟨t2, st.trans a1, b1⟩
end Rows
section Ends
variable {p : Program} {l : Launch} {e : Env} {R : Room} {s : State} {m : MethodId} {args : Array Value} {below : List Frame} {meth : Method} {c : Code} {H : Heap} {locs : List Loc} {cells slots : Nat} {Q : State → Prop}
variable {mc ms : Nat} {free : Addr → Prop} {A0 A1 : Nat → Prop} {H0 : Heap} {a : Array Value} {ls : Array Slot} {st0 rest : List Value}
variable {Qc : Array Value → State → Outcome → State → Prop} {XC : String → State → State → Prop}
/-- what a body that may throw owes at its end -/
def vx_MQ (below : List Frame) (Qc : Array Value → State → Outcome → State → Prop) (XC : String → State → State → Prop) (a : Array Value) (s : State) (mc ms : Nat) (free : Addr → Prop) : State → Prop := fun t =>
  ∃ o, t.status = .running ∧ Ended t below o ∧ vx_Q Qc XC mc ms free a s o t
theorem vx_ret {g : JFrame} {mc ms : Nat} (k : W p l e R s m args below meth c H locs cells slots (MQ below Qc args s mc ms free) g) : W p l e R s m args below meth c H locs cells slots (vx_MQ below Qc XC args s mc ms free) g := by
  intro T hT X
  obtain ⟨t, a1, o, b1, b2, b3, b4⟩ := k T hT X
  exact ⟨t, a1, o, b1, b2, Or.inl ⟨b3, b4⟩⟩
/-- not caught here: it goes on to the caller -/
theorem vx_widen {g : JFrame} {q : Addr} {k n : Nat} (h1 : cells ≤ k) (h2 : slots ≤ n) (kk : vx_W p l e R s m args below meth c H locs k n Q g q) : vx_W p l e R s m args below meth c H locs cells slots Q g q := fun T hT X => kk T hT (stand_widen X h1 h2)
theorem vx_out {pc : Nat} {E : String} {ce : Cell} {q : Addr} {mc ms : Nat} (hout : ∀ x ∈ c.exceptionTable.toList, covers x pc = false) (hlocks : meth.locks = false) (hcell : H[q]? = some ce) (hv : ce.vm = .none) (hcl : s.vm.findClass E = some ce.cls)
    (hx : ∀ t : State, t.heap = H → s.vm.Alike t.vm → XC E s t) (hf : ∀ z ∈ locs, free z.base) (hc : cells ≤ mc) (hs : slots ≤ ms) :
    vx_W p l e R s m args below meth c H locs cells slots (vx_MQ below Qc XC args s mc ms free) (F0 m pc ls rest) q := by
  intro T hT X
  obtain ⟨st1, hrun, hend, hW, hsm⟩ := X.leaveThrown q (g := F0 m pc ls rest) rfl rfl rfl hout hlocks
  have hcell9 : (T.setFrames (.throwing q :: below)).heap[q]? = some ce := by
    show T.heap[q]? = some ce
    rw [hT]; exact hcell
  exact ⟨_, st1, .threw q, hrun, hend, Or.inr ⟨q, rfl, E, ce, locs, hx _ hT hW.alike, hcell9, hv, hcl, hW, hsm.mono hc hs, hf⟩⟩
theorem vx_frame {U : State} {k n : Nat} (h : s.sameButNew ({ U with vm := s.vm } : State) locs k n) : s.heap.size ≤ U.heap.size ∧ ∀ q : Nat, q < s.heap.size → (∀ z ∈ locs, z.base ≠ q) → U.heap[q]? = s.heap[q]? := by
  obtain ⟨-, h2, -, -, -, h6⟩ := h
  refine ⟨h2, fun q hq hz => ?_⟩
  obtain ⟨c9, e1, e2, e3, e4⟩ := h6 q _ (Array.getElem?_eq_getElem hq)
  have hs : c9.slots = (s.heap[q]).slots := Array.ext_getElem? fun i => e4 i fun hm => hz _ hm rfl
  have h9 : c9 = s.heap[q] := by
    rw [hs] at e2
    exact e2
  have e5 : U.heap[q]? = some c9 := e1
  rw [e5, h9, Array.getElem?_eq_getElem hq]
/-- the words of a throw but the four that speak of the heap -/
def vx_no (w : Cond) : Bool := decide (w ≠ .isRef (.static Bundle.tN "UNASSIGNED_STACK" Bundle.steD)) && decide (w ≠ .isRef (.static Bundle.tN "SUPPRESSED_SENTINEL" Bundle.listD)) && decide (w ≠ .laysStatic Bundle.tN "UNASSIGNED_STACK" Bundle.steD) && decide (w ≠ .laysStatic Bundle.tN "SUPPRESSED_SENTINEL" Bundle.listD)
def vx_at0 (own : String) (ic : Nat) (X : String) (names : List String) : List Cond := (Bundle.ownAtoms0 own ic X names).filter vx_no
def vx_atS (own : String) (ic : Nat) (X : String) (names : List String) : List Cond := (Bundle.ownAtoms own ic X names).filter vx_no
/-- a word that the tables alone decide, or a good one -/
def vx_ot (w : Cond) : Bool := w.onTables || goodWord w
theorem vx_ot_at {args a' : Array Value} {s U : State} {w : Cond} (hW : s.WarmedH U.vm) (hvm : s.vm = U.vm) (hg : vx_ot w = true) (h : w.before args s = true) : w.before a' U = true := by
  simp only [vx_ot, Bool.or_eq_true] at hg
  rcases hg with hg | hg
  · exact va_tabs hg hvm h
  · exact word_at hW (good_of_word hg) h
/-- a list's words: the good ones out of the method's own list, the others by premises of their own -/
theorem vx_hat {args : Array Value} {s : State} {L B : List Cond} (h1 : ∀ w ∈ L.filter goodWord, w.before args s = true) (h2 : ∀ w ∈ L.filter (fun w => !goodWord w), w ∈ B) (h3 : ∀ w ∈ B, w.before args s = true) : ∀ w ∈ L, w.before args s = true := by
  intro w hw
  by_cases g : goodWord w = true
  · exact h1 w (List.mem_filter.mpr ⟨hw, g⟩)
  · refine h3 w (h2 w (List.mem_filter.mpr ⟨hw, ?_⟩))
    show (!goodWord w) = true
    cases hgw : goodWord w
    · rfl
    · exact absurd hgw g
theorem vx_c {args : Array Value} {s : State} {w : Cond} {B : List Cond} (h : w.before args s = true) (t : ∀ w ∈ B, w.before args s = true) : ∀ w' ∈ w :: B, w'.before args s = true := fun w' h' => (List.mem_cons.mp h').elim (fun e => by rw [e]; exact h) (t w')
theorem vx_n {args : Array Value} {s : State} : ∀ w ∈ ([] : List Cond), w.before args s = true := fun _ h => nomatch h
theorem vx_own {args : Array Value} {s : State} {L : List Cond} (h1 : ∀ w ∈ L.filter vx_no, w.before args s = true)
    (hU : (Cond.isRef (.static Bundle.tN "UNASSIGNED_STACK" Bundle.steD)).before args s = true) (hN : (Cond.isRef (.static Bundle.tN "SUPPRESSED_SENTINEL" Bundle.listD)).before args s = true)
    (lU : (Cond.laysStatic Bundle.tN "UNASSIGNED_STACK" Bundle.steD).before args s = true) (lN : (Cond.laysStatic Bundle.tN "SUPPRESSED_SENTINEL" Bundle.listD).before args s = true) : ∀ w ∈ L, w.before args s = true := by
  intro w hw
  by_cases e1 : w = .isRef (.static Bundle.tN "UNASSIGNED_STACK" Bundle.steD)
  · rw [e1]; exact hU
  · by_cases e2 : w = .isRef (.static Bundle.tN "SUPPRESSED_SENTINEL" Bundle.listD)
    · rw [e2]; exact hN
    · by_cases e3 : w = .laysStatic Bundle.tN "UNASSIGNED_STACK" Bundle.steD
      · rw [e3]; exact lU
      · by_cases e4 : w = .laysStatic Bundle.tN "SUPPRESSED_SENTINEL" Bundle.listD
        · rw [e4]; exact lN
        · exact h1 w (List.mem_filter.mpr ⟨hw, by unfold vx_no; rw [decide_eq_true e1, decide_eq_true e2, decide_eq_true e3, decide_eq_true e4]; rfl⟩)
/-- where a static field lies, its class's statics cell in H -/
def vx_L (C n d : String) (A : Nat → Prop) (U : State) (H : Heap) : Prop := ∃ (c : ClassId) (k : Class) (i : Nat) (f : Field) (a : Nat) (cell : Cell), U.vm.findClass C = some c ∧ U.fieldFound? C n d = some (c, k, i, f) ∧ f.isStatic = true ∧ k.statics = some a ∧ H[a]? = some cell ∧ cell.vm.isStatics = true ∧ cell.cls = c ∧ f.slot < cell.slots.size ∧ k.staticTypes[f.slot]? = some f.type ∧ ¬ A a
theorem vx_L.moved {C n d : String} {A : Nat → Prop} {u U : State} {H : Heap} (hvm : u.vm.Alike U.vm) (h : vx_L C n d A u H) : vx_L C n d A U H := by
  obtain ⟨c, k, i, f, a, cell, h1, h2, h3, h4, h5, h6, h7, h8, h9, h10⟩ := h
  obtain ⟨k', hi', he⟩ := State.fieldFound?_setVm hvm h2
  exact ⟨c, k', i, f, a, cell, by rw [hvm.findClass]; exact h1, hi', h3, by rw [he]; exact h4, h5, h6, h7, h8, by rw [he]; exact h9, h10⟩
theorem vx_L.kept {C n d : String} {A : Nat → Prop} {U : State} {H H1 : Heap} (h : vx_L C n d A U H) (hq : ∀ a : Nat, a < H.size → ¬ A a → H1[a]? = H[a]?) : vx_L C n d A U H1 := by
  obtain ⟨c, k, i, f, a, cell, h1, h2, h3, h4, h5, h6, h7, h8, h9, h10⟩ := h
  exact ⟨c, k, i, f, a, cell, h1, h2, h3, h4, by rw [hq a (Array.getElem?_eq_some_iff.mp h5).1 h10]; exact h5, h6, h7, h8, h9, h10⟩
theorem vx_L.narrow {C n d : String} {A B : Nat → Prop} {U : State} {H : Heap} (h : vx_L C n d A U H) (hAB : ∀ q, B q → A q) : vx_L C n d B U H := by
  obtain ⟨c, k, i, f, a, cell, h1, h2, h3, h4, h5, h6, h7, h8, h9, h10⟩ := h
  exact ⟨c, k, i, f, a, cell, h1, h2, h3, h4, h5, h6, h7, h8, h9, fun z => h10 (hAB _ z)⟩
theorem vx_L.word {C n d : String} {A : Nat → Prop} {s : State} {args : Array Value} (h : vx_L C n d A s s.heap) : (Cond.laysStatic C n d).before args s = true := by
  obtain ⟨c, k, i, f, a, cell, h1, h2, h3, h4, h5, h6, h7, h8, h9, -⟩ := h
  show (Cond.laysStatic C n d).holds args s none s [] = true
  exact Cond.laysStatic_of h1 h2 h3 h4 h5 h6 h7 h8 h9
/-- .. and what it holds: null or some reference -/
def vx_Zq (C n d : String) (A : Nat → Prop) (U : State) (H : Heap) : Prop := va_Zq C n d A U H ∧ vx_L C n d A U H
theorem vx_Zq.moved {C n d : String} {A : Nat → Prop} {u U : State} {H : Heap} (hvm : u.vm.Alike U.vm) (h : vx_Zq C n d A u H) : vx_Zq C n d A U H := ⟨va_Zq.moved hvm h.1, vx_L.moved hvm h.2⟩
theorem vx_Zq.kept {C n d : String} {A : Nat → Prop} {U : State} {H H1 : Heap} (h : vx_Zq C n d A U H) (hq : ∀ a : Nat, a < H.size → ¬ A a → H1[a]? = H[a]?) : vx_Zq C n d A U H1 := ⟨va_Zq.kept h.1 hq, vx_L.kept h.2 hq⟩
theorem vx_Zq.narrow {C n d : String} {A B : Nat → Prop} {U : State} {H : Heap} (h : vx_Zq C n d A U H) (hAB : ∀ q, B q → A q) : vx_Zq C n d B U H := ⟨va_Zq.narrow h.1 hAB, vx_L.narrow h.2 hAB⟩
theorem vx_Zqof {args : Array Value} {s : State} {C n d : String} {A : Nat → Prop} (hl : (Cond.laysStatic C n d).before args s = true) (hini : (Cond.initialized C).before args s = true) (h : (Cond.isRef (.static C n d)).before args s = true) (hA : ∀ a : Nat, a < s.heap.size → ¬ A a) : vx_Zq C n d A s s.heap := by
  refine ⟨va_Zqof hl hini h hA, ?_⟩
  obtain ⟨c, k, i, f, a, cell, h1, h2, h3, h4, h5, h6, h7, h8, h9⟩ := Cond.laysStatic_spec hl
  exact ⟨c, k, i, f, a, cell, h1, h2, h3, h4, h5, h6, h7, h8, h9, hA a (Array.getElem?_eq_some_iff.mp h5).1⟩
theorem vx_isRef {C n d : String} {v : Value} {A : Nat → Prop} {s : State} {args : Array Value} (h : va_Z C n d v A s s.heap) (hv : v.isRef = true) : (Cond.isRef (.static C n d)).before args s = true := by
  obtain ⟨cf, kf, fi, f, a, cell, h1, h2, h3, h4, h5, h6, h7, -⟩ := h
  have he : (Term.static C n d).eval args s none [] s = some v := by
    simp [Term.eval, State.fieldNamed?, h1, h2, h4, h5, h6, h7]
  simp only [Cond.before, Cond.holds, Cond.value, he]
  cases v <;> simp_all [Value.isRef]
theorem vx_isRefq {C n d : String} {A : Nat → Prop} {s : State} {args : Array Value} (h : va_Zq C n d A s s.heap) : (Cond.isRef (.static C n d)).before args s = true := by
  rcases h with h | ⟨t, h⟩
  · exact vx_isRef h rfl
  · exact vx_isRef h rfl
/-- the same frame, seen from here: as if the method were called anew in this heap -/
theorem vx_rebase {T : State} (X : Stand p l e R s m args below meth c T locs cells slots) {R' : Room} (hf : R'.frames ≤ R.frames) (hl : R'.locals ≤ R.locals) (hc : cells + R'.cells ≤ R.cells) (hs : slots + R'.slots ≤ R.slots) :
    Stand p l e R' ((T.setVm s.vm).setFrames (.invoking m args :: below)) m args below meth c T [] 0 0 := by
  have htop : (T.setVm s.vm).topJava?.isSome := X.here.top
  have hF : ((T.setVm s.vm).setFrames (.invoking m args :: below)).frames = .invoking m args :: below := State.frames_setFrames _ (State.cur_lt_of_top htop)
  obtain ⟨g₀, hg0⟩ := Option.isSome_iff_exists.mp htop
  obtain ⟨r, hr⟩ := State.topJava?_eq_some.mp hg0
  have hl9 : e.platform.stackLimits (T.setVm s.vm).me = e.platform.stackLimits s.me := X.limits
  have hb9 : (T.setVm s.vm).me.stackBytes = s.me.stackBytes := X.bytes
  refine ⟨X.admits, X.cas, X.clock, hF, ?_, X.hears, X.method, X.code, X.here, X.tail, X.warmed, ?_, ?_, ?_⟩
  · have h := X.room
    have hU : ((T.setVm s.vm).setFrames (.invoking m args :: below)).localsInUse = s.localsInUse := by
      rw [State.localsInUse_invoking hF (meth := meth) (c := c) X.method X.code, State.localsInUse_invoking X.frames X.method X.code]
    simp only [State.hasRoom, Bool.and_eq_true, decide_eq_true_eq] at h ⊢
    obtain ⟨⟨⟨⟨h1, h2, h3, h4, h5, h6⟩, h7⟩, h8⟩, h9⟩ := h
    rw [X.frames, List.length_cons] at h2 h3
    have q1 := X.heapSize
    have q2 := X.used
    simp only [hF, hU, List.length_cons, State.stackLimits_setFrames, State.stackBytes_setFrames, hl9, hb9]
    refine ⟨⟨⟨⟨by omega, by omega, by omega, by omega, by omega, h6⟩, ?_⟩, ?_⟩, X.book⟩
    · show T.heap.size + R'.cells ≤ e.platform.maxCells
      omega
    · show T.slotsUsed + R'.slots ≤ e.platform.maxSlots
      omega
  · rw [State.stackLimits_setFrames]; rfl
  · rw [State.stackBytes_setFrames]; rfl
  · refine ⟨?_, Nat.le_refl _, Nat.le_refl _, ?_, ?_, fun a c9 h9 => ⟨c9, h9, rfl, rfl, fun _ _ => rfl⟩⟩
    · obtain ⟨t, ht, -⟩ := State.frames_cons hr
      show T.setVm s.vm = { ((T.setVm s.vm).setFrames (.invoking m args :: below)).setFrames (T.setVm s.vm).frames with heap := T.heap, slotsUsed := T.slotsUsed }
      rw [State.setFrames_setFrames, State.setFrames_self ht]
      rfl
    · show T.slotsUsed = T.slotsUsed + ((T.heap.toList.drop T.heap.size).map (·.slots.size)).sum
      rw [List.drop_eq_nil_of_le (Nat.le_of_eq Array.length_toList)]
      rfl
    · show ((T.heap.toList.drop T.heap.size).map (·.slots.size)).sum ≤ 0
      rw [List.drop_eq_nil_of_le (Nat.le_of_eq Array.length_toList)]
      exact Nat.le_refl _
/-- 'throw new E()': new; dup; invokespecial; athrow -/
theorem vx_throw0 {cc : ByteArray} {pc : Nat} (hexec : p.tables.exec = Jvm.exec) (hb : c.code = cc) (hl : l.stackTraces = false) {own cls : String} {names : List String} {ik ic mc ms : Nat} {A : Nat → Prop}
    (hown : s.vm.findClass own = some m.cls) (hcls : Bundle.fit cls = true) (hnames : ∀ n ∈ names, Bundle.fit n = true)
    (hk : (Cond.classLink own ik cls).before args s = true) (hini : (Cond.initialized cls).before args s = true) (hat : ∀ w ∈ vx_at0 own ic cls names, w.before args s = true)
    (hgood : ∀ w ∈ Cond.classLink own ik cls :: Cond.initialized cls :: vx_at0 own ic cls names, vx_ot w = true)
    (hU : vx_Zq Bundle.tN "UNASSIGNED_STACK" Bundle.steD A s s.heap) (hN : vx_Zq Bundle.tN "SUPPRESSED_SENTINEL" Bundle.listD A s s.heap) (hS : va_S A s.heap H locs) (hsize : ls.size = c.maxLocals)
    (d0 : decode cc pc = .ok (.new ik, 3)) (d3 : decode cc (pc + 3) = .ok (.dup, 1)) (d4 : decode cc (pc + 4) = .ok (.invokespecial ic, 3)) (d7 : decode cc (pc + 7) = .ok (.athrow, 1))
    (hout : ∀ x ∈ c.exceptionTable.toList, covers x (pc + 7) = false)
    (hRframes : names.length + 3 < R.frames) (hRlocals : (rest.map fun v => v.category).sum + (13 * (names.length + 1) + 42) ≤ R.locals) (hRcells : cells + 1 ≤ R.cells) (hRslots : slots + 6 ≤ R.slots) (hlocks : meth.locks = false)
    (hx : ∀ t : State, s.vm.Alike t.vm → H.size ≤ t.heap.size → (∀ q : Nat, q < H.size → t.heap[q]? = H[q]?) → XC cls s t)
    (hf : ∀ z ∈ locs, free z.base) (hc : cells + 1 ≤ mc) (hs : slots + 6 ≤ ms) :
    W p l e R s m args below meth c H locs cells slots (vx_MQ below Qc XC args s mc ms free) (F0 m pc ls rest) := by
  intro T hT X
  have htr : e.platform.stackTraces = false := (show e.platform.stackTraces = l.stackTraces by rw [X.admits.platform]).trans hl
  have Y := vx_rebase X (R' := { frames := R.frames, locals := R.locals, cells := 1, slots := 6 }) (Nat.le_refl _) (Nat.le_refl _) hRcells hRslots
  obtain ⟨s', hA⟩ : ∃ z, z = (T.setVm s.vm).setFrames (.invoking m args :: below) := ⟨_, rfl⟩
  rw [← hA] at Y
  have hvm : s'.vm = s.vm := by rw [hA]; rfl
  have hhp : s'.heap = H := by rw [hA]; exact hT
  have hW0 : s.WarmedH s'.vm := by rw [hvm]; exact State.WarmedH.refl s
  have hat' : ∀ w ∈ vx_at0 own ic cls names, w.before args s' = true := fun w hw => vx_ot_at hW0 hvm.symm (hgood w (List.mem_cons_of_mem _ (List.mem_cons_of_mem _ hw))) (hat w hw)
  have hk' : (Cond.classLink own ik cls).before args s' = true := vx_ot_at hW0 hvm.symm (hgood _ List.mem_cons_self) hk
  have hini' : (Cond.initialized cls).before args s' = true := vx_ot_at hW0 hvm.symm (hgood _ (List.mem_cons_of_mem _ List.mem_cons_self)) hini
  have hU' : vx_Zq Bundle.tN "UNASSIGNED_STACK" Bundle.steD A s' s'.heap := by rw [hhp]; exact vx_Zq.moved hW0.alike (hU.kept hS.2.1)
  have hN' : vx_Zq Bundle.tN "SUPPRESSED_SENTINEL" Bundle.listD A s' s'.heap := by rw [hhp]; exact vx_Zq.moved hW0.alike (hN.kept hS.2.1)
  have h : ∀ w ∈ Bundle.ownAtoms0 own ic cls names, w.before args s' = true := vx_own hat' (vx_isRefq hU'.1) (vx_isRefq hN'.1) hU'.2.word hN'.2.word
  have hown' : s'.vm.findClass own = some m.cls := by rw [hvm]; exact hown
  have hins : (Cond.instantiable cls 6).before args s' = true := h _ (by simp [Bundle.ownAtoms0])
  obtain ⟨vm₁, cX, kX, hfX, hkX, -, -, X₁, st1⟩ := Y.newCold hexec (own := own) (C := cls) (index := ik) (n := 6) hown' hk' hins hini'
    (g := F0 m pc ls rest) rfl (by rw [hb]; exact d0) (Nat.le_refl _) (Nat.le_refl _)
  generalize hT1 : (T.setVm vm₁).pushCell { cls := cX, slots := kX.instanceTypes.map defaultValue, vm := .none } = T1 at X₁ st1
  have hcat : (Value.ref T.heap.size).category = 1 := rfl
  have hcellA : T1.heap[T.heap.size]? = some (freshCell cX kX) := by rw [← hT1]; exact State.heap_pushCell_size _ _
  have d3' : decode c.code (pc + 3) = .ok (.dup, 1) := by rw [hb]; exact d3
  obtain ⟨U, hsteps, hrun, hend, hW, hsame, ce, hce, hO⟩ := X₁.ctorThrow0 hexec htr (own := own) (cls := cls) (names := names) (ic := ic) hown' hcls hnames h (fun x hx => nomatch hx) hfX hkX hcellA (by rw [hhp, hT]; exact Nat.le_refl _)
    (g := { method := m, pc := pc + 4, locals := ls, stack := .ref T.heap.size :: .ref T.heap.size :: rest, locked := none }) rfl hsize rfl rfl (rest := rest) rfl
    (by rw [hb]; exact d4) (by rw [hb]; exact d7) hout hRframes (by simp only [List.map_cons, List.sum_cons, hcat]; omega) hlocks
  obtain ⟨f1, f2⟩ := vx_frame hsame
  rw [hhp] at f1 f2
  have hWs : s.WarmedH U.vm := State.WarmedH.trans hW0 hW
  have hcl : s.vm.findClass cls = some ce.cls := by
    have h9 := hO.cls
    rw [hvm] at h9
    exact h9
  have hall : s.sameButNew ({ U with vm := s.vm } : State) locs mc ms := by
    subst hA
    obtain ⟨e1, e2⟩ := hsame
    rw [State.setFrames_setFrames] at e1
    have h2 : (T.setVm s.vm).sameButNew ({ U with vm := s.vm } : State) [] (0 + 1) (0 + 6) := ⟨e1, e2⟩
    have h3 := X.same.trans h2
    rw [List.append_nil] at h3
    exact h3.mono hc hs
  refine ⟨U, ?_, .threw T.heap.size, hrun, hend, Or.inr ⟨T.heap.size, rfl, cls, ce, locs, hx U hWs.alike f1 (fun q hq => f2 q hq (fun z hz => nomatch hz)), hce, hO.vm, hcl, hWs, hall, hf⟩⟩
  refine st1 _ ?_
  show Steps p.tables e below (T1.setTop { method := m, pc := pc + 3, locals := ls, stack := .ref T.heap.size :: rest, locked := none }) _
  jvm_step X₁.here [X₁.here.top, hexec, d3', Value.category]
  exact hsteps
/-- 'throw new E("text")': new; dup; ldc; invokespecial; athrow -/
theorem vx_throwS {cc : ByteArray} {pc : Nat} (hexec : p.tables.exec = Jvm.exec) (hb : c.code = cc) (hl : l.stackTraces = false) {own cls text : String} {names : List String} {ik is ic mc ms sa : Nat} {A : Nat → Prop}
    (hown : s.vm.findClass own = some m.cls) (hcls : Bundle.fit cls = true) (hnames : ∀ n ∈ names, Bundle.fit n = true)
    (hk : (Cond.classLink own ik cls).before args s = true) (hini : (Cond.initialized cls).before args s = true) (hstr : vk_R own is text sa s) (hat : ∀ w ∈ vx_atS own ic cls names, w.before args s = true)
    (hgood : ∀ w ∈ Cond.classLink own ik cls :: Cond.initialized cls :: vx_atS own ic cls names, vx_ot w = true)
    (hU : vx_Zq Bundle.tN "UNASSIGNED_STACK" Bundle.steD A s s.heap) (hN : vx_Zq Bundle.tN "SUPPRESSED_SENTINEL" Bundle.listD A s s.heap) (hS : va_S A s.heap H locs) (hsize : ls.size = c.maxLocals)
    (d0 : decode cc pc = .ok (.new ik, 3)) (d3 : decode cc (pc + 3) = .ok (.dup, 1)) (d4 : decode cc (pc + 4) = .ok (.ldc is, 2)) (d6 : decode cc (pc + 6) = .ok (.invokespecial ic, 3)) (d9 : decode cc (pc + 9) = .ok (.athrow, 1))
    (hout : ∀ x ∈ c.exceptionTable.toList, covers x (pc + 9) = false)
    (hRframes : names.length + 3 < R.frames) (hRlocals : (rest.map fun v => v.category).sum + (13 * (names.length + 1) + 43) ≤ R.locals) (hRcells : cells + 1 ≤ R.cells) (hRslots : slots + 6 ≤ R.slots) (hlocks : meth.locks = false)
    (hx : ∀ t : State, s.vm.Alike t.vm → H.size ≤ t.heap.size → (∀ q : Nat, q < H.size → t.heap[q]? = H[q]?) → XC cls s t)
    (hf : ∀ z ∈ locs, free z.base) (hc : cells + 1 ≤ mc) (hs : slots + 6 ≤ ms) :
    W p l e R s m args below meth c H locs cells slots (vx_MQ below Qc XC args s mc ms free) (F0 m pc ls rest) := by
  intro T hT X
  have htr : e.platform.stackTraces = false := (show e.platform.stackTraces = l.stackTraces by rw [X.admits.platform]).trans hl
  have Y := vx_rebase X (R' := { frames := R.frames, locals := R.locals, cells := 1, slots := 6 }) (Nat.le_refl _) (Nat.le_refl _) hRcells hRslots
  obtain ⟨s', hA⟩ : ∃ z, z = (T.setVm s.vm).setFrames (.invoking m args :: below) := ⟨_, rfl⟩
  rw [← hA] at Y
  have hvm : s'.vm = s.vm := by rw [hA]; rfl
  have hhp : s'.heap = H := by rw [hA]; exact hT
  have hW0 : s.WarmedH s'.vm := by rw [hvm]; exact State.WarmedH.refl s
  have hat' : ∀ w ∈ vx_atS own ic cls names, w.before args s' = true := fun w hw => vx_ot_at hW0 hvm.symm (hgood w (List.mem_cons_of_mem _ (List.mem_cons_of_mem _ hw))) (hat w hw)
  have hk' : (Cond.classLink own ik cls).before args s' = true := vx_ot_at hW0 hvm.symm (hgood _ List.mem_cons_self) hk
  have hini' : (Cond.initialized cls).before args s' = true := vx_ot_at hW0 hvm.symm (hgood _ (List.mem_cons_of_mem _ List.mem_cons_self)) hini
  have hU' : vx_Zq Bundle.tN "UNASSIGNED_STACK" Bundle.steD A s' s'.heap := by rw [hhp]; exact vx_Zq.moved hW0.alike (hU.kept hS.2.1)
  have hN' : vx_Zq Bundle.tN "SUPPRESSED_SENTINEL" Bundle.listD A s' s'.heap := by rw [hhp]; exact vx_Zq.moved hW0.alike (hN.kept hS.2.1)
  have h : ∀ w ∈ Bundle.ownAtoms own ic cls names, w.before args s' = true := vx_own hat' (vx_isRefq hU'.1) (vx_isRefq hN'.1) hU'.2.word hN'.2.word
  have hown' : s'.vm.findClass own = some m.cls := by rw [hvm]; exact hown
  have hins : (Cond.instantiable cls 6).before args s' = true := h _ (by simp [Bundle.ownAtoms])
  obtain ⟨vm₁, cX, kX, hfX, hkX, -, -, X₁, st1⟩ := Y.newCold hexec (own := own) (C := cls) (index := ik) (n := 6) hown' hk' hins hini'
    (g := F0 m pc ls rest) rfl (by rw [hb]; exact d0) (Nat.le_refl _) (Nat.le_refl _)
  generalize hT1 : (T.setVm vm₁).pushCell { cls := cX, slots := kX.instanceTypes.map defaultValue, vm := .none } = T1 at X₁ st1
  have hcat : (Value.ref T.heap.size).category = 1 := rfl
  have hcellA : T1.heap[T.heap.size]? = some (freshCell cX kX) := by rw [← hT1]; exact State.heap_pushCell_size _ _
  have d3' : decode c.code (pc + 3) = .ok (.dup, 1) := by rw [hb]; exact d3
  have d4' : decode c.code (pc + 4) = .ok (.ldc is, 2) := by rw [hb]; exact d4
  have hstr' : vk_R own is text sa s' := vk_R.warm hW0 hstr
  obtain ⟨U, hsteps, hrun, hend, hW, hsame, ce, hce, hO⟩ := X₁.ctorThrowS hexec htr (own := own) (cls := cls) (names := names) (ic := ic) hown' hcls hnames h (fun x hx => nomatch hx) hfX hkX hcellA (by rw [hhp, hT]; exact Nat.le_refl _) (msg := .ref sa) rfl
    (g := { method := m, pc := pc + 6, locals := ls, stack := .ref sa :: .ref T.heap.size :: .ref T.heap.size :: rest, locked := none }) rfl hsize rfl rfl (rest := rest) rfl
    (by rw [hb]; exact d6) (by rw [hb]; exact d9) hout hRframes (by simp only [List.map_cons, List.sum_cons, hcat]; omega) hlocks
  obtain ⟨f1, f2⟩ := vx_frame hsame
  rw [hhp] at f1 f2
  have hWs : s.WarmedH U.vm := State.WarmedH.trans hW0 hW
  have hcl : s.vm.findClass cls = some ce.cls := by
    have h9 := hO.cls
    rw [hvm] at h9
    exact h9
  have hall : s.sameButNew ({ U with vm := s.vm } : State) locs mc ms := by
    subst hA
    obtain ⟨e1, e2⟩ := hsame
    rw [State.setFrames_setFrames] at e1
    have h2 : (T.setVm s.vm).sameButNew ({ U with vm := s.vm } : State) [] (0 + 1) (0 + 6) := ⟨e1, e2⟩
    have h3 := X.same.trans h2
    rw [List.append_nil] at h3
    exact h3.mono hc hs
  refine ⟨U, ?_, .threw T.heap.size, hrun, hend, Or.inr ⟨T.heap.size, rfl, cls, ce, locs, hx U hWs.alike f1 (fun q hq => f2 q hq (fun z hz => nomatch hz)), hce, hO.vm, hcl, hWs, hall, hf⟩⟩
  refine st1 _ ?_
  show Steps p.tables e below (T1.setTop { method := m, pc := pc + 3, locals := ls, stack := .ref T.heap.size :: rest, locked := none }) _
  jvm_step X₁.here [X₁.here.top, hexec, d3', Value.category]
  exact X₁.ldcString hexec (own := own) (text := text) (index := is) (a := sa) hown' hstr'.1 hstr'.2
    (g := { method := m, pc := pc + 4, locals := ls, stack := .ref T.heap.size :: .ref T.heap.size :: rest, locked := none }) rfl d4' _ hsteps
/-- 'throw new E("text")', the text by a wide index -/
theorem vx_throwSW {cc : ByteArray} {pc : Nat} (hexec : p.tables.exec = Jvm.exec) (hb : c.code = cc) (hl : l.stackTraces = false) {own cls text : String} {names : List String} {ik is ic mc ms sa : Nat} {A : Nat → Prop}
    (hown : s.vm.findClass own = some m.cls) (hcls : Bundle.fit cls = true) (hnames : ∀ n ∈ names, Bundle.fit n = true)
    (hk : (Cond.classLink own ik cls).before args s = true) (hini : (Cond.initialized cls).before args s = true) (hstr : vk_R own is text sa s) (hat : ∀ w ∈ vx_atS own ic cls names, w.before args s = true)
    (hgood : ∀ w ∈ Cond.classLink own ik cls :: Cond.initialized cls :: vx_atS own ic cls names, vx_ot w = true)
    (hU : vx_Zq Bundle.tN "UNASSIGNED_STACK" Bundle.steD A s s.heap) (hN : vx_Zq Bundle.tN "SUPPRESSED_SENTINEL" Bundle.listD A s s.heap) (hS : va_S A s.heap H locs) (hsize : ls.size = c.maxLocals)
    (d0 : decode cc pc = .ok (.new ik, 3)) (d3 : decode cc (pc + 3) = .ok (.dup, 1)) (d4 : decode cc (pc + 4) = .ok (.ldc_w is, 3)) (d7 : decode cc (pc + 7) = .ok (.invokespecial ic, 3)) (d10 : decode cc (pc + 10) = .ok (.athrow, 1))
    (hout : ∀ x ∈ c.exceptionTable.toList, covers x (pc + 10) = false)
    (hRframes : names.length + 3 < R.frames) (hRlocals : (rest.map fun v => v.category).sum + (13 * (names.length + 1) + 43) ≤ R.locals) (hRcells : cells + 1 ≤ R.cells) (hRslots : slots + 6 ≤ R.slots) (hlocks : meth.locks = false)
    (hx : ∀ t : State, s.vm.Alike t.vm → H.size ≤ t.heap.size → (∀ q : Nat, q < H.size → t.heap[q]? = H[q]?) → XC cls s t)
    (hf : ∀ z ∈ locs, free z.base) (hc : cells + 1 ≤ mc) (hs : slots + 6 ≤ ms) :
    W p l e R s m args below meth c H locs cells slots (vx_MQ below Qc XC args s mc ms free) (F0 m pc ls rest) := by
  intro T hT X
  have htr : e.platform.stackTraces = false := (show e.platform.stackTraces = l.stackTraces by rw [X.admits.platform]).trans hl
  have Y := vx_rebase X (R' := { frames := R.frames, locals := R.locals, cells := 1, slots := 6 }) (Nat.le_refl _) (Nat.le_refl _) hRcells hRslots
  obtain ⟨s', hA⟩ : ∃ z, z = (T.setVm s.vm).setFrames (.invoking m args :: below) := ⟨_, rfl⟩
  rw [← hA] at Y
  have hvm : s'.vm = s.vm := by rw [hA]; rfl
  have hhp : s'.heap = H := by rw [hA]; exact hT
  have hW0 : s.WarmedH s'.vm := by rw [hvm]; exact State.WarmedH.refl s
  have hat' : ∀ w ∈ vx_atS own ic cls names, w.before args s' = true := fun w hw => vx_ot_at hW0 hvm.symm (hgood w (List.mem_cons_of_mem _ (List.mem_cons_of_mem _ hw))) (hat w hw)
  have hk' : (Cond.classLink own ik cls).before args s' = true := vx_ot_at hW0 hvm.symm (hgood _ List.mem_cons_self) hk
  have hini' : (Cond.initialized cls).before args s' = true := vx_ot_at hW0 hvm.symm (hgood _ (List.mem_cons_of_mem _ List.mem_cons_self)) hini
  have hU' : vx_Zq Bundle.tN "UNASSIGNED_STACK" Bundle.steD A s' s'.heap := by rw [hhp]; exact vx_Zq.moved hW0.alike (hU.kept hS.2.1)
  have hN' : vx_Zq Bundle.tN "SUPPRESSED_SENTINEL" Bundle.listD A s' s'.heap := by rw [hhp]; exact vx_Zq.moved hW0.alike (hN.kept hS.2.1)
  have h : ∀ w ∈ Bundle.ownAtoms own ic cls names, w.before args s' = true := vx_own hat' (vx_isRefq hU'.1) (vx_isRefq hN'.1) hU'.2.word hN'.2.word
  have hown' : s'.vm.findClass own = some m.cls := by rw [hvm]; exact hown
  have hins : (Cond.instantiable cls 6).before args s' = true := h _ (by simp [Bundle.ownAtoms])
  obtain ⟨vm₁, cX, kX, hfX, hkX, -, -, X₁, st1⟩ := Y.newCold hexec (own := own) (C := cls) (index := ik) (n := 6) hown' hk' hins hini'
    (g := F0 m pc ls rest) rfl (by rw [hb]; exact d0) (Nat.le_refl _) (Nat.le_refl _)
  generalize hT1 : (T.setVm vm₁).pushCell { cls := cX, slots := kX.instanceTypes.map defaultValue, vm := .none } = T1 at X₁ st1
  have hcat : (Value.ref T.heap.size).category = 1 := rfl
  have hcellA : T1.heap[T.heap.size]? = some (freshCell cX kX) := by rw [← hT1]; exact State.heap_pushCell_size _ _
  have d3' : decode c.code (pc + 3) = .ok (.dup, 1) := by rw [hb]; exact d3
  have d4' : decode c.code (pc + 4) = .ok (.ldc_w is, 3) := by rw [hb]; exact d4
  have hstr' : vk_R own is text sa s' := vk_R.warm hW0 hstr
  obtain ⟨U, hsteps, hrun, hend, hW, hsame, ce, hce, hO⟩ := X₁.ctorThrowS hexec htr (own := own) (cls := cls) (names := names) (ic := ic) hown' hcls hnames h (fun x hx => nomatch hx) hfX hkX hcellA (by rw [hhp, hT]; exact Nat.le_refl _) (msg := .ref sa) rfl
    (g := { method := m, pc := pc + 7, locals := ls, stack := .ref sa :: .ref T.heap.size :: .ref T.heap.size :: rest, locked := none }) rfl hsize rfl rfl (rest := rest) rfl
    (by rw [hb]; exact d7) (by rw [hb]; exact d10) hout hRframes (by simp only [List.map_cons, List.sum_cons, hcat]; omega) hlocks
  obtain ⟨f1, f2⟩ := vx_frame hsame
  rw [hhp] at f1 f2
  have hWs : s.WarmedH U.vm := State.WarmedH.trans hW0 hW
  have hcl : s.vm.findClass cls = some ce.cls := by
    have h9 := hO.cls
    rw [hvm] at h9
    exact h9
  have hall : s.sameButNew ({ U with vm := s.vm } : State) locs mc ms := by
    subst hA
    obtain ⟨e1, e2⟩ := hsame
    rw [State.setFrames_setFrames] at e1
    have h2 : (T.setVm s.vm).sameButNew ({ U with vm := s.vm } : State) [] (0 + 1) (0 + 6) := ⟨e1, e2⟩
    have h3 := X.same.trans h2
    rw [List.append_nil] at h3
    exact h3.mono hc hs
  refine ⟨U, ?_, .threw T.heap.size, hrun, hend, Or.inr ⟨T.heap.size, rfl, cls, ce, locs, hx U hWs.alike f1 (fun q hq => f2 q hq (fun z hz => nomatch hz)), hce, hO.vm, hcl, hWs, hall, hf⟩⟩
  refine st1 _ ?_
  show Steps p.tables e below (T1.setTop { method := m, pc := pc + 3, locals := ls, stack := .ref T.heap.size :: rest, locked := none }) _
  jvm_step X₁.here [X₁.here.top, hexec, d3', Value.category]
  exact X₁.ldcStringW hexec (own := own) (text := text) (index := is) (a := sa) hown' hstr'.1 hstr'.2
    (g := { method := m, pc := pc + 4, locals := ls, stack := .ref T.heap.size :: .ref T.heap.size :: rest, locked := none }) rfl d4' _ hsteps
end Ends
section Bodies
variable {l : Launch}
theorem vx_ofW {y : MethodName} {ws ws' : List Cond} {rm : Room} {Pc : Array Value → State → Prop} {Qc : Array Value → State → Outcome → State → Prop} {XC : String → State → State → Prop} {mc ms : Nat} {free : Addr → Prop} {cc : ByteArray} {maxL : Nat} {ret : Option FieldType}
    (hy : plainName y.cls = true) (hw : ws = Cond.code y cc maxL ret :: ws')
    (body : ∀ p e s m args below meth c s₁, BodyLoose p l y (headSpec ws rm) cc maxL ret e s m args below meth c s₁ → c.maxLocals = maxL → (∀ x ∈ c.exceptionTable.toList, False) → Pc args s →
      W p l e (headSpec ws rm).room s m args below meth c s.heap [] 0 0 (vx_MQ below Qc XC args s mc ms free) (entryFrame m args maxL)) : vx_Met l y ws rm Pc Qc XC mc ms free := by
  refine MetFree.of_bodyS (code := cc) (maxLocals := maxL) (ret := ret) hy ?_ ?_
  · intro args s m h hn
    obtain ⟨meth, c, h1, h2, h3, h4, h5, h6, -, -⟩ := Cond.code_spec hn (atoms_spec (ws := ws) h _ (by rw [hw]; exact List.mem_cons_self))
    exact ⟨meth, c, h1, h2, h3, h4, h5, h6⟩
  · intro p e s m args below meth c s₁ B hml hP _
    have hh0 : s₁.heap = s.heap := by rw [B.state]; rfl
    have ht : ∀ x ∈ c.exceptionTable.toList, False := by
      obtain ⟨meth9, c9, h1, h2, -, -, -, -, h7, -⟩ := Cond.code_spec B.named (atoms_spec (ws := ws) B.pre _ (by rw [hw]; exact List.mem_cons_self))
      cases Option.some.inj (h1.symm.trans B.method)
      cases Option.some.inj (h2.symm.trans (Stand.of_body B).code)
      intro x hx
      rw [Array.isEmpty_iff.mp h7] at hx
      cases hx
    obtain ⟨t, a1, o, b1, b2, b3⟩ := body p e s m args below meth c s₁ B hml ht hP s₁ hh0 (Stand.of_body B)
    exact ⟨t, o, a1, b1, b2, b3⟩
/-- the table of a body with handlers -/
theorem vx_table {p : Program} {x y : MethodName} {S : Spec} {cc bytes : ByteArray} {maxL maxL' : Nat} {ret ret' : Option FieldType} {e : Env} {s s₁ : State} {m : MethodId} {args : Array Value} {below : List Frame} {meth : Method} {c : Code} {hh : List (Nat × Nat × Nat × Nat)}
    (B : BodyLoose p l y S cc maxL ret e s m args below meth c s₁) (h : (Cond.codeWith y bytes maxL' ret' hh).before args s = true) : c.exceptionTable.toList = tableOf hh := by
  obtain ⟨m9, meth9, c9, hn9, h1, h2, -, -, h6, -⟩ := Cond.codeWith_spec h
  cases Option.some.inj (hn9.symm.trans B.named)
  cases Option.some.inj (h1.symm.trans B.method)
  cases Option.some.inj (h2.symm.trans (Stand.of_body B).code)
  rw [← h6, table_eq]
end Bodies
end VXA
/-! ===== END ===== -/
/-! ===== BEGIN a static call of a method with an exception table ===== -/
section VXS
variable {p : Program} {l : Launch} {e : Env} {R : Room} {s : State} {m : MethodId} {args : Array Value} {below : List Frame} {meth : Method} {c : Code} {T : State} {H : Heap} {locs : List Loc} {cells slots : Nat}
abbrev vx_CSW (R : Room) (s : State) (args : Array Value) (own : String) (index : Nat) (y : MethodName) (bytes : ByteArray) (maxL : Nat) (ret : Option FieldType) (hh : List (Nat × Nat × Nat × Nat)) (ws : List Cond) (rm : Room) (mc ms n : Nat) : Prop :=
  (rm.cells = mc ∧ rm.slots = ms ∧ rm.frames + 1 ≤ R.frames ∧ 8 + (maxL + 11) + rm.locals ≤ R.locals ∧ (∀ w ∈ ws, ∀ (a' : Array Value) (U : State), s.WarmedH U.vm → w.before a' U = true) ∧ Cond.codeWith y bytes maxL ret hh ∈ ws) ∧
  (Cond.codeWith y bytes maxL ret hh).before args s = true ∧ (Cond.initialized y.cls).before args s = true ∧ (y.cls ≠ "java/lang/invoke/MethodHandle" ∧ y.cls ≠ "java/lang/invoke/VarHandle") ∧
  (∀ sig, parseMethodDescriptor y.desc = some sig → n = sig.parameters.length) ∧ (Cond.methodLink own index y).before args s = true ∧ (Cond.static y).before args s = true
theorem vx_cwSW {own : String} {index maxL mc ms : Nat} {y : MethodName} {bytes : ByteArray} {ret : Option FieldType} {hh : List (Nat × Nat × Nat × Nat)} {Ts ws ws' : List Cond} {rm : Room} (n : Nat) (ht : ∀ w ∈ Ts, w.before args s = true) (hT : GoodIn Ts (va_wsS own index y ws)) (hw : ws = Cond.codeWith y bytes maxL ret hh :: ws') (hrc : rm.cells = mc) (hrs : rm.slots = ms)
    (hd : y.cls ≠ "java/lang/invoke/MethodHandle" ∧ y.cls ≠ "java/lang/invoke/VarHandle" ∧ (parseMethodDescriptor y.desc).map (fun d => d.parameters.length) = some n) (hR : rm.frames + 1 ≤ R.frames ∧ 8 + (maxL + 11) + rm.locals ≤ R.locals) :
    vx_CSW R s args own index y bytes maxL ret hh ws rm mc ms n := by
  have ok : ∀ w ∈ va_wsS own index y ws, w.before args s = true := fun w h => ht w (hT w h).1
  have hG : GoodIn Ts ws := fun w h => hT w (by unfold va_wsS; exact List.mem_append_right _ h)
  have hc : Cond.codeWith y bytes maxL ret hh ∈ ws := by rw [hw]; exact List.mem_cons_self
  refine ⟨⟨hrc, hrs, hR.1, hR.2, pay_in ht hG, hc⟩, ht _ (hG _ hc).1, ok _ (by simp [va_wsS]), ⟨hd.1, hd.2.1⟩, fun sig h => ?_, ok _ (by simp [va_wsS]), ok _ (by simp [va_wsS])⟩
  have h2 := hd.2.2
  rw [h] at h2
  exact (Option.some.inj h2).symm
theorem vx_callSW (X : Stand p l e R s m args below meth c T locs cells slots) (hexec : p.tables.exec = Jvm.exec) {own : String} {index : Nat} {y : MethodName} {bytes : ByteArray} {maxL : Nat} {ret : Option FieldType} {hh : List (Nat × Nat × Nat × Nat)}
    (hown : s.vm.findClass own = some m.cls) (hlink : (Cond.methodLink own index y).before args s = true) (hstat : (Cond.static y).before args s = true) (hinit : (Cond.initialized y.cls).before args s = true)
    (hcode : (Cond.codeWith y bytes maxL ret hh).before args s = true) (hy : y.cls ≠ "java/lang/invoke/MethodHandle" ∧ y.cls ≠ "java/lang/invoke/VarHandle")
    {W9 : Nat} {Pre : Pt → Array Value → Prop} {Post : Pt → Array Value → Option Value → Pt → Prop} (hK : Back l R p e below s args y 3 W9 Pre Post)
    {g : JFrame} (hg : g.method = m) (hsize : g.locals.size = c.maxLocals) {argsL rest : List Value} (hlen : ∀ sig, parseMethodDescriptor y.desc = some sig → argsL.length = sig.parameters.length)
    (hstack : g.stack = argsL.reverse ++ rest) (hW : 2 * g.monitorRoom + (rest.map fun v => v.category).sum ≤ W9) (hdg : decode c.code g.pc = .ok (.invokestatic index, 3))
    (hpre : ∀ vm₁, s.WarmedH vm₁ → Pre ⟨T.setVm vm₁, locs, cells, slots⟩ argsL.toArray) :
    ∃ (v : Option Value) (vm₁ : Vm) (B : Pt), s.WarmedH vm₁ ∧ Stand p l e R s m args below meth c B.U B.locs B.cells B.slots ∧ Post ⟨T.setVm vm₁, locs, cells, slots⟩ argsL.toArray v B ∧
      ∀ target, Steps p.tables e below (B.U.setTop { g with pc := g.pc + 3, stack := v.toList ++ rest }) target → Steps p.tables e below (T.setTop g) target := by
  obtain ⟨mk, methM, cM, hnamed, hmethM, -, -, -, -, -, -, hsigM⟩ := Cond.codeWith_spec hcode
  have hstatic : methM.isStatic = true := Cond.static_spec hnamed hmethM hstat
  obtain ⟨kP, hkP, -⟩ := className_of_methodNamed hnamed
  have hinitP : kP.init = .initialized := Cond.initialized_spec (findClass_of_methodNamed hnamed) hkP hinit
  obtain ⟨vm₁, X₁, hstep₁⟩ := X.invokestatic hexec hown hlink hnamed hmethM hstatic hkP hinitP hy (g := g) hg (argsL := argsL) (rest := rest) (hlen _ hsigM) hstack hdg
  obtain ⟨v, B, X', hpost, hsteps⟩ := hK m meth c ⟨T.setVm vm₁, locs, cells, slots⟩ { g with stack := rest } (.invokestatic index) mk argsL.toArray X₁ hg hsize hdg hW (X₁.named hnamed) (hpre vm₁ X₁.warmed)
  exact ⟨v, vm₁, B, X₁.warmed, X', hpost, fun target h => hstep₁ _ fun acts => by rw [doInvoke_state]; exact hsteps.trans h⟩
theorem vx_runSW {y : MethodName} {bytes cc : ByteArray} {maxL nL mc ms n index : Nat} {ret : Option FieldType} {hh : List (Nat × Nat × Nat × Nat)} {ws : List Cond} {rm : Room} {Pc : Array Value → State → Prop} {Qc : Array Value → State → Outcome → State → Prop} {free : Addr → Prop} {Ts : List Cond} {own : String} {As rest : List Value} {g : JFrame}
    (S : CallFix p m c cc nL s args Ts own) (hM : Met l y ws rm Pc Qc mc ms free) (cw : vx_CSW R s args own index y bytes maxL ret hh ws rm mc ms n) (hp : PreS s H Pc As)
    (hg : g.method = m) (hn : As.length = n) (hsize : g.locals.size = nL) (hstack : g.stack = As.reverse ++ rest) (hW : 2 * g.monitorRoom + (rest.map fun v => v.category).sum ≤ 8) (hdg : decode cc g.pc = .ok (.invokestatic index, 3)) (hf : cells + mc ≤ R.cells ∧ slots + ms ≤ R.slots) :
    va_Run p l e R s m args below meth c H locs cells slots mc ms g rest (Qc As.toArray) (free) := by
  obtain ⟨⟨hrc, hrs, hfr, hlo, hws, hcw⟩, hcode, hini, hy, hlen, hl, hstt⟩ := cw
  have hK : Back l R p e below s args y 3 8 (PreOf R mc ms Pc) (PostOf Qc mc ms free) := va_backW (hh := hh) (bytes := bytes) (maxL := maxL) (ret := ret) hM hp.1 hrc hrs hfr hlo hws hcw (fun a' U hW => word_at hW (Or.inl (by first | rfl | simp [Cond.onTables, Cond.keeps, Cond.steady])) hini)
  obtain ⟨hx, hb, hml, ho, -⟩ := S
  intro T hT X
  obtain ⟨v, vm₁, ⟨U', l2, c2, s2⟩, hW₁, X', ⟨g', mk, t, L, e1, e2, hq, h1, hL, h2, h3⟩, st⟩ := vx_callSW X hx (hh := hh) (bytes := bytes) (maxL := maxL) (ret := ret) ho hl hstt hini hcode hy hK hg (hsize.trans hml.symm) (argsL := As) (rest := rest) (fun sig h => hn.trans (hlen sig h)) hstack hW (by rw [hb]; exact hdg)
    (fun vm₁ hW₁ => ⟨hf.1, hf.2, hp.2 (T.setVm vm₁) hT hW₁⟩)
  dsimp only [Pt.U, Pt.locs, Pt.cells, Pt.slots] at X' e1 e2 h1 h2 h3 st
  subst h1; subst h2; subst h3
  exact ⟨v, (T.setVm vm₁).calling g' mk As.toArray, t, U', L, hT, X', hL, e1, e2, hq, st⟩
/-- a thing of a world lies in the heap -/
theorem vx_lt {D : va_G} {cl : List vw_C} {ws : va_W} {H1 : Heap} (h : va_P D cl ws H1) {k : Nat} {q : Nat × va_E} (hk : ws[k]? = some q) : q.1 < H1.size := (h k q hk).lt
end VXS
/-! ===== END ===== -/
/-! ===== BEGIN methods with a table of their own: called by a name, returning or throwing ===== -/
section VXH
/-! vx_backW, vx_callVX, vx_callSX, vx_callVW, vx_runVW, vx_runVX, vx_runSX, vx_ofWH follow the same proofs as their sisters above (Free/Laws.lean, Shelf42/LK1.lean); vx_outP calls Shelf42/NT130.lean (outThrough). -/
section
variable {l : Launch} {R : Room} {p : Program} {e : Env} {below : List Frame} {s : State} {sargs : Array Value} {y : MethodName} {len W9 : Nat}
theorem vx_backW {ws : List Cond} {rm : Room} {Pc : Array Value → State → Prop} {Qc : Array Value → State → Outcome → State → Prop} {XC : String → State → State → Prop} {mc ms : Nat} {free : Addr → Prop} {bytes : ByteArray} {maxL : Nat} {ret : Option FieldType} {hh : List (Nat × Nat × Nat × Nat)}
    (hM : vx_Met l y ws rm Pc Qc XC mc ms free) (hblind : FrameBlind Pc) (hrc : rm.cells = mc) (hrs : rm.slots = ms)
    (hframes : rm.frames + 1 ≤ R.frames) (hlocals : W9 + (maxL + 11) + rm.locals ≤ R.locals)
    (hws : ∀ w ∈ ws, ∀ a' U, s.WarmedH U.vm → w.before a' U = true) (hcode : Cond.codeWith y bytes maxL ret hh ∈ ws) (hinit : ∀ a' U, s.WarmedH U.vm → (Cond.initialized y.cls).before a' U = true) :
    vx_Back l R p e below s sargs y len W9 (PreOf R mc ms Pc) (PostOf Qc mc ms free) (vx_Post XC mc ms free) := by
  intro m meth c A g ig mk a X hg hsize hdg hW hn hp
  have h1 : (headSpec ws rm).pre.before a A.U = true := atoms_intro fun w hw => hws w hw _ _ X.warmed
  have h2 : (Cond.codeWith y bytes maxL ret hh).before a A.U = true := hws _ hcode _ _ X.warmed
  have h3 : (Cond.initialized y.cls).before a A.U = true := hinit _ _ X.warmed
  have h4 : A.cells + (headSpec ws rm).room.cells ≤ R.cells := by rw [show (headSpec ws rm).room.cells = mc from hrc]; exact hp.1
  have h5 : A.slots + (headSpec ws rm).room.slots ≤ R.slots := by rw [show (headSpec ws rm).room.slots = ms from hrs]; exact hp.2.1
  have hPc : Pc a (A.U.calling g mk a) := hblind _ _ _ _ hp.2.2
  obtain ⟨U, Ls, c0, s0⟩ := A
  dsimp only [Pt.U, Pt.locs, Pt.cells, Pt.slots] at h1 h2 h3 h4 h5 X hn hPc ⊢
  obtain ⟨m9, methY, cY, hn9, hmY, hcY, -, hlY, -⟩ := Cond.codeWith_spec h2
  cases Option.some.inj (hn9.symm.trans hn)
  obtain ⟨kY, hkY, -⟩ := className_of_methodNamed hn
  have hinitY : kY.init = .initialized := Cond.initialized_spec (findClass_of_methodNamed hn) hkY h3
  have h : At U g.method c below := by rw [hg]; exact X.here
  have hlocals9 : W9 + (maxL + 11) + (headSpec ws rm).room.locals ≤ R.locals := hlocals
  have happ : (headSpec ws rm).appliesLoose y e.platform (U.calling g mk a) = true :=
    Spec.appliesLoose_calling (g := g) h hdg hn hkY hinitY
      (X.room_calling (g := g) (R' := (headSpec ws rm).room) hsize hmY hcY hframes (by rw [hlY]; omega) h4 h5) h1
  obtain ⟨mid, hmid⟩ := h.above
  have hfr : (U.setTop g).frames = (.java g :: mid) ++ below := by rw [State.frames_setTop' g h.top, hmid]; rfl
  obtain ⟨o, s₂, hsteps, -, hend, hq⟩ := Steps.callFree hM p X.admits X.cas X.clock (acts := []) hfr happ hPc trivial
  have hq' : vx_Q Qc XC mc ms free a (U.calling g mk a) o s₂ := hq
  rw [State.frames_setTop' g h.top] at hend
  obtain ⟨g₀, hg0⟩ := Option.isSome_iff_exists.mp h.top
  obtain ⟨r, hr⟩ := State.topJava?_eq_some.mp hg0
  have hr' : (({ U with heap := s₂.heap, slotsUsed := s₂.slotsUsed } : State).setVm s₂.vm).frames = .java g₀ :: r := hr
  rcases hq' with ⟨hqc, L, hfe, hL⟩ | ⟨q, rfl, E, ce, L, hx, hce, hcv, hcl, hW₂, hsm, hL⟩
  · obtain ⟨⟨v, rfl⟩, hW₂, e2, q2, q3, q4, q5, q6⟩ := id hfe
    have e3 : s₂ = ({ (U.calling g mk a).setFrames s₂.frames with heap := s₂.heap, slotsUsed := s₂.slotsUsed } : State).setVm s₂.vm := by
      have : s₂ = ({ s₂ with vm := (U.calling g mk a).vm } : State).setVm s₂.vm := rfl
      rw [e2] at this
      exact this
    obtain ⟨c₂, i₂, len₂, hc₂, hd₂, hf₂⟩ := hend
    have hW' : U.WarmedH s₂.vm := hW₂
    have hcc : c₂ = c := by
      have h1 : s₂.code? g.method = U.code? g.method := by
        rw [State.code?_eq, State.code?_eq, hW'.alike.method?]
      exact Option.some.inj (hc₂.symm.trans (h1.trans h.code))
    subst hcc
    have hlen : len₂ = len := by rw [hdg] at hd₂; cases hd₂; rfl
    subst hlen
    have hs₂ : s₂ = (({ U with heap := s₂.heap, slotsUsed := s₂.slotsUsed } : State).setVm s₂.vm).setTop { g with pc := g.pc + len₂, stack := v.toList ++ g.stack } := by
      refine e3.trans ?_
      rw [hf₂, State.calling_eq h.top, State.setFrames_setFrames, State.setTop_of_frames _ hr', hr]
      rfl
    have hsame : U.sameButNew ({ U with heap := s₂.heap, slotsUsed := s₂.slotsUsed } : State) L mc ms := by
      refine ⟨?_, q2, q3, q4, q5, q6⟩
      obtain ⟨t, ht, -⟩ := State.frames_cons hr
      show ({ U with heap := s₂.heap, slotsUsed := s₂.slotsUsed } : State) = { U.setFrames U.frames with heap := s₂.heap, slotsUsed := s₂.slotsUsed }
      rw [State.setFrames_self ht]
    subst hg
    refine Or.inl ⟨v, ⟨(({ U with heap := s₂.heap, slotsUsed := s₂.slotsUsed } : State).setVm s₂.vm), Ls ++ L, c0 + mc, s0 + ms⟩,
      ⟨X.admits, X.cas, X.clock, X.frames, X.room, X.hears, X.method, X.code, (X.here.setHeapUsed s₂.heap s₂.slotsUsed).setVm hW'.alike, X.tail, State.WarmedH.trans X.warmed hW', X.limits, X.bytes, X.same.trans (hsame.setVm s.vm)⟩,
      ⟨g, mk, s₂, L, rfl, rfl, hqc, rfl, hL, rfl, rfl⟩, ?_⟩
    show Steps p.tables e below _ ((({ U with heap := s₂.heap, slotsUsed := s₂.slotsUsed } : State).setVm s₂.vm).setTop { g with pc := g.pc + len₂, stack := v.toList ++ g.stack })
    rw [← hs₂]
    exact hsteps
  · obtain ⟨e2, q2, q3, q4, q5, q6⟩ := id hsm
    have e3 : s₂ = ({ (U.calling g mk a).setFrames s₂.frames with heap := s₂.heap, slotsUsed := s₂.slotsUsed } : State).setVm s₂.vm := by
      have : s₂ = ({ s₂ with vm := (U.calling g mk a).vm } : State).setVm s₂.vm := rfl
      rw [e2] at this
      exact this
    have hf₂ : s₂.frames = .throwing q :: .java g :: U.frames.tail := hend
    have hW' : U.WarmedH s₂.vm := hW₂
    have hs₂ : s₂ = ((({ U with heap := s₂.heap, slotsUsed := s₂.slotsUsed } : State).setVm s₂.vm).setTop g).pushFrame (.throwing q) := by
      refine e3.trans ?_
      rw [hf₂, State.calling_eq h.top, State.setFrames_setFrames, State.pushFrame, State.frames_setTop _ hr', State.setTop_of_frames _ hr', State.setFrames_setFrames, hr]
      rfl
    have hsame : U.sameButNew ({ U with heap := s₂.heap, slotsUsed := s₂.slotsUsed } : State) L mc ms := by
      refine ⟨?_, q2, q3, q4, q5, q6⟩
      obtain ⟨t, ht, -⟩ := State.frames_cons hr
      show ({ U with heap := s₂.heap, slotsUsed := s₂.slotsUsed } : State) = { U.setFrames U.frames with heap := s₂.heap, slotsUsed := s₂.slotsUsed }
      rw [State.setFrames_self ht]
    subst hg
    refine Or.inr ⟨q, ⟨(({ U with heap := s₂.heap, slotsUsed := s₂.slotsUsed } : State).setVm s₂.vm), Ls ++ L, c0 + mc, s0 + ms⟩,
      ⟨X.admits, X.cas, X.clock, X.frames, X.room, X.hears, X.method, X.code, (X.here.setHeapUsed s₂.heap s₂.slotsUsed).setVm hW'.alike, X.tail, State.WarmedH.trans X.warmed hW', X.limits, X.bytes, X.same.trans (hsame.setVm s.vm)⟩,
      ⟨g, mk, s₂, L, E, ce, rfl, rfl, hx, hce, hcv, hcl, rfl, hL, rfl, rfl⟩, ?_⟩
    show Steps p.tables e below _ (((({ U with heap := s₂.heap, slotsUsed := s₂.slotsUsed } : State).setVm s₂.vm).setTop g).pushFrame (.throwing q))
    rw [← hs₂]
    exact hsteps
end
variable {p : Program} {l : Launch} {e : Env} {R : Room} {s : State} {m : MethodId} {args : Array Value} {below : List Frame} {meth : Method} {c : Code} {T : State} {H : Heap} {locs : List Loc} {cells slots : Nat}
theorem vx_callVX (X : Stand p l e R s m args below meth c T locs cells slots) (hexec : p.tables.exec = Jvm.exec) {own C : String} {index : Nat} {y : MethodName} {bytes : ByteArray} {maxL : Nat} {ret : Option FieldType} {hh : List (Nat × Nat × Nat × Nat)}
    (hown : s.vm.findClass own = some m.cls) (hlink : (Cond.methodLink own index y).before args s = true) (hinst : (Cond.instanceMethod y).before args s = true) (hsel : (Cond.selects C y y).before args s = true)
    (hcode : (Cond.codeWith y bytes maxL ret hh).before args s = true) (hy : y.cls ≠ "java/lang/invoke/MethodHandle" ∧ y.cls ≠ "java/lang/invoke/VarHandle")
    {W9 : Nat} {Pre : Pt → Array Value → Prop} {Post : Pt → Array Value → Option Value → Pt → Prop} {PostX : Pt → Array Value → Addr → Pt → Prop} (hK : vx_Back l R p e below s args y 3 W9 Pre Post PostX)
    {b : Addr} {cellB : Cell} (hcell : T.heap[b]? = some cellB) (hobj : cellB.vm.isStatics = false) (hcls : s.vm.findClass C = some cellB.cls)
    {g : JFrame} (hg : g.method = m) (hsize : g.locals.size = c.maxLocals) {argsL rest : List Value} (hlen : ∀ sig, parseMethodDescriptor y.desc = some sig → argsL.length = sig.parameters.length)
    (hstack : g.stack = argsL.reverse ++ .ref b :: rest) (hW : 2 * g.monitorRoom + (rest.map fun v => v.category).sum ≤ W9) (hdg : decode c.code g.pc = .ok (.invokevirtual index, 3))
    (hpre : ∀ vm₁, s.WarmedH vm₁ → Pre ⟨T.setVm vm₁, locs, cells, slots⟩ (Value.ref b :: argsL).toArray) :
    (∃ (v : Option Value) (vm₁ : Vm) (B : Pt), s.WarmedH vm₁ ∧ Stand p l e R s m args below meth c B.U B.locs B.cells B.slots ∧ Post ⟨T.setVm vm₁, locs, cells, slots⟩ (Value.ref b :: argsL).toArray v B ∧
      ∀ target, Steps p.tables e below (B.U.setTop { g with pc := g.pc + 3, stack := v.toList ++ rest }) target → Steps p.tables e below (T.setTop g) target) ∨
    (∃ (q : Addr) (vm₁ : Vm) (B : Pt), s.WarmedH vm₁ ∧ Stand p l e R s m args below meth c B.U B.locs B.cells B.slots ∧ PostX ⟨T.setVm vm₁, locs, cells, slots⟩ (Value.ref b :: argsL).toArray q B ∧
      Steps p.tables e below (T.setTop g) ((B.U.setTop { g with stack := rest }).pushFrame (.throwing q))) := by
  obtain ⟨mk, methM, hnamed, hmethM, hstM, habM⟩ := Cond.instanceMethod_spec hinst
  obtain ⟨m8, methM', cM, hn8, hmethM', -, -, -, -, -, -, hsigM⟩ := Cond.codeWith_spec hcode
  cases Option.some.inj (hn8.symm.trans hnamed)
  cases hmethM.symm.trans hmethM'
  obtain ⟨c2, r2, m2, q1, q2, q3, q4, kP, hkP, hkPi⟩ := Cond.selects_spec hsel
  cases hcls.symm.trans q1
  cases (State.methodFound?_of_named hnamed hy).symm.trans q2
  cases hnamed.symm.trans q3
  have hselP : selectMethod e.platform s.vm cellB.cls mk = .method mk := by rw [Launch.admits_selectMethod X.admits]; exact q4
  obtain ⟨vm₁, X₁, hstep₁⟩ := X.invokevirtual hexec hown hlink hnamed hmethM hstM hkP hkPi hy (a := b) (cell := cellB) hcell
    (fun z h => by rw [h] at hobj; cases hobj) hselP hmethM habM hkP hkPi (g := g) hg (argsL := argsL) (rest := rest) (hlen _ hsigM) hstack hdg
  rcases hK m meth c ⟨T.setVm vm₁, locs, cells, slots⟩ { g with stack := rest } (.invokevirtual index) mk (Value.ref b :: argsL).toArray X₁ hg hsize hdg hW (X₁.named hnamed) (hpre vm₁ X₁.warmed) with ⟨v, B, X', hpost, hsteps⟩ | ⟨q, B, X', hpost, hsteps⟩
  · exact Or.inl ⟨v, vm₁, B, X₁.warmed, X', hpost, fun target h => hstep₁ _ fun acts => by rw [doInvoke_state]; exact hsteps.trans h⟩
  · exact Or.inr ⟨q, vm₁, B, X₁.warmed, X', hpost, hstep₁ _ fun acts => by rw [doInvoke_state]; exact hsteps⟩
theorem vx_callSX (X : Stand p l e R s m args below meth c T locs cells slots) (hexec : p.tables.exec = Jvm.exec) {own : String} {index : Nat} {y : MethodName} {bytes : ByteArray} {maxL : Nat} {ret : Option FieldType} {hh : List (Nat × Nat × Nat × Nat)}
    (hown : s.vm.findClass own = some m.cls) (hlink : (Cond.methodLink own index y).before args s = true) (hstat : (Cond.static y).before args s = true) (hinit : (Cond.initialized y.cls).before args s = true)
    (hcode : (Cond.codeWith y bytes maxL ret hh).before args s = true) (hy : y.cls ≠ "java/lang/invoke/MethodHandle" ∧ y.cls ≠ "java/lang/invoke/VarHandle")
    {W9 : Nat} {Pre : Pt → Array Value → Prop} {Post : Pt → Array Value → Option Value → Pt → Prop} {PostX : Pt → Array Value → Addr → Pt → Prop} (hK : vx_Back l R p e below s args y 3 W9 Pre Post PostX)
    {g : JFrame} (hg : g.method = m) (hsize : g.locals.size = c.maxLocals) {argsL rest : List Value} (hlen : ∀ sig, parseMethodDescriptor y.desc = some sig → argsL.length = sig.parameters.length)
    (hstack : g.stack = argsL.reverse ++ rest) (hW : 2 * g.monitorRoom + (rest.map fun v => v.category).sum ≤ W9) (hdg : decode c.code g.pc = .ok (.invokestatic index, 3))
    (hpre : ∀ vm₁, s.WarmedH vm₁ → Pre ⟨T.setVm vm₁, locs, cells, slots⟩ argsL.toArray) :
    (∃ (v : Option Value) (vm₁ : Vm) (B : Pt), s.WarmedH vm₁ ∧ Stand p l e R s m args below meth c B.U B.locs B.cells B.slots ∧ Post ⟨T.setVm vm₁, locs, cells, slots⟩ argsL.toArray v B ∧
      ∀ target, Steps p.tables e below (B.U.setTop { g with pc := g.pc + 3, stack := v.toList ++ rest }) target → Steps p.tables e below (T.setTop g) target) ∨
    (∃ (q : Addr) (vm₁ : Vm) (B : Pt), s.WarmedH vm₁ ∧ Stand p l e R s m args below meth c B.U B.locs B.cells B.slots ∧ PostX ⟨T.setVm vm₁, locs, cells, slots⟩ argsL.toArray q B ∧
      Steps p.tables e below (T.setTop g) ((B.U.setTop { g with stack := rest }).pushFrame (.throwing q))) := by
  obtain ⟨mk, methM, cM, hnamed, hmethM, -, -, -, -, -, -, hsigM⟩ := Cond.codeWith_spec hcode
  have hstatic : methM.isStatic = true := Cond.static_spec hnamed hmethM hstat
  obtain ⟨kP, hkP, -⟩ := className_of_methodNamed hnamed
  have hinitP : kP.init = .initialized := Cond.initialized_spec (findClass_of_methodNamed hnamed) hkP hinit
  obtain ⟨vm₁, X₁, hstep₁⟩ := X.invokestatic hexec hown hlink hnamed hmethM hstatic hkP hinitP hy (g := g) hg (argsL := argsL) (rest := rest) (hlen _ hsigM) hstack hdg
  rcases hK m meth c ⟨T.setVm vm₁, locs, cells, slots⟩ { g with stack := rest } (.invokestatic index) mk argsL.toArray X₁ hg hsize hdg hW (X₁.named hnamed) (hpre vm₁ X₁.warmed) with ⟨v, B, X', hpost, hsteps⟩ | ⟨q, B, X', hpost, hsteps⟩
  · exact Or.inl ⟨v, vm₁, B, X₁.warmed, X', hpost, fun target h => hstep₁ _ fun acts => by rw [doInvoke_state]; exact hsteps.trans h⟩
  · exact Or.inr ⟨q, vm₁, B, X₁.warmed, X', hpost, hstep₁ _ fun acts => by rw [doInvoke_state]; exact hsteps⟩
theorem vx_callVW (X : Stand p l e R s m args below meth c T locs cells slots) (hexec : p.tables.exec = Jvm.exec) {own C : String} {index : Nat} {y : MethodName} {bytes : ByteArray} {maxL : Nat} {ret : Option FieldType} {hh : List (Nat × Nat × Nat × Nat)}
    (hown : s.vm.findClass own = some m.cls) (hlink : (Cond.methodLink own index y).before args s = true) (hinst : (Cond.instanceMethod y).before args s = true) (hsel : (Cond.selects C y y).before args s = true)
    (hcode : (Cond.codeWith y bytes maxL ret hh).before args s = true) (hy : y.cls ≠ "java/lang/invoke/MethodHandle" ∧ y.cls ≠ "java/lang/invoke/VarHandle")
    {W9 : Nat} {Pre : Pt → Array Value → Prop} {Post : Pt → Array Value → Option Value → Pt → Prop} (hK : Back l R p e below s args y 3 W9 Pre Post)
    {b : Addr} {cellB : Cell} (hcell : T.heap[b]? = some cellB) (hobj : cellB.vm.isStatics = false) (hcls : s.vm.findClass C = some cellB.cls)
    {g : JFrame} (hg : g.method = m) (hsize : g.locals.size = c.maxLocals) {argsL rest : List Value} (hlen : ∀ sig, parseMethodDescriptor y.desc = some sig → argsL.length = sig.parameters.length)
    (hstack : g.stack = argsL.reverse ++ .ref b :: rest) (hW : 2 * g.monitorRoom + (rest.map fun v => v.category).sum ≤ W9) (hdg : decode c.code g.pc = .ok (.invokevirtual index, 3))
    (hpre : ∀ vm₁, s.WarmedH vm₁ → Pre ⟨T.setVm vm₁, locs, cells, slots⟩ (Value.ref b :: argsL).toArray) :
    ∃ (v : Option Value) (vm₁ : Vm) (B : Pt), s.WarmedH vm₁ ∧ Stand p l e R s m args below meth c B.U B.locs B.cells B.slots ∧ Post ⟨T.setVm vm₁, locs, cells, slots⟩ (Value.ref b :: argsL).toArray v B ∧
      ∀ target, Steps p.tables e below (B.U.setTop { g with pc := g.pc + 3, stack := v.toList ++ rest }) target → Steps p.tables e below (T.setTop g) target := by
  obtain ⟨mk, methM, hnamed, hmethM, hstM, habM⟩ := Cond.instanceMethod_spec hinst
  obtain ⟨m8, methM', cM, hn8, hmethM', -, -, -, -, -, -, hsigM⟩ := Cond.codeWith_spec hcode
  cases Option.some.inj (hn8.symm.trans hnamed)
  cases hmethM.symm.trans hmethM'
  obtain ⟨c2, r2, m2, q1, q2, q3, q4, kP, hkP, hkPi⟩ := Cond.selects_spec hsel
  cases hcls.symm.trans q1
  cases (State.methodFound?_of_named hnamed hy).symm.trans q2
  cases hnamed.symm.trans q3
  have hselP : selectMethod e.platform s.vm cellB.cls mk = .method mk := by rw [Launch.admits_selectMethod X.admits]; exact q4
  obtain ⟨vm₁, X₁, hstep₁⟩ := X.invokevirtual hexec hown hlink hnamed hmethM hstM hkP hkPi hy (a := b) (cell := cellB) hcell
    (fun z h => by rw [h] at hobj; cases hobj) hselP hmethM habM hkP hkPi (g := g) hg (argsL := argsL) (rest := rest) (hlen _ hsigM) hstack hdg
  obtain ⟨v, B, X', hpost, hsteps⟩ := hK m meth c ⟨T.setVm vm₁, locs, cells, slots⟩ { g with stack := rest } (.invokevirtual index) mk (Value.ref b :: argsL).toArray X₁ hg hsize hdg hW (X₁.named hnamed) (hpre vm₁ X₁.warmed)
  exact ⟨v, vm₁, B, X₁.warmed, X', hpost, fun target h => hstep₁ _ fun acts => by rw [doInvoke_state]; exact hsteps.trans h⟩
abbrev vx_CVW (R : Room) (s : State) (args : Array Value) (own C : String) (index : Nat) (y : MethodName) (bytes : ByteArray) (maxL : Nat) (ret : Option FieldType) (hh : List (Nat × Nat × Nat × Nat)) (ws : List Cond) (rm : Room) (mc ms n : Nat) : Prop :=
  (rm.cells = mc ∧ rm.slots = ms ∧ rm.frames + 1 ≤ R.frames ∧ 8 + (maxL + 11) + rm.locals ≤ R.locals ∧ (∀ w ∈ ws, ∀ (a' : Array Value) (U : State), s.WarmedH U.vm → w.before a' U = true) ∧ Cond.codeWith y bytes maxL ret hh ∈ ws) ∧
  (Cond.codeWith y bytes maxL ret hh).before args s = true ∧ (Cond.initialized y.cls).before args s = true ∧ (y.cls ≠ "java/lang/invoke/MethodHandle" ∧ y.cls ≠ "java/lang/invoke/VarHandle") ∧
  (∀ sig, parseMethodDescriptor y.desc = some sig → n = sig.parameters.length) ∧ (Cond.methodLink own index y).before args s = true ∧ (Cond.instanceMethod y).before args s = true ∧ (Cond.selects C y y).before args s = true
theorem vx_cwVW {own C : String} {index maxL mc ms : Nat} {y : MethodName} {bytes : ByteArray} {ret : Option FieldType} {hh : List (Nat × Nat × Nat × Nat)} {Ts ws ws' : List Cond} {rm : Room} (n : Nat) (ht : ∀ w ∈ Ts, w.before args s = true) (hT : GoodIn Ts (wsV own index C y ws)) (hw : ws = Cond.codeWith y bytes maxL ret hh :: ws') (hrc : rm.cells = mc) (hrs : rm.slots = ms)
    (hd : y.cls = C ∧ y.cls ≠ "java/lang/invoke/MethodHandle" ∧ y.cls ≠ "java/lang/invoke/VarHandle" ∧ (parseMethodDescriptor y.desc).map (fun d => d.parameters.length) = some n) (hR : rm.frames + 1 ≤ R.frames ∧ 8 + (maxL + 11) + rm.locals ≤ R.locals) :
    vx_CVW R s args own C index y bytes maxL ret hh ws rm mc ms n := by
  obtain ⟨hC, hd⟩ := hd
  subst hC
  have ok : ∀ w ∈ wsV own index y.cls y ws, w.before args s = true := fun w h => ht w (hT w h).1
  have hG : GoodIn Ts ws := fun w h => hT w (by unfold wsV; exact List.mem_append_right _ h)
  have hc : Cond.codeWith y bytes maxL ret hh ∈ ws := by rw [hw]; exact List.mem_cons_self
  refine ⟨⟨hrc, hrs, hR.1, hR.2, pay_in ht hG, hc⟩, ht _ (hG _ hc).1, ok _ (by simp [wsV]), ⟨hd.1, hd.2.1⟩, fun sig h => ?_, ok _ (by simp [wsV]), ok _ (by simp [wsV]), ok _ (by simp [wsV])⟩
  have h2 := hd.2.2
  rw [h] at h2
  exact (Option.some.inj h2).symm
theorem vx_runVW {y : MethodName} {bytes cc : ByteArray} {maxL nL mc ms n index : Nat} {ret : Option FieldType} {hh : List (Nat × Nat × Nat × Nat)} {ws : List Cond} {rm : Room} {Pc : Array Value → State → Prop} {Qc : Array Value → State → Outcome → State → Prop} {free : Addr → Prop} {Ts : List Cond} {own C : String} {b : Addr} {As rest : List Value} {g : JFrame}
    (S : CallFix p m c cc nL s args Ts own) (hM : Met l y ws rm Pc Qc mc ms free) (cw : vx_CVW R s args own C index y bytes maxL ret hh ws rm mc ms n) (hp : PreV s H C b Pc As)
    (hg : g.method = m) (hn : As.length = n) (hsize : g.locals.size = nL) (hstack : g.stack = As.reverse ++ .ref b :: rest) (hW : 2 * g.monitorRoom + (rest.map fun v => v.category).sum ≤ 8) (hdg : decode cc g.pc = .ok (.invokevirtual index, 3)) (hf : cells + mc ≤ R.cells ∧ slots + ms ≤ R.slots) :
    va_Run p l e R s m args below meth c H locs cells slots mc ms g rest (Qc (Value.ref b :: As).toArray) free := by
  obtain ⟨⟨hrc, hrs, hfr, hlo, hws, hcw⟩, hcode, hini, hy, hlen, hl, hin, hse⟩ := cw
  have hK : Back l R p e below s args y 3 8 (PreOf R mc ms Pc) (PostOf Qc mc ms free) := va_backW (hh := hh) (bytes := bytes) (maxL := maxL) (ret := ret) hM hp.1 hrc hrs hfr hlo hws hcw (fun a' U hW => word_at hW (Or.inl (by first | rfl | simp [Cond.onTables, Cond.keeps, Cond.steady])) hini)
  obtain ⟨hx, hb, hml, ho, -⟩ := S
  obtain ⟨-, ⟨cellB, hcB, hoB, hclB⟩, hPc⟩ := hp
  intro T hT X
  obtain ⟨v, vm₁, ⟨U', l2, c2, s2⟩, hW₁, X', ⟨g', mk, t, L, e1, e2, hq, h1, hL, h2, h3⟩, st⟩ := vx_callVW X hx (C := C) (hh := hh) (bytes := bytes) (maxL := maxL) (ret := ret) ho hl hin hse hcode hy hK (by rw [hT]; exact hcB) hoB hclB hg (hsize.trans hml.symm) (argsL := As) (rest := rest) (fun sig h => hn.trans (hlen sig h)) hstack hW (by rw [hb]; exact hdg)
    (fun vm₁ hW₁ => ⟨hf.1, hf.2, hPc (T.setVm vm₁) hT hW₁⟩)
  dsimp only [Pt.U, Pt.locs, Pt.cells, Pt.slots] at X' e1 e2 h1 h2 h3 st
  subst h1; subst h2; subst h3
  exact ⟨v, (T.setVm vm₁).calling g' mk (Value.ref b :: As).toArray, t, U', L, hT, X', hL, e1, e2, hq, st⟩
section
variable {y : MethodName} {bytes cc : ByteArray} {maxL nL mc ms n index : Nat} {ret : Option FieldType} {ws : List Cond} {rm : Room} {Pc : Array Value → State → Prop} {Qc : Array Value → State → Outcome → State → Prop} {XC : String → State → State → Prop} {free : Addr → Prop} {Ts : List Cond} {own C : String} {b : Addr} {As rest : List Value} {g : JFrame}
theorem vx_runVX {hh : List (Nat × Nat × Nat × Nat)} (S : CallFix p m c cc nL s args Ts own) (hM : vx_Met l y ws rm Pc Qc XC mc ms free) (cw : vx_CVW R s args own C index y bytes maxL ret hh ws rm mc ms n) (hp : PreV s H C b Pc As)
    (hg : g.method = m) (hn : As.length = n) (hsize : g.locals.size = nL) (hstack : g.stack = As.reverse ++ .ref b :: rest) (hW : 2 * g.monitorRoom + (rest.map fun v => v.category).sum ≤ 8) (hdg : decode cc g.pc = .ok (.invokevirtual index, 3)) (hf : cells + mc ≤ R.cells ∧ slots + ms ≤ R.slots) :
    vx_Run p l e R s m args below meth c H locs cells slots mc ms g rest (Qc (Value.ref b :: As).toArray) XC free := by
  obtain ⟨⟨hrc, hrs, hfr, hlo, hws, hcw⟩, hcode, hini, hy, hlen, hl, hin, hse⟩ := cw
  have hK : vx_Back l R p e below s args y 3 8 (PreOf R mc ms Pc) (PostOf Qc mc ms free) (vx_Post XC mc ms free) := vx_backW (hh := hh) (bytes := bytes) (maxL := maxL) (ret := ret) hM hp.1 hrc hrs hfr hlo hws hcw (fun a' U hW => word_at hW (Or.inl (by first | rfl | simp [Cond.onTables, Cond.keeps, Cond.steady])) hini)
  obtain ⟨hx, hb, hml, ho, -⟩ := S
  obtain ⟨-, ⟨cellB, hcB, hoB, hclB⟩, hPc⟩ := hp
  intro T hT X
  rcases vx_callVX X hx (C := C) (hh := hh) (bytes := bytes) (maxL := maxL) (ret := ret) ho hl hin hse hcode hy hK (by rw [hT]; exact hcB) hoB hclB hg (hsize.trans hml.symm) (argsL := As) (rest := rest) (fun sig h => hn.trans (hlen sig h)) hstack hW (by rw [hb]; exact hdg)
    (fun vm₁ hW₁ => ⟨hf.1, hf.2, hPc (T.setVm vm₁) hT hW₁⟩) with ⟨v, vm₁, ⟨U', l2, c2, s2⟩, hW₁, X', ⟨g', mk, t, L, e1, e2, hq, h1, hL, h2, h3⟩, st⟩ | ⟨q, vm₁, ⟨U', l2, c2, s2⟩, hW₁, X', ⟨g', mk, t, L, E, ce, e1, e2, hq, hce, hcv, hcl, h1, hL, h2, h3⟩, st⟩
  · dsimp only [Pt.U, Pt.locs, Pt.cells, Pt.slots] at X' e1 e2 h1 h2 h3 st
    subst h1; subst h2; subst h3
    exact Or.inl ⟨v, (T.setVm vm₁).calling g' mk (Value.ref b :: As).toArray, t, U', L, hT, X', hL, e1, e2, hq, st⟩
  · dsimp only [Pt.U, Pt.locs, Pt.cells, Pt.slots] at X' e1 e2 h1 h2 h3 st hcl
    subst h1; subst h2; subst h3
    exact Or.inr ⟨q, (T.setVm vm₁).calling g' mk (Value.ref b :: As).toArray, t, U', L, E, ce, hT, X', hL, e1, e2, hq, hce, hcv, vx_cls hW₁ hcl, st⟩
theorem vx_runSX {hh : List (Nat × Nat × Nat × Nat)} (S : CallFix p m c cc nL s args Ts own) (hM : vx_Met l y ws rm Pc Qc XC mc ms free) (cw : vx_CSW R s args own index y bytes maxL ret hh ws rm mc ms n) (hp : PreS s H Pc As)
    (hg : g.method = m) (hn : As.length = n) (hsize : g.locals.size = nL) (hstack : g.stack = As.reverse ++ rest) (hW : 2 * g.monitorRoom + (rest.map fun v => v.category).sum ≤ 8) (hdg : decode cc g.pc = .ok (.invokestatic index, 3)) (hf : cells + mc ≤ R.cells ∧ slots + ms ≤ R.slots) :
    vx_Run p l e R s m args below meth c H locs cells slots mc ms g rest (Qc As.toArray) XC free := by
  obtain ⟨⟨hrc, hrs, hfr, hlo, hws, hcw⟩, hcode, hini, hy, hlen, hl, hstt⟩ := cw
  have hK : vx_Back l R p e below s args y 3 8 (PreOf R mc ms Pc) (PostOf Qc mc ms free) (vx_Post XC mc ms free) := vx_backW (hh := hh) (bytes := bytes) (maxL := maxL) (ret := ret) hM hp.1 hrc hrs hfr hlo hws hcw (fun a' U hW => word_at hW (Or.inl (by first | rfl | simp [Cond.onTables, Cond.keeps, Cond.steady])) hini)
  obtain ⟨hx, hb, hml, ho, -⟩ := S
  intro T hT X
  rcases vx_callSX X hx (hh := hh) (bytes := bytes) (maxL := maxL) (ret := ret) ho hl hstt hini hcode hy hK hg (hsize.trans hml.symm) (argsL := As) (rest := rest) (fun sig h => hn.trans (hlen sig h)) hstack hW (by rw [hb]; exact hdg)
    (fun vm₁ hW₁ => ⟨hf.1, hf.2, hp.2 (T.setVm vm₁) hT hW₁⟩) with ⟨v, vm₁, ⟨U', l2, c2, s2⟩, hW₁, X', ⟨g', mk, t, L, e1, e2, hq, h1, hL, h2, h3⟩, st⟩ | ⟨q, vm₁, ⟨U', l2, c2, s2⟩, hW₁, X', ⟨g', mk, t, L, E, ce, e1, e2, hq, hce, hcv, hcl, h1, hL, h2, h3⟩, st⟩
  · dsimp only [Pt.U, Pt.locs, Pt.cells, Pt.slots] at X' e1 e2 h1 h2 h3 st
    subst h1; subst h2; subst h3
    exact Or.inl ⟨v, (T.setVm vm₁).calling g' mk As.toArray, t, U', L, hT, X', hL, e1, e2, hq, st⟩
  · dsimp only [Pt.U, Pt.locs, Pt.cells, Pt.slots] at X' e1 e2 h1 h2 h3 st hcl
    subst h1; subst h2; subst h3
    exact Or.inr ⟨q, (T.setVm vm₁).calling g' mk As.toArray, t, U', L, E, ce, hT, X', hL, e1, e2, hq, hce, hcv, vx_cls hW₁ hcl, st⟩
end
end VXH
theorem vx_ofWH {l : Launch} {y : MethodName} {ws ws' : List Cond} {rm : Room} {Pc : Array Value → State → Prop} {Qc : Array Value → State → Outcome → State → Prop} {XC : String → State → State → Prop} {mc ms : Nat} {free : Addr → Prop} {cc : ByteArray} {maxL : Nat} {ret : Option FieldType} {hh : List (Nat × Nat × Nat × Nat)}
    (hy : plainName y.cls = true) (hw : ws = Cond.codeWith y cc maxL ret hh :: ws')
    (body : ∀ p e s m args below meth c s₁, BodyLoose p l y (headSpec ws rm) cc maxL ret e s m args below meth c s₁ → c.maxLocals = maxL → Pc args s →
      W p l e (headSpec ws rm).room s m args below meth c s.heap [] 0 0 (vx_MQ below Qc XC args s mc ms free) (entryFrame m args maxL)) : vx_Met l y ws rm Pc Qc XC mc ms free := by
  refine MetFree.of_bodyS (code := cc) (maxLocals := maxL) (ret := ret) hy ?_ ?_
  · intro args s m h hn
    obtain ⟨m9, meth, c, hn9, h1, h2, h3, h4, -, h5, h6, -⟩ := Cond.codeWith_spec (atoms_spec (ws := ws) h _ (by rw [hw]; exact List.mem_cons_self))
    cases hn.symm.trans hn9
    exact ⟨meth, c, h1, h2, h3, h4, h5, h6⟩
  · intro p e s m args below meth c s₁ B hml hP _
    have hh0 : s₁.heap = s.heap := by rw [B.state]; rfl
    obtain ⟨t, a1, o, b1, b2, b3⟩ := body p e s m args below meth c s₁ B hml hP s₁ hh0 (Stand.of_body B)
    exact ⟨t, o, a1, b1, b2, b3⟩
/-! ===== END ===== -/
end
section
def RX0 : String := "LabelGuard$Code"
def TX0 : u_T := fun k => match k with
  | 0 => ("LabelGuard$Code", "kinds", "[I", true)
  | 1 => ("LabelGuard$Code", "arguments", "[I", true)
  | _ => ("LabelGuard$Code", "count", "I", false)
def tyX0 : Nat → FieldType := fun k => match k with
  | 0 => .array .int
  | 1 => .array .int
  | _ => .int
abbrev wsX00 : List Cond := u_ws RX0 TX0 3
theorem nmX0 : ∀ a, a < 3 → ∀ b, b < 3 → a ≠ b → (TX0 a).2.1 ≠ (TX0 b).2.1 := by decide +kernel
theorem tyX0_ok : ∀ k, k < 3 → parseFieldDescriptor (TX0 k).2.2.1 = some (tyX0 k) := by decide +kernel
abbrev cX0_init : ByteArray := prog_2_method_1_code
def yX0_init : MethodName := ⟨RX0, "<init>", "()V"⟩
abbrev cX0_clear : ByteArray := prog_2_method_2_code
def yX0_clear : MethodName := ⟨RX0, "clear", "()V"⟩
abbrev cX0_add : ByteArray := prog_2_method_3_code
def yX0_add : MethodName := ⟨RX0, "add", "(II)Z"⟩
abbrev cX0_size : ByteArray := prog_2_method_4_code
def yX0_size : MethodName := ⟨RX0, "size", "()I"⟩
abbrev cX0_has : ByteArray := prog_2_method_5_code
def yX0_has : MethodName := ⟨RX0, "has", "(I)Z"⟩
abbrev cX0_kindAt : ByteArray := prog_2_method_6_code
def yX0_kindAt : MethodName := ⟨RX0, "kindAt", "(I)I"⟩
abbrev cX0_argumentAt : ByteArray := prog_2_method_7_code
def yX0_argumentAt : MethodName := ⟨RX0, "argumentAt", "(I)I"⟩
abbrev cX0_nextOf : ByteArray := prog_2_method_8_code
def yX0_nextOf : MethodName := ⟨RX0, "nextOf", "(II)I"⟩
abbrev cX0_become : ByteArray := prog_2_method_9_code
def yX0_become : MethodName := ⟨RX0, "become", "(LLabelGuard$Node;)V"⟩
abbrev cX0_addRow : ByteArray := prog_2_method_10_code
def yX0_addRow : MethodName := ⟨RX0, "addRow", "(LLabelGuard$Node;I)V"⟩
abbrev cX0_addChoice : ByteArray := prog_2_method_11_code
def yX0_addChoice : MethodName := ⟨RX0, "addChoice", "(LLabelGuard$Node;I)V"⟩
abbrev cX0_addLoop : ByteArray := prog_2_method_12_code
def yX0_addLoop : MethodName := ⟨RX0, "addLoop", "(LLabelGuard$Node;II)V"⟩
abbrev cX0_aimHere : ByteArray := prog_2_method_13_code
def yX0_aimHere : MethodName := ⟨RX0, "aimHere", "(I)V"⟩
abbrev cX0_addExpression : ByteArray := prog_2_method_14_code
def yX0_addExpression : MethodName := ⟨RX0, "addExpression", "(LLabelGuard$Node;I)V"⟩
def RX1 : String := "LabelGuard$CodeLabels"
def TX1 : u_T := fun k => match k with
  | 0 => ("LabelGuard$CodeLabels", "code", "LLabelGuard$Code;", true)
  | 1 => ("LabelGuard$CodeLabels", "shape", "LLabelGuard$Shape;", true)
  | 2 => ("LabelGuard$CodeLabels", "regions", "LLabelGuard$Regions;", true)
  | 3 => ("LabelGuard$CodeLabels", "lattice", "LLabelGuard$Lattice;", true)
  | 4 => ("LabelGuard$CodeLabels", "labels", "[[I", true)
  | 5 => ("LabelGuard$CodeLabels", "waiting", "[Z", true)
  | _ => ("LabelGuard$CodeLabels", "left", "[I", true)
def tyX1 : Nat → FieldType := fun k => match k with
  | 0 => .object "LabelGuard$Code"
  | 1 => .object "LabelGuard$Shape"
  | 2 => .object "LabelGuard$Regions"
  | 3 => .object "LabelGuard$Lattice"
  | 4 => .array (.array .int)
  | 5 => .array .boolean
  | _ => .array .int
abbrev wsX10 : List Cond := u_ws RX1 TX1 7
theorem nmX1 : ∀ a, a < 7 → ∀ b, b < 7 → a ≠ b → (TX1 a).2.1 ≠ (TX1 b).2.1 := by decide +kernel
theorem tyX1_ok : ∀ k, k < 7 → parseFieldDescriptor (TX1 k).2.2.1 = some (tyX1 k) := by decide +kernel
abbrev cX1_init : ByteArray := prog_3_method_1_code
def yX1_init : MethodName := ⟨RX1, "<init>", "(LLabelGuard$Code;LLabelGuard$Shape;LLabelGuard$Regions;LLabelGuard$Lattice;)V"⟩
abbrev cX1_workOut : ByteArray := prog_3_method_2_code
def yX1_workOut : MethodName := ⟨RX1, "workOut", "([I)V"⟩
abbrev cX1_keepTo : ByteArray := prog_3_method_3_code
def yX1_keepTo : MethodName := ⟨RX1, "keepTo", "([I)Z"⟩
abbrev cX1_labelAt : ByteArray := prog_3_method_4_code
def yX1_labelAt : MethodName := ⟨RX1, "labelAt", "(II)I"⟩
abbrev cX1_pass : ByteArray := prog_3_method_5_code
def yX1_pass : MethodName := ⟨RX1, "pass", "(I)V"⟩
abbrev cX1_change : ByteArray := prog_3_method_6_code
def yX1_change : MethodName := ⟨RX1, "change", "(III)V"⟩
abbrev cX1_raiseRegion : ByteArray := prog_3_method_7_code
def yX1_raiseRegion : MethodName := ⟨RX1, "raiseRegion", "(I)V"⟩
abbrev cX1_comeTo : ByteArray := prog_3_method_8_code
def yX1_comeTo : MethodName := ⟨RX1, "comeTo", "(I)V"⟩
abbrev cX1_raise : ByteArray := prog_3_method_9_code
def yX1_raise : MethodName := ⟨RX1, "raise", "(III)V"⟩
def RX2 : String := "LabelGuard$Follower"
def TX2 : u_T := fun k => match k with
  | 0 => ("LabelGuard$Follower", "variables", "[I", true)
  | 1 => ("LabelGuard$Follower", "looks", "I", false)
  | _ => ("LabelGuard$Follower", "mostLooks", "I", false)
def tyX2 : Nat → FieldType := fun k => match k with
  | 0 => .array .int
  | 1 => .int
  | _ => .int
abbrev wsX20 : List Cond := u_ws RX2 TX2 3
theorem nmX2 : ∀ a, a < 3 → ∀ b, b < 3 → a ≠ b → (TX2 a).2.1 ≠ (TX2 b).2.1 := by decide +kernel
theorem tyX2_ok : ∀ k, k < 3 → parseFieldDescriptor (TX2 k).2.2.1 = some (tyX2 k) := by decide +kernel
abbrev cX2_init : ByteArray := prog_4_method_1_code
def yX2_init : MethodName := ⟨RX2, "<init>", "()V"⟩
abbrev cX2_execute : ByteArray := prog_4_method_2_code
def yX2_execute : MethodName := ⟨RX2, "execute", "(LLabelGuard$Node;[II)I"⟩
abbrev cX2_makeRow : ByteArray := prog_4_method_3_code
def yX2_makeRow : MethodName := ⟨RX2, "makeRow", "(LLabelGuard$Node;I)Z"⟩
abbrev cX2_makeStatement : ByteArray := prog_4_method_4_code
def yX2_makeStatement : MethodName := ⟨RX2, "makeStatement", "(LLabelGuard$Node;I)Z"⟩
abbrev cX2_makeChoice : ByteArray := prog_4_method_5_code
def yX2_makeChoice : MethodName := ⟨RX2, "makeChoice", "(LLabelGuard$Node;I)Z"⟩
abbrev cX2_makeLoop : ByteArray := prog_4_method_6_code
def yX2_makeLoop : MethodName := ⟨RX2, "makeLoop", "(LLabelGuard$Node;I)Z"⟩
abbrev cX2_valueOf : ByteArray := prog_4_method_7_code
def yX2_valueOf : MethodName := ⟨RX2, "valueOf", "(LLabelGuard$Node;I)I"⟩
def RX3 : String := "LabelGuard$Lattice"
def TX3 : u_T := fun k => match k with
  | 0 => ("LabelGuard$Lattice", "joins", "[I", true)
  | 1 => ("LabelGuard$Lattice", "count", "I", false)
  | 2 => ("LabelGuard$Lattice", "order", "J", false)
  | 3 => ("LabelGuard$Lattice", "lowest", "I", false)
  | _ => ("LabelGuard$Lattice", "highest", "I", false)
def tyX3 : Nat → FieldType := fun k => match k with
  | 0 => .array .int
  | 1 => .int
  | 2 => .long
  | 3 => .int
  | _ => .int
abbrev wsX30 : List Cond := u_ws RX3 TX3 5
theorem nmX3 : ∀ a, a < 5 → ∀ b, b < 5 → a ≠ b → (TX3 a).2.1 ≠ (TX3 b).2.1 := by decide +kernel
theorem tyX3_ok : ∀ k, k < 5 → parseFieldDescriptor (TX3 k).2.2.1 = some (tyX3 k) := by decide +kernel
abbrev cX3_init : ByteArray := prog_5_method_1_code
def yX3_init : MethodName := ⟨RX3, "<init>", "()V"⟩
abbrev cX3_holds : ByteArray := prog_5_method_2_code
def yX3_holds : MethodName := ⟨RX3, "holds", "(JII)Z"⟩
abbrev cX3_isOrder : ByteArray := prog_5_method_3_code
def yX3_isOrder : MethodName := ⟨RX3, "isOrder", "(IJ)Z"⟩
abbrev cX3_passesOn : ByteArray := prog_5_method_4_code
def yX3_passesOn : MethodName := ⟨RX3, "passesOn", "(IJII)Z"⟩
abbrev cX3_hasAllBounds : ByteArray := prog_5_method_5_code
def yX3_hasAllBounds : MethodName := ⟨RX3, "hasAllBounds", "(IJ)Z"⟩
abbrev cX3_turned : ByteArray := prog_5_method_6_code
def yX3_turned : MethodName := ⟨RX3, "turned", "(IJ)J"⟩
abbrev cX3_leastAbove : ByteArray := prog_5_method_7_code
def yX3_leastAbove : MethodName := ⟨RX3, "leastAbove", "(IJII)I"⟩
abbrev cX3_isAboveBoth : ByteArray := prog_5_method_8_code
def yX3_isAboveBoth : MethodName := ⟨RX3, "isAboveBoth", "(JIII)Z"⟩
abbrev cX3_isLeast : ByteArray := prog_5_method_9_code
def yX3_isLeast : MethodName := ⟨RX3, "isLeast", "(IJIII)Z"⟩
abbrev cX3_become : ByteArray := prog_5_method_10_code
def yX3_become : MethodName := ⟨RX3, "become", "(IJ)V"⟩
abbrev cX3_has : ByteArray := prog_5_method_11_code
def yX3_has : MethodName := ⟨RX3, "has", "(I)Z"⟩
abbrev cX3_bottom : ByteArray := prog_5_method_12_code
def yX3_bottom : MethodName := ⟨RX3, "bottom", "()I"⟩
abbrev cX3_top : ByteArray := prog_5_method_13_code
def yX3_top : MethodName := ⟨RX3, "top", "()I"⟩
abbrev cX3_allows : ByteArray := prog_5_method_14_code
def yX3_allows : MethodName := ⟨RX3, "allows", "(II)Z"⟩
abbrev cX3_joined : ByteArray := prog_5_method_15_code
def yX3_joined : MethodName := ⟨RX3, "joined", "(II)I"⟩
def RX4 : String := "LabelGuard$Machine"
def TX4 : u_T := fun k => match k with
  | 0 => ("LabelGuard$Machine", "code", "LLabelGuard$Code;", true)
  | 1 => ("LabelGuard$Machine", "variables", "[I", true)
  | 2 => ("LabelGuard$Machine", "stack", "[I", true)
  | _ => ("LabelGuard$Machine", "height", "I", false)
def tyX4 : Nat → FieldType := fun k => match k with
  | 0 => .object "LabelGuard$Code"
  | 1 => .array .int
  | 2 => .array .int
  | _ => .int
abbrev wsX40 : List Cond := u_ws RX4 TX4 4
theorem nmX4 : ∀ a, a < 4 → ∀ b, b < 4 → a ≠ b → (TX4 a).2.1 ≠ (TX4 b).2.1 := by decide +kernel
theorem tyX4_ok : ∀ k, k < 4 → parseFieldDescriptor (TX4 k).2.2.1 = some (tyX4 k) := by decide +kernel
abbrev cX4_init : ByteArray := prog_6_method_1_code
def yX4_init : MethodName := ⟨RX4, "<init>", "(LLabelGuard$Code;)V"⟩
abbrev cX4_execute : ByteArray := prog_6_method_2_code
def yX4_execute : MethodName := ⟨RX4, "execute", "([II)I"⟩
abbrev cX4_step : ByteArray := prog_6_method_3_code
def yX4_step : MethodName := ⟨RX4, "step", "(I)I"⟩
abbrev cX4_push : ByteArray := prog_6_method_4_code
def yX4_push : MethodName := ⟨RX4, "push", "(I)V"⟩
abbrev cX4_pop : ByteArray := prog_6_method_5_code
def yX4_pop : MethodName := ⟨RX4, "pop", "()I"⟩
def RX5 : String := "LabelGuard$Marks"
def TX5 : u_T := fun k => match k with
  | 0 => ("LabelGuard$Marks", "low", "[J", true)
  | _ => ("LabelGuard$Marks", "high", "[J", true)
def tyX5 : Nat → FieldType := fun k => match k with
  | 0 => .array .long
  | _ => .array .long
abbrev wsX50 : List Cond := u_ws RX5 TX5 2
theorem nmX5 : ∀ a, a < 2 → ∀ b, b < 2 → a ≠ b → (TX5 a).2.1 ≠ (TX5 b).2.1 := by decide +kernel
theorem tyX5_ok : ∀ k, k < 2 → parseFieldDescriptor (TX5 k).2.2.1 = some (tyX5 k) := by decide +kernel
abbrev cX5_init : ByteArray := prog_7_method_1_code
def yX5_init : MethodName := ⟨RX5, "<init>", "()V"⟩
abbrev cX5_lowBit : ByteArray := prog_7_method_2_code
def yX5_lowBit : MethodName := ⟨RX5, "lowBit", "(I)J"⟩
abbrev cX5_highBit : ByteArray := prog_7_method_3_code
def yX5_highBit : MethodName := ⟨RX5, "highBit", "(I)J"⟩
abbrev cX5_isPlace : ByteArray := prog_7_method_4_code
def yX5_isPlace : MethodName := ⟨RX5, "isPlace", "(I)Z"⟩
abbrev cX5_has : ByteArray := prog_7_method_5_code
def yX5_has : MethodName := ⟨RX5, "has", "(II)Z"⟩
abbrev cX5_add : ByteArray := prog_7_method_6_code
def yX5_add : MethodName := ⟨RX5, "add", "(II)V"⟩
abbrev cX5_refill : ByteArray := prog_7_method_7_code
def yX5_refill : MethodName := ⟨RX5, "refill", "(IZ)V"⟩
abbrev cX5_narrow : ByteArray := prog_7_method_8_code
def yX5_narrow : MethodName := ⟨RX5, "narrow", "(II)Z"⟩
def RX6 : String := "LabelGuard$Node"
def TX6 : u_T := fun k => match k with
  | 0 => ("LabelGuard$Node", "kind", "I", true)
  | 1 => ("LabelGuard$Node", "value", "I", true)
  | 2 => ("LabelGuard$Node", "expression", "LLabelGuard$Node;", true)
  | 3 => ("LabelGuard$Node", "first", "LLabelGuard$Node;", true)
  | 4 => ("LabelGuard$Node", "second", "LLabelGuard$Node;", true)
  | _ => ("LabelGuard$Node", "next", "LLabelGuard$Node;", false)
def tyX6 : Nat → FieldType := fun k => match k with
  | 0 => .int
  | 1 => .int
  | 2 => .object "LabelGuard$Node"
  | 3 => .object "LabelGuard$Node"
  | 4 => .object "LabelGuard$Node"
  | _ => .object "LabelGuard$Node"
abbrev wsX60 : List Cond := u_ws RX6 TX6 6
theorem nmX6 : ∀ a, a < 6 → ∀ b, b < 6 → a ≠ b → (TX6 a).2.1 ≠ (TX6 b).2.1 := by decide +kernel
theorem tyX6_ok : ∀ k, k < 6 → parseFieldDescriptor (TX6 k).2.2.1 = some (tyX6 k) := by decide +kernel
abbrev cX6_init : ByteArray := prog_8_method_1_code
def yX6_init : MethodName := ⟨RX6, "<init>", "(IILLabelGuard$Node;LLabelGuard$Node;LLabelGuard$Node;)V"⟩
def RX7 : String := "LabelGuard$ProgramLabels"
def TX7 : u_T := fun k => match k with
  | 0 => ("LabelGuard$ProgramLabels", "lattice", "LLabelGuard$Lattice;", true)
  | 1 => ("LabelGuard$ProgramLabels", "labels", "[I", true)
  | 2 => ("LabelGuard$ProgramLabels", "before", "[[I", true)
  | _ => ("LabelGuard$ProgramLabels", "given", "[[I", true)
def tyX7 : Nat → FieldType := fun k => match k with
  | 0 => .object "LabelGuard$Lattice"
  | 1 => .array .int
  | 2 => .array (.array .int)
  | _ => .array (.array .int)
abbrev wsX70 : List Cond := u_ws RX7 TX7 4
theorem nmX7 : ∀ a, a < 4 → ∀ b, b < 4 → a ≠ b → (TX7 a).2.1 ≠ (TX7 b).2.1 := by decide +kernel
theorem tyX7_ok : ∀ k, k < 4 → parseFieldDescriptor (TX7 k).2.2.1 = some (tyX7 k) := by decide +kernel
abbrev cX7_init : ByteArray := prog_9_method_1_code
def yX7_init : MethodName := ⟨RX7, "<init>", "(LLabelGuard$Lattice;)V"⟩
abbrev cX7_workOut : ByteArray := prog_9_method_2_code
def yX7_workOut : MethodName := ⟨RX7, "workOut", "(LLabelGuard$Node;[I)V"⟩
abbrev cX7_keepTo : ByteArray := prog_9_method_3_code
def yX7_keepTo : MethodName := ⟨RX7, "keepTo", "([I)Z"⟩
abbrev cX7_exitOf : ByteArray := prog_9_method_4_code
def yX7_exitOf : MethodName := ⟨RX7, "exitOf", "(I)I"⟩
abbrev cX7_flowRow : ByteArray := prog_9_method_5_code
def yX7_flowRow : MethodName := ⟨RX7, "flowRow", "(LLabelGuard$Node;II)V"⟩
abbrev cX7_flowChoice : ByteArray := prog_9_method_6_code
def yX7_flowChoice : MethodName := ⟨RX7, "flowChoice", "(LLabelGuard$Node;II)V"⟩
abbrev cX7_flowLoop : ByteArray := prog_9_method_7_code
def yX7_flowLoop : MethodName := ⟨RX7, "flowLoop", "(LLabelGuard$Node;II)V"⟩
abbrev cX7_raiseBy : ByteArray := prog_9_method_8_code
def yX7_raiseBy : MethodName := ⟨RX7, "raiseBy", "([I)V"⟩
abbrev cX7_areLabels : ByteArray := prog_9_method_9_code
def yX7_areLabels : MethodName := ⟨RX7, "areLabels", "([I)Z"⟩
abbrev cX7_labelOf : ByteArray := prog_9_method_10_code
def yX7_labelOf : MethodName := ⟨RX7, "labelOf", "(LLabelGuard$Node;I)I"⟩
def RX8 : String := "LabelGuard$Reader"
def TX8 : u_T := fun k => match k with
  | 0 => ("LabelGuard$Reader", "text", "[I", true)
  | 1 => ("LabelGuard$Reader", "length", "I", false)
  | 2 => ("LabelGuard$Reader", "at", "I", false)
  | _ => ("LabelGuard$Reader", "errorAt", "I", false)
def tyX8 : Nat → FieldType := fun k => match k with
  | 0 => .array .int
  | 1 => .int
  | 2 => .int
  | _ => .int
abbrev wsX80 : List Cond := u_ws RX8 TX8 4
theorem nmX8 : ∀ a, a < 4 → ∀ b, b < 4 → a ≠ b → (TX8 a).2.1 ≠ (TX8 b).2.1 := by decide +kernel
theorem tyX8_ok : ∀ k, k < 4 → parseFieldDescriptor (TX8 k).2.2.1 = some (tyX8 k) := by decide +kernel
abbrev cX8_init : ByteArray := prog_10_method_1_code
def yX8_init : MethodName := ⟨RX8, "<init>", "()V"⟩
abbrev cX8_append : ByteArray := prog_10_method_2_code
def yX8_append : MethodName := ⟨RX8, "append", "(J)Z"⟩
abbrev cX8_takeProgram : ByteArray := prog_10_method_3_code
def yX8_takeProgram : MethodName := ⟨RX8, "takeProgram", "()LLabelGuard$Node;"⟩
abbrev cX8_error : ByteArray := prog_10_method_4_code
def yX8_error : MethodName := ⟨RX8, "error", "()I"⟩
abbrev cX8_current : ByteArray := prog_10_method_5_code
def yX8_current : MethodName := ⟨RX8, "current", "()I"⟩
abbrev cX8_skip : ByteArray := prog_10_method_6_code
def yX8_skip : MethodName := ⟨RX8, "skip", "(I)Z"⟩
abbrev cX8_open : ByteArray := prog_10_method_7_code
def yX8_open : MethodName := ⟨RX8, "open", "(II)Z"⟩
abbrev cX8_isName : ByteArray := prog_10_method_8_code
def yX8_isName : MethodName := ⟨RX8, "isName", "(I)Z"⟩
abbrev cX8_isDigit : ByteArray := prog_10_method_9_code
def yX8_isDigit : MethodName := ⟨RX8, "isDigit", "(I)Z"⟩
abbrev cX8_atStatement : ByteArray := prog_10_method_10_code
def yX8_atStatement : MethodName := ⟨RX8, "atStatement", "()Z"⟩
abbrev cX8_readRow : ByteArray := prog_10_method_11_code
def yX8_readRow : MethodName := ⟨RX8, "readRow", "(I)LLabelGuard$Node;"⟩
abbrev cX8_readStatement : ByteArray := prog_10_method_12_code
def yX8_readStatement : MethodName := ⟨RX8, "readStatement", "(I)LLabelGuard$Node;"⟩
abbrev cX8_readAssignment : ByteArray := prog_10_method_13_code
def yX8_readAssignment : MethodName := ⟨RX8, "readAssignment", "(II)LLabelGuard$Node;"⟩
abbrev cX8_readChoice : ByteArray := prog_10_method_14_code
def yX8_readChoice : MethodName := ⟨RX8, "readChoice", "(I)LLabelGuard$Node;"⟩
abbrev cX8_readLoop : ByteArray := prog_10_method_15_code
def yX8_readLoop : MethodName := ⟨RX8, "readLoop", "(I)LLabelGuard$Node;"⟩
abbrev cX8_readBlock : ByteArray := prog_10_method_16_code
def yX8_readBlock : MethodName := ⟨RX8, "readBlock", "(I)LLabelGuard$Node;"⟩
abbrev cX8_readExpression : ByteArray := prog_10_method_17_code
def yX8_readExpression : MethodName := ⟨RX8, "readExpression", "(I)LLabelGuard$Node;"⟩
abbrev cX8_readNumber : ByteArray := prog_10_method_18_code
def yX8_readNumber : MethodName := ⟨RX8, "readNumber", "()LLabelGuard$Node;"⟩
abbrev cX8_readBrackets : ByteArray := prog_10_method_19_code
def yX8_readBrackets : MethodName := ⟨RX8, "readBrackets", "(I)LLabelGuard$Node;"⟩
abbrev cX8_readOperation : ByteArray := prog_10_method_20_code
def yX8_readOperation : MethodName := ⟨RX8, "readOperation", "()I"⟩
def RX9 : String := "LabelGuard$Regions"
def TX9 : u_T := fun k => match k with
  | 0 => ("LabelGuard$Regions", "code", "LLabelGuard$Code;", true)
  | 1 => ("LabelGuard$Regions", "shape", "LLabelGuard$Shape;", true)
  | 2 => ("LabelGuard$Regions", "passed", "LLabelGuard$Marks;", true)
  | 3 => ("LabelGuard$Regions", "members", "LLabelGuard$Marks;", true)
  | 4 => ("LabelGuard$Regions", "queue", "[I", true)
  | _ => ("LabelGuard$Regions", "queued", "I", false)
def tyX9 : Nat → FieldType := fun k => match k with
  | 0 => .object "LabelGuard$Code"
  | 1 => .object "LabelGuard$Shape"
  | 2 => .object "LabelGuard$Marks"
  | 3 => .object "LabelGuard$Marks"
  | 4 => .array .int
  | _ => .int
abbrev wsX90 : List Cond := u_ws RX9 TX9 6
theorem nmX9 : ∀ a, a < 6 → ∀ b, b < 6 → a ≠ b → (TX9 a).2.1 ≠ (TX9 b).2.1 := by decide +kernel
theorem tyX9_ok : ∀ k, k < 6 → parseFieldDescriptor (TX9 k).2.2.1 = some (tyX9 k) := by decide +kernel
abbrev cX9_init : ByteArray := prog_11_method_1_code
def yX9_init : MethodName := ⟨RX9, "<init>", "(LLabelGuard$Code;LLabelGuard$Shape;)V"⟩
abbrev cX9_workOut : ByteArray := prog_11_method_2_code
def yX9_workOut : MethodName := ⟨RX9, "workOut", "()V"⟩
abbrev cX9_has : ByteArray := prog_11_method_3_code
def yX9_has : MethodName := ⟨RX9, "has", "(II)Z"⟩
abbrev cX9_findPassed : ByteArray := prog_11_method_4_code
def yX9_findPassed : MethodName := ⟨RX9, "findPassed", "()V"⟩
abbrev cX9_narrowAll : ByteArray := prog_11_method_5_code
def yX9_narrowAll : MethodName := ⟨RX9, "narrowAll", "()Z"⟩
abbrev cX9_collect : ByteArray := prog_11_method_6_code
def yX9_collect : MethodName := ⟨RX9, "collect", "(I)V"⟩
abbrev cX9_visitNext : ByteArray := prog_11_method_7_code
def yX9_visitNext : MethodName := ⟨RX9, "visitNext", "(II)V"⟩
abbrev cX9_visit : ByteArray := prog_11_method_8_code
def yX9_visit : MethodName := ⟨RX9, "visit", "(II)V"⟩
def RX10 : String := "LabelGuard$Shape"
def TX10 : u_T := fun k => match k with
  | 0 => ("LabelGuard$Shape", "code", "LLabelGuard$Code;", true)
  | 1 => ("LabelGuard$Shape", "heights", "[I", true)
  | 2 => ("LabelGuard$Shape", "queue", "[I", true)
  | 3 => ("LabelGuard$Shape", "ending", "[Z", true)
  | _ => ("LabelGuard$Shape", "reached", "I", false)
def tyX10 : Nat → FieldType := fun k => match k with
  | 0 => .object "LabelGuard$Code"
  | 1 => .array .int
  | 2 => .array .int
  | 3 => .array .boolean
  | _ => .int
abbrev wsX100 : List Cond := u_ws RX10 TX10 5
theorem nmX10 : ∀ a, a < 5 → ∀ b, b < 5 → a ≠ b → (TX10 a).2.1 ≠ (TX10 b).2.1 := by decide +kernel
theorem tyX10_ok : ∀ k, k < 5 → parseFieldDescriptor (TX10 k).2.2.1 = some (tyX10 k) := by decide +kernel
abbrev cX10_init : ByteArray := prog_12_method_1_code
def yX10_init : MethodName := ⟨RX10, "<init>", "(LLabelGuard$Code;)V"⟩
abbrev cX10_fits : ByteArray := prog_12_method_2_code
def yX10_fits : MethodName := ⟨RX10, "fits", "()Z"⟩
abbrev cX10_reachedCount : ByteArray := prog_12_method_3_code
def yX10_reachedCount : MethodName := ⟨RX10, "reachedCount", "()I"⟩
abbrev cX10_heightAt : ByteArray := prog_12_method_4_code
def yX10_heightAt : MethodName := ⟨RX10, "heightAt", "(I)I"⟩
abbrev cX10_partsFit : ByteArray := prog_12_method_5_code
def yX10_partsFit : MethodName := ⟨RX10, "partsFit", "()Z"⟩
abbrev cX10_waysFit : ByteArray := prog_12_method_6_code
def yX10_waysFit : MethodName := ⟨RX10, "waysFit", "()Z"⟩
abbrev cX10_goesOnWell : ByteArray := prog_12_method_7_code
def yX10_goesOnWell : MethodName := ⟨RX10, "goesOnWell", "(I)Z"⟩
abbrev cX10_comesTo : ByteArray := prog_12_method_8_code
def yX10_comesTo : MethodName := ⟨RX10, "comesTo", "(II)Z"⟩
abbrev cX10_taken : ByteArray := prog_12_method_9_code
def yX10_taken : MethodName := ⟨RX10, "taken", "(I)I"⟩
abbrev cX10_given : ByteArray := prog_12_method_10_code
def yX10_given : MethodName := ⟨RX10, "given", "(I)I"⟩
abbrev cX10_allCanEnd : ByteArray := prog_12_method_11_code
def yX10_allCanEnd : MethodName := ⟨RX10, "allCanEnd", "()Z"⟩
abbrev cX10_findEnding : ByteArray := prog_12_method_12_code
def yX10_findEnding : MethodName := ⟨RX10, "findEnding", "()I"⟩
abbrev cX10_canEnd : ByteArray := prog_12_method_13_code
def yX10_canEnd : MethodName := ⟨RX10, "canEnd", "(I)Z"⟩
abbrev cX10_isEnding : ByteArray := prog_12_method_14_code
def yX10_isEnding : MethodName := ⟨RX10, "isEnding", "(I)Z"⟩
def RX11 : String := "LabelGuard"
def TX11 : u_T := fun k => match k with
  | 0 => ("LabelGuard", "lattice", "LLabelGuard$Lattice;", true)
  | 1 => ("LabelGuard", "entryLabels", "[I", true)
  | 2 => ("LabelGuard", "policyLabels", "[I", true)
  | 3 => ("LabelGuard", "values", "[I", true)
  | 4 => ("LabelGuard", "reader", "LLabelGuard$Reader;", true)
  | 5 => ("LabelGuard", "programLabels", "LLabelGuard$ProgramLabels;", true)
  | 6 => ("LabelGuard", "follower", "LLabelGuard$Follower;", true)
  | 7 => ("LabelGuard", "instructions", "LLabelGuard$Code;", true)
  | 8 => ("LabelGuard", "shape", "LLabelGuard$Shape;", true)
  | 9 => ("LabelGuard", "regions", "LLabelGuard$Regions;", true)
  | 10 => ("LabelGuard", "codeLabels", "LLabelGuard$CodeLabels;", true)
  | 11 => ("LabelGuard", "machine", "LLabelGuard$Machine;", true)
  | 12 => ("LabelGuard", "program", "LLabelGuard$Node;", false)
  | 13 => ("LabelGuard", "hasProgram", "Z", false)
  | 14 => ("LabelGuard", "errorPosition", "I", false)
  | 15 => ("LabelGuard", "accepted", "Z", false)
  | _ => ("LabelGuard", "shapeFound", "Z", false)
def tyX11 : Nat → FieldType := fun k => match k with
  | 0 => .object "LabelGuard$Lattice"
  | 1 => .array .int
  | 2 => .array .int
  | 3 => .array .int
  | 4 => .object "LabelGuard$Reader"
  | 5 => .object "LabelGuard$ProgramLabels"
  | 6 => .object "LabelGuard$Follower"
  | 7 => .object "LabelGuard$Code"
  | 8 => .object "LabelGuard$Shape"
  | 9 => .object "LabelGuard$Regions"
  | 10 => .object "LabelGuard$CodeLabels"
  | 11 => .object "LabelGuard$Machine"
  | 12 => .object "LabelGuard$Node"
  | 13 => .boolean
  | 14 => .int
  | 15 => .boolean
  | _ => .boolean
abbrev wsX110 : List Cond := u_ws RX11 TX11 17
theorem nmX11 : ∀ a, a < 17 → ∀ b, b < 17 → a ≠ b → (TX11 a).2.1 ≠ (TX11 b).2.1 := by decide +kernel
theorem tyX11_ok : ∀ k, k < 17 → parseFieldDescriptor (TX11 k).2.2.1 = some (tyX11 k) := by decide +kernel
abbrev cX11_init : ByteArray := prog_1_method_1_code
def yX11_init : MethodName := ⟨RX11, "<init>", "()V"⟩
abbrev cX11_levels : ByteArray := prog_1_method_2_code
def yX11_levels : MethodName := ⟨RX11, "levels", "(IJ)Z"⟩
abbrev cX11_join : ByteArray := prog_1_method_3_code
def yX11_join : MethodName := ⟨RX11, "join", "(II)I"⟩
abbrev cX11_label : ByteArray := prog_1_method_4_code
def yX11_label : MethodName := ⟨RX11, "label", "(III)Z"⟩
abbrev cX11_write : ByteArray := prog_1_method_5_code
def yX11_write : MethodName := ⟨RX11, "write", "(J)Z"⟩
abbrev cX11_compile : ByteArray := prog_1_method_6_code
def yX11_compile : MethodName := ⟨RX11, "compile", "()I"⟩
abbrev cX11_position : ByteArray := prog_1_method_7_code
def yX11_position : MethodName := ⟨RX11, "position", "()I"⟩
abbrev cX11_exit : ByteArray := prog_1_method_8_code
def yX11_exit : MethodName := ⟨RX11, "exit", "(I)I"⟩
abbrev cX11_code : ByteArray := prog_1_method_9_code
def yX11_code : MethodName := ⟨RX11, "code", "(II)I"⟩
abbrev cX11_empty : ByteArray := prog_1_method_10_code
def yX11_empty : MethodName := ⟨RX11, "empty", "()V"⟩
abbrev cX11_put : ByteArray := prog_1_method_11_code
def yX11_put : MethodName := ⟨RX11, "put", "(II)Z"⟩
abbrev cX11_verify : ByteArray := prog_1_method_12_code
def yX11_verify : MethodName := ⟨RX11, "verify", "()I"⟩
abbrev cX11_found : ByteArray := prog_1_method_13_code
def yX11_found : MethodName := ⟨RX11, "found", "(II)I"⟩
abbrev cX11_set : ByteArray := prog_1_method_14_code
def yX11_set : MethodName := ⟨RX11, "set", "(II)Z"⟩
abbrev cX11_get : ByteArray := prog_1_method_15_code
def yX11_get : MethodName := ⟨RX11, "get", "(I)I"⟩
abbrev cX11_run : ByteArray := prog_1_method_16_code
def yX11_run : MethodName := ⟨RX11, "run", "(I)I"⟩
abbrev cX11_follow : ByteArray := prog_1_method_17_code
def yX11_follow : MethodName := ⟨RX11, "follow", "(I)I"⟩
abbrev cX11_forgetChecks : ByteArray := prog_1_method_18_code
def yX11_forgetChecks : MethodName := ⟨RX11, "forgetChecks", "()V"⟩
abbrev cX11_isVariable : ByteArray := prog_1_method_19_code
def yX11_isVariable : MethodName := ⟨RX11, "isVariable", "(I)Z"⟩
abbrev cX11_isOperation : ByteArray := prog_1_method_20_code
def yX11_isOperation : MethodName := ⟨RX11, "isOperation", "(I)Z"⟩
abbrev cX11_operate : ByteArray := prog_1_method_21_code
def yX11_operate : MethodName := ⟨RX11, "operate", "(III)I"⟩
def RX12 : String := "LabelGuardModel"
def TX12 : u_T := fun k => match k with
  | 0 => ("LabelGuardModel", "thrown", "I", false)
  | 1 => ("LabelGuardModel", "levels", "I", false)
  | 2 => ("LabelGuardModel", "below", "[Z", true)
  | 3 => ("LabelGuardModel", "joins", "[I", true)
  | 4 => ("LabelGuardModel", "bottom", "I", false)
  | 5 => ("LabelGuardModel", "entry", "[I", true)
  | 6 => ("LabelGuardModel", "policy", "[I", true)
  | 7 => ("LabelGuardModel", "values", "[I", true)
  | 8 => ("LabelGuardModel", "before", "[I", true)
  | 9 => ("LabelGuardModel", "newBelow", "[Z", true)
  | 10 => ("LabelGuardModel", "typed", "I", false)
  | 11 => ("LabelGuardModel", "text", "[C", true)
  | 12 => ("LabelGuardModel", "p", "I", false)
  | 13 => ("LabelGuardModel", "depth", "I", false)
  | 14 => ("LabelGuardModel", "error", "I", false)
  | 15 => ("LabelGuardModel", "parts", "I", false)
  | 16 => ("LabelGuardModel", "kind", "[I", true)
  | 17 => ("LabelGuardModel", "value", "[I", true)
  | 18 => ("LabelGuardModel", "parent", "[I", true)
  | 19 => ("LabelGuardModel", "first", "[I", true)
  | 20 => ("LabelGuardModel", "last", "[I", true)
  | 21 => ("LabelGuardModel", "next", "[I", true)
  | 22 => ("LabelGuardModel", "many", "[I", true)
  | 23 => ("LabelGuardModel", "until", "[I", true)
  | 24 => ("LabelGuardModel", "size", "[I", true)
  | 25 => ("LabelGuardModel", "place", "[I", true)
  | 26 => ("LabelGuardModel", "in", "[I", true)
  | 27 => ("LabelGuardModel", "out", "[I", true)
  | 28 => ("LabelGuardModel", "under", "[I", true)
  | 29 => ("LabelGuardModel", "now", "[I", true)
  | 30 => ("LabelGuardModel", "more", "Z", false)
  | 31 => ("LabelGuardModel", "program", "Z", false)
  | 32 => ("LabelGuardModel", "programSize", "I", false)
  | 33 => ("LabelGuardModel", "programKind", "[I", true)
  | 34 => ("LabelGuardModel", "programArgument", "[I", true)
  | 35 => ("LabelGuardModel", "exits", "[I", true)
  | 36 => ("LabelGuardModel", "codeSize", "I", false)
  | 37 => ("LabelGuardModel", "codeKind", "[I", true)
  | 38 => ("LabelGuardModel", "codeArgument", "[I", true)
  | 39 => ("LabelGuardModel", "accepted", "Z", false)
  | 40 => ("LabelGuardModel", "shaped", "Z", false)
  | 41 => ("LabelGuardModel", "height", "[I", true)
  | 42 => ("LabelGuardModel", "seen", "[Z", true)
  | 43 => ("LabelGuardModel", "pile", "[I", true)
  | 44 => ("LabelGuardModel", "region", "[Z", true)
  | 45 => ("LabelGuardModel", "through", "[Z", true)
  | 46 => ("LabelGuardModel", "label", "[I", true)
  | 47 => ("LabelGuardModel", "context", "[I", true)
  | 48 => ("LabelGuardModel", "stack", "[I", true)
  | _ => ("LabelGuardModel", "looked", "I", false)
def tyX12 : Nat → FieldType := fun k => match k with
  | 0 => .int
  | 1 => .int
  | 2 => .array .boolean
  | 3 => .array .int
  | 4 => .int
  | 5 => .array .int
  | 6 => .array .int
  | 7 => .array .int
  | 8 => .array .int
  | 9 => .array .boolean
  | 10 => .int
  | 11 => .array .char
  | 12 => .int
  | 13 => .int
  | 14 => .int
  | 15 => .int
  | 16 => .array .int
  | 17 => .array .int
  | 18 => .array .int
  | 19 => .array .int
  | 20 => .array .int
  | 21 => .array .int
  | 22 => .array .int
  | 23 => .array .int
  | 24 => .array .int
  | 25 => .array .int
  | 26 => .array .int
  | 27 => .array .int
  | 28 => .array .int
  | 29 => .array .int
  | 30 => .boolean
  | 31 => .boolean
  | 32 => .int
  | 33 => .array .int
  | 34 => .array .int
  | 35 => .array .int
  | 36 => .int
  | 37 => .array .int
  | 38 => .array .int
  | 39 => .boolean
  | 40 => .boolean
  | 41 => .array .int
  | 42 => .array .boolean
  | 43 => .array .int
  | 44 => .array .boolean
  | 45 => .array .boolean
  | 46 => .array .int
  | 47 => .array .int
  | 48 => .array .int
  | _ => .int
abbrev wsX120 : List Cond := u_ws RX12 TX12 50
theorem nmX12 : ∀ a, a < 50 → ∀ b, b < 50 → a ≠ b → (TX12 a).2.1 ≠ (TX12 b).2.1 := by decide +kernel
theorem tyX12_ok : ∀ k, k < 50 → parseFieldDescriptor (TX12 k).2.2.1 = some (tyX12 k) := by decide +kernel
abbrev cX12_init : ByteArray := prog_14_method_1_code
def yX12_init : MethodName := ⟨RX12, "<init>", "()V"⟩
abbrev cX12_thrown : ByteArray := prog_14_method_2_code
def yX12_thrown : MethodName := ⟨RX12, "thrown", "()I"⟩
abbrev cX12_isLevel : ByteArray := prog_14_method_3_code
def yX12_isLevel : MethodName := ⟨RX12, "isLevel", "(I)Z"⟩
abbrev cX12_bound : ByteArray := prog_14_method_4_code
def yX12_bound : MethodName := ⟨RX12, "bound", "(IIIZ)I"⟩
abbrev cX12_fits : ByteArray := prog_14_method_5_code
def yX12_fits : MethodName := ⟨RX12, "fits", "(IIZ)Z"⟩
abbrev cX12_isOrder : ByteArray := prog_14_method_6_code
def yX12_isOrder : MethodName := ⟨RX12, "isOrder", "(I)Z"⟩
abbrev cX12_isLattice : ByteArray := prog_14_method_7_code
def yX12_isLattice : MethodName := ⟨RX12, "isLattice", "(I)Z"⟩
abbrev cX12_levels : ByteArray := prog_14_method_8_code
def yX12_levels : MethodName := ⟨RX12, "levels", "(IJ)Z"⟩
abbrev cX12_joined : ByteArray := prog_14_method_9_code
def yX12_joined : MethodName := ⟨RX12, "joined", "(II)I"⟩
abbrev cX12_join : ByteArray := prog_14_method_10_code
def yX12_join : MethodName := ⟨RX12, "join", "(II)I"⟩
abbrev cX12_label : ByteArray := prog_14_method_11_code
def yX12_label : MethodName := ⟨RX12, "label", "(III)Z"⟩
abbrev cX12_write : ByteArray := prog_14_method_12_code
def yX12_write : MethodName := ⟨RX12, "write", "(J)Z"⟩
abbrev cX12_here : ByteArray := prog_14_method_13_code
def yX12_here : MethodName := ⟨RX12, "here", "()C"⟩
abbrev cX12_takes : ByteArray := prog_14_method_14_code
def yX12_takes : MethodName := ⟨RX12, "takes", "(C)Z"⟩
abbrev cX12_opens : ByteArray := prog_14_method_15_code
def yX12_opens : MethodName := ⟨RX12, "opens", "(C)Z"⟩
abbrev cX12_closes : ByteArray := prog_14_method_16_code
def yX12_closes : MethodName := ⟨RX12, "closes", "(C)Z"⟩
abbrev cX12_isName : ByteArray := prog_14_method_17_code
def yX12_isName : MethodName := ⟨RX12, "isName", "(C)Z"⟩
abbrev cX12_isDigit : ByteArray := prog_14_method_18_code
def yX12_isDigit : MethodName := ⟨RX12, "isDigit", "(C)Z"⟩
abbrev cX12_part : ByteArray := prog_14_method_19_code
def yX12_part : MethodName := ⟨RX12, "part", "(II)I"⟩
abbrev cX12_operation : ByteArray := prog_14_method_20_code
def yX12_operation : MethodName := ⟨RX12, "operation", "(C)I"⟩
abbrev cX12_begin : ByteArray := prog_14_method_21_code
def yX12_begin : MethodName := ⟨RX12, "begin", "(I)I"⟩
abbrev cX12_expression : ByteArray := prog_14_method_22_code
def yX12_expression : MethodName := ⟨RX12, "expression", "(I)Z"⟩
abbrev cX12_read : ByteArray := prog_14_method_23_code
def yX12_read : MethodName := ⟨RX12, "read", "()Z"⟩
abbrev cX12_measure : ByteArray := prog_14_method_24_code
def yX12_measure : MethodName := ⟨RX12, "measure", "()V"⟩
abbrev cX12_say : ByteArray := prog_14_method_25_code
def yX12_say : MethodName := ⟨RX12, "say", "(III)V"⟩
abbrev cX12_lay : ByteArray := prog_14_method_26_code
def yX12_lay : MethodName := ⟨RX12, "lay", "()V"⟩
abbrev cX12_labelOf : ByteArray := prog_14_method_27_code
def yX12_labelOf : MethodName := ⟨RX12, "labelOf", "(I)I"⟩
abbrev cX12_setIn : ByteArray := prog_14_method_28_code
def yX12_setIn : MethodName := ⟨RX12, "setIn", "(II)V"⟩
abbrev cX12_setOut : ByteArray := prog_14_method_29_code
def yX12_setOut : MethodName := ⟨RX12, "setOut", "(I)V"⟩
abbrev cX12_take : ByteArray := prog_14_method_30_code
def yX12_take : MethodName := ⟨RX12, "take", "([II)V"⟩
abbrev cX12_joinOut : ByteArray := prog_14_method_31_code
def yX12_joinOut : MethodName := ⟨RX12, "joinOut", "(I)V"⟩
abbrev cX12_statement : ByteArray := prog_14_method_32_code
def yX12_statement : MethodName := ⟨RX12, "statement", "(I)V"⟩
abbrev cX12_row : ByteArray := prog_14_method_33_code
def yX12_row : MethodName := ⟨RX12, "row", "(I)V"⟩
abbrev cX12_labelProgram : ByteArray := prog_14_method_34_code
def yX12_labelProgram : MethodName := ⟨RX12, "labelProgram", "()V"⟩
abbrev cX12_compile : ByteArray := prog_14_method_35_code
def yX12_compile : MethodName := ⟨RX12, "compile", "()I"⟩
abbrev cX12_position : ByteArray := prog_14_method_36_code
def yX12_position : MethodName := ⟨RX12, "position", "()I"⟩
abbrev cX12_exit : ByteArray := prog_14_method_37_code
def yX12_exit : MethodName := ⟨RX12, "exit", "(I)I"⟩
abbrev cX12_code : ByteArray := prog_14_method_38_code
def yX12_code : MethodName := ⟨RX12, "code", "(II)I"⟩
abbrev cX12_empty : ByteArray := prog_14_method_39_code
def yX12_empty : MethodName := ⟨RX12, "empty", "()V"⟩
abbrev cX12_put : ByteArray := prog_14_method_40_code
def yX12_put : MethodName := ⟨RX12, "put", "(II)Z"⟩
abbrev cX12_plain : ByteArray := prog_14_method_41_code
def yX12_plain : MethodName := ⟨RX12, "plain", "()Z"⟩
abbrev cX12_takenBy : ByteArray := prog_14_method_42_code
def yX12_takenBy : MethodName := ⟨RX12, "takenBy", "(I)I"⟩
abbrev cX12_givenBy : ByteArray := prog_14_method_43_code
def yX12_givenBy : MethodName := ⟨RX12, "givenBy", "(I)I"⟩
abbrev cX12_nextOf : ByteArray := prog_14_method_44_code
def yX12_nextOf : MethodName := ⟨RX12, "nextOf", "(II)I"⟩
abbrev cX12_heights : ByteArray := prog_14_method_45_code
def yX12_heights : MethodName := ⟨RX12, "heights", "()Z"⟩
abbrev cX12_comesToEnd : ByteArray := prog_14_method_46_code
def yX12_comesToEnd : MethodName := ⟨RX12, "comesToEnd", "(II)Z"⟩
abbrev cX12_shape : ByteArray := prog_14_method_47_code
def yX12_shape : MethodName := ⟨RX12, "shape", "()Z"⟩
abbrev cX12_findRegion : ByteArray := prog_14_method_48_code
def yX12_findRegion : MethodName := ⟨RX12, "findRegion", "(I)V"⟩
abbrev cX12_come : ByteArray := prog_14_method_49_code
def yX12_come : MethodName := ⟨RX12, "come", "(II)V"⟩
abbrev cX12_findContext : ByteArray := prog_14_method_50_code
def yX12_findContext : MethodName := ⟨RX12, "findContext", "(I)V"⟩
abbrev cX12_leave : ByteArray := prog_14_method_51_code
def yX12_leave : MethodName := ⟨RX12, "leave", "(I)V"⟩
abbrev cX12_labelCode : ByteArray := prog_14_method_52_code
def yX12_labelCode : MethodName := ⟨RX12, "labelCode", "()V"⟩
abbrev cX12_verify : ByteArray := prog_14_method_53_code
def yX12_verify : MethodName := ⟨RX12, "verify", "()I"⟩
abbrev cX12_found : ByteArray := prog_14_method_54_code
def yX12_found : MethodName := ⟨RX12, "found", "(II)I"⟩
abbrev cX12_set : ByteArray := prog_14_method_55_code
def yX12_set : MethodName := ⟨RX12, "set", "(II)Z"⟩
abbrev cX12_get : ByteArray := prog_14_method_56_code
def yX12_get : MethodName := ⟨RX12, "get", "(I)I"⟩
abbrev cX12_worked : ByteArray := prog_14_method_57_code
def yX12_worked : MethodName := ⟨RX12, "worked", "(III)I"⟩
abbrev cX12_goOver : ByteArray := prog_14_method_58_code
def yX12_goOver : MethodName := ⟨RX12, "goOver", "([I[III)I"⟩
abbrev cX12_run : ByteArray := prog_14_method_59_code
def yX12_run : MethodName := ⟨RX12, "run", "(I)I"⟩
abbrev cX12_follow : ByteArray := prog_14_method_60_code
def yX12_follow : MethodName := ⟨RX12, "follow", "(I)I"⟩
def RL : String := "LabelGuardLaw"
abbrev cL_levels : ByteArray := method_3_code
def yL_levels : MethodName := ⟨RL, "levels", "(LLabelGuard;IJ[J)I"⟩
abbrev cL_compile : ByteArray := method_4_code
def yL_compile : MethodName := ⟨RL, "compile", "(LLabelGuard;[J)I"⟩
abbrev cL_verify : ByteArray := method_5_code
def yL_verify : MethodName := ⟨RL, "verify", "(LLabelGuard;[J)I"⟩
abbrev cL_run : ByteArray := method_6_code
def yL_run : MethodName := ⟨RL, "run", "(LLabelGuard;I[J)I"⟩
abbrev cL_law : ByteArray := code
def yL_law : MethodName := ⟨RL, "law", "([I)Z"⟩
abbrev sw_cls : List vw_C := [(RX0, TX0, 3), (RX1, TX1, 7), (RX2, TX2, 3), (RX3, TX3, 5), (RX4, TX4, 4), (RX5, TX5, 2), (RX6, TX6, 6), (RX7, TX7, 4), (RX8, TX8, 4), (RX9, TX9, 6), (RX10, TX10, 5), (RX11, TX11, 17), (RX12, TX12, 50)]
end
section
theorem dX0_init_0 : decode cX0_init 0 = .ok (.aload_n 0, 1) := by decide +kernel
theorem dX0_init_1 : decode cX0_init 1 = .ok (.invokespecial 3, 3) := by decide +kernel
theorem dX0_init_4 : decode cX0_init 4 = .ok (.aload_n 0, 1) := by decide +kernel
theorem dX0_init_5 : decode cX0_init 5 = .ok (.bipush 100, 2) := by decide +kernel
theorem dX0_init_7 : decode cX0_init 7 = .ok (.newarray .int, 2) := by decide +kernel
theorem dX0_init_9 : decode cX0_init 9 = .ok (.putfield 9, 3) := by decide +kernel
theorem dX0_init_12 : decode cX0_init 12 = .ok (.aload_n 0, 1) := by decide +kernel
theorem dX0_init_13 : decode cX0_init 13 = .ok (.bipush 100, 2) := by decide +kernel
theorem dX0_init_15 : decode cX0_init 15 = .ok (.newarray .int, 2) := by decide +kernel
theorem dX0_init_17 : decode cX0_init 17 = .ok (.putfield 15, 3) := by decide +kernel
theorem dX0_init_20 : decode cX0_init 20 = .ok (.aload_n 0, 1) := by decide +kernel
theorem dX0_init_21 : decode cX0_init 21 = .ok (.iconst 0, 1) := by decide +kernel
theorem dX0_init_22 : decode cX0_init 22 = .ok (.putfield 18, 3) := by decide +kernel
theorem dX0_init_25 : decode cX0_init 25 = .ok (.return_, 1) := by decide +kernel
theorem dX0_clear_0 : decode cX0_clear 0 = .ok (.aload_n 0, 1) := by decide +kernel
theorem dX0_clear_1 : decode cX0_clear 1 = .ok (.iconst 0, 1) := by decide +kernel
theorem dX0_clear_2 : decode cX0_clear 2 = .ok (.putfield 18, 3) := by decide +kernel
theorem dX0_clear_5 : decode cX0_clear 5 = .ok (.return_, 1) := by decide +kernel
theorem dX0_add_0 : decode cX0_add 0 = .ok (.aload_n 0, 1) := by decide +kernel
theorem dX0_add_1 : decode cX0_add 1 = .ok (.getfield 18, 3) := by decide +kernel
theorem dX0_add_4 : decode cX0_add 4 = .ok (.bipush 100, 2) := by decide +kernel
theorem dX0_add_6 : decode cX0_add 6 = .ok (.if_icmp .lt 5, 3) := by decide +kernel
theorem dX0_add_9 : decode cX0_add 9 = .ok (.iconst 0, 1) := by decide +kernel
theorem dX0_add_10 : decode cX0_add 10 = .ok (.ireturn, 1) := by decide +kernel
theorem dX0_add_11 : decode cX0_add 11 = .ok (.aload_n 0, 1) := by decide +kernel
theorem dX0_add_12 : decode cX0_add 12 = .ok (.getfield 9, 3) := by decide +kernel
theorem dX0_add_15 : decode cX0_add 15 = .ok (.aload_n 0, 1) := by decide +kernel
theorem dX0_add_16 : decode cX0_add 16 = .ok (.getfield 18, 3) := by decide +kernel
theorem dX0_add_19 : decode cX0_add 19 = .ok (.iload_n 1, 1) := by decide +kernel
theorem dX0_add_20 : decode cX0_add 20 = .ok (.iastore, 1) := by decide +kernel
theorem dX0_add_21 : decode cX0_add 21 = .ok (.aload_n 0, 1) := by decide +kernel
theorem dX0_add_22 : decode cX0_add 22 = .ok (.getfield 15, 3) := by decide +kernel
theorem dX0_add_25 : decode cX0_add 25 = .ok (.aload_n 0, 1) := by decide +kernel
theorem dX0_add_26 : decode cX0_add 26 = .ok (.getfield 18, 3) := by decide +kernel
theorem dX0_add_29 : decode cX0_add 29 = .ok (.iload_n 2, 1) := by decide +kernel
theorem dX0_add_30 : decode cX0_add 30 = .ok (.iastore, 1) := by decide +kernel
theorem dX0_add_31 : decode cX0_add 31 = .ok (.aload_n 0, 1) := by decide +kernel
theorem dX0_add_32 : decode cX0_add 32 = .ok (.dup, 1) := by decide +kernel
theorem dX0_add_33 : decode cX0_add 33 = .ok (.getfield 18, 3) := by decide +kernel
theorem dX0_add_36 : decode cX0_add 36 = .ok (.iconst 1, 1) := by decide +kernel
theorem dX0_add_37 : decode cX0_add 37 = .ok (.iadd, 1) := by decide +kernel
theorem dX0_add_38 : decode cX0_add 38 = .ok (.putfield 18, 3) := by decide +kernel
theorem dX0_add_41 : decode cX0_add 41 = .ok (.iconst 1, 1) := by decide +kernel
theorem dX0_add_42 : decode cX0_add 42 = .ok (.ireturn, 1) := by decide +kernel
theorem dX0_size_0 : decode cX0_size 0 = .ok (.aload_n 0, 1) := by decide +kernel
theorem dX0_size_1 : decode cX0_size 1 = .ok (.getfield 18, 3) := by decide +kernel
theorem dX0_size_4 : decode cX0_size 4 = .ok (.ireturn, 1) := by decide +kernel
theorem dX0_has_0 : decode cX0_has 0 = .ok (.iload_n 1, 1) := by decide +kernel
theorem dX0_has_1 : decode cX0_has 1 = .ok (.ifCond .lt 15, 3) := by decide +kernel
theorem dX0_has_4 : decode cX0_has 4 = .ok (.iload_n 1, 1) := by decide +kernel
theorem dX0_has_5 : decode cX0_has 5 = .ok (.aload_n 0, 1) := by decide +kernel
theorem dX0_has_6 : decode cX0_has 6 = .ok (.getfield 18, 3) := by decide +kernel
theorem dX0_has_9 : decode cX0_has 9 = .ok (.if_icmp .ge 7, 3) := by decide +kernel
theorem dX0_has_12 : decode cX0_has 12 = .ok (.iconst 1, 1) := by decide +kernel
theorem dX0_has_13 : decode cX0_has 13 = .ok (.goto 4, 3) := by decide +kernel
theorem dX0_has_16 : decode cX0_has 16 = .ok (.iconst 0, 1) := by decide +kernel
theorem dX0_has_17 : decode cX0_has 17 = .ok (.ireturn, 1) := by decide +kernel
theorem dX0_kindAt_0 : decode cX0_kindAt 0 = .ok (.aload_n 0, 1) := by decide +kernel
theorem dX0_kindAt_1 : decode cX0_kindAt 1 = .ok (.iload_n 1, 1) := by decide +kernel
theorem dX0_kindAt_2 : decode cX0_kindAt 2 = .ok (.invokevirtual 22, 3) := by decide +kernel
theorem dX0_kindAt_5 : decode cX0_kindAt 5 = .ok (.ifCond .eq 12, 3) := by decide +kernel
theorem dX0_kindAt_8 : decode cX0_kindAt 8 = .ok (.aload_n 0, 1) := by decide +kernel
theorem dX0_kindAt_9 : decode cX0_kindAt 9 = .ok (.getfield 9, 3) := by decide +kernel
theorem dX0_kindAt_12 : decode cX0_kindAt 12 = .ok (.iload_n 1, 1) := by decide +kernel
theorem dX0_kindAt_13 : decode cX0_kindAt 13 = .ok (.iaload, 1) := by decide +kernel
theorem dX0_kindAt_14 : decode cX0_kindAt 14 = .ok (.goto 4, 3) := by decide +kernel
theorem dX0_kindAt_17 : decode cX0_kindAt 17 = .ok (.iconst (-1), 1) := by decide +kernel
theorem dX0_kindAt_18 : decode cX0_kindAt 18 = .ok (.ireturn, 1) := by decide +kernel
theorem dX0_argumentAt_0 : decode cX0_argumentAt 0 = .ok (.aload_n 0, 1) := by decide +kernel
theorem dX0_argumentAt_1 : decode cX0_argumentAt 1 = .ok (.iload_n 1, 1) := by decide +kernel
theorem dX0_argumentAt_2 : decode cX0_argumentAt 2 = .ok (.invokevirtual 22, 3) := by decide +kernel
theorem dX0_argumentAt_5 : decode cX0_argumentAt 5 = .ok (.ifCond .eq 12, 3) := by decide +kernel
theorem dX0_argumentAt_8 : decode cX0_argumentAt 8 = .ok (.aload_n 0, 1) := by decide +kernel
theorem dX0_argumentAt_9 : decode cX0_argumentAt 9 = .ok (.getfield 15, 3) := by decide +kernel
theorem dX0_argumentAt_12 : decode cX0_argumentAt 12 = .ok (.iload_n 1, 1) := by decide +kernel
theorem dX0_argumentAt_13 : decode cX0_argumentAt 13 = .ok (.iaload, 1) := by decide +kernel
theorem dX0_argumentAt_14 : decode cX0_argumentAt 14 = .ok (.goto 4, 3) := by decide +kernel
theorem dX0_argumentAt_17 : decode cX0_argumentAt 17 = .ok (.iconst (-1), 1) := by decide +kernel
theorem dX0_argumentAt_18 : decode cX0_argumentAt 18 = .ok (.ireturn, 1) := by decide +kernel
theorem dX0_nextOf_0 : decode cX0_nextOf 0 = .ok (.aload_n 0, 1) := by decide +kernel
theorem dX0_nextOf_1 : decode cX0_nextOf 1 = .ok (.iload_n 1, 1) := by decide +kernel
theorem dX0_nextOf_2 : decode cX0_nextOf 2 = .ok (.invokevirtual 22, 3) := by decide +kernel
theorem dX0_nextOf_5 : decode cX0_nextOf 5 = .ok (.ifCond .ne 5, 3) := by decide +kernel
theorem dX0_nextOf_8 : decode cX0_nextOf 8 = .ok (.iconst (-1), 1) := by decide +kernel
theorem dX0_nextOf_9 : decode cX0_nextOf 9 = .ok (.ireturn, 1) := by decide +kernel
theorem dX0_nextOf_10 : decode cX0_nextOf 10 = .ok (.aload_n 0, 1) := by decide +kernel
theorem dX0_nextOf_11 : decode cX0_nextOf 11 = .ok (.getfield 9, 3) := by decide +kernel
theorem dX0_nextOf_14 : decode cX0_nextOf 14 = .ok (.iload_n 1, 1) := by decide +kernel
theorem dX0_nextOf_15 : decode cX0_nextOf 15 = .ok (.iaload, 1) := by decide +kernel
theorem dX0_nextOf_16 : decode cX0_nextOf 16 = .ok (.istore_n 3, 1) := by decide +kernel
theorem dX0_nextOf_17 : decode cX0_nextOf 17 = .ok (.iconst (-1), 1) := by decide +kernel
theorem dX0_nextOf_18 : decode cX0_nextOf 18 = .ok (.istore 4, 2) := by decide +kernel
theorem dX0_nextOf_20 : decode cX0_nextOf 20 = .ok (.iload_n 2, 1) := by decide +kernel
theorem dX0_nextOf_21 : decode cX0_nextOf 21 = .ok (.ifCond .ne 23, 3) := by decide +kernel
theorem dX0_nextOf_24 : decode cX0_nextOf 24 = .ok (.iload_n 3, 1) := by decide +kernel
theorem dX0_nextOf_25 : decode cX0_nextOf 25 = .ok (.bipush 8, 2) := by decide +kernel
theorem dX0_nextOf_27 : decode cX0_nextOf 27 = .ok (.if_icmp .eq 17, 3) := by decide +kernel
theorem dX0_nextOf_30 : decode cX0_nextOf 30 = .ok (.iload_n 3, 1) := by decide +kernel
theorem dX0_nextOf_31 : decode cX0_nextOf 31 = .ok (.bipush 9, 2) := by decide +kernel
theorem dX0_nextOf_33 : decode cX0_nextOf 33 = .ok (.if_icmp .eq 11, 3) := by decide +kernel
theorem dX0_nextOf_36 : decode cX0_nextOf 36 = .ok (.iload_n 1, 1) := by decide +kernel
theorem dX0_nextOf_37 : decode cX0_nextOf 37 = .ok (.iconst 1, 1) := by decide +kernel
theorem dX0_nextOf_38 : decode cX0_nextOf 38 = .ok (.iadd, 1) := by decide +kernel
theorem dX0_nextOf_39 : decode cX0_nextOf 39 = .ok (.istore 4, 2) := by decide +kernel
theorem dX0_nextOf_41 : decode cX0_nextOf 41 = .ok (.goto 32, 3) := by decide +kernel
theorem dX0_nextOf_44 : decode cX0_nextOf 44 = .ok (.iload_n 2, 1) := by decide +kernel
theorem dX0_nextOf_45 : decode cX0_nextOf 45 = .ok (.ifCond .ne 9, 3) := by decide +kernel
theorem dX0_nextOf_48 : decode cX0_nextOf 48 = .ok (.iload_n 3, 1) := by decide +kernel
theorem dX0_nextOf_49 : decode cX0_nextOf 49 = .ok (.bipush 8, 2) := by decide +kernel
theorem dX0_nextOf_51 : decode cX0_nextOf 51 = .ok (.if_icmp .eq 14, 3) := by decide +kernel
theorem dX0_nextOf_54 : decode cX0_nextOf 54 = .ok (.iload_n 2, 1) := by decide +kernel
theorem dX0_nextOf_55 : decode cX0_nextOf 55 = .ok (.iconst 1, 1) := by decide +kernel
theorem dX0_nextOf_56 : decode cX0_nextOf 56 = .ok (.if_icmp .ne 17, 3) := by decide +kernel
theorem dX0_nextOf_59 : decode cX0_nextOf 59 = .ok (.iload_n 3, 1) := by decide +kernel
theorem dX0_nextOf_60 : decode cX0_nextOf 60 = .ok (.bipush 7, 2) := by decide +kernel
theorem dX0_nextOf_62 : decode cX0_nextOf 62 = .ok (.if_icmp .ne 11, 3) := by decide +kernel
theorem dX0_nextOf_65 : decode cX0_nextOf 65 = .ok (.aload_n 0, 1) := by decide +kernel
theorem dX0_nextOf_66 : decode cX0_nextOf 66 = .ok (.getfield 15, 3) := by decide +kernel
theorem dX0_nextOf_69 : decode cX0_nextOf 69 = .ok (.iload_n 1, 1) := by decide +kernel
theorem dX0_nextOf_70 : decode cX0_nextOf 70 = .ok (.iaload, 1) := by decide +kernel
theorem dX0_nextOf_71 : decode cX0_nextOf 71 = .ok (.istore 4, 2) := by decide +kernel
theorem dX0_nextOf_73 : decode cX0_nextOf 73 = .ok (.aload_n 0, 1) := by decide +kernel
theorem dX0_nextOf_74 : decode cX0_nextOf 74 = .ok (.iload 4, 2) := by decide +kernel
theorem dX0_nextOf_76 : decode cX0_nextOf 76 = .ok (.invokevirtual 22, 3) := by decide +kernel
theorem dX0_nextOf_79 : decode cX0_nextOf 79 = .ok (.ifCond .eq 8, 3) := by decide +kernel
theorem dX0_nextOf_82 : decode cX0_nextOf 82 = .ok (.iload 4, 2) := by decide +kernel
theorem dX0_nextOf_84 : decode cX0_nextOf 84 = .ok (.goto 4, 3) := by decide +kernel
theorem dX0_nextOf_87 : decode cX0_nextOf 87 = .ok (.iconst (-1), 1) := by decide +kernel
theorem dX0_nextOf_88 : decode cX0_nextOf 88 = .ok (.ireturn, 1) := by decide +kernel
theorem dX0_become_0 : decode cX0_become 0 = .ok (.aload_n 0, 1) := by decide +kernel
theorem dX0_become_1 : decode cX0_become 1 = .ok (.invokevirtual 26, 3) := by decide +kernel
theorem dX0_become_4 : decode cX0_become 4 = .ok (.aload_n 0, 1) := by decide +kernel
theorem dX0_become_5 : decode cX0_become 5 = .ok (.aload_n 1, 1) := by decide +kernel
theorem dX0_become_6 : decode cX0_become 6 = .ok (.iconst 0, 1) := by decide +kernel
theorem dX0_become_7 : decode cX0_become 7 = .ok (.invokevirtual 29, 3) := by decide +kernel
theorem dX0_become_10 : decode cX0_become 10 = .ok (.aload_n 0, 1) := by decide +kernel
theorem dX0_become_11 : decode cX0_become 11 = .ok (.bipush 9, 2) := by decide +kernel
theorem dX0_become_13 : decode cX0_become 13 = .ok (.iconst 0, 1) := by decide +kernel
theorem dX0_become_14 : decode cX0_become 14 = .ok (.invokevirtual 33, 3) := by decide +kernel
theorem dX0_become_17 : decode cX0_become 17 = .ok (.pop, 1) := by decide +kernel
theorem dX0_become_18 : decode cX0_become 18 = .ok (.return_, 1) := by decide +kernel
theorem dX0_addRow_0 : decode cX0_addRow 0 = .ok (.iload_n 2, 1) := by decide +kernel
theorem dX0_addRow_1 : decode cX0_addRow 1 = .ok (.bipush 6, 2) := by decide +kernel
theorem dX0_addRow_3 : decode cX0_addRow 3 = .ok (.if_icmp .le 4, 3) := by decide +kernel
theorem dX0_addRow_6 : decode cX0_addRow 6 = .ok (.return_, 1) := by decide +kernel
theorem dX0_addRow_7 : decode cX0_addRow 7 = .ok (.aload_n 1, 1) := by decide +kernel
theorem dX0_addRow_8 : decode cX0_addRow 8 = .ok (.astore_n 3, 1) := by decide +kernel
theorem dX0_addRow_9 : decode cX0_addRow 9 = .ok (.aload_n 3, 1) := by decide +kernel
theorem dX0_addRow_10 : decode cX0_addRow 10 = .ok (.ifnull 72, 3) := by decide +kernel
theorem dX0_addRow_13 : decode cX0_addRow 13 = .ok (.aload_n 0, 1) := by decide +kernel
theorem dX0_addRow_14 : decode cX0_addRow 14 = .ok (.getfield 18, 3) := by decide +kernel
theorem dX0_addRow_17 : decode cX0_addRow 17 = .ok (.istore 4, 2) := by decide +kernel
theorem dX0_addRow_19 : decode cX0_addRow 19 = .ok (.aload_n 0, 1) := by decide +kernel
theorem dX0_addRow_20 : decode cX0_addRow 20 = .ok (.aload_n 3, 1) := by decide +kernel
theorem dX0_addRow_21 : decode cX0_addRow 21 = .ok (.getfield 37, 3) := by decide +kernel
theorem dX0_addRow_24 : decode cX0_addRow 24 = .ok (.iconst 0, 1) := by decide +kernel
theorem dX0_addRow_25 : decode cX0_addRow 25 = .ok (.invokevirtual 43, 3) := by decide +kernel
theorem dX0_addRow_28 : decode cX0_addRow 28 = .ok (.aload_n 3, 1) := by decide +kernel
theorem dX0_addRow_29 : decode cX0_addRow 29 = .ok (.getfield 46, 3) := by decide +kernel
theorem dX0_addRow_32 : decode cX0_addRow 32 = .ok (.iconst 4, 1) := by decide +kernel
theorem dX0_addRow_33 : decode cX0_addRow 33 = .ok (.if_icmp .ne 12, 3) := by decide +kernel
theorem dX0_addRow_36 : decode cX0_addRow 36 = .ok (.aload_n 0, 1) := by decide +kernel
theorem dX0_addRow_37 : decode cX0_addRow 37 = .ok (.aload_n 3, 1) := by decide +kernel
theorem dX0_addRow_38 : decode cX0_addRow 38 = .ok (.iload_n 2, 1) := by decide +kernel
theorem dX0_addRow_39 : decode cX0_addRow 39 = .ok (.invokevirtual 49, 3) := by decide +kernel
theorem dX0_addRow_42 : decode cX0_addRow 42 = .ok (.goto 32, 3) := by decide +kernel
theorem dX0_addRow_45 : decode cX0_addRow 45 = .ok (.aload_n 3, 1) := by decide +kernel
theorem dX0_addRow_46 : decode cX0_addRow 46 = .ok (.getfield 46, 3) := by decide +kernel
theorem dX0_addRow_49 : decode cX0_addRow 49 = .ok (.iconst 5, 1) := by decide +kernel
theorem dX0_addRow_50 : decode cX0_addRow 50 = .ok (.if_icmp .ne 14, 3) := by decide +kernel
theorem dX0_addRow_53 : decode cX0_addRow 53 = .ok (.aload_n 0, 1) := by decide +kernel
theorem dX0_addRow_54 : decode cX0_addRow 54 = .ok (.aload_n 3, 1) := by decide +kernel
theorem dX0_addRow_55 : decode cX0_addRow 55 = .ok (.iload 4, 2) := by decide +kernel
theorem dX0_addRow_57 : decode cX0_addRow 57 = .ok (.iload_n 2, 1) := by decide +kernel
theorem dX0_addRow_58 : decode cX0_addRow 58 = .ok (.invokevirtual 52, 3) := by decide +kernel
theorem dX0_addRow_61 : decode cX0_addRow 61 = .ok (.goto 13, 3) := by decide +kernel
theorem dX0_addRow_64 : decode cX0_addRow 64 = .ok (.aload_n 0, 1) := by decide +kernel
theorem dX0_addRow_65 : decode cX0_addRow 65 = .ok (.iconst 2, 1) := by decide +kernel
theorem dX0_addRow_66 : decode cX0_addRow 66 = .ok (.aload_n 3, 1) := by decide +kernel
theorem dX0_addRow_67 : decode cX0_addRow 67 = .ok (.getfield 56, 3) := by decide +kernel
theorem dX0_addRow_70 : decode cX0_addRow 70 = .ok (.invokevirtual 33, 3) := by decide +kernel
theorem dX0_addRow_73 : decode cX0_addRow 73 = .ok (.pop, 1) := by decide +kernel
theorem dX0_addRow_74 : decode cX0_addRow 74 = .ok (.aload_n 3, 1) := by decide +kernel
theorem dX0_addRow_75 : decode cX0_addRow 75 = .ok (.getfield 59, 3) := by decide +kernel
theorem dX0_addRow_78 : decode cX0_addRow 78 = .ok (.astore_n 3, 1) := by decide +kernel
theorem dX0_addRow_79 : decode cX0_addRow 79 = .ok (.goto (-70), 3) := by decide +kernel
theorem dX0_addRow_82 : decode cX0_addRow 82 = .ok (.return_, 1) := by decide +kernel
theorem dX0_addChoice_0 : decode cX0_addChoice 0 = .ok (.aload_n 0, 1) := by decide +kernel
theorem dX0_addChoice_1 : decode cX0_addChoice 1 = .ok (.getfield 18, 3) := by decide +kernel
theorem dX0_addChoice_4 : decode cX0_addChoice 4 = .ok (.istore_n 3, 1) := by decide +kernel
theorem dX0_addChoice_5 : decode cX0_addChoice 5 = .ok (.aload_n 0, 1) := by decide +kernel
theorem dX0_addChoice_6 : decode cX0_addChoice 6 = .ok (.bipush 7, 2) := by decide +kernel
theorem dX0_addChoice_8 : decode cX0_addChoice 8 = .ok (.iconst 0, 1) := by decide +kernel
theorem dX0_addChoice_9 : decode cX0_addChoice 9 = .ok (.invokevirtual 33, 3) := by decide +kernel
theorem dX0_addChoice_12 : decode cX0_addChoice 12 = .ok (.pop, 1) := by decide +kernel
theorem dX0_addChoice_13 : decode cX0_addChoice 13 = .ok (.aload_n 0, 1) := by decide +kernel
theorem dX0_addChoice_14 : decode cX0_addChoice 14 = .ok (.aload_n 1, 1) := by decide +kernel
theorem dX0_addChoice_15 : decode cX0_addChoice 15 = .ok (.getfield 62, 3) := by decide +kernel
theorem dX0_addChoice_18 : decode cX0_addChoice 18 = .ok (.iload_n 2, 1) := by decide +kernel
theorem dX0_addChoice_19 : decode cX0_addChoice 19 = .ok (.iconst 1, 1) := by decide +kernel
theorem dX0_addChoice_20 : decode cX0_addChoice 20 = .ok (.iadd, 1) := by decide +kernel
theorem dX0_addChoice_21 : decode cX0_addChoice 21 = .ok (.invokevirtual 29, 3) := by decide +kernel
theorem dX0_addChoice_24 : decode cX0_addChoice 24 = .ok (.aload_n 0, 1) := by decide +kernel
theorem dX0_addChoice_25 : decode cX0_addChoice 25 = .ok (.getfield 18, 3) := by decide +kernel
theorem dX0_addChoice_28 : decode cX0_addChoice 28 = .ok (.istore 4, 2) := by decide +kernel
theorem dX0_addChoice_30 : decode cX0_addChoice 30 = .ok (.aload_n 0, 1) := by decide +kernel
theorem dX0_addChoice_31 : decode cX0_addChoice 31 = .ok (.bipush 8, 2) := by decide +kernel
theorem dX0_addChoice_33 : decode cX0_addChoice 33 = .ok (.iconst 0, 1) := by decide +kernel
theorem dX0_addChoice_34 : decode cX0_addChoice 34 = .ok (.invokevirtual 33, 3) := by decide +kernel
theorem dX0_addChoice_37 : decode cX0_addChoice 37 = .ok (.pop, 1) := by decide +kernel
theorem dX0_addChoice_38 : decode cX0_addChoice 38 = .ok (.aload_n 0, 1) := by decide +kernel
theorem dX0_addChoice_39 : decode cX0_addChoice 39 = .ok (.iload_n 3, 1) := by decide +kernel
theorem dX0_addChoice_40 : decode cX0_addChoice 40 = .ok (.invokevirtual 65, 3) := by decide +kernel
theorem dX0_addChoice_43 : decode cX0_addChoice 43 = .ok (.aload_n 0, 1) := by decide +kernel
theorem dX0_addChoice_44 : decode cX0_addChoice 44 = .ok (.aload_n 1, 1) := by decide +kernel
theorem dX0_addChoice_45 : decode cX0_addChoice 45 = .ok (.getfield 69, 3) := by decide +kernel
theorem dX0_addChoice_48 : decode cX0_addChoice 48 = .ok (.iload_n 2, 1) := by decide +kernel
theorem dX0_addChoice_49 : decode cX0_addChoice 49 = .ok (.iconst 1, 1) := by decide +kernel
theorem dX0_addChoice_50 : decode cX0_addChoice 50 = .ok (.iadd, 1) := by decide +kernel
theorem dX0_addChoice_51 : decode cX0_addChoice 51 = .ok (.invokevirtual 29, 3) := by decide +kernel
theorem dX0_addChoice_54 : decode cX0_addChoice 54 = .ok (.aload_n 0, 1) := by decide +kernel
theorem dX0_addChoice_55 : decode cX0_addChoice 55 = .ok (.iload 4, 2) := by decide +kernel
theorem dX0_addChoice_57 : decode cX0_addChoice 57 = .ok (.invokevirtual 65, 3) := by decide +kernel
theorem dX0_addChoice_60 : decode cX0_addChoice 60 = .ok (.return_, 1) := by decide +kernel
theorem dX0_addLoop_0 : decode cX0_addLoop 0 = .ok (.aload_n 0, 1) := by decide +kernel
theorem dX0_addLoop_1 : decode cX0_addLoop 1 = .ok (.getfield 18, 3) := by decide +kernel
theorem dX0_addLoop_4 : decode cX0_addLoop 4 = .ok (.istore 4, 2) := by decide +kernel
theorem dX0_addLoop_6 : decode cX0_addLoop 6 = .ok (.aload_n 0, 1) := by decide +kernel
theorem dX0_addLoop_7 : decode cX0_addLoop 7 = .ok (.bipush 7, 2) := by decide +kernel
theorem dX0_addLoop_9 : decode cX0_addLoop 9 = .ok (.iconst 0, 1) := by decide +kernel
theorem dX0_addLoop_10 : decode cX0_addLoop 10 = .ok (.invokevirtual 33, 3) := by decide +kernel
theorem dX0_addLoop_13 : decode cX0_addLoop 13 = .ok (.pop, 1) := by decide +kernel
theorem dX0_addLoop_14 : decode cX0_addLoop 14 = .ok (.aload_n 0, 1) := by decide +kernel
theorem dX0_addLoop_15 : decode cX0_addLoop 15 = .ok (.aload_n 1, 1) := by decide +kernel
theorem dX0_addLoop_16 : decode cX0_addLoop 16 = .ok (.getfield 62, 3) := by decide +kernel
theorem dX0_addLoop_19 : decode cX0_addLoop 19 = .ok (.iload_n 3, 1) := by decide +kernel
theorem dX0_addLoop_20 : decode cX0_addLoop 20 = .ok (.iconst 1, 1) := by decide +kernel
theorem dX0_addLoop_21 : decode cX0_addLoop 21 = .ok (.iadd, 1) := by decide +kernel
theorem dX0_addLoop_22 : decode cX0_addLoop 22 = .ok (.invokevirtual 29, 3) := by decide +kernel
theorem dX0_addLoop_25 : decode cX0_addLoop 25 = .ok (.aload_n 0, 1) := by decide +kernel
theorem dX0_addLoop_26 : decode cX0_addLoop 26 = .ok (.bipush 8, 2) := by decide +kernel
theorem dX0_addLoop_28 : decode cX0_addLoop 28 = .ok (.iload_n 2, 1) := by decide +kernel
theorem dX0_addLoop_29 : decode cX0_addLoop 29 = .ok (.invokevirtual 33, 3) := by decide +kernel
theorem dX0_addLoop_32 : decode cX0_addLoop 32 = .ok (.pop, 1) := by decide +kernel
theorem dX0_addLoop_33 : decode cX0_addLoop 33 = .ok (.aload_n 0, 1) := by decide +kernel
theorem dX0_addLoop_34 : decode cX0_addLoop 34 = .ok (.iload 4, 2) := by decide +kernel
theorem dX0_addLoop_36 : decode cX0_addLoop 36 = .ok (.invokevirtual 65, 3) := by decide +kernel
theorem dX0_addLoop_39 : decode cX0_addLoop 39 = .ok (.return_, 1) := by decide +kernel
theorem dX0_aimHere_0 : decode cX0_aimHere 0 = .ok (.aload_n 0, 1) := by decide +kernel
theorem dX0_aimHere_1 : decode cX0_aimHere 1 = .ok (.iload_n 1, 1) := by decide +kernel
theorem dX0_aimHere_2 : decode cX0_aimHere 2 = .ok (.invokevirtual 22, 3) := by decide +kernel
theorem dX0_aimHere_5 : decode cX0_aimHere 5 = .ok (.ifCond .eq 13, 3) := by decide +kernel
theorem dX0_aimHere_8 : decode cX0_aimHere 8 = .ok (.aload_n 0, 1) := by decide +kernel
theorem dX0_aimHere_9 : decode cX0_aimHere 9 = .ok (.getfield 15, 3) := by decide +kernel
theorem dX0_aimHere_12 : decode cX0_aimHere 12 = .ok (.iload_n 1, 1) := by decide +kernel
theorem dX0_aimHere_13 : decode cX0_aimHere 13 = .ok (.aload_n 0, 1) := by decide +kernel
theorem dX0_aimHere_14 : decode cX0_aimHere 14 = .ok (.getfield 18, 3) := by decide +kernel
theorem dX0_aimHere_17 : decode cX0_aimHere 17 = .ok (.iastore, 1) := by decide +kernel
theorem dX0_aimHere_18 : decode cX0_aimHere 18 = .ok (.return_, 1) := by decide +kernel
theorem dX0_addExpression_0 : decode cX0_addExpression 0 = .ok (.aload_n 1, 1) := by decide +kernel
theorem dX0_addExpression_1 : decode cX0_addExpression 1 = .ok (.ifnull 9, 3) := by decide +kernel
theorem dX0_addExpression_4 : decode cX0_addExpression 4 = .ok (.iload_n 2, 1) := by decide +kernel
theorem dX0_addExpression_5 : decode cX0_addExpression 5 = .ok (.bipush 6, 2) := by decide +kernel
theorem dX0_addExpression_7 : decode cX0_addExpression 7 = .ok (.if_icmp .le 4, 3) := by decide +kernel
theorem dX0_addExpression_10 : decode cX0_addExpression 10 = .ok (.return_, 1) := by decide +kernel
theorem dX0_addExpression_11 : decode cX0_addExpression 11 = .ok (.aload_n 1, 1) := by decide +kernel
theorem dX0_addExpression_12 : decode cX0_addExpression 12 = .ok (.getfield 46, 3) := by decide +kernel
theorem dX0_addExpression_15 : decode cX0_addExpression 15 = .ok (.ifCond .ne 16, 3) := by decide +kernel
theorem dX0_addExpression_18 : decode cX0_addExpression 18 = .ok (.aload_n 0, 1) := by decide +kernel
theorem dX0_addExpression_19 : decode cX0_addExpression 19 = .ok (.iconst 0, 1) := by decide +kernel
theorem dX0_addExpression_20 : decode cX0_addExpression 20 = .ok (.aload_n 1, 1) := by decide +kernel
theorem dX0_addExpression_21 : decode cX0_addExpression 21 = .ok (.getfield 56, 3) := by decide +kernel
theorem dX0_addExpression_24 : decode cX0_addExpression 24 = .ok (.invokevirtual 33, 3) := by decide +kernel
theorem dX0_addExpression_27 : decode cX0_addExpression 27 = .ok (.pop, 1) := by decide +kernel
theorem dX0_addExpression_28 : decode cX0_addExpression 28 = .ok (.goto 56, 3) := by decide +kernel
theorem dX0_addExpression_31 : decode cX0_addExpression 31 = .ok (.aload_n 1, 1) := by decide +kernel
theorem dX0_addExpression_32 : decode cX0_addExpression 32 = .ok (.getfield 46, 3) := by decide +kernel
theorem dX0_addExpression_35 : decode cX0_addExpression 35 = .ok (.iconst 1, 1) := by decide +kernel
theorem dX0_addExpression_36 : decode cX0_addExpression 36 = .ok (.if_icmp .ne 16, 3) := by decide +kernel
theorem dX0_addExpression_39 : decode cX0_addExpression 39 = .ok (.aload_n 0, 1) := by decide +kernel
theorem dX0_addExpression_40 : decode cX0_addExpression 40 = .ok (.iconst 1, 1) := by decide +kernel
theorem dX0_addExpression_41 : decode cX0_addExpression 41 = .ok (.aload_n 1, 1) := by decide +kernel
theorem dX0_addExpression_42 : decode cX0_addExpression 42 = .ok (.getfield 56, 3) := by decide +kernel
theorem dX0_addExpression_45 : decode cX0_addExpression 45 = .ok (.invokevirtual 33, 3) := by decide +kernel
theorem dX0_addExpression_48 : decode cX0_addExpression 48 = .ok (.pop, 1) := by decide +kernel
theorem dX0_addExpression_49 : decode cX0_addExpression 49 = .ok (.goto 35, 3) := by decide +kernel
theorem dX0_addExpression_52 : decode cX0_addExpression 52 = .ok (.aload_n 0, 1) := by decide +kernel
theorem dX0_addExpression_53 : decode cX0_addExpression 53 = .ok (.aload_n 1, 1) := by decide +kernel
theorem dX0_addExpression_54 : decode cX0_addExpression 54 = .ok (.getfield 62, 3) := by decide +kernel
theorem dX0_addExpression_57 : decode cX0_addExpression 57 = .ok (.iload_n 2, 1) := by decide +kernel
theorem dX0_addExpression_58 : decode cX0_addExpression 58 = .ok (.iconst 1, 1) := by decide +kernel
theorem dX0_addExpression_59 : decode cX0_addExpression 59 = .ok (.iadd, 1) := by decide +kernel
theorem dX0_addExpression_60 : decode cX0_addExpression 60 = .ok (.invokevirtual 43, 3) := by decide +kernel
theorem dX0_addExpression_63 : decode cX0_addExpression 63 = .ok (.aload_n 0, 1) := by decide +kernel
theorem dX0_addExpression_64 : decode cX0_addExpression 64 = .ok (.aload_n 1, 1) := by decide +kernel
theorem dX0_addExpression_65 : decode cX0_addExpression 65 = .ok (.getfield 69, 3) := by decide +kernel
theorem dX0_addExpression_68 : decode cX0_addExpression 68 = .ok (.iload_n 2, 1) := by decide +kernel
theorem dX0_addExpression_69 : decode cX0_addExpression 69 = .ok (.iconst 1, 1) := by decide +kernel
theorem dX0_addExpression_70 : decode cX0_addExpression 70 = .ok (.iadd, 1) := by decide +kernel
theorem dX0_addExpression_71 : decode cX0_addExpression 71 = .ok (.invokevirtual 43, 3) := by decide +kernel
theorem dX0_addExpression_74 : decode cX0_addExpression 74 = .ok (.aload_n 0, 1) := by decide +kernel
theorem dX0_addExpression_75 : decode cX0_addExpression 75 = .ok (.aload_n 1, 1) := by decide +kernel
theorem dX0_addExpression_76 : decode cX0_addExpression 76 = .ok (.getfield 56, 3) := by decide +kernel
theorem dX0_addExpression_79 : decode cX0_addExpression 79 = .ok (.iconst 0, 1) := by decide +kernel
theorem dX0_addExpression_80 : decode cX0_addExpression 80 = .ok (.invokevirtual 33, 3) := by decide +kernel
theorem dX0_addExpression_83 : decode cX0_addExpression 83 = .ok (.pop, 1) := by decide +kernel
theorem dX0_addExpression_84 : decode cX0_addExpression 84 = .ok (.return_, 1) := by decide +kernel
theorem dX1_init_0 : decode cX1_init 0 = .ok (.aload_n 0, 1) := by decide +kernel
theorem dX1_init_1 : decode cX1_init 1 = .ok (.invokespecial 5, 3) := by decide +kernel
theorem dX1_init_4 : decode cX1_init 4 = .ok (.aload_n 0, 1) := by decide +kernel
theorem dX1_init_5 : decode cX1_init 5 = .ok (.bipush 100, 2) := by decide +kernel
theorem dX1_init_7 : decode cX1_init 7 = .ok (.bipush 17, 2) := by decide +kernel
theorem dX1_init_9 : decode cX1_init 9 = .ok (.multianewarray 11 2, 4) := by decide +kernel
theorem dX1_init_13 : decode cX1_init 13 = .ok (.putfield 13, 3) := by decide +kernel
theorem dX1_init_16 : decode cX1_init 16 = .ok (.aload_n 0, 1) := by decide +kernel
theorem dX1_init_17 : decode cX1_init 17 = .ok (.bipush 100, 2) := by decide +kernel
theorem dX1_init_19 : decode cX1_init 19 = .ok (.newarray .boolean, 2) := by decide +kernel
theorem dX1_init_21 : decode cX1_init 21 = .ok (.putfield 16, 3) := by decide +kernel
theorem dX1_init_24 : decode cX1_init 24 = .ok (.aload_n 0, 1) := by decide +kernel
theorem dX1_init_25 : decode cX1_init 25 = .ok (.bipush 17, 2) := by decide +kernel
theorem dX1_init_27 : decode cX1_init 27 = .ok (.newarray .int, 2) := by decide +kernel
theorem dX1_init_29 : decode cX1_init 29 = .ok (.putfield 20, 3) := by decide +kernel
theorem dX1_init_32 : decode cX1_init 32 = .ok (.aload_n 0, 1) := by decide +kernel
theorem dX1_init_33 : decode cX1_init 33 = .ok (.aload_n 1, 1) := by decide +kernel
theorem dX1_init_34 : decode cX1_init 34 = .ok (.putfield 24, 3) := by decide +kernel
theorem dX1_init_37 : decode cX1_init 37 = .ok (.aload_n 0, 1) := by decide +kernel
theorem dX1_init_38 : decode cX1_init 38 = .ok (.aload_n 2, 1) := by decide +kernel
theorem dX1_init_39 : decode cX1_init 39 = .ok (.putfield 28, 3) := by decide +kernel
theorem dX1_init_42 : decode cX1_init 42 = .ok (.aload_n 0, 1) := by decide +kernel
theorem dX1_init_43 : decode cX1_init 43 = .ok (.aload_n 3, 1) := by decide +kernel
theorem dX1_init_44 : decode cX1_init 44 = .ok (.putfield 32, 3) := by decide +kernel
theorem dX1_init_47 : decode cX1_init 47 = .ok (.aload_n 0, 1) := by decide +kernel
theorem dX1_init_48 : decode cX1_init 48 = .ok (.aload 4, 2) := by decide +kernel
theorem dX1_init_50 : decode cX1_init 50 = .ok (.putfield 36, 3) := by decide +kernel
theorem dX1_init_53 : decode cX1_init 53 = .ok (.return_, 1) := by decide +kernel
theorem dX1_workOut_0 : decode cX1_workOut 0 = .ok (.iconst 0, 1) := by decide +kernel
theorem dX1_workOut_1 : decode cX1_workOut 1 = .ok (.istore_n 2, 1) := by decide +kernel
theorem dX1_workOut_2 : decode cX1_workOut 2 = .ok (.iload_n 2, 1) := by decide +kernel
theorem dX1_workOut_3 : decode cX1_workOut 3 = .ok (.aload_n 0, 1) := by decide +kernel
theorem dX1_workOut_4 : decode cX1_workOut 4 = .ok (.getfield 24, 3) := by decide +kernel
theorem dX1_workOut_7 : decode cX1_workOut 7 = .ok (.invokevirtual 40, 3) := by decide +kernel
theorem dX1_workOut_10 : decode cX1_workOut 10 = .ok (.if_icmp .ge 61, 3) := by decide +kernel
theorem dX1_workOut_13 : decode cX1_workOut 13 = .ok (.iconst 0, 1) := by decide +kernel
theorem dX1_workOut_14 : decode cX1_workOut 14 = .ok (.istore_n 3, 1) := by decide +kernel
theorem dX1_workOut_15 : decode cX1_workOut 15 = .ok (.iload_n 3, 1) := by decide +kernel
theorem dX1_workOut_16 : decode cX1_workOut 16 = .ok (.bipush 17, 2) := by decide +kernel
theorem dX1_workOut_18 : decode cX1_workOut 18 = .ok (.if_icmp .ge 24, 3) := by decide +kernel
theorem dX1_workOut_21 : decode cX1_workOut 21 = .ok (.aload_n 0, 1) := by decide +kernel
theorem dX1_workOut_22 : decode cX1_workOut 22 = .ok (.getfield 13, 3) := by decide +kernel
theorem dX1_workOut_25 : decode cX1_workOut 25 = .ok (.iload_n 2, 1) := by decide +kernel
theorem dX1_workOut_26 : decode cX1_workOut 26 = .ok (.aaload, 1) := by decide +kernel
theorem dX1_workOut_27 : decode cX1_workOut 27 = .ok (.iload_n 3, 1) := by decide +kernel
theorem dX1_workOut_28 : decode cX1_workOut 28 = .ok (.aload_n 0, 1) := by decide +kernel
theorem dX1_workOut_29 : decode cX1_workOut 29 = .ok (.getfield 36, 3) := by decide +kernel
theorem dX1_workOut_32 : decode cX1_workOut 32 = .ok (.invokevirtual 46, 3) := by decide +kernel
theorem dX1_workOut_35 : decode cX1_workOut 35 = .ok (.iastore, 1) := by decide +kernel
theorem dX1_workOut_36 : decode cX1_workOut 36 = .ok (.iinc 3 1, 3) := by decide +kernel
theorem dX1_workOut_39 : decode cX1_workOut 39 = .ok (.goto (-24), 3) := by decide +kernel
theorem dX1_workOut_42 : decode cX1_workOut 42 = .ok (.aload_n 0, 1) := by decide +kernel
theorem dX1_workOut_43 : decode cX1_workOut 43 = .ok (.getfield 16, 3) := by decide +kernel
theorem dX1_workOut_46 : decode cX1_workOut 46 = .ok (.iload_n 2, 1) := by decide +kernel
theorem dX1_workOut_47 : decode cX1_workOut 47 = .ok (.aload_n 0, 1) := by decide +kernel
theorem dX1_workOut_48 : decode cX1_workOut 48 = .ok (.getfield 28, 3) := by decide +kernel
theorem dX1_workOut_51 : decode cX1_workOut 51 = .ok (.iload_n 2, 1) := by decide +kernel
theorem dX1_workOut_52 : decode cX1_workOut 52 = .ok (.invokevirtual 51, 3) := by decide +kernel
theorem dX1_workOut_55 : decode cX1_workOut 55 = .ok (.iconst (-1), 1) := by decide +kernel
theorem dX1_workOut_56 : decode cX1_workOut 56 = .ok (.if_icmp .eq 7, 3) := by decide +kernel
theorem dX1_workOut_59 : decode cX1_workOut 59 = .ok (.iconst 1, 1) := by decide +kernel
theorem dX1_workOut_60 : decode cX1_workOut 60 = .ok (.goto 4, 3) := by decide +kernel
theorem dX1_workOut_63 : decode cX1_workOut 63 = .ok (.iconst 0, 1) := by decide +kernel
theorem dX1_workOut_64 : decode cX1_workOut 64 = .ok (.bastore, 1) := by decide +kernel
theorem dX1_workOut_65 : decode cX1_workOut 65 = .ok (.iinc 2 1, 3) := by decide +kernel
theorem dX1_workOut_68 : decode cX1_workOut 68 = .ok (.goto (-66), 3) := by decide +kernel
theorem dX1_workOut_71 : decode cX1_workOut 71 = .ok (.iconst 0, 1) := by decide +kernel
theorem dX1_workOut_72 : decode cX1_workOut 72 = .ok (.istore_n 2, 1) := by decide +kernel
theorem dX1_workOut_73 : decode cX1_workOut 73 = .ok (.iload_n 2, 1) := by decide +kernel
theorem dX1_workOut_74 : decode cX1_workOut 74 = .ok (.bipush 8, 2) := by decide +kernel
theorem dX1_workOut_76 : decode cX1_workOut 76 = .ok (.if_icmp .ge 18, 3) := by decide +kernel
theorem dX1_workOut_79 : decode cX1_workOut 79 = .ok (.aload_n 0, 1) := by decide +kernel
theorem dX1_workOut_80 : decode cX1_workOut 80 = .ok (.iconst 0, 1) := by decide +kernel
theorem dX1_workOut_81 : decode cX1_workOut 81 = .ok (.iload_n 2, 1) := by decide +kernel
theorem dX1_workOut_82 : decode cX1_workOut 82 = .ok (.aload_n 1, 1) := by decide +kernel
theorem dX1_workOut_83 : decode cX1_workOut 83 = .ok (.iload_n 2, 1) := by decide +kernel
theorem dX1_workOut_84 : decode cX1_workOut 84 = .ok (.iaload, 1) := by decide +kernel
theorem dX1_workOut_85 : decode cX1_workOut 85 = .ok (.invokevirtual 57, 3) := by decide +kernel
theorem dX1_workOut_88 : decode cX1_workOut 88 = .ok (.iinc 2 1, 3) := by decide +kernel
theorem dX1_workOut_91 : decode cX1_workOut 91 = .ok (.goto (-18), 3) := by decide +kernel
theorem dX1_workOut_94 : decode cX1_workOut 94 = .ok (.iconst 1, 1) := by decide +kernel
theorem dX1_workOut_95 : decode cX1_workOut 95 = .ok (.istore_n 2, 1) := by decide +kernel
theorem dX1_workOut_96 : decode cX1_workOut 96 = .ok (.iconst 0, 1) := by decide +kernel
theorem dX1_workOut_97 : decode cX1_workOut 97 = .ok (.istore_n 3, 1) := by decide +kernel
theorem dX1_workOut_98 : decode cX1_workOut 98 = .ok (.iload_n 3, 1) := by decide +kernel
theorem dX1_workOut_99 : decode cX1_workOut 99 = .ok (.ldc 61, 2) := by decide +kernel
theorem dX1_workOut_101 : decode cX1_workOut 101 = .ok (.if_icmp .ge 54, 3) := by decide +kernel
theorem dX1_workOut_104 : decode cX1_workOut 104 = .ok (.iload_n 2, 1) := by decide +kernel
theorem dX1_workOut_105 : decode cX1_workOut 105 = .ok (.ifCond .eq 50, 3) := by decide +kernel
theorem dX1_workOut_108 : decode cX1_workOut 108 = .ok (.iconst 0, 1) := by decide +kernel
theorem dX1_workOut_109 : decode cX1_workOut 109 = .ok (.istore_n 2, 1) := by decide +kernel
theorem dX1_workOut_110 : decode cX1_workOut 110 = .ok (.iconst 0, 1) := by decide +kernel
theorem dX1_workOut_111 : decode cX1_workOut 111 = .ok (.istore 4, 2) := by decide +kernel
theorem dX1_workOut_113 : decode cX1_workOut 113 = .ok (.iload 4, 2) := by decide +kernel
theorem dX1_workOut_115 : decode cX1_workOut 115 = .ok (.aload_n 0, 1) := by decide +kernel
theorem dX1_workOut_116 : decode cX1_workOut 116 = .ok (.getfield 24, 3) := by decide +kernel
theorem dX1_workOut_119 : decode cX1_workOut 119 = .ok (.invokevirtual 40, 3) := by decide +kernel
theorem dX1_workOut_122 : decode cX1_workOut 122 = .ok (.if_icmp .ge 27, 3) := by decide +kernel
theorem dX1_workOut_125 : decode cX1_workOut 125 = .ok (.aload_n 0, 1) := by decide +kernel
theorem dX1_workOut_126 : decode cX1_workOut 126 = .ok (.getfield 16, 3) := by decide +kernel
theorem dX1_workOut_129 : decode cX1_workOut 129 = .ok (.iload 4, 2) := by decide +kernel
theorem dX1_workOut_131 : decode cX1_workOut 131 = .ok (.baload, 1) := by decide +kernel
theorem dX1_workOut_132 : decode cX1_workOut 132 = .ok (.ifCond .eq 11, 3) := by decide +kernel
theorem dX1_workOut_135 : decode cX1_workOut 135 = .ok (.aload_n 0, 1) := by decide +kernel
theorem dX1_workOut_136 : decode cX1_workOut 136 = .ok (.iload 4, 2) := by decide +kernel
theorem dX1_workOut_138 : decode cX1_workOut 138 = .ok (.invokevirtual 62, 3) := by decide +kernel
theorem dX1_workOut_141 : decode cX1_workOut 141 = .ok (.iconst 1, 1) := by decide +kernel
theorem dX1_workOut_142 : decode cX1_workOut 142 = .ok (.istore_n 2, 1) := by decide +kernel
theorem dX1_workOut_143 : decode cX1_workOut 143 = .ok (.iinc 4 1, 3) := by decide +kernel
theorem dX1_workOut_146 : decode cX1_workOut 146 = .ok (.goto (-33), 3) := by decide +kernel
theorem dX1_workOut_149 : decode cX1_workOut 149 = .ok (.iinc 3 1, 3) := by decide +kernel
theorem dX1_workOut_152 : decode cX1_workOut 152 = .ok (.goto (-54), 3) := by decide +kernel
theorem dX1_workOut_155 : decode cX1_workOut 155 = .ok (.return_, 1) := by decide +kernel
theorem dX1_keepTo_0 : decode cX1_keepTo 0 = .ok (.iconst 0, 1) := by decide +kernel
theorem dX1_keepTo_1 : decode cX1_keepTo 1 = .ok (.istore_n 2, 1) := by decide +kernel
theorem dX1_keepTo_2 : decode cX1_keepTo 2 = .ok (.iload_n 2, 1) := by decide +kernel
theorem dX1_keepTo_3 : decode cX1_keepTo 3 = .ok (.aload_n 0, 1) := by decide +kernel
theorem dX1_keepTo_4 : decode cX1_keepTo 4 = .ok (.getfield 24, 3) := by decide +kernel
theorem dX1_keepTo_7 : decode cX1_keepTo 7 = .ok (.invokevirtual 40, 3) := by decide +kernel
theorem dX1_keepTo_10 : decode cX1_keepTo 10 = .ok (.if_icmp .ge 85, 3) := by decide +kernel
theorem dX1_keepTo_13 : decode cX1_keepTo 13 = .ok (.aload_n 0, 1) := by decide +kernel
theorem dX1_keepTo_14 : decode cX1_keepTo 14 = .ok (.getfield 28, 3) := by decide +kernel
theorem dX1_keepTo_17 : decode cX1_keepTo 17 = .ok (.iload_n 2, 1) := by decide +kernel
theorem dX1_keepTo_18 : decode cX1_keepTo 18 = .ok (.invokevirtual 51, 3) := by decide +kernel
theorem dX1_keepTo_21 : decode cX1_keepTo 21 = .ok (.iconst (-1), 1) := by decide +kernel
theorem dX1_keepTo_22 : decode cX1_keepTo 22 = .ok (.if_icmp .eq 20, 3) := by decide +kernel
theorem dX1_keepTo_25 : decode cX1_keepTo 25 = .ok (.aload_n 0, 1) := by decide +kernel
theorem dX1_keepTo_26 : decode cX1_keepTo 26 = .ok (.getfield 24, 3) := by decide +kernel
theorem dX1_keepTo_29 : decode cX1_keepTo 29 = .ok (.iload_n 2, 1) := by decide +kernel
theorem dX1_keepTo_30 : decode cX1_keepTo 30 = .ok (.invokevirtual 66, 3) := by decide +kernel
theorem dX1_keepTo_33 : decode cX1_keepTo 33 = .ok (.bipush 9, 2) := by decide +kernel
theorem dX1_keepTo_35 : decode cX1_keepTo 35 = .ok (.if_icmp .ne 7, 3) := by decide +kernel
theorem dX1_keepTo_38 : decode cX1_keepTo 38 = .ok (.iconst 1, 1) := by decide +kernel
theorem dX1_keepTo_39 : decode cX1_keepTo 39 = .ok (.goto 4, 3) := by decide +kernel
theorem dX1_keepTo_42 : decode cX1_keepTo 42 = .ok (.iconst 0, 1) := by decide +kernel
theorem dX1_keepTo_43 : decode cX1_keepTo 43 = .ok (.istore_n 3, 1) := by decide +kernel
theorem dX1_keepTo_44 : decode cX1_keepTo 44 = .ok (.iconst 0, 1) := by decide +kernel
theorem dX1_keepTo_45 : decode cX1_keepTo 45 = .ok (.istore 4, 2) := by decide +kernel
theorem dX1_keepTo_47 : decode cX1_keepTo 47 = .ok (.iload 4, 2) := by decide +kernel
theorem dX1_keepTo_49 : decode cX1_keepTo 49 = .ok (.bipush 8, 2) := by decide +kernel
theorem dX1_keepTo_51 : decode cX1_keepTo 51 = .ok (.if_icmp .ge 38, 3) := by decide +kernel
theorem dX1_keepTo_54 : decode cX1_keepTo 54 = .ok (.iload_n 3, 1) := by decide +kernel
theorem dX1_keepTo_55 : decode cX1_keepTo 55 = .ok (.ifCond .eq 34, 3) := by decide +kernel
theorem dX1_keepTo_58 : decode cX1_keepTo 58 = .ok (.aload_n 0, 1) := by decide +kernel
theorem dX1_keepTo_59 : decode cX1_keepTo 59 = .ok (.getfield 36, 3) := by decide +kernel
theorem dX1_keepTo_62 : decode cX1_keepTo 62 = .ok (.aload_n 0, 1) := by decide +kernel
theorem dX1_keepTo_63 : decode cX1_keepTo 63 = .ok (.getfield 13, 3) := by decide +kernel
theorem dX1_keepTo_66 : decode cX1_keepTo 66 = .ok (.iload_n 2, 1) := by decide +kernel
theorem dX1_keepTo_67 : decode cX1_keepTo 67 = .ok (.aaload, 1) := by decide +kernel
theorem dX1_keepTo_68 : decode cX1_keepTo 68 = .ok (.iload 4, 2) := by decide +kernel
theorem dX1_keepTo_70 : decode cX1_keepTo 70 = .ok (.iaload, 1) := by decide +kernel
theorem dX1_keepTo_71 : decode cX1_keepTo 71 = .ok (.aload_n 1, 1) := by decide +kernel
theorem dX1_keepTo_72 : decode cX1_keepTo 72 = .ok (.iload 4, 2) := by decide +kernel
theorem dX1_keepTo_74 : decode cX1_keepTo 74 = .ok (.iaload, 1) := by decide +kernel
theorem dX1_keepTo_75 : decode cX1_keepTo 75 = .ok (.invokevirtual 69, 3) := by decide +kernel
theorem dX1_keepTo_78 : decode cX1_keepTo 78 = .ok (.ifCond .ne 5, 3) := by decide +kernel
theorem dX1_keepTo_81 : decode cX1_keepTo 81 = .ok (.iconst 0, 1) := by decide +kernel
theorem dX1_keepTo_82 : decode cX1_keepTo 82 = .ok (.ireturn, 1) := by decide +kernel
theorem dX1_keepTo_83 : decode cX1_keepTo 83 = .ok (.iinc 4 1, 3) := by decide +kernel
theorem dX1_keepTo_86 : decode cX1_keepTo 86 = .ok (.goto (-39), 3) := by decide +kernel
theorem dX1_keepTo_89 : decode cX1_keepTo 89 = .ok (.iinc 2 1, 3) := by decide +kernel
theorem dX1_keepTo_92 : decode cX1_keepTo 92 = .ok (.goto (-90), 3) := by decide +kernel
theorem dX1_keepTo_95 : decode cX1_keepTo 95 = .ok (.iconst 1, 1) := by decide +kernel
theorem dX1_keepTo_96 : decode cX1_keepTo 96 = .ok (.ireturn, 1) := by decide +kernel
theorem dX1_labelAt_0 : decode cX1_labelAt 0 = .ok (.aload_n 0, 1) := by decide +kernel
theorem dX1_labelAt_1 : decode cX1_labelAt 1 = .ok (.getfield 28, 3) := by decide +kernel
theorem dX1_labelAt_4 : decode cX1_labelAt 4 = .ok (.iload_n 1, 1) := by decide +kernel
theorem dX1_labelAt_5 : decode cX1_labelAt 5 = .ok (.invokevirtual 51, 3) := by decide +kernel
theorem dX1_labelAt_8 : decode cX1_labelAt 8 = .ok (.istore_n 3, 1) := by decide +kernel
theorem dX1_labelAt_9 : decode cX1_labelAt 9 = .ok (.iload_n 3, 1) := by decide +kernel
theorem dX1_labelAt_10 : decode cX1_labelAt 10 = .ok (.iconst (-1), 1) := by decide +kernel
theorem dX1_labelAt_11 : decode cX1_labelAt 11 = .ok (.if_icmp .eq 21, 3) := by decide +kernel
theorem dX1_labelAt_14 : decode cX1_labelAt 14 = .ok (.iload_n 2, 1) := by decide +kernel
theorem dX1_labelAt_15 : decode cX1_labelAt 15 = .ok (.ifCond .lt 17, 3) := by decide +kernel
theorem dX1_labelAt_18 : decode cX1_labelAt 18 = .ok (.iload_n 2, 1) := by decide +kernel
theorem dX1_labelAt_19 : decode cX1_labelAt 19 = .ok (.bipush 9, 2) := by decide +kernel
theorem dX1_labelAt_21 : decode cX1_labelAt 21 = .ok (.iload_n 3, 1) := by decide +kernel
theorem dX1_labelAt_22 : decode cX1_labelAt 22 = .ok (.iadd, 1) := by decide +kernel
theorem dX1_labelAt_23 : decode cX1_labelAt 23 = .ok (.if_icmp .ge 9, 3) := by decide +kernel
theorem dX1_labelAt_26 : decode cX1_labelAt 26 = .ok (.iload_n 2, 1) := by decide +kernel
theorem dX1_labelAt_27 : decode cX1_labelAt 27 = .ok (.bipush 17, 2) := by decide +kernel
theorem dX1_labelAt_29 : decode cX1_labelAt 29 = .ok (.if_icmp .lt 5, 3) := by decide +kernel
theorem dX1_labelAt_32 : decode cX1_labelAt 32 = .ok (.iconst (-1), 1) := by decide +kernel
theorem dX1_labelAt_33 : decode cX1_labelAt 33 = .ok (.ireturn, 1) := by decide +kernel
theorem dX1_labelAt_34 : decode cX1_labelAt 34 = .ok (.aload_n 0, 1) := by decide +kernel
theorem dX1_labelAt_35 : decode cX1_labelAt 35 = .ok (.getfield 13, 3) := by decide +kernel
theorem dX1_labelAt_38 : decode cX1_labelAt 38 = .ok (.iload_n 1, 1) := by decide +kernel
theorem dX1_labelAt_39 : decode cX1_labelAt 39 = .ok (.aaload, 1) := by decide +kernel
theorem dX1_labelAt_40 : decode cX1_labelAt 40 = .ok (.iload_n 2, 1) := by decide +kernel
theorem dX1_labelAt_41 : decode cX1_labelAt 41 = .ok (.iaload, 1) := by decide +kernel
theorem dX1_labelAt_42 : decode cX1_labelAt 42 = .ok (.ireturn, 1) := by decide +kernel
theorem dX1_pass_0 : decode cX1_pass 0 = .ok (.aload_n 0, 1) := by decide +kernel
theorem dX1_pass_1 : decode cX1_pass 1 = .ok (.getfield 16, 3) := by decide +kernel
theorem dX1_pass_4 : decode cX1_pass 4 = .ok (.iload_n 1, 1) := by decide +kernel
theorem dX1_pass_5 : decode cX1_pass 5 = .ok (.iconst 0, 1) := by decide +kernel
theorem dX1_pass_6 : decode cX1_pass 6 = .ok (.bastore, 1) := by decide +kernel
theorem dX1_pass_7 : decode cX1_pass 7 = .ok (.aload_n 0, 1) := by decide +kernel
theorem dX1_pass_8 : decode cX1_pass 8 = .ok (.getfield 13, 3) := by decide +kernel
theorem dX1_pass_11 : decode cX1_pass 11 = .ok (.iload_n 1, 1) := by decide +kernel
theorem dX1_pass_12 : decode cX1_pass 12 = .ok (.aaload, 1) := by decide +kernel
theorem dX1_pass_13 : decode cX1_pass 13 = .ok (.iconst 0, 1) := by decide +kernel
theorem dX1_pass_14 : decode cX1_pass 14 = .ok (.aload_n 0, 1) := by decide +kernel
theorem dX1_pass_15 : decode cX1_pass 15 = .ok (.getfield 20, 3) := by decide +kernel
theorem dX1_pass_18 : decode cX1_pass 18 = .ok (.iconst 0, 1) := by decide +kernel
theorem dX1_pass_19 : decode cX1_pass 19 = .ok (.bipush 17, 2) := by decide +kernel
theorem dX1_pass_21 : decode cX1_pass 21 = .ok (.invokestatic 73, 3) := by decide +kernel
theorem dX1_pass_24 : decode cX1_pass 24 = .ok (.aload_n 0, 1) := by decide +kernel
theorem dX1_pass_25 : decode cX1_pass 25 = .ok (.aload_n 0, 1) := by decide +kernel
theorem dX1_pass_26 : decode cX1_pass 26 = .ok (.getfield 24, 3) := by decide +kernel
theorem dX1_pass_29 : decode cX1_pass 29 = .ok (.iload_n 1, 1) := by decide +kernel
theorem dX1_pass_30 : decode cX1_pass 30 = .ok (.invokevirtual 66, 3) := by decide +kernel
theorem dX1_pass_33 : decode cX1_pass 33 = .ok (.aload_n 0, 1) := by decide +kernel
theorem dX1_pass_34 : decode cX1_pass 34 = .ok (.getfield 24, 3) := by decide +kernel
theorem dX1_pass_37 : decode cX1_pass 37 = .ok (.iload_n 1, 1) := by decide +kernel
theorem dX1_pass_38 : decode cX1_pass 38 = .ok (.invokevirtual 79, 3) := by decide +kernel
theorem dX1_pass_41 : decode cX1_pass 41 = .ok (.aload_n 0, 1) := by decide +kernel
theorem dX1_pass_42 : decode cX1_pass 42 = .ok (.getfield 28, 3) := by decide +kernel
theorem dX1_pass_45 : decode cX1_pass 45 = .ok (.iload_n 1, 1) := by decide +kernel
theorem dX1_pass_46 : decode cX1_pass 46 = .ok (.invokevirtual 51, 3) := by decide +kernel
theorem dX1_pass_49 : decode cX1_pass 49 = .ok (.invokevirtual 82, 3) := by decide +kernel
theorem dX1_pass_52 : decode cX1_pass 52 = .ok (.aload_n 0, 1) := by decide +kernel
theorem dX1_pass_53 : decode cX1_pass 53 = .ok (.getfield 24, 3) := by decide +kernel
theorem dX1_pass_56 : decode cX1_pass 56 = .ok (.iload_n 1, 1) := by decide +kernel
theorem dX1_pass_57 : decode cX1_pass 57 = .ok (.invokevirtual 66, 3) := by decide +kernel
theorem dX1_pass_60 : decode cX1_pass 60 = .ok (.bipush 7, 2) := by decide +kernel
theorem dX1_pass_62 : decode cX1_pass 62 = .ok (.if_icmp .ne 8, 3) := by decide +kernel
theorem dX1_pass_65 : decode cX1_pass 65 = .ok (.aload_n 0, 1) := by decide +kernel
theorem dX1_pass_66 : decode cX1_pass 66 = .ok (.iload_n 1, 1) := by decide +kernel
theorem dX1_pass_67 : decode cX1_pass 67 = .ok (.invokevirtual 85, 3) := by decide +kernel
theorem dX1_pass_70 : decode cX1_pass 70 = .ok (.aload_n 0, 1) := by decide +kernel
theorem dX1_pass_71 : decode cX1_pass 71 = .ok (.aload_n 0, 1) := by decide +kernel
theorem dX1_pass_72 : decode cX1_pass 72 = .ok (.getfield 24, 3) := by decide +kernel
theorem dX1_pass_75 : decode cX1_pass 75 = .ok (.iload_n 1, 1) := by decide +kernel
theorem dX1_pass_76 : decode cX1_pass 76 = .ok (.iconst 0, 1) := by decide +kernel
theorem dX1_pass_77 : decode cX1_pass 77 = .ok (.invokevirtual 88, 3) := by decide +kernel
theorem dX1_pass_80 : decode cX1_pass 80 = .ok (.invokevirtual 92, 3) := by decide +kernel
theorem dX1_pass_83 : decode cX1_pass 83 = .ok (.aload_n 0, 1) := by decide +kernel
theorem dX1_pass_84 : decode cX1_pass 84 = .ok (.aload_n 0, 1) := by decide +kernel
theorem dX1_pass_85 : decode cX1_pass 85 = .ok (.getfield 24, 3) := by decide +kernel
theorem dX1_pass_88 : decode cX1_pass 88 = .ok (.iload_n 1, 1) := by decide +kernel
theorem dX1_pass_89 : decode cX1_pass 89 = .ok (.iconst 1, 1) := by decide +kernel
theorem dX1_pass_90 : decode cX1_pass 90 = .ok (.invokevirtual 88, 3) := by decide +kernel
theorem dX1_pass_93 : decode cX1_pass 93 = .ok (.invokevirtual 92, 3) := by decide +kernel
theorem dX1_pass_96 : decode cX1_pass 96 = .ok (.return_, 1) := by decide +kernel
theorem dX1_change_0 : decode cX1_change 0 = .ok (.bipush 9, 2) := by decide +kernel
theorem dX1_change_2 : decode cX1_change 2 = .ok (.iload_n 3, 1) := by decide +kernel
theorem dX1_change_3 : decode cX1_change 3 = .ok (.iadd, 1) := by decide +kernel
theorem dX1_change_4 : decode cX1_change 4 = .ok (.istore 4, 2) := by decide +kernel
theorem dX1_change_6 : decode cX1_change 6 = .ok (.aload_n 0, 1) := by decide +kernel
theorem dX1_change_7 : decode cX1_change 7 = .ok (.getfield 20, 3) := by decide +kernel
theorem dX1_change_10 : decode cX1_change 10 = .ok (.bipush 8, 2) := by decide +kernel
theorem dX1_change_12 : decode cX1_change 12 = .ok (.iaload, 1) := by decide +kernel
theorem dX1_change_13 : decode cX1_change 13 = .ok (.istore 5, 2) := by decide +kernel
theorem dX1_change_15 : decode cX1_change 15 = .ok (.iload_n 1, 1) := by decide +kernel
theorem dX1_change_16 : decode cX1_change 16 = .ok (.ifCond .ne 22, 3) := by decide +kernel
theorem dX1_change_19 : decode cX1_change 19 = .ok (.iload 4, 2) := by decide +kernel
theorem dX1_change_21 : decode cX1_change 21 = .ok (.bipush 17, 2) := by decide +kernel
theorem dX1_change_23 : decode cX1_change 23 = .ok (.if_icmp .ge 15, 3) := by decide +kernel
theorem dX1_change_26 : decode cX1_change 26 = .ok (.aload_n 0, 1) := by decide +kernel
theorem dX1_change_27 : decode cX1_change 27 = .ok (.getfield 20, 3) := by decide +kernel
theorem dX1_change_30 : decode cX1_change 30 = .ok (.iload 4, 2) := by decide +kernel
theorem dX1_change_32 : decode cX1_change 32 = .ok (.iload 5, 2) := by decide +kernel
theorem dX1_change_34 : decode cX1_change 34 = .ok (.iastore, 1) := by decide +kernel
theorem dX1_change_35 : decode cX1_change 35 = .ok (.goto 150, 3) := by decide +kernel
theorem dX1_change_38 : decode cX1_change 38 = .ok (.iload_n 1, 1) := by decide +kernel
theorem dX1_change_39 : decode cX1_change 39 = .ok (.iconst 1, 1) := by decide +kernel
theorem dX1_change_40 : decode cX1_change 40 = .ok (.if_icmp .ne 42, 3) := by decide +kernel
theorem dX1_change_43 : decode cX1_change 43 = .ok (.iload 4, 2) := by decide +kernel
theorem dX1_change_45 : decode cX1_change 45 = .ok (.bipush 17, 2) := by decide +kernel
theorem dX1_change_47 : decode cX1_change 47 = .ok (.if_icmp .ge 35, 3) := by decide +kernel
theorem dX1_change_50 : decode cX1_change 50 = .ok (.iload_n 2, 1) := by decide +kernel
theorem dX1_change_51 : decode cX1_change 51 = .ok (.invokestatic 95, 3) := by decide +kernel
theorem dX1_change_54 : decode cX1_change 54 = .ok (.ifCond .eq 28, 3) := by decide +kernel
theorem dX1_change_57 : decode cX1_change 57 = .ok (.aload_n 0, 1) := by decide +kernel
theorem dX1_change_58 : decode cX1_change 58 = .ok (.getfield 20, 3) := by decide +kernel
theorem dX1_change_61 : decode cX1_change 61 = .ok (.iload 4, 2) := by decide +kernel
theorem dX1_change_63 : decode cX1_change 63 = .ok (.aload_n 0, 1) := by decide +kernel
theorem dX1_change_64 : decode cX1_change 64 = .ok (.getfield 36, 3) := by decide +kernel
theorem dX1_change_67 : decode cX1_change 67 = .ok (.iload 5, 2) := by decide +kernel
theorem dX1_change_69 : decode cX1_change 69 = .ok (.aload_n 0, 1) := by decide +kernel
theorem dX1_change_70 : decode cX1_change 70 = .ok (.getfield 20, 3) := by decide +kernel
theorem dX1_change_73 : decode cX1_change 73 = .ok (.iload_n 2, 1) := by decide +kernel
theorem dX1_change_74 : decode cX1_change 74 = .ok (.iaload, 1) := by decide +kernel
theorem dX1_change_75 : decode cX1_change 75 = .ok (.invokevirtual 99, 3) := by decide +kernel
theorem dX1_change_78 : decode cX1_change 78 = .ok (.iastore, 1) := by decide +kernel
theorem dX1_change_79 : decode cX1_change 79 = .ok (.goto 106, 3) := by decide +kernel
theorem dX1_change_82 : decode cX1_change 82 = .ok (.iload_n 1, 1) := by decide +kernel
theorem dX1_change_83 : decode cX1_change 83 = .ok (.iconst 2, 1) := by decide +kernel
theorem dX1_change_84 : decode cX1_change 84 = .ok (.if_icmp .ne 42, 3) := by decide +kernel
theorem dX1_change_87 : decode cX1_change 87 = .ok (.iload_n 3, 1) := by decide +kernel
theorem dX1_change_88 : decode cX1_change 88 = .ok (.iconst 1, 1) := by decide +kernel
theorem dX1_change_89 : decode cX1_change 89 = .ok (.if_icmp .lt 37, 3) := by decide +kernel
theorem dX1_change_92 : decode cX1_change 92 = .ok (.iload_n 2, 1) := by decide +kernel
theorem dX1_change_93 : decode cX1_change 93 = .ok (.invokestatic 95, 3) := by decide +kernel
theorem dX1_change_96 : decode cX1_change 96 = .ok (.ifCond .eq 30, 3) := by decide +kernel
theorem dX1_change_99 : decode cX1_change 99 = .ok (.aload_n 0, 1) := by decide +kernel
theorem dX1_change_100 : decode cX1_change 100 = .ok (.getfield 20, 3) := by decide +kernel
theorem dX1_change_103 : decode cX1_change 103 = .ok (.iload_n 2, 1) := by decide +kernel
theorem dX1_change_104 : decode cX1_change 104 = .ok (.aload_n 0, 1) := by decide +kernel
theorem dX1_change_105 : decode cX1_change 105 = .ok (.getfield 36, 3) := by decide +kernel
theorem dX1_change_108 : decode cX1_change 108 = .ok (.iload 5, 2) := by decide +kernel
theorem dX1_change_110 : decode cX1_change 110 = .ok (.aload_n 0, 1) := by decide +kernel
theorem dX1_change_111 : decode cX1_change 111 = .ok (.getfield 20, 3) := by decide +kernel
theorem dX1_change_114 : decode cX1_change 114 = .ok (.iload 4, 2) := by decide +kernel
theorem dX1_change_116 : decode cX1_change 116 = .ok (.iconst 1, 1) := by decide +kernel
theorem dX1_change_117 : decode cX1_change 117 = .ok (.isub, 1) := by decide +kernel
theorem dX1_change_118 : decode cX1_change 118 = .ok (.iaload, 1) := by decide +kernel
theorem dX1_change_119 : decode cX1_change 119 = .ok (.invokevirtual 99, 3) := by decide +kernel
theorem dX1_change_122 : decode cX1_change 122 = .ok (.iastore, 1) := by decide +kernel
theorem dX1_change_123 : decode cX1_change 123 = .ok (.goto 62, 3) := by decide +kernel
theorem dX1_change_126 : decode cX1_change 126 = .ok (.iload_n 1, 1) := by decide +kernel
theorem dX1_change_127 : decode cX1_change 127 = .ok (.invokestatic 102, 3) := by decide +kernel
theorem dX1_change_130 : decode cX1_change 130 = .ok (.ifCond .eq 55, 3) := by decide +kernel
theorem dX1_change_133 : decode cX1_change 133 = .ok (.iload_n 3, 1) := by decide +kernel
theorem dX1_change_134 : decode cX1_change 134 = .ok (.iconst 2, 1) := by decide +kernel
theorem dX1_change_135 : decode cX1_change 135 = .ok (.if_icmp .lt 50, 3) := by decide +kernel
theorem dX1_change_138 : decode cX1_change 138 = .ok (.aload_n 0, 1) := by decide +kernel
theorem dX1_change_139 : decode cX1_change 139 = .ok (.getfield 36, 3) := by decide +kernel
theorem dX1_change_142 : decode cX1_change 142 = .ok (.aload_n 0, 1) := by decide +kernel
theorem dX1_change_143 : decode cX1_change 143 = .ok (.getfield 20, 3) := by decide +kernel
theorem dX1_change_146 : decode cX1_change 146 = .ok (.iload 4, 2) := by decide +kernel
theorem dX1_change_148 : decode cX1_change 148 = .ok (.iconst 2, 1) := by decide +kernel
theorem dX1_change_149 : decode cX1_change 149 = .ok (.isub, 1) := by decide +kernel
theorem dX1_change_150 : decode cX1_change 150 = .ok (.iaload, 1) := by decide +kernel
theorem dX1_change_151 : decode cX1_change 151 = .ok (.aload_n 0, 1) := by decide +kernel
theorem dX1_change_152 : decode cX1_change 152 = .ok (.getfield 20, 3) := by decide +kernel
theorem dX1_change_155 : decode cX1_change 155 = .ok (.iload 4, 2) := by decide +kernel
theorem dX1_change_157 : decode cX1_change 157 = .ok (.iconst 1, 1) := by decide +kernel
theorem dX1_change_158 : decode cX1_change 158 = .ok (.isub, 1) := by decide +kernel
theorem dX1_change_159 : decode cX1_change 159 = .ok (.iaload, 1) := by decide +kernel
theorem dX1_change_160 : decode cX1_change 160 = .ok (.invokevirtual 99, 3) := by decide +kernel
theorem dX1_change_163 : decode cX1_change 163 = .ok (.istore 6, 2) := by decide +kernel
theorem dX1_change_165 : decode cX1_change 165 = .ok (.aload_n 0, 1) := by decide +kernel
theorem dX1_change_166 : decode cX1_change 166 = .ok (.getfield 20, 3) := by decide +kernel
theorem dX1_change_169 : decode cX1_change 169 = .ok (.iload 4, 2) := by decide +kernel
theorem dX1_change_171 : decode cX1_change 171 = .ok (.iconst 2, 1) := by decide +kernel
theorem dX1_change_172 : decode cX1_change 172 = .ok (.isub, 1) := by decide +kernel
theorem dX1_change_173 : decode cX1_change 173 = .ok (.aload_n 0, 1) := by decide +kernel
theorem dX1_change_174 : decode cX1_change 174 = .ok (.getfield 36, 3) := by decide +kernel
theorem dX1_change_177 : decode cX1_change 177 = .ok (.iload 5, 2) := by decide +kernel
theorem dX1_change_179 : decode cX1_change 179 = .ok (.iload 6, 2) := by decide +kernel
theorem dX1_change_181 : decode cX1_change 181 = .ok (.invokevirtual 99, 3) := by decide +kernel
theorem dX1_change_184 : decode cX1_change 184 = .ok (.iastore, 1) := by decide +kernel
theorem dX1_change_185 : decode cX1_change 185 = .ok (.return_, 1) := by decide +kernel
theorem dX1_raiseRegion_0 : decode cX1_raiseRegion 0 = .ok (.bipush 9, 2) := by decide +kernel
theorem dX1_raiseRegion_2 : decode cX1_raiseRegion 2 = .ok (.aload_n 0, 1) := by decide +kernel
theorem dX1_raiseRegion_3 : decode cX1_raiseRegion 3 = .ok (.getfield 28, 3) := by decide +kernel
theorem dX1_raiseRegion_6 : decode cX1_raiseRegion 6 = .ok (.iload_n 1, 1) := by decide +kernel
theorem dX1_raiseRegion_7 : decode cX1_raiseRegion 7 = .ok (.invokevirtual 51, 3) := by decide +kernel
theorem dX1_raiseRegion_10 : decode cX1_raiseRegion 10 = .ok (.iadd, 1) := by decide +kernel
theorem dX1_raiseRegion_11 : decode cX1_raiseRegion 11 = .ok (.iconst 1, 1) := by decide +kernel
theorem dX1_raiseRegion_12 : decode cX1_raiseRegion 12 = .ok (.isub, 1) := by decide +kernel
theorem dX1_raiseRegion_13 : decode cX1_raiseRegion 13 = .ok (.istore_n 2, 1) := by decide +kernel
theorem dX1_raiseRegion_14 : decode cX1_raiseRegion 14 = .ok (.iload_n 2, 1) := by decide +kernel
theorem dX1_raiseRegion_15 : decode cX1_raiseRegion 15 = .ok (.bipush 9, 2) := by decide +kernel
theorem dX1_raiseRegion_17 : decode cX1_raiseRegion 17 = .ok (.if_icmp .lt 9, 3) := by decide +kernel
theorem dX1_raiseRegion_20 : decode cX1_raiseRegion 20 = .ok (.iload_n 2, 1) := by decide +kernel
theorem dX1_raiseRegion_21 : decode cX1_raiseRegion 21 = .ok (.bipush 17, 2) := by decide +kernel
theorem dX1_raiseRegion_23 : decode cX1_raiseRegion 23 = .ok (.if_icmp .lt 4, 3) := by decide +kernel
theorem dX1_raiseRegion_26 : decode cX1_raiseRegion 26 = .ok (.return_, 1) := by decide +kernel
theorem dX1_raiseRegion_27 : decode cX1_raiseRegion 27 = .ok (.aload_n 0, 1) := by decide +kernel
theorem dX1_raiseRegion_28 : decode cX1_raiseRegion 28 = .ok (.getfield 13, 3) := by decide +kernel
theorem dX1_raiseRegion_31 : decode cX1_raiseRegion 31 = .ok (.iload_n 1, 1) := by decide +kernel
theorem dX1_raiseRegion_32 : decode cX1_raiseRegion 32 = .ok (.aaload, 1) := by decide +kernel
theorem dX1_raiseRegion_33 : decode cX1_raiseRegion 33 = .ok (.iload_n 2, 1) := by decide +kernel
theorem dX1_raiseRegion_34 : decode cX1_raiseRegion 34 = .ok (.iaload, 1) := by decide +kernel
theorem dX1_raiseRegion_35 : decode cX1_raiseRegion 35 = .ok (.istore_n 3, 1) := by decide +kernel
theorem dX1_raiseRegion_36 : decode cX1_raiseRegion 36 = .ok (.iconst 0, 1) := by decide +kernel
theorem dX1_raiseRegion_37 : decode cX1_raiseRegion 37 = .ok (.istore 4, 2) := by decide +kernel
theorem dX1_raiseRegion_39 : decode cX1_raiseRegion 39 = .ok (.iload 4, 2) := by decide +kernel
theorem dX1_raiseRegion_41 : decode cX1_raiseRegion 41 = .ok (.aload_n 0, 1) := by decide +kernel
theorem dX1_raiseRegion_42 : decode cX1_raiseRegion 42 = .ok (.getfield 24, 3) := by decide +kernel
theorem dX1_raiseRegion_45 : decode cX1_raiseRegion 45 = .ok (.invokevirtual 40, 3) := by decide +kernel
theorem dX1_raiseRegion_48 : decode cX1_raiseRegion 48 = .ok (.if_icmp .ge 31, 3) := by decide +kernel
theorem dX1_raiseRegion_51 : decode cX1_raiseRegion 51 = .ok (.aload_n 0, 1) := by decide +kernel
theorem dX1_raiseRegion_52 : decode cX1_raiseRegion 52 = .ok (.getfield 32, 3) := by decide +kernel
theorem dX1_raiseRegion_55 : decode cX1_raiseRegion 55 = .ok (.iload_n 1, 1) := by decide +kernel
theorem dX1_raiseRegion_56 : decode cX1_raiseRegion 56 = .ok (.iload 4, 2) := by decide +kernel
theorem dX1_raiseRegion_58 : decode cX1_raiseRegion 58 = .ok (.invokevirtual 105, 3) := by decide +kernel
theorem dX1_raiseRegion_61 : decode cX1_raiseRegion 61 = .ok (.ifCond .eq 12, 3) := by decide +kernel
theorem dX1_raiseRegion_64 : decode cX1_raiseRegion 64 = .ok (.aload_n 0, 1) := by decide +kernel
theorem dX1_raiseRegion_65 : decode cX1_raiseRegion 65 = .ok (.iload 4, 2) := by decide +kernel
theorem dX1_raiseRegion_67 : decode cX1_raiseRegion 67 = .ok (.bipush 8, 2) := by decide +kernel
theorem dX1_raiseRegion_69 : decode cX1_raiseRegion 69 = .ok (.iload_n 3, 1) := by decide +kernel
theorem dX1_raiseRegion_70 : decode cX1_raiseRegion 70 = .ok (.invokevirtual 57, 3) := by decide +kernel
theorem dX1_raiseRegion_73 : decode cX1_raiseRegion 73 = .ok (.iinc 4 1, 3) := by decide +kernel
theorem dX1_raiseRegion_76 : decode cX1_raiseRegion 76 = .ok (.goto (-37), 3) := by decide +kernel
theorem dX1_raiseRegion_79 : decode cX1_raiseRegion 79 = .ok (.return_, 1) := by decide +kernel
theorem dX1_comeTo_0 : decode cX1_comeTo 0 = .ok (.aload_n 0, 1) := by decide +kernel
theorem dX1_comeTo_1 : decode cX1_comeTo 1 = .ok (.getfield 24, 3) := by decide +kernel
theorem dX1_comeTo_4 : decode cX1_comeTo 4 = .ok (.iload_n 1, 1) := by decide +kernel
theorem dX1_comeTo_5 : decode cX1_comeTo 5 = .ok (.invokevirtual 110, 3) := by decide +kernel
theorem dX1_comeTo_8 : decode cX1_comeTo 8 = .ok (.ifCond .ne 4, 3) := by decide +kernel
theorem dX1_comeTo_11 : decode cX1_comeTo 11 = .ok (.return_, 1) := by decide +kernel
theorem dX1_comeTo_12 : decode cX1_comeTo 12 = .ok (.bipush 9, 2) := by decide +kernel
theorem dX1_comeTo_14 : decode cX1_comeTo 14 = .ok (.aload_n 0, 1) := by decide +kernel
theorem dX1_comeTo_15 : decode cX1_comeTo 15 = .ok (.getfield 28, 3) := by decide +kernel
theorem dX1_comeTo_18 : decode cX1_comeTo 18 = .ok (.iload_n 1, 1) := by decide +kernel
theorem dX1_comeTo_19 : decode cX1_comeTo 19 = .ok (.invokevirtual 51, 3) := by decide +kernel
theorem dX1_comeTo_22 : decode cX1_comeTo 22 = .ok (.iadd, 1) := by decide +kernel
theorem dX1_comeTo_23 : decode cX1_comeTo 23 = .ok (.istore_n 2, 1) := by decide +kernel
theorem dX1_comeTo_24 : decode cX1_comeTo 24 = .ok (.iconst 0, 1) := by decide +kernel
theorem dX1_comeTo_25 : decode cX1_comeTo 25 = .ok (.istore_n 3, 1) := by decide +kernel
theorem dX1_comeTo_26 : decode cX1_comeTo 26 = .ok (.iload_n 3, 1) := by decide +kernel
theorem dX1_comeTo_27 : decode cX1_comeTo 27 = .ok (.iload_n 2, 1) := by decide +kernel
theorem dX1_comeTo_28 : decode cX1_comeTo 28 = .ok (.if_icmp .ge 33, 3) := by decide +kernel
theorem dX1_comeTo_31 : decode cX1_comeTo 31 = .ok (.iload_n 3, 1) := by decide +kernel
theorem dX1_comeTo_32 : decode cX1_comeTo 32 = .ok (.bipush 17, 2) := by decide +kernel
theorem dX1_comeTo_34 : decode cX1_comeTo 34 = .ok (.if_icmp .ge 27, 3) := by decide +kernel
theorem dX1_comeTo_37 : decode cX1_comeTo 37 = .ok (.iload_n 3, 1) := by decide +kernel
theorem dX1_comeTo_38 : decode cX1_comeTo 38 = .ok (.bipush 8, 2) := by decide +kernel
theorem dX1_comeTo_40 : decode cX1_comeTo 40 = .ok (.if_icmp .eq 15, 3) := by decide +kernel
theorem dX1_comeTo_43 : decode cX1_comeTo 43 = .ok (.aload_n 0, 1) := by decide +kernel
theorem dX1_comeTo_44 : decode cX1_comeTo 44 = .ok (.iload_n 1, 1) := by decide +kernel
theorem dX1_comeTo_45 : decode cX1_comeTo 45 = .ok (.iload_n 3, 1) := by decide +kernel
theorem dX1_comeTo_46 : decode cX1_comeTo 46 = .ok (.aload_n 0, 1) := by decide +kernel
theorem dX1_comeTo_47 : decode cX1_comeTo 47 = .ok (.getfield 20, 3) := by decide +kernel
theorem dX1_comeTo_50 : decode cX1_comeTo 50 = .ok (.iload_n 3, 1) := by decide +kernel
theorem dX1_comeTo_51 : decode cX1_comeTo 51 = .ok (.iaload, 1) := by decide +kernel
theorem dX1_comeTo_52 : decode cX1_comeTo 52 = .ok (.invokevirtual 57, 3) := by decide +kernel
theorem dX1_comeTo_55 : decode cX1_comeTo 55 = .ok (.iinc 3 1, 3) := by decide +kernel
theorem dX1_comeTo_58 : decode cX1_comeTo 58 = .ok (.goto (-32), 3) := by decide +kernel
theorem dX1_comeTo_61 : decode cX1_comeTo 61 = .ok (.return_, 1) := by decide +kernel
theorem dX1_raise_0 : decode cX1_raise 0 = .ok (.aload_n 0, 1) := by decide +kernel
theorem dX1_raise_1 : decode cX1_raise 1 = .ok (.getfield 36, 3) := by decide +kernel
theorem dX1_raise_4 : decode cX1_raise 4 = .ok (.aload_n 0, 1) := by decide +kernel
theorem dX1_raise_5 : decode cX1_raise 5 = .ok (.getfield 13, 3) := by decide +kernel
theorem dX1_raise_8 : decode cX1_raise 8 = .ok (.iload_n 1, 1) := by decide +kernel
theorem dX1_raise_9 : decode cX1_raise 9 = .ok (.aaload, 1) := by decide +kernel
theorem dX1_raise_10 : decode cX1_raise 10 = .ok (.iload_n 2, 1) := by decide +kernel
theorem dX1_raise_11 : decode cX1_raise 11 = .ok (.iaload, 1) := by decide +kernel
theorem dX1_raise_12 : decode cX1_raise 12 = .ok (.iload_n 3, 1) := by decide +kernel
theorem dX1_raise_13 : decode cX1_raise 13 = .ok (.invokevirtual 99, 3) := by decide +kernel
theorem dX1_raise_16 : decode cX1_raise 16 = .ok (.istore 4, 2) := by decide +kernel
theorem dX1_raise_18 : decode cX1_raise 18 = .ok (.iload 4, 2) := by decide +kernel
theorem dX1_raise_20 : decode cX1_raise 20 = .ok (.aload_n 0, 1) := by decide +kernel
theorem dX1_raise_21 : decode cX1_raise 21 = .ok (.getfield 13, 3) := by decide +kernel
theorem dX1_raise_24 : decode cX1_raise 24 = .ok (.iload_n 1, 1) := by decide +kernel
theorem dX1_raise_25 : decode cX1_raise 25 = .ok (.aaload, 1) := by decide +kernel
theorem dX1_raise_26 : decode cX1_raise 26 = .ok (.iload_n 2, 1) := by decide +kernel
theorem dX1_raise_27 : decode cX1_raise 27 = .ok (.iaload, 1) := by decide +kernel
theorem dX1_raise_28 : decode cX1_raise 28 = .ok (.if_icmp .eq 20, 3) := by decide +kernel
theorem dX1_raise_31 : decode cX1_raise 31 = .ok (.aload_n 0, 1) := by decide +kernel
theorem dX1_raise_32 : decode cX1_raise 32 = .ok (.getfield 13, 3) := by decide +kernel
theorem dX1_raise_35 : decode cX1_raise 35 = .ok (.iload_n 1, 1) := by decide +kernel
theorem dX1_raise_36 : decode cX1_raise 36 = .ok (.aaload, 1) := by decide +kernel
theorem dX1_raise_37 : decode cX1_raise 37 = .ok (.iload_n 2, 1) := by decide +kernel
theorem dX1_raise_38 : decode cX1_raise 38 = .ok (.iload 4, 2) := by decide +kernel
theorem dX1_raise_40 : decode cX1_raise 40 = .ok (.iastore, 1) := by decide +kernel
theorem dX1_raise_41 : decode cX1_raise 41 = .ok (.aload_n 0, 1) := by decide +kernel
theorem dX1_raise_42 : decode cX1_raise 42 = .ok (.getfield 16, 3) := by decide +kernel
theorem dX1_raise_45 : decode cX1_raise 45 = .ok (.iload_n 1, 1) := by decide +kernel
theorem dX1_raise_46 : decode cX1_raise 46 = .ok (.iconst 1, 1) := by decide +kernel
theorem dX1_raise_47 : decode cX1_raise 47 = .ok (.bastore, 1) := by decide +kernel
theorem dX1_raise_48 : decode cX1_raise 48 = .ok (.return_, 1) := by decide +kernel
theorem dX2_init_0 : decode cX2_init 0 = .ok (.aload_n 0, 1) := by decide +kernel
theorem dX2_init_1 : decode cX2_init 1 = .ok (.invokespecial 3, 3) := by decide +kernel
theorem dX2_init_4 : decode cX2_init 4 = .ok (.aload_n 0, 1) := by decide +kernel
theorem dX2_init_5 : decode cX2_init 5 = .ok (.bipush 8, 2) := by decide +kernel
theorem dX2_init_7 : decode cX2_init 7 = .ok (.newarray .int, 2) := by decide +kernel
theorem dX2_init_9 : decode cX2_init 9 = .ok (.putfield 9, 3) := by decide +kernel
theorem dX2_init_12 : decode cX2_init 12 = .ok (.aload_n 0, 1) := by decide +kernel
theorem dX2_init_13 : decode cX2_init 13 = .ok (.iconst 0, 1) := by decide +kernel
theorem dX2_init_14 : decode cX2_init 14 = .ok (.putfield 15, 3) := by decide +kernel
theorem dX2_init_17 : decode cX2_init 17 = .ok (.aload_n 0, 1) := by decide +kernel
theorem dX2_init_18 : decode cX2_init 18 = .ok (.iconst 0, 1) := by decide +kernel
theorem dX2_init_19 : decode cX2_init 19 = .ok (.putfield 19, 3) := by decide +kernel
theorem dX2_init_22 : decode cX2_init 22 = .ok (.return_, 1) := by decide +kernel
theorem dX2_execute_0 : decode cX2_execute 0 = .ok (.aload_n 2, 1) := by decide +kernel
theorem dX2_execute_1 : decode cX2_execute 1 = .ok (.iconst 0, 1) := by decide +kernel
theorem dX2_execute_2 : decode cX2_execute 2 = .ok (.aload_n 0, 1) := by decide +kernel
theorem dX2_execute_3 : decode cX2_execute 3 = .ok (.getfield 9, 3) := by decide +kernel
theorem dX2_execute_6 : decode cX2_execute 6 = .ok (.iconst 0, 1) := by decide +kernel
theorem dX2_execute_7 : decode cX2_execute 7 = .ok (.bipush 8, 2) := by decide +kernel
theorem dX2_execute_9 : decode cX2_execute 9 = .ok (.invokestatic 22, 3) := by decide +kernel
theorem dX2_execute_12 : decode cX2_execute 12 = .ok (.aload_n 0, 1) := by decide +kernel
theorem dX2_execute_13 : decode cX2_execute 13 = .ok (.iconst 0, 1) := by decide +kernel
theorem dX2_execute_14 : decode cX2_execute 14 = .ok (.putfield 15, 3) := by decide +kernel
theorem dX2_execute_17 : decode cX2_execute 17 = .ok (.aload_n 0, 1) := by decide +kernel
theorem dX2_execute_18 : decode cX2_execute 18 = .ok (.iload_n 3, 1) := by decide +kernel
theorem dX2_execute_19 : decode cX2_execute 19 = .ok (.putfield 19, 3) := by decide +kernel
theorem dX2_execute_22 : decode cX2_execute 22 = .ok (.aload_n 0, 1) := by decide +kernel
theorem dX2_execute_23 : decode cX2_execute 23 = .ok (.aload_n 1, 1) := by decide +kernel
theorem dX2_execute_24 : decode cX2_execute 24 = .ok (.iconst 0, 1) := by decide +kernel
theorem dX2_execute_25 : decode cX2_execute 25 = .ok (.invokevirtual 28, 3) := by decide +kernel
theorem dX2_execute_28 : decode cX2_execute 28 = .ok (.ifCond .ne 5, 3) := by decide +kernel
theorem dX2_execute_31 : decode cX2_execute 31 = .ok (.iconst (-1), 1) := by decide +kernel
theorem dX2_execute_32 : decode cX2_execute 32 = .ok (.ireturn, 1) := by decide +kernel
theorem dX2_execute_33 : decode cX2_execute 33 = .ok (.aload_n 0, 1) := by decide +kernel
theorem dX2_execute_34 : decode cX2_execute 34 = .ok (.getfield 9, 3) := by decide +kernel
theorem dX2_execute_37 : decode cX2_execute 37 = .ok (.iconst 0, 1) := by decide +kernel
theorem dX2_execute_38 : decode cX2_execute 38 = .ok (.aload_n 2, 1) := by decide +kernel
theorem dX2_execute_39 : decode cX2_execute 39 = .ok (.iconst 0, 1) := by decide +kernel
theorem dX2_execute_40 : decode cX2_execute 40 = .ok (.bipush 8, 2) := by decide +kernel
theorem dX2_execute_42 : decode cX2_execute 42 = .ok (.invokestatic 22, 3) := by decide +kernel
theorem dX2_execute_45 : decode cX2_execute 45 = .ok (.aload_n 0, 1) := by decide +kernel
theorem dX2_execute_46 : decode cX2_execute 46 = .ok (.getfield 15, 3) := by decide +kernel
theorem dX2_execute_49 : decode cX2_execute 49 = .ok (.ireturn, 1) := by decide +kernel
theorem dX2_makeRow_0 : decode cX2_makeRow 0 = .ok (.iload_n 2, 1) := by decide +kernel
theorem dX2_makeRow_1 : decode cX2_makeRow 1 = .ok (.bipush 6, 2) := by decide +kernel
theorem dX2_makeRow_3 : decode cX2_makeRow 3 = .ok (.if_icmp .le 5, 3) := by decide +kernel
theorem dX2_makeRow_6 : decode cX2_makeRow 6 = .ok (.iconst 0, 1) := by decide +kernel
theorem dX2_makeRow_7 : decode cX2_makeRow 7 = .ok (.ireturn, 1) := by decide +kernel
theorem dX2_makeRow_8 : decode cX2_makeRow 8 = .ok (.aload_n 1, 1) := by decide +kernel
theorem dX2_makeRow_9 : decode cX2_makeRow 9 = .ok (.astore_n 3, 1) := by decide +kernel
theorem dX2_makeRow_10 : decode cX2_makeRow 10 = .ok (.aload_n 3, 1) := by decide +kernel
theorem dX2_makeRow_11 : decode cX2_makeRow 11 = .ok (.ifnull 22, 3) := by decide +kernel
theorem dX2_makeRow_14 : decode cX2_makeRow 14 = .ok (.aload_n 0, 1) := by decide +kernel
theorem dX2_makeRow_15 : decode cX2_makeRow 15 = .ok (.aload_n 3, 1) := by decide +kernel
theorem dX2_makeRow_16 : decode cX2_makeRow 16 = .ok (.iload_n 2, 1) := by decide +kernel
theorem dX2_makeRow_17 : decode cX2_makeRow 17 = .ok (.invokevirtual 32, 3) := by decide +kernel
theorem dX2_makeRow_20 : decode cX2_makeRow 20 = .ok (.ifCond .ne 5, 3) := by decide +kernel
theorem dX2_makeRow_23 : decode cX2_makeRow 23 = .ok (.iconst 0, 1) := by decide +kernel
theorem dX2_makeRow_24 : decode cX2_makeRow 24 = .ok (.ireturn, 1) := by decide +kernel
theorem dX2_makeRow_25 : decode cX2_makeRow 25 = .ok (.aload_n 3, 1) := by decide +kernel
theorem dX2_makeRow_26 : decode cX2_makeRow 26 = .ok (.getfield 35, 3) := by decide +kernel
theorem dX2_makeRow_29 : decode cX2_makeRow 29 = .ok (.astore_n 3, 1) := by decide +kernel
theorem dX2_makeRow_30 : decode cX2_makeRow 30 = .ok (.goto (-20), 3) := by decide +kernel
theorem dX2_makeRow_33 : decode cX2_makeRow 33 = .ok (.iconst 1, 1) := by decide +kernel
theorem dX2_makeRow_34 : decode cX2_makeRow 34 = .ok (.ireturn, 1) := by decide +kernel
theorem dX2_makeStatement_0 : decode cX2_makeStatement 0 = .ok (.aload_n 1, 1) := by decide +kernel
theorem dX2_makeStatement_1 : decode cX2_makeStatement 1 = .ok (.getfield 41, 3) := by decide +kernel
theorem dX2_makeStatement_4 : decode cX2_makeStatement 4 = .ok (.iconst 4, 1) := by decide +kernel
theorem dX2_makeStatement_5 : decode cX2_makeStatement 5 = .ok (.if_icmp .ne 10, 3) := by decide +kernel
theorem dX2_makeStatement_8 : decode cX2_makeStatement 8 = .ok (.aload_n 0, 1) := by decide +kernel
theorem dX2_makeStatement_9 : decode cX2_makeStatement 9 = .ok (.aload_n 1, 1) := by decide +kernel
theorem dX2_makeStatement_10 : decode cX2_makeStatement 10 = .ok (.iload_n 2, 1) := by decide +kernel
theorem dX2_makeStatement_11 : decode cX2_makeStatement 11 = .ok (.invokevirtual 44, 3) := by decide +kernel
theorem dX2_makeStatement_14 : decode cX2_makeStatement 14 = .ok (.ireturn, 1) := by decide +kernel
theorem dX2_makeStatement_15 : decode cX2_makeStatement 15 = .ok (.aload_n 1, 1) := by decide +kernel
theorem dX2_makeStatement_16 : decode cX2_makeStatement 16 = .ok (.getfield 41, 3) := by decide +kernel
theorem dX2_makeStatement_19 : decode cX2_makeStatement 19 = .ok (.iconst 5, 1) := by decide +kernel
theorem dX2_makeStatement_20 : decode cX2_makeStatement 20 = .ok (.if_icmp .ne 10, 3) := by decide +kernel
theorem dX2_makeStatement_23 : decode cX2_makeStatement 23 = .ok (.aload_n 0, 1) := by decide +kernel
theorem dX2_makeStatement_24 : decode cX2_makeStatement 24 = .ok (.aload_n 1, 1) := by decide +kernel
theorem dX2_makeStatement_25 : decode cX2_makeStatement 25 = .ok (.iload_n 2, 1) := by decide +kernel
theorem dX2_makeStatement_26 : decode cX2_makeStatement 26 = .ok (.invokevirtual 47, 3) := by decide +kernel
theorem dX2_makeStatement_29 : decode cX2_makeStatement 29 = .ok (.ireturn, 1) := by decide +kernel
theorem dX2_makeStatement_30 : decode cX2_makeStatement 30 = .ok (.aload_n 1, 1) := by decide +kernel
theorem dX2_makeStatement_31 : decode cX2_makeStatement 31 = .ok (.getfield 50, 3) := by decide +kernel
theorem dX2_makeStatement_34 : decode cX2_makeStatement 34 = .ok (.invokestatic 53, 3) := by decide +kernel
theorem dX2_makeStatement_37 : decode cX2_makeStatement 37 = .ok (.ifCond .eq 21, 3) := by decide +kernel
theorem dX2_makeStatement_40 : decode cX2_makeStatement 40 = .ok (.aload_n 0, 1) := by decide +kernel
theorem dX2_makeStatement_41 : decode cX2_makeStatement 41 = .ok (.getfield 9, 3) := by decide +kernel
theorem dX2_makeStatement_44 : decode cX2_makeStatement 44 = .ok (.aload_n 1, 1) := by decide +kernel
theorem dX2_makeStatement_45 : decode cX2_makeStatement 45 = .ok (.getfield 50, 3) := by decide +kernel
theorem dX2_makeStatement_48 : decode cX2_makeStatement 48 = .ok (.aload_n 0, 1) := by decide +kernel
theorem dX2_makeStatement_49 : decode cX2_makeStatement 49 = .ok (.aload_n 1, 1) := by decide +kernel
theorem dX2_makeStatement_50 : decode cX2_makeStatement 50 = .ok (.getfield 57, 3) := by decide +kernel
theorem dX2_makeStatement_53 : decode cX2_makeStatement 53 = .ok (.iconst 0, 1) := by decide +kernel
theorem dX2_makeStatement_54 : decode cX2_makeStatement 54 = .ok (.invokevirtual 60, 3) := by decide +kernel
theorem dX2_makeStatement_57 : decode cX2_makeStatement 57 = .ok (.iastore, 1) := by decide +kernel
theorem dX2_makeStatement_58 : decode cX2_makeStatement 58 = .ok (.iconst 1, 1) := by decide +kernel
theorem dX2_makeStatement_59 : decode cX2_makeStatement 59 = .ok (.ireturn, 1) := by decide +kernel
theorem dX2_makeChoice_0 : decode cX2_makeChoice 0 = .ok (.aload_n 0, 1) := by decide +kernel
theorem dX2_makeChoice_1 : decode cX2_makeChoice 1 = .ok (.getfield 15, 3) := by decide +kernel
theorem dX2_makeChoice_4 : decode cX2_makeChoice 4 = .ok (.aload_n 0, 1) := by decide +kernel
theorem dX2_makeChoice_5 : decode cX2_makeChoice 5 = .ok (.getfield 19, 3) := by decide +kernel
theorem dX2_makeChoice_8 : decode cX2_makeChoice 8 = .ok (.if_icmp .lt 5, 3) := by decide +kernel
theorem dX2_makeChoice_11 : decode cX2_makeChoice 11 = .ok (.iconst 0, 1) := by decide +kernel
theorem dX2_makeChoice_12 : decode cX2_makeChoice 12 = .ok (.ireturn, 1) := by decide +kernel
theorem dX2_makeChoice_13 : decode cX2_makeChoice 13 = .ok (.aload_n 0, 1) := by decide +kernel
theorem dX2_makeChoice_14 : decode cX2_makeChoice 14 = .ok (.dup, 1) := by decide +kernel
theorem dX2_makeChoice_15 : decode cX2_makeChoice 15 = .ok (.getfield 15, 3) := by decide +kernel
theorem dX2_makeChoice_18 : decode cX2_makeChoice 18 = .ok (.iconst 1, 1) := by decide +kernel
theorem dX2_makeChoice_19 : decode cX2_makeChoice 19 = .ok (.iadd, 1) := by decide +kernel
theorem dX2_makeChoice_20 : decode cX2_makeChoice 20 = .ok (.putfield 15, 3) := by decide +kernel
theorem dX2_makeChoice_23 : decode cX2_makeChoice 23 = .ok (.aload_n 0, 1) := by decide +kernel
theorem dX2_makeChoice_24 : decode cX2_makeChoice 24 = .ok (.aload_n 0, 1) := by decide +kernel
theorem dX2_makeChoice_25 : decode cX2_makeChoice 25 = .ok (.aload_n 1, 1) := by decide +kernel
theorem dX2_makeChoice_26 : decode cX2_makeChoice 26 = .ok (.getfield 57, 3) := by decide +kernel
theorem dX2_makeChoice_29 : decode cX2_makeChoice 29 = .ok (.iconst 0, 1) := by decide +kernel
theorem dX2_makeChoice_30 : decode cX2_makeChoice 30 = .ok (.invokevirtual 60, 3) := by decide +kernel
theorem dX2_makeChoice_33 : decode cX2_makeChoice 33 = .ok (.ifCond .eq 10, 3) := by decide +kernel
theorem dX2_makeChoice_36 : decode cX2_makeChoice 36 = .ok (.aload_n 1, 1) := by decide +kernel
theorem dX2_makeChoice_37 : decode cX2_makeChoice 37 = .ok (.getfield 64, 3) := by decide +kernel
theorem dX2_makeChoice_40 : decode cX2_makeChoice 40 = .ok (.goto 7, 3) := by decide +kernel
theorem dX2_makeChoice_43 : decode cX2_makeChoice 43 = .ok (.aload_n 1, 1) := by decide +kernel
theorem dX2_makeChoice_44 : decode cX2_makeChoice 44 = .ok (.getfield 67, 3) := by decide +kernel
theorem dX2_makeChoice_47 : decode cX2_makeChoice 47 = .ok (.iload_n 2, 1) := by decide +kernel
theorem dX2_makeChoice_48 : decode cX2_makeChoice 48 = .ok (.iconst 1, 1) := by decide +kernel
theorem dX2_makeChoice_49 : decode cX2_makeChoice 49 = .ok (.iadd, 1) := by decide +kernel
theorem dX2_makeChoice_50 : decode cX2_makeChoice 50 = .ok (.invokevirtual 28, 3) := by decide +kernel
theorem dX2_makeChoice_53 : decode cX2_makeChoice 53 = .ok (.ireturn, 1) := by decide +kernel
theorem dX2_makeLoop_0 : decode cX2_makeLoop 0 = .ok (.aload_n 0, 1) := by decide +kernel
theorem dX2_makeLoop_1 : decode cX2_makeLoop 1 = .ok (.getfield 15, 3) := by decide +kernel
theorem dX2_makeLoop_4 : decode cX2_makeLoop 4 = .ok (.aload_n 0, 1) := by decide +kernel
theorem dX2_makeLoop_5 : decode cX2_makeLoop 5 = .ok (.getfield 19, 3) := by decide +kernel
theorem dX2_makeLoop_8 : decode cX2_makeLoop 8 = .ok (.if_icmp .ge 43, 3) := by decide +kernel
theorem dX2_makeLoop_11 : decode cX2_makeLoop 11 = .ok (.aload_n 0, 1) := by decide +kernel
theorem dX2_makeLoop_12 : decode cX2_makeLoop 12 = .ok (.dup, 1) := by decide +kernel
theorem dX2_makeLoop_13 : decode cX2_makeLoop 13 = .ok (.getfield 15, 3) := by decide +kernel
theorem dX2_makeLoop_16 : decode cX2_makeLoop 16 = .ok (.iconst 1, 1) := by decide +kernel
theorem dX2_makeLoop_17 : decode cX2_makeLoop 17 = .ok (.iadd, 1) := by decide +kernel
theorem dX2_makeLoop_18 : decode cX2_makeLoop 18 = .ok (.putfield 15, 3) := by decide +kernel
theorem dX2_makeLoop_21 : decode cX2_makeLoop 21 = .ok (.aload_n 0, 1) := by decide +kernel
theorem dX2_makeLoop_22 : decode cX2_makeLoop 22 = .ok (.aload_n 1, 1) := by decide +kernel
theorem dX2_makeLoop_23 : decode cX2_makeLoop 23 = .ok (.getfield 57, 3) := by decide +kernel
theorem dX2_makeLoop_26 : decode cX2_makeLoop 26 = .ok (.iconst 0, 1) := by decide +kernel
theorem dX2_makeLoop_27 : decode cX2_makeLoop 27 = .ok (.invokevirtual 60, 3) := by decide +kernel
theorem dX2_makeLoop_30 : decode cX2_makeLoop 30 = .ok (.ifCond .ne 5, 3) := by decide +kernel
theorem dX2_makeLoop_33 : decode cX2_makeLoop 33 = .ok (.iconst 1, 1) := by decide +kernel
theorem dX2_makeLoop_34 : decode cX2_makeLoop 34 = .ok (.ireturn, 1) := by decide +kernel
theorem dX2_makeLoop_35 : decode cX2_makeLoop 35 = .ok (.aload_n 0, 1) := by decide +kernel
theorem dX2_makeLoop_36 : decode cX2_makeLoop 36 = .ok (.aload_n 1, 1) := by decide +kernel
theorem dX2_makeLoop_37 : decode cX2_makeLoop 37 = .ok (.getfield 64, 3) := by decide +kernel
theorem dX2_makeLoop_40 : decode cX2_makeLoop 40 = .ok (.iload_n 2, 1) := by decide +kernel
theorem dX2_makeLoop_41 : decode cX2_makeLoop 41 = .ok (.iconst 1, 1) := by decide +kernel
theorem dX2_makeLoop_42 : decode cX2_makeLoop 42 = .ok (.iadd, 1) := by decide +kernel
theorem dX2_makeLoop_43 : decode cX2_makeLoop 43 = .ok (.invokevirtual 28, 3) := by decide +kernel
theorem dX2_makeLoop_46 : decode cX2_makeLoop 46 = .ok (.ifCond .ne (-46), 3) := by decide +kernel
theorem dX2_makeLoop_49 : decode cX2_makeLoop 49 = .ok (.iconst 0, 1) := by decide +kernel
theorem dX2_makeLoop_50 : decode cX2_makeLoop 50 = .ok (.ireturn, 1) := by decide +kernel
theorem dX2_makeLoop_51 : decode cX2_makeLoop 51 = .ok (.iconst 0, 1) := by decide +kernel
theorem dX2_makeLoop_52 : decode cX2_makeLoop 52 = .ok (.ireturn, 1) := by decide +kernel
theorem dX2_valueOf_0 : decode cX2_valueOf 0 = .ok (.aload_n 1, 1) := by decide +kernel
theorem dX2_valueOf_1 : decode cX2_valueOf 1 = .ok (.ifnull 9, 3) := by decide +kernel
theorem dX2_valueOf_4 : decode cX2_valueOf 4 = .ok (.iload_n 2, 1) := by decide +kernel
theorem dX2_valueOf_5 : decode cX2_valueOf 5 = .ok (.bipush 6, 2) := by decide +kernel
theorem dX2_valueOf_7 : decode cX2_valueOf 7 = .ok (.if_icmp .le 5, 3) := by decide +kernel
theorem dX2_valueOf_10 : decode cX2_valueOf 10 = .ok (.iconst 0, 1) := by decide +kernel
theorem dX2_valueOf_11 : decode cX2_valueOf 11 = .ok (.ireturn, 1) := by decide +kernel
theorem dX2_valueOf_12 : decode cX2_valueOf 12 = .ok (.aload_n 1, 1) := by decide +kernel
theorem dX2_valueOf_13 : decode cX2_valueOf 13 = .ok (.getfield 41, 3) := by decide +kernel
theorem dX2_valueOf_16 : decode cX2_valueOf 16 = .ok (.iconst 1, 1) := by decide +kernel
theorem dX2_valueOf_17 : decode cX2_valueOf 17 = .ok (.if_icmp .ne 27, 3) := by decide +kernel
theorem dX2_valueOf_20 : decode cX2_valueOf 20 = .ok (.aload_n 1, 1) := by decide +kernel
theorem dX2_valueOf_21 : decode cX2_valueOf 21 = .ok (.getfield 50, 3) := by decide +kernel
theorem dX2_valueOf_24 : decode cX2_valueOf 24 = .ok (.invokestatic 53, 3) := by decide +kernel
theorem dX2_valueOf_27 : decode cX2_valueOf 27 = .ok (.ifCond .eq 15, 3) := by decide +kernel
theorem dX2_valueOf_30 : decode cX2_valueOf 30 = .ok (.aload_n 0, 1) := by decide +kernel
theorem dX2_valueOf_31 : decode cX2_valueOf 31 = .ok (.getfield 9, 3) := by decide +kernel
theorem dX2_valueOf_34 : decode cX2_valueOf 34 = .ok (.aload_n 1, 1) := by decide +kernel
theorem dX2_valueOf_35 : decode cX2_valueOf 35 = .ok (.getfield 50, 3) := by decide +kernel
theorem dX2_valueOf_38 : decode cX2_valueOf 38 = .ok (.iaload, 1) := by decide +kernel
theorem dX2_valueOf_39 : decode cX2_valueOf 39 = .ok (.goto 4, 3) := by decide +kernel
theorem dX2_valueOf_42 : decode cX2_valueOf 42 = .ok (.iconst 0, 1) := by decide +kernel
theorem dX2_valueOf_43 : decode cX2_valueOf 43 = .ok (.ireturn, 1) := by decide +kernel
theorem dX2_valueOf_44 : decode cX2_valueOf 44 = .ok (.aload_n 1, 1) := by decide +kernel
theorem dX2_valueOf_45 : decode cX2_valueOf 45 = .ok (.getfield 41, 3) := by decide +kernel
theorem dX2_valueOf_48 : decode cX2_valueOf 48 = .ok (.iconst 2, 1) := by decide +kernel
theorem dX2_valueOf_49 : decode cX2_valueOf 49 = .ok (.if_icmp .ne 33, 3) := by decide +kernel
theorem dX2_valueOf_52 : decode cX2_valueOf 52 = .ok (.aload_n 1, 1) := by decide +kernel
theorem dX2_valueOf_53 : decode cX2_valueOf 53 = .ok (.getfield 50, 3) := by decide +kernel
theorem dX2_valueOf_56 : decode cX2_valueOf 56 = .ok (.aload_n 0, 1) := by decide +kernel
theorem dX2_valueOf_57 : decode cX2_valueOf 57 = .ok (.aload_n 1, 1) := by decide +kernel
theorem dX2_valueOf_58 : decode cX2_valueOf 58 = .ok (.getfield 64, 3) := by decide +kernel
theorem dX2_valueOf_61 : decode cX2_valueOf 61 = .ok (.iload_n 2, 1) := by decide +kernel
theorem dX2_valueOf_62 : decode cX2_valueOf 62 = .ok (.iconst 1, 1) := by decide +kernel
theorem dX2_valueOf_63 : decode cX2_valueOf 63 = .ok (.iadd, 1) := by decide +kernel
theorem dX2_valueOf_64 : decode cX2_valueOf 64 = .ok (.invokevirtual 60, 3) := by decide +kernel
theorem dX2_valueOf_67 : decode cX2_valueOf 67 = .ok (.aload_n 0, 1) := by decide +kernel
theorem dX2_valueOf_68 : decode cX2_valueOf 68 = .ok (.aload_n 1, 1) := by decide +kernel
theorem dX2_valueOf_69 : decode cX2_valueOf 69 = .ok (.getfield 67, 3) := by decide +kernel
theorem dX2_valueOf_72 : decode cX2_valueOf 72 = .ok (.iload_n 2, 1) := by decide +kernel
theorem dX2_valueOf_73 : decode cX2_valueOf 73 = .ok (.iconst 1, 1) := by decide +kernel
theorem dX2_valueOf_74 : decode cX2_valueOf 74 = .ok (.iadd, 1) := by decide +kernel
theorem dX2_valueOf_75 : decode cX2_valueOf 75 = .ok (.invokevirtual 60, 3) := by decide +kernel
theorem dX2_valueOf_78 : decode cX2_valueOf 78 = .ok (.invokestatic 70, 3) := by decide +kernel
theorem dX2_valueOf_81 : decode cX2_valueOf 81 = .ok (.ireturn, 1) := by decide +kernel
theorem dX2_valueOf_82 : decode cX2_valueOf 82 = .ok (.aload_n 1, 1) := by decide +kernel
theorem dX2_valueOf_83 : decode cX2_valueOf 83 = .ok (.getfield 50, 3) := by decide +kernel
theorem dX2_valueOf_86 : decode cX2_valueOf 86 = .ok (.ireturn, 1) := by decide +kernel
theorem dX3_init_0 : decode cX3_init 0 = .ok (.aload_n 0, 1) := by decide +kernel
theorem dX3_init_1 : decode cX3_init 1 = .ok (.invokespecial 3, 3) := by decide +kernel
theorem dX3_init_4 : decode cX3_init 4 = .ok (.aload_n 0, 1) := by decide +kernel
theorem dX3_init_5 : decode cX3_init 5 = .ok (.bipush 36, 2) := by decide +kernel
theorem dX3_init_7 : decode cX3_init 7 = .ok (.newarray .int, 2) := by decide +kernel
theorem dX3_init_9 : decode cX3_init 9 = .ok (.putfield 9, 3) := by decide +kernel
theorem dX3_init_12 : decode cX3_init 12 = .ok (.aload_n 0, 1) := by decide +kernel
theorem dX3_init_13 : decode cX3_init 13 = .ok (.iconst 1, 1) := by decide +kernel
theorem dX3_init_14 : decode cX3_init 14 = .ok (.putfield 15, 3) := by decide +kernel
theorem dX3_init_17 : decode cX3_init 17 = .ok (.aload_n 0, 1) := by decide +kernel
theorem dX3_init_18 : decode cX3_init 18 = .ok (.lconst 1, 1) := by decide +kernel
theorem dX3_init_19 : decode cX3_init 19 = .ok (.putfield 19, 3) := by decide +kernel
theorem dX3_init_22 : decode cX3_init 22 = .ok (.aload_n 0, 1) := by decide +kernel
theorem dX3_init_23 : decode cX3_init 23 = .ok (.iconst 0, 1) := by decide +kernel
theorem dX3_init_24 : decode cX3_init 24 = .ok (.putfield 23, 3) := by decide +kernel
theorem dX3_init_27 : decode cX3_init 27 = .ok (.aload_n 0, 1) := by decide +kernel
theorem dX3_init_28 : decode cX3_init 28 = .ok (.iconst 0, 1) := by decide +kernel
theorem dX3_init_29 : decode cX3_init 29 = .ok (.putfield 26, 3) := by decide +kernel
theorem dX3_init_32 : decode cX3_init 32 = .ok (.return_, 1) := by decide +kernel
theorem dX3_holds_0 : decode cX3_holds 0 = .ok (.lload_n 0, 1) := by decide +kernel
theorem dX3_holds_1 : decode cX3_holds 1 = .ok (.bipush 6, 2) := by decide +kernel
theorem dX3_holds_3 : decode cX3_holds 3 = .ok (.iload_n 2, 1) := by decide +kernel
theorem dX3_holds_4 : decode cX3_holds 4 = .ok (.imul, 1) := by decide +kernel
theorem dX3_holds_5 : decode cX3_holds 5 = .ok (.iload_n 3, 1) := by decide +kernel
theorem dX3_holds_6 : decode cX3_holds 6 = .ok (.iadd, 1) := by decide +kernel
theorem dX3_holds_7 : decode cX3_holds 7 = .ok (.lushr, 1) := by decide +kernel
theorem dX3_holds_8 : decode cX3_holds 8 = .ok (.lconst 1, 1) := by decide +kernel
theorem dX3_holds_9 : decode cX3_holds 9 = .ok (.land, 1) := by decide +kernel
theorem dX3_holds_10 : decode cX3_holds 10 = .ok (.lconst 1, 1) := by decide +kernel
theorem dX3_holds_11 : decode cX3_holds 11 = .ok (.lcmp, 1) := by decide +kernel
theorem dX3_holds_12 : decode cX3_holds 12 = .ok (.ifCond .ne 7, 3) := by decide +kernel
theorem dX3_holds_15 : decode cX3_holds 15 = .ok (.iconst 1, 1) := by decide +kernel
theorem dX3_holds_16 : decode cX3_holds 16 = .ok (.goto 4, 3) := by decide +kernel
theorem dX3_holds_19 : decode cX3_holds 19 = .ok (.iconst 0, 1) := by decide +kernel
theorem dX3_holds_20 : decode cX3_holds 20 = .ok (.ireturn, 1) := by decide +kernel
theorem dX3_isOrder_0 : decode cX3_isOrder 0 = .ok (.iconst 0, 1) := by decide +kernel
theorem dX3_isOrder_1 : decode cX3_isOrder 1 = .ok (.istore_n 3, 1) := by decide +kernel
theorem dX3_isOrder_2 : decode cX3_isOrder 2 = .ok (.iload_n 3, 1) := by decide +kernel
theorem dX3_isOrder_3 : decode cX3_isOrder 3 = .ok (.iload_n 0, 1) := by decide +kernel
theorem dX3_isOrder_4 : decode cX3_isOrder 4 = .ok (.if_icmp .ge 74, 3) := by decide +kernel
theorem dX3_isOrder_7 : decode cX3_isOrder 7 = .ok (.lload_n 1, 1) := by decide +kernel
theorem dX3_isOrder_8 : decode cX3_isOrder 8 = .ok (.iload_n 3, 1) := by decide +kernel
theorem dX3_isOrder_9 : decode cX3_isOrder 9 = .ok (.iload_n 3, 1) := by decide +kernel
theorem dX3_isOrder_10 : decode cX3_isOrder 10 = .ok (.invokestatic 29, 3) := by decide +kernel
theorem dX3_isOrder_13 : decode cX3_isOrder 13 = .ok (.ifCond .ne 5, 3) := by decide +kernel
theorem dX3_isOrder_16 : decode cX3_isOrder 16 = .ok (.iconst 0, 1) := by decide +kernel
theorem dX3_isOrder_17 : decode cX3_isOrder 17 = .ok (.ireturn, 1) := by decide +kernel
theorem dX3_isOrder_18 : decode cX3_isOrder 18 = .ok (.iconst 0, 1) := by decide +kernel
theorem dX3_isOrder_19 : decode cX3_isOrder 19 = .ok (.istore 4, 2) := by decide +kernel
theorem dX3_isOrder_21 : decode cX3_isOrder 21 = .ok (.iload 4, 2) := by decide +kernel
theorem dX3_isOrder_23 : decode cX3_isOrder 23 = .ok (.iload_n 0, 1) := by decide +kernel
theorem dX3_isOrder_24 : decode cX3_isOrder 24 = .ok (.if_icmp .ge 48, 3) := by decide +kernel
theorem dX3_isOrder_27 : decode cX3_isOrder 27 = .ok (.iload_n 3, 1) := by decide +kernel
theorem dX3_isOrder_28 : decode cX3_isOrder 28 = .ok (.iload 4, 2) := by decide +kernel
theorem dX3_isOrder_30 : decode cX3_isOrder 30 = .ok (.if_icmp .eq 36, 3) := by decide +kernel
theorem dX3_isOrder_33 : decode cX3_isOrder 33 = .ok (.lload_n 1, 1) := by decide +kernel
theorem dX3_isOrder_34 : decode cX3_isOrder 34 = .ok (.iload_n 3, 1) := by decide +kernel
theorem dX3_isOrder_35 : decode cX3_isOrder 35 = .ok (.iload 4, 2) := by decide +kernel
theorem dX3_isOrder_37 : decode cX3_isOrder 37 = .ok (.invokestatic 29, 3) := by decide +kernel
theorem dX3_isOrder_40 : decode cX3_isOrder 40 = .ok (.ifCond .eq 26, 3) := by decide +kernel
theorem dX3_isOrder_43 : decode cX3_isOrder 43 = .ok (.lload_n 1, 1) := by decide +kernel
theorem dX3_isOrder_44 : decode cX3_isOrder 44 = .ok (.iload 4, 2) := by decide +kernel
theorem dX3_isOrder_46 : decode cX3_isOrder 46 = .ok (.iload_n 3, 1) := by decide +kernel
theorem dX3_isOrder_47 : decode cX3_isOrder 47 = .ok (.invokestatic 29, 3) := by decide +kernel
theorem dX3_isOrder_50 : decode cX3_isOrder 50 = .ok (.ifCond .ne 14, 3) := by decide +kernel
theorem dX3_isOrder_53 : decode cX3_isOrder 53 = .ok (.iload_n 0, 1) := by decide +kernel
theorem dX3_isOrder_54 : decode cX3_isOrder 54 = .ok (.lload_n 1, 1) := by decide +kernel
theorem dX3_isOrder_55 : decode cX3_isOrder 55 = .ok (.iload_n 3, 1) := by decide +kernel
theorem dX3_isOrder_56 : decode cX3_isOrder 56 = .ok (.iload 4, 2) := by decide +kernel
theorem dX3_isOrder_58 : decode cX3_isOrder 58 = .ok (.invokestatic 33, 3) := by decide +kernel
theorem dX3_isOrder_61 : decode cX3_isOrder 61 = .ok (.ifCond .ne 5, 3) := by decide +kernel
theorem dX3_isOrder_64 : decode cX3_isOrder 64 = .ok (.iconst 0, 1) := by decide +kernel
theorem dX3_isOrder_65 : decode cX3_isOrder 65 = .ok (.ireturn, 1) := by decide +kernel
theorem dX3_isOrder_66 : decode cX3_isOrder 66 = .ok (.iinc 4 1, 3) := by decide +kernel
theorem dX3_isOrder_69 : decode cX3_isOrder 69 = .ok (.goto (-48), 3) := by decide +kernel
theorem dX3_isOrder_72 : decode cX3_isOrder 72 = .ok (.iinc 3 1, 3) := by decide +kernel
theorem dX3_isOrder_75 : decode cX3_isOrder 75 = .ok (.goto (-73), 3) := by decide +kernel
theorem dX3_isOrder_78 : decode cX3_isOrder 78 = .ok (.iconst 1, 1) := by decide +kernel
theorem dX3_isOrder_79 : decode cX3_isOrder 79 = .ok (.ireturn, 1) := by decide +kernel
theorem dX3_passesOn_0 : decode cX3_passesOn 0 = .ok (.iconst 0, 1) := by decide +kernel
theorem dX3_passesOn_1 : decode cX3_passesOn 1 = .ok (.istore 5, 2) := by decide +kernel
theorem dX3_passesOn_3 : decode cX3_passesOn 3 = .ok (.iload 5, 2) := by decide +kernel
theorem dX3_passesOn_5 : decode cX3_passesOn 5 = .ok (.iload_n 0, 1) := by decide +kernel
theorem dX3_passesOn_6 : decode cX3_passesOn 6 = .ok (.if_icmp .ge 32, 3) := by decide +kernel
theorem dX3_passesOn_9 : decode cX3_passesOn 9 = .ok (.lload_n 1, 1) := by decide +kernel
theorem dX3_passesOn_10 : decode cX3_passesOn 10 = .ok (.iload 4, 2) := by decide +kernel
theorem dX3_passesOn_12 : decode cX3_passesOn 12 = .ok (.iload 5, 2) := by decide +kernel
theorem dX3_passesOn_14 : decode cX3_passesOn 14 = .ok (.invokestatic 29, 3) := by decide +kernel
theorem dX3_passesOn_17 : decode cX3_passesOn 17 = .ok (.ifCond .eq 15, 3) := by decide +kernel
theorem dX3_passesOn_20 : decode cX3_passesOn 20 = .ok (.lload_n 1, 1) := by decide +kernel
theorem dX3_passesOn_21 : decode cX3_passesOn 21 = .ok (.iload_n 3, 1) := by decide +kernel
theorem dX3_passesOn_22 : decode cX3_passesOn 22 = .ok (.iload 5, 2) := by decide +kernel
theorem dX3_passesOn_24 : decode cX3_passesOn 24 = .ok (.invokestatic 29, 3) := by decide +kernel
theorem dX3_passesOn_27 : decode cX3_passesOn 27 = .ok (.ifCond .ne 5, 3) := by decide +kernel
theorem dX3_passesOn_30 : decode cX3_passesOn 30 = .ok (.iconst 0, 1) := by decide +kernel
theorem dX3_passesOn_31 : decode cX3_passesOn 31 = .ok (.ireturn, 1) := by decide +kernel
theorem dX3_passesOn_32 : decode cX3_passesOn 32 = .ok (.iinc 5 1, 3) := by decide +kernel
theorem dX3_passesOn_35 : decode cX3_passesOn 35 = .ok (.goto (-32), 3) := by decide +kernel
theorem dX3_passesOn_38 : decode cX3_passesOn 38 = .ok (.iconst 1, 1) := by decide +kernel
theorem dX3_passesOn_39 : decode cX3_passesOn 39 = .ok (.ireturn, 1) := by decide +kernel
theorem dX3_hasAllBounds_0 : decode cX3_hasAllBounds 0 = .ok (.iload_n 0, 1) := by decide +kernel
theorem dX3_hasAllBounds_1 : decode cX3_hasAllBounds 1 = .ok (.lload_n 1, 1) := by decide +kernel
theorem dX3_hasAllBounds_2 : decode cX3_hasAllBounds 2 = .ok (.invokestatic 37, 3) := by decide +kernel
theorem dX3_hasAllBounds_5 : decode cX3_hasAllBounds 5 = .ok (.lstore_n 3, 1) := by decide +kernel
theorem dX3_hasAllBounds_6 : decode cX3_hasAllBounds 6 = .ok (.iconst 0, 1) := by decide +kernel
theorem dX3_hasAllBounds_7 : decode cX3_hasAllBounds 7 = .ok (.istore 5, 2) := by decide +kernel
theorem dX3_hasAllBounds_9 : decode cX3_hasAllBounds 9 = .ok (.iload 5, 2) := by decide +kernel
theorem dX3_hasAllBounds_11 : decode cX3_hasAllBounds 11 = .ok (.iload_n 0, 1) := by decide +kernel
theorem dX3_hasAllBounds_12 : decode cX3_hasAllBounds 12 = .ok (.if_icmp .ge 52, 3) := by decide +kernel
theorem dX3_hasAllBounds_15 : decode cX3_hasAllBounds 15 = .ok (.iconst 0, 1) := by decide +kernel
theorem dX3_hasAllBounds_16 : decode cX3_hasAllBounds 16 = .ok (.istore 6, 2) := by decide +kernel
theorem dX3_hasAllBounds_18 : decode cX3_hasAllBounds 18 = .ok (.iload 6, 2) := by decide +kernel
theorem dX3_hasAllBounds_20 : decode cX3_hasAllBounds 20 = .ok (.iload_n 0, 1) := by decide +kernel
theorem dX3_hasAllBounds_21 : decode cX3_hasAllBounds 21 = .ok (.if_icmp .ge 37, 3) := by decide +kernel
theorem dX3_hasAllBounds_24 : decode cX3_hasAllBounds 24 = .ok (.iload_n 0, 1) := by decide +kernel
theorem dX3_hasAllBounds_25 : decode cX3_hasAllBounds 25 = .ok (.lload_n 1, 1) := by decide +kernel
theorem dX3_hasAllBounds_26 : decode cX3_hasAllBounds 26 = .ok (.iload 5, 2) := by decide +kernel
theorem dX3_hasAllBounds_28 : decode cX3_hasAllBounds 28 = .ok (.iload 6, 2) := by decide +kernel
theorem dX3_hasAllBounds_30 : decode cX3_hasAllBounds 30 = .ok (.invokestatic 41, 3) := by decide +kernel
theorem dX3_hasAllBounds_33 : decode cX3_hasAllBounds 33 = .ok (.iconst (-1), 1) := by decide +kernel
theorem dX3_hasAllBounds_34 : decode cX3_hasAllBounds 34 = .ok (.if_icmp .eq 16, 3) := by decide +kernel
theorem dX3_hasAllBounds_37 : decode cX3_hasAllBounds 37 = .ok (.iload_n 0, 1) := by decide +kernel
theorem dX3_hasAllBounds_38 : decode cX3_hasAllBounds 38 = .ok (.lload_n 3, 1) := by decide +kernel
theorem dX3_hasAllBounds_39 : decode cX3_hasAllBounds 39 = .ok (.iload 5, 2) := by decide +kernel
theorem dX3_hasAllBounds_41 : decode cX3_hasAllBounds 41 = .ok (.iload 6, 2) := by decide +kernel
theorem dX3_hasAllBounds_43 : decode cX3_hasAllBounds 43 = .ok (.invokestatic 41, 3) := by decide +kernel
theorem dX3_hasAllBounds_46 : decode cX3_hasAllBounds 46 = .ok (.iconst (-1), 1) := by decide +kernel
theorem dX3_hasAllBounds_47 : decode cX3_hasAllBounds 47 = .ok (.if_icmp .ne 5, 3) := by decide +kernel
theorem dX3_hasAllBounds_50 : decode cX3_hasAllBounds 50 = .ok (.iconst 0, 1) := by decide +kernel
theorem dX3_hasAllBounds_51 : decode cX3_hasAllBounds 51 = .ok (.ireturn, 1) := by decide +kernel
theorem dX3_hasAllBounds_52 : decode cX3_hasAllBounds 52 = .ok (.iinc 6 1, 3) := by decide +kernel
theorem dX3_hasAllBounds_55 : decode cX3_hasAllBounds 55 = .ok (.goto (-37), 3) := by decide +kernel
theorem dX3_hasAllBounds_58 : decode cX3_hasAllBounds 58 = .ok (.iinc 5 1, 3) := by decide +kernel
theorem dX3_hasAllBounds_61 : decode cX3_hasAllBounds 61 = .ok (.goto (-52), 3) := by decide +kernel
theorem dX3_hasAllBounds_64 : decode cX3_hasAllBounds 64 = .ok (.iconst 1, 1) := by decide +kernel
theorem dX3_hasAllBounds_65 : decode cX3_hasAllBounds 65 = .ok (.ireturn, 1) := by decide +kernel
theorem dX3_turned_0 : decode cX3_turned 0 = .ok (.lconst 0, 1) := by decide +kernel
theorem dX3_turned_1 : decode cX3_turned 1 = .ok (.lstore_n 3, 1) := by decide +kernel
theorem dX3_turned_2 : decode cX3_turned 2 = .ok (.iconst 0, 1) := by decide +kernel
theorem dX3_turned_3 : decode cX3_turned 3 = .ok (.istore 5, 2) := by decide +kernel
theorem dX3_turned_5 : decode cX3_turned 5 = .ok (.iload 5, 2) := by decide +kernel
theorem dX3_turned_7 : decode cX3_turned 7 = .ok (.iload_n 0, 1) := by decide +kernel
theorem dX3_turned_8 : decode cX3_turned 8 = .ok (.if_icmp .ge 48, 3) := by decide +kernel
theorem dX3_turned_11 : decode cX3_turned 11 = .ok (.iconst 0, 1) := by decide +kernel
theorem dX3_turned_12 : decode cX3_turned 12 = .ok (.istore 6, 2) := by decide +kernel
theorem dX3_turned_14 : decode cX3_turned 14 = .ok (.iload 6, 2) := by decide +kernel
theorem dX3_turned_16 : decode cX3_turned 16 = .ok (.iload_n 0, 1) := by decide +kernel
theorem dX3_turned_17 : decode cX3_turned 17 = .ok (.if_icmp .ge 33, 3) := by decide +kernel
theorem dX3_turned_20 : decode cX3_turned 20 = .ok (.lload_n 1, 1) := by decide +kernel
theorem dX3_turned_21 : decode cX3_turned 21 = .ok (.iload 5, 2) := by decide +kernel
theorem dX3_turned_23 : decode cX3_turned 23 = .ok (.iload 6, 2) := by decide +kernel
theorem dX3_turned_25 : decode cX3_turned 25 = .ok (.invokestatic 29, 3) := by decide +kernel
theorem dX3_turned_28 : decode cX3_turned 28 = .ok (.ifCond .eq 16, 3) := by decide +kernel
theorem dX3_turned_31 : decode cX3_turned 31 = .ok (.lload_n 3, 1) := by decide +kernel
theorem dX3_turned_32 : decode cX3_turned 32 = .ok (.lconst 1, 1) := by decide +kernel
theorem dX3_turned_33 : decode cX3_turned 33 = .ok (.bipush 6, 2) := by decide +kernel
theorem dX3_turned_35 : decode cX3_turned 35 = .ok (.iload 6, 2) := by decide +kernel
theorem dX3_turned_37 : decode cX3_turned 37 = .ok (.imul, 1) := by decide +kernel
theorem dX3_turned_38 : decode cX3_turned 38 = .ok (.iload 5, 2) := by decide +kernel
theorem dX3_turned_40 : decode cX3_turned 40 = .ok (.iadd, 1) := by decide +kernel
theorem dX3_turned_41 : decode cX3_turned 41 = .ok (.lshl, 1) := by decide +kernel
theorem dX3_turned_42 : decode cX3_turned 42 = .ok (.lor, 1) := by decide +kernel
theorem dX3_turned_43 : decode cX3_turned 43 = .ok (.lstore_n 3, 1) := by decide +kernel
theorem dX3_turned_44 : decode cX3_turned 44 = .ok (.iinc 6 1, 3) := by decide +kernel
theorem dX3_turned_47 : decode cX3_turned 47 = .ok (.goto (-33), 3) := by decide +kernel
theorem dX3_turned_50 : decode cX3_turned 50 = .ok (.iinc 5 1, 3) := by decide +kernel
theorem dX3_turned_53 : decode cX3_turned 53 = .ok (.goto (-48), 3) := by decide +kernel
theorem dX3_turned_56 : decode cX3_turned 56 = .ok (.lload_n 3, 1) := by decide +kernel
theorem dX3_turned_57 : decode cX3_turned 57 = .ok (.lreturn, 1) := by decide +kernel
theorem dX3_leastAbove_0 : decode cX3_leastAbove 0 = .ok (.iconst 0, 1) := by decide +kernel
theorem dX3_leastAbove_1 : decode cX3_leastAbove 1 = .ok (.istore 5, 2) := by decide +kernel
theorem dX3_leastAbove_3 : decode cX3_leastAbove 3 = .ok (.iload 5, 2) := by decide +kernel
theorem dX3_leastAbove_5 : decode cX3_leastAbove 5 = .ok (.iload_n 0, 1) := by decide +kernel
theorem dX3_leastAbove_6 : decode cX3_leastAbove 6 = .ok (.if_icmp .ge 37, 3) := by decide +kernel
theorem dX3_leastAbove_9 : decode cX3_leastAbove 9 = .ok (.lload_n 1, 1) := by decide +kernel
theorem dX3_leastAbove_10 : decode cX3_leastAbove 10 = .ok (.iload_n 3, 1) := by decide +kernel
theorem dX3_leastAbove_11 : decode cX3_leastAbove 11 = .ok (.iload 4, 2) := by decide +kernel
theorem dX3_leastAbove_13 : decode cX3_leastAbove 13 = .ok (.iload 5, 2) := by decide +kernel
theorem dX3_leastAbove_15 : decode cX3_leastAbove 15 = .ok (.invokestatic 45, 3) := by decide +kernel
theorem dX3_leastAbove_18 : decode cX3_leastAbove 18 = .ok (.ifCond .eq 19, 3) := by decide +kernel
theorem dX3_leastAbove_21 : decode cX3_leastAbove 21 = .ok (.iload_n 0, 1) := by decide +kernel
theorem dX3_leastAbove_22 : decode cX3_leastAbove 22 = .ok (.lload_n 1, 1) := by decide +kernel
theorem dX3_leastAbove_23 : decode cX3_leastAbove 23 = .ok (.iload_n 3, 1) := by decide +kernel
theorem dX3_leastAbove_24 : decode cX3_leastAbove 24 = .ok (.iload 4, 2) := by decide +kernel
theorem dX3_leastAbove_26 : decode cX3_leastAbove 26 = .ok (.iload 5, 2) := by decide +kernel
theorem dX3_leastAbove_28 : decode cX3_leastAbove 28 = .ok (.invokestatic 49, 3) := by decide +kernel
theorem dX3_leastAbove_31 : decode cX3_leastAbove 31 = .ok (.ifCond .eq 6, 3) := by decide +kernel
theorem dX3_leastAbove_34 : decode cX3_leastAbove 34 = .ok (.iload 5, 2) := by decide +kernel
theorem dX3_leastAbove_36 : decode cX3_leastAbove 36 = .ok (.ireturn, 1) := by decide +kernel
theorem dX3_leastAbove_37 : decode cX3_leastAbove 37 = .ok (.iinc 5 1, 3) := by decide +kernel
theorem dX3_leastAbove_40 : decode cX3_leastAbove 40 = .ok (.goto (-37), 3) := by decide +kernel
theorem dX3_leastAbove_43 : decode cX3_leastAbove 43 = .ok (.iconst (-1), 1) := by decide +kernel
theorem dX3_leastAbove_44 : decode cX3_leastAbove 44 = .ok (.ireturn, 1) := by decide +kernel
theorem dX3_isAboveBoth_0 : decode cX3_isAboveBoth 0 = .ok (.lload_n 0, 1) := by decide +kernel
theorem dX3_isAboveBoth_1 : decode cX3_isAboveBoth 1 = .ok (.iload_n 2, 1) := by decide +kernel
theorem dX3_isAboveBoth_2 : decode cX3_isAboveBoth 2 = .ok (.iload 4, 2) := by decide +kernel
theorem dX3_isAboveBoth_4 : decode cX3_isAboveBoth 4 = .ok (.invokestatic 29, 3) := by decide +kernel
theorem dX3_isAboveBoth_7 : decode cX3_isAboveBoth 7 = .ok (.ifCond .eq 17, 3) := by decide +kernel
theorem dX3_isAboveBoth_10 : decode cX3_isAboveBoth 10 = .ok (.lload_n 0, 1) := by decide +kernel
theorem dX3_isAboveBoth_11 : decode cX3_isAboveBoth 11 = .ok (.iload_n 3, 1) := by decide +kernel
theorem dX3_isAboveBoth_12 : decode cX3_isAboveBoth 12 = .ok (.iload 4, 2) := by decide +kernel
theorem dX3_isAboveBoth_14 : decode cX3_isAboveBoth 14 = .ok (.invokestatic 29, 3) := by decide +kernel
theorem dX3_isAboveBoth_17 : decode cX3_isAboveBoth 17 = .ok (.ifCond .eq 7, 3) := by decide +kernel
theorem dX3_isAboveBoth_20 : decode cX3_isAboveBoth 20 = .ok (.iconst 1, 1) := by decide +kernel
theorem dX3_isAboveBoth_21 : decode cX3_isAboveBoth 21 = .ok (.goto 4, 3) := by decide +kernel
theorem dX3_isAboveBoth_24 : decode cX3_isAboveBoth 24 = .ok (.iconst 0, 1) := by decide +kernel
theorem dX3_isAboveBoth_25 : decode cX3_isAboveBoth 25 = .ok (.ireturn, 1) := by decide +kernel
theorem dX3_isLeast_0 : decode cX3_isLeast 0 = .ok (.iconst 0, 1) := by decide +kernel
theorem dX3_isLeast_1 : decode cX3_isLeast 1 = .ok (.istore 6, 2) := by decide +kernel
theorem dX3_isLeast_3 : decode cX3_isLeast 3 = .ok (.iload 6, 2) := by decide +kernel
theorem dX3_isLeast_5 : decode cX3_isLeast 5 = .ok (.iload_n 0, 1) := by decide +kernel
theorem dX3_isLeast_6 : decode cX3_isLeast 6 = .ok (.if_icmp .ge 34, 3) := by decide +kernel
theorem dX3_isLeast_9 : decode cX3_isLeast 9 = .ok (.lload_n 1, 1) := by decide +kernel
theorem dX3_isLeast_10 : decode cX3_isLeast 10 = .ok (.iload_n 3, 1) := by decide +kernel
theorem dX3_isLeast_11 : decode cX3_isLeast 11 = .ok (.iload 4, 2) := by decide +kernel
theorem dX3_isLeast_13 : decode cX3_isLeast 13 = .ok (.iload 6, 2) := by decide +kernel
theorem dX3_isLeast_15 : decode cX3_isLeast 15 = .ok (.invokestatic 45, 3) := by decide +kernel
theorem dX3_isLeast_18 : decode cX3_isLeast 18 = .ok (.ifCond .eq 16, 3) := by decide +kernel
theorem dX3_isLeast_21 : decode cX3_isLeast 21 = .ok (.lload_n 1, 1) := by decide +kernel
theorem dX3_isLeast_22 : decode cX3_isLeast 22 = .ok (.iload 5, 2) := by decide +kernel
theorem dX3_isLeast_24 : decode cX3_isLeast 24 = .ok (.iload 6, 2) := by decide +kernel
theorem dX3_isLeast_26 : decode cX3_isLeast 26 = .ok (.invokestatic 29, 3) := by decide +kernel
theorem dX3_isLeast_29 : decode cX3_isLeast 29 = .ok (.ifCond .ne 5, 3) := by decide +kernel
theorem dX3_isLeast_32 : decode cX3_isLeast 32 = .ok (.iconst 0, 1) := by decide +kernel
theorem dX3_isLeast_33 : decode cX3_isLeast 33 = .ok (.ireturn, 1) := by decide +kernel
theorem dX3_isLeast_34 : decode cX3_isLeast 34 = .ok (.iinc 6 1, 3) := by decide +kernel
theorem dX3_isLeast_37 : decode cX3_isLeast 37 = .ok (.goto (-34), 3) := by decide +kernel
theorem dX3_isLeast_40 : decode cX3_isLeast 40 = .ok (.iconst 1, 1) := by decide +kernel
theorem dX3_isLeast_41 : decode cX3_isLeast 41 = .ok (.ireturn, 1) := by decide +kernel
theorem dX3_become_0 : decode cX3_become 0 = .ok (.aload_n 0, 1) := by decide +kernel
theorem dX3_become_1 : decode cX3_become 1 = .ok (.iload_n 1, 1) := by decide +kernel
theorem dX3_become_2 : decode cX3_become 2 = .ok (.putfield 15, 3) := by decide +kernel
theorem dX3_become_5 : decode cX3_become 5 = .ok (.aload_n 0, 1) := by decide +kernel
theorem dX3_become_6 : decode cX3_become 6 = .ok (.lload_n 2, 1) := by decide +kernel
theorem dX3_become_7 : decode cX3_become 7 = .ok (.putfield 19, 3) := by decide +kernel
theorem dX3_become_10 : decode cX3_become 10 = .ok (.aload_n 0, 1) := by decide +kernel
theorem dX3_become_11 : decode cX3_become 11 = .ok (.iconst 0, 1) := by decide +kernel
theorem dX3_become_12 : decode cX3_become 12 = .ok (.putfield 23, 3) := by decide +kernel
theorem dX3_become_15 : decode cX3_become 15 = .ok (.aload_n 0, 1) := by decide +kernel
theorem dX3_become_16 : decode cX3_become 16 = .ok (.iconst 0, 1) := by decide +kernel
theorem dX3_become_17 : decode cX3_become 17 = .ok (.putfield 26, 3) := by decide +kernel
theorem dX3_become_20 : decode cX3_become 20 = .ok (.iconst 0, 1) := by decide +kernel
theorem dX3_become_21 : decode cX3_become 21 = .ok (.istore 4, 2) := by decide +kernel
theorem dX3_become_23 : decode cX3_become 23 = .ok (.iload 4, 2) := by decide +kernel
theorem dX3_become_25 : decode cX3_become 25 = .ok (.iload_n 1, 1) := by decide +kernel
theorem dX3_become_26 : decode cX3_become 26 = .ok (.if_icmp .ge 98, 3) := by decide +kernel
theorem dX3_become_29 : decode cX3_become 29 = .ok (.iconst 0, 1) := by decide +kernel
theorem dX3_become_30 : decode cX3_become 30 = .ok (.istore 5, 2) := by decide +kernel
theorem dX3_become_32 : decode cX3_become 32 = .ok (.iload 5, 2) := by decide +kernel
theorem dX3_become_34 : decode cX3_become 34 = .ok (.iload_n 1, 1) := by decide +kernel
theorem dX3_become_35 : decode cX3_become 35 = .ok (.if_icmp .ge 31, 3) := by decide +kernel
theorem dX3_become_38 : decode cX3_become 38 = .ok (.aload_n 0, 1) := by decide +kernel
theorem dX3_become_39 : decode cX3_become 39 = .ok (.getfield 9, 3) := by decide +kernel
theorem dX3_become_42 : decode cX3_become 42 = .ok (.bipush 6, 2) := by decide +kernel
theorem dX3_become_44 : decode cX3_become 44 = .ok (.iload 4, 2) := by decide +kernel
theorem dX3_become_46 : decode cX3_become 46 = .ok (.imul, 1) := by decide +kernel
theorem dX3_become_47 : decode cX3_become 47 = .ok (.iload 5, 2) := by decide +kernel
theorem dX3_become_49 : decode cX3_become 49 = .ok (.iadd, 1) := by decide +kernel
theorem dX3_become_50 : decode cX3_become 50 = .ok (.iload_n 1, 1) := by decide +kernel
theorem dX3_become_51 : decode cX3_become 51 = .ok (.lload_n 2, 1) := by decide +kernel
theorem dX3_become_52 : decode cX3_become 52 = .ok (.iload 4, 2) := by decide +kernel
theorem dX3_become_54 : decode cX3_become 54 = .ok (.iload 5, 2) := by decide +kernel
theorem dX3_become_56 : decode cX3_become 56 = .ok (.invokestatic 41, 3) := by decide +kernel
theorem dX3_become_59 : decode cX3_become 59 = .ok (.iastore, 1) := by decide +kernel
theorem dX3_become_60 : decode cX3_become 60 = .ok (.iinc 5 1, 3) := by decide +kernel
theorem dX3_become_63 : decode cX3_become 63 = .ok (.goto (-31), 3) := by decide +kernel
theorem dX3_become_66 : decode cX3_become 66 = .ok (.aload_n 0, 1) := by decide +kernel
theorem dX3_become_67 : decode cX3_become 67 = .ok (.lload_n 2, 1) := by decide +kernel
theorem dX3_become_68 : decode cX3_become 68 = .ok (.iload 4, 2) := by decide +kernel
theorem dX3_become_70 : decode cX3_become 70 = .ok (.aload_n 0, 1) := by decide +kernel
theorem dX3_become_71 : decode cX3_become 71 = .ok (.getfield 23, 3) := by decide +kernel
theorem dX3_become_74 : decode cX3_become 74 = .ok (.invokestatic 29, 3) := by decide +kernel
theorem dX3_become_77 : decode cX3_become 77 = .ok (.ifCond .eq 8, 3) := by decide +kernel
theorem dX3_become_80 : decode cX3_become 80 = .ok (.iload 4, 2) := by decide +kernel
theorem dX3_become_82 : decode cX3_become 82 = .ok (.goto 7, 3) := by decide +kernel
theorem dX3_become_85 : decode cX3_become 85 = .ok (.aload_n 0, 1) := by decide +kernel
theorem dX3_become_86 : decode cX3_become 86 = .ok (.getfield 23, 3) := by decide +kernel
theorem dX3_become_89 : decode cX3_become 89 = .ok (.putfield 23, 3) := by decide +kernel
theorem dX3_become_92 : decode cX3_become 92 = .ok (.aload_n 0, 1) := by decide +kernel
theorem dX3_become_93 : decode cX3_become 93 = .ok (.lload_n 2, 1) := by decide +kernel
theorem dX3_become_94 : decode cX3_become 94 = .ok (.aload_n 0, 1) := by decide +kernel
theorem dX3_become_95 : decode cX3_become 95 = .ok (.getfield 26, 3) := by decide +kernel
theorem dX3_become_98 : decode cX3_become 98 = .ok (.iload 4, 2) := by decide +kernel
theorem dX3_become_100 : decode cX3_become 100 = .ok (.invokestatic 29, 3) := by decide +kernel
theorem dX3_become_103 : decode cX3_become 103 = .ok (.ifCond .eq 8, 3) := by decide +kernel
theorem dX3_become_106 : decode cX3_become 106 = .ok (.iload 4, 2) := by decide +kernel
theorem dX3_become_108 : decode cX3_become 108 = .ok (.goto 7, 3) := by decide +kernel
theorem dX3_become_111 : decode cX3_become 111 = .ok (.aload_n 0, 1) := by decide +kernel
theorem dX3_become_112 : decode cX3_become 112 = .ok (.getfield 26, 3) := by decide +kernel
theorem dX3_become_115 : decode cX3_become 115 = .ok (.putfield 26, 3) := by decide +kernel
theorem dX3_become_118 : decode cX3_become 118 = .ok (.iinc 4 1, 3) := by decide +kernel
theorem dX3_become_121 : decode cX3_become 121 = .ok (.goto (-98), 3) := by decide +kernel
theorem dX3_become_124 : decode cX3_become 124 = .ok (.return_, 1) := by decide +kernel
theorem dX3_has_0 : decode cX3_has 0 = .ok (.iload_n 1, 1) := by decide +kernel
theorem dX3_has_1 : decode cX3_has 1 = .ok (.ifCond .lt 15, 3) := by decide +kernel
theorem dX3_has_4 : decode cX3_has 4 = .ok (.iload_n 1, 1) := by decide +kernel
theorem dX3_has_5 : decode cX3_has 5 = .ok (.aload_n 0, 1) := by decide +kernel
theorem dX3_has_6 : decode cX3_has 6 = .ok (.getfield 15, 3) := by decide +kernel
theorem dX3_has_9 : decode cX3_has 9 = .ok (.if_icmp .ge 7, 3) := by decide +kernel
theorem dX3_has_12 : decode cX3_has 12 = .ok (.iconst 1, 1) := by decide +kernel
theorem dX3_has_13 : decode cX3_has 13 = .ok (.goto 4, 3) := by decide +kernel
theorem dX3_has_16 : decode cX3_has 16 = .ok (.iconst 0, 1) := by decide +kernel
theorem dX3_has_17 : decode cX3_has 17 = .ok (.ireturn, 1) := by decide +kernel
theorem dX3_bottom_0 : decode cX3_bottom 0 = .ok (.aload_n 0, 1) := by decide +kernel
theorem dX3_bottom_1 : decode cX3_bottom 1 = .ok (.getfield 23, 3) := by decide +kernel
theorem dX3_bottom_4 : decode cX3_bottom 4 = .ok (.ireturn, 1) := by decide +kernel
theorem dX3_top_0 : decode cX3_top 0 = .ok (.aload_n 0, 1) := by decide +kernel
theorem dX3_top_1 : decode cX3_top 1 = .ok (.getfield 26, 3) := by decide +kernel
theorem dX3_top_4 : decode cX3_top 4 = .ok (.ireturn, 1) := by decide +kernel
theorem dX3_allows_0 : decode cX3_allows 0 = .ok (.aload_n 0, 1) := by decide +kernel
theorem dX3_allows_1 : decode cX3_allows 1 = .ok (.iload_n 1, 1) := by decide +kernel
theorem dX3_allows_2 : decode cX3_allows 2 = .ok (.invokevirtual 53, 3) := by decide +kernel
theorem dX3_allows_5 : decode cX3_allows 5 = .ok (.ifCond .eq 27, 3) := by decide +kernel
theorem dX3_allows_8 : decode cX3_allows 8 = .ok (.aload_n 0, 1) := by decide +kernel
theorem dX3_allows_9 : decode cX3_allows 9 = .ok (.iload_n 2, 1) := by decide +kernel
theorem dX3_allows_10 : decode cX3_allows 10 = .ok (.invokevirtual 53, 3) := by decide +kernel
theorem dX3_allows_13 : decode cX3_allows 13 = .ok (.ifCond .eq 19, 3) := by decide +kernel
theorem dX3_allows_16 : decode cX3_allows 16 = .ok (.aload_n 0, 1) := by decide +kernel
theorem dX3_allows_17 : decode cX3_allows 17 = .ok (.getfield 19, 3) := by decide +kernel
theorem dX3_allows_20 : decode cX3_allows 20 = .ok (.iload_n 1, 1) := by decide +kernel
theorem dX3_allows_21 : decode cX3_allows 21 = .ok (.iload_n 2, 1) := by decide +kernel
theorem dX3_allows_22 : decode cX3_allows 22 = .ok (.invokestatic 29, 3) := by decide +kernel
theorem dX3_allows_25 : decode cX3_allows 25 = .ok (.ifCond .eq 7, 3) := by decide +kernel
theorem dX3_allows_28 : decode cX3_allows 28 = .ok (.iconst 1, 1) := by decide +kernel
theorem dX3_allows_29 : decode cX3_allows 29 = .ok (.goto 4, 3) := by decide +kernel
theorem dX3_allows_32 : decode cX3_allows 32 = .ok (.iconst 0, 1) := by decide +kernel
theorem dX3_allows_33 : decode cX3_allows 33 = .ok (.ireturn, 1) := by decide +kernel
theorem dX3_joined_0 : decode cX3_joined 0 = .ok (.aload_n 0, 1) := by decide +kernel
theorem dX3_joined_1 : decode cX3_joined 1 = .ok (.iload_n 1, 1) := by decide +kernel
theorem dX3_joined_2 : decode cX3_joined 2 = .ok (.invokevirtual 53, 3) := by decide +kernel
end
section
theorem dX3_joined_5 : decode cX3_joined 5 = .ok (.ifCond .eq 25, 3) := by decide +kernel
theorem dX3_joined_8 : decode cX3_joined 8 = .ok (.aload_n 0, 1) := by decide +kernel
theorem dX3_joined_9 : decode cX3_joined 9 = .ok (.iload_n 2, 1) := by decide +kernel
theorem dX3_joined_10 : decode cX3_joined 10 = .ok (.invokevirtual 53, 3) := by decide +kernel
theorem dX3_joined_13 : decode cX3_joined 13 = .ok (.ifCond .eq 17, 3) := by decide +kernel
theorem dX3_joined_16 : decode cX3_joined 16 = .ok (.aload_n 0, 1) := by decide +kernel
theorem dX3_joined_17 : decode cX3_joined 17 = .ok (.getfield 9, 3) := by decide +kernel
theorem dX3_joined_20 : decode cX3_joined 20 = .ok (.bipush 6, 2) := by decide +kernel
theorem dX3_joined_22 : decode cX3_joined 22 = .ok (.iload_n 1, 1) := by decide +kernel
theorem dX3_joined_23 : decode cX3_joined 23 = .ok (.imul, 1) := by decide +kernel
theorem dX3_joined_24 : decode cX3_joined 24 = .ok (.iload_n 2, 1) := by decide +kernel
theorem dX3_joined_25 : decode cX3_joined 25 = .ok (.iadd, 1) := by decide +kernel
theorem dX3_joined_26 : decode cX3_joined 26 = .ok (.iaload, 1) := by decide +kernel
theorem dX3_joined_27 : decode cX3_joined 27 = .ok (.goto 4, 3) := by decide +kernel
theorem dX3_joined_30 : decode cX3_joined 30 = .ok (.iconst (-1), 1) := by decide +kernel
theorem dX3_joined_31 : decode cX3_joined 31 = .ok (.ireturn, 1) := by decide +kernel
theorem dX4_init_0 : decode cX4_init 0 = .ok (.aload_n 0, 1) := by decide +kernel
theorem dX4_init_1 : decode cX4_init 1 = .ok (.invokespecial 3, 3) := by decide +kernel
theorem dX4_init_4 : decode cX4_init 4 = .ok (.aload_n 0, 1) := by decide +kernel
theorem dX4_init_5 : decode cX4_init 5 = .ok (.bipush 8, 2) := by decide +kernel
theorem dX4_init_7 : decode cX4_init 7 = .ok (.newarray .int, 2) := by decide +kernel
theorem dX4_init_9 : decode cX4_init 9 = .ok (.putfield 9, 3) := by decide +kernel
theorem dX4_init_12 : decode cX4_init 12 = .ok (.aload_n 0, 1) := by decide +kernel
theorem dX4_init_13 : decode cX4_init 13 = .ok (.bipush 8, 2) := by decide +kernel
theorem dX4_init_15 : decode cX4_init 15 = .ok (.newarray .int, 2) := by decide +kernel
theorem dX4_init_17 : decode cX4_init 17 = .ok (.putfield 15, 3) := by decide +kernel
theorem dX4_init_20 : decode cX4_init 20 = .ok (.aload_n 0, 1) := by decide +kernel
theorem dX4_init_21 : decode cX4_init 21 = .ok (.iconst 0, 1) := by decide +kernel
theorem dX4_init_22 : decode cX4_init 22 = .ok (.putfield 18, 3) := by decide +kernel
theorem dX4_init_25 : decode cX4_init 25 = .ok (.aload_n 0, 1) := by decide +kernel
theorem dX4_init_26 : decode cX4_init 26 = .ok (.aload_n 1, 1) := by decide +kernel
theorem dX4_init_27 : decode cX4_init 27 = .ok (.putfield 22, 3) := by decide +kernel
theorem dX4_init_30 : decode cX4_init 30 = .ok (.return_, 1) := by decide +kernel
theorem dX4_execute_0 : decode cX4_execute 0 = .ok (.aload_n 1, 1) := by decide +kernel
theorem dX4_execute_1 : decode cX4_execute 1 = .ok (.iconst 0, 1) := by decide +kernel
theorem dX4_execute_2 : decode cX4_execute 2 = .ok (.aload_n 0, 1) := by decide +kernel
theorem dX4_execute_3 : decode cX4_execute 3 = .ok (.getfield 9, 3) := by decide +kernel
theorem dX4_execute_6 : decode cX4_execute 6 = .ok (.iconst 0, 1) := by decide +kernel
theorem dX4_execute_7 : decode cX4_execute 7 = .ok (.bipush 8, 2) := by decide +kernel
theorem dX4_execute_9 : decode cX4_execute 9 = .ok (.invokestatic 26, 3) := by decide +kernel
theorem dX4_execute_12 : decode cX4_execute 12 = .ok (.aload_n 0, 1) := by decide +kernel
theorem dX4_execute_13 : decode cX4_execute 13 = .ok (.iconst 0, 1) := by decide +kernel
theorem dX4_execute_14 : decode cX4_execute 14 = .ok (.putfield 18, 3) := by decide +kernel
theorem dX4_execute_17 : decode cX4_execute 17 = .ok (.iconst 0, 1) := by decide +kernel
theorem dX4_execute_18 : decode cX4_execute 18 = .ok (.istore_n 3, 1) := by decide +kernel
theorem dX4_execute_19 : decode cX4_execute 19 = .ok (.iconst 1, 1) := by decide +kernel
theorem dX4_execute_20 : decode cX4_execute 20 = .ok (.istore 4, 2) := by decide +kernel
theorem dX4_execute_22 : decode cX4_execute 22 = .ok (.iload 4, 2) := by decide +kernel
theorem dX4_execute_24 : decode cX4_execute 24 = .ok (.iload_n 2, 1) := by decide +kernel
theorem dX4_execute_25 : decode cX4_execute 25 = .ok (.if_icmp .gt 43, 3) := by decide +kernel
theorem dX4_execute_28 : decode cX4_execute 28 = .ok (.aload_n 0, 1) := by decide +kernel
theorem dX4_execute_29 : decode cX4_execute 29 = .ok (.getfield 22, 3) := by decide +kernel
theorem dX4_execute_32 : decode cX4_execute 32 = .ok (.iload_n 3, 1) := by decide +kernel
theorem dX4_execute_33 : decode cX4_execute 33 = .ok (.invokevirtual 32, 3) := by decide +kernel
theorem dX4_execute_36 : decode cX4_execute 36 = .ok (.bipush 9, 2) := by decide +kernel
theorem dX4_execute_38 : decode cX4_execute 38 = .ok (.if_icmp .ne 18, 3) := by decide +kernel
theorem dX4_execute_41 : decode cX4_execute 41 = .ok (.aload_n 0, 1) := by decide +kernel
theorem dX4_execute_42 : decode cX4_execute 42 = .ok (.getfield 9, 3) := by decide +kernel
theorem dX4_execute_45 : decode cX4_execute 45 = .ok (.iconst 0, 1) := by decide +kernel
theorem dX4_execute_46 : decode cX4_execute 46 = .ok (.aload_n 1, 1) := by decide +kernel
theorem dX4_execute_47 : decode cX4_execute 47 = .ok (.iconst 0, 1) := by decide +kernel
theorem dX4_execute_48 : decode cX4_execute 48 = .ok (.bipush 8, 2) := by decide +kernel
theorem dX4_execute_50 : decode cX4_execute 50 = .ok (.invokestatic 26, 3) := by decide +kernel
theorem dX4_execute_53 : decode cX4_execute 53 = .ok (.iload 4, 2) := by decide +kernel
theorem dX4_execute_55 : decode cX4_execute 55 = .ok (.ireturn, 1) := by decide +kernel
theorem dX4_execute_56 : decode cX4_execute 56 = .ok (.aload_n 0, 1) := by decide +kernel
theorem dX4_execute_57 : decode cX4_execute 57 = .ok (.iload_n 3, 1) := by decide +kernel
theorem dX4_execute_58 : decode cX4_execute 58 = .ok (.invokevirtual 38, 3) := by decide +kernel
theorem dX4_execute_61 : decode cX4_execute 61 = .ok (.istore_n 3, 1) := by decide +kernel
theorem dX4_execute_62 : decode cX4_execute 62 = .ok (.iinc 4 1, 3) := by decide +kernel
theorem dX4_execute_65 : decode cX4_execute 65 = .ok (.goto (-43), 3) := by decide +kernel
theorem dX4_execute_68 : decode cX4_execute 68 = .ok (.iconst (-1), 1) := by decide +kernel
theorem dX4_execute_69 : decode cX4_execute 69 = .ok (.ireturn, 1) := by decide +kernel
theorem dX4_step_0 : decode cX4_step 0 = .ok (.aload_n 0, 1) := by decide +kernel
theorem dX4_step_1 : decode cX4_step 1 = .ok (.getfield 22, 3) := by decide +kernel
theorem dX4_step_4 : decode cX4_step 4 = .ok (.iload_n 1, 1) := by decide +kernel
theorem dX4_step_5 : decode cX4_step 5 = .ok (.invokevirtual 32, 3) := by decide +kernel
theorem dX4_step_8 : decode cX4_step 8 = .ok (.istore_n 2, 1) := by decide +kernel
theorem dX4_step_9 : decode cX4_step 9 = .ok (.aload_n 0, 1) := by decide +kernel
theorem dX4_step_10 : decode cX4_step 10 = .ok (.getfield 22, 3) := by decide +kernel
theorem dX4_step_13 : decode cX4_step 13 = .ok (.iload_n 1, 1) := by decide +kernel
theorem dX4_step_14 : decode cX4_step 14 = .ok (.invokevirtual 41, 3) := by decide +kernel
theorem dX4_step_17 : decode cX4_step 17 = .ok (.istore_n 3, 1) := by decide +kernel
theorem dX4_step_18 : decode cX4_step 18 = .ok (.iload_n 2, 1) := by decide +kernel
theorem dX4_step_19 : decode cX4_step 19 = .ok (.ifCond .ne 11, 3) := by decide +kernel
theorem dX4_step_22 : decode cX4_step 22 = .ok (.aload_n 0, 1) := by decide +kernel
theorem dX4_step_23 : decode cX4_step 23 = .ok (.iload_n 3, 1) := by decide +kernel
theorem dX4_step_24 : decode cX4_step 24 = .ok (.invokevirtual 44, 3) := by decide +kernel
theorem dX4_step_27 : decode cX4_step 27 = .ok (.goto 114, 3) := by decide +kernel
theorem dX4_step_30 : decode cX4_step 30 = .ok (.iload_n 2, 1) := by decide +kernel
theorem dX4_step_31 : decode cX4_step 31 = .ok (.iconst 1, 1) := by decide +kernel
theorem dX4_step_32 : decode cX4_step 32 = .ok (.if_icmp .ne 23, 3) := by decide +kernel
theorem dX4_step_35 : decode cX4_step 35 = .ok (.iload_n 3, 1) := by decide +kernel
theorem dX4_step_36 : decode cX4_step 36 = .ok (.invokestatic 48, 3) := by decide +kernel
theorem dX4_step_39 : decode cX4_step 39 = .ok (.ifCond .eq 16, 3) := by decide +kernel
theorem dX4_step_42 : decode cX4_step 42 = .ok (.aload_n 0, 1) := by decide +kernel
theorem dX4_step_43 : decode cX4_step 43 = .ok (.aload_n 0, 1) := by decide +kernel
theorem dX4_step_44 : decode cX4_step 44 = .ok (.getfield 9, 3) := by decide +kernel
theorem dX4_step_47 : decode cX4_step 47 = .ok (.iload_n 3, 1) := by decide +kernel
theorem dX4_step_48 : decode cX4_step 48 = .ok (.iaload, 1) := by decide +kernel
theorem dX4_step_49 : decode cX4_step 49 = .ok (.invokevirtual 44, 3) := by decide +kernel
theorem dX4_step_52 : decode cX4_step 52 = .ok (.goto 89, 3) := by decide +kernel
theorem dX4_step_55 : decode cX4_step 55 = .ok (.iload_n 2, 1) := by decide +kernel
theorem dX4_step_56 : decode cX4_step 56 = .ok (.iconst 2, 1) := by decide +kernel
theorem dX4_step_57 : decode cX4_step 57 = .ok (.if_icmp .ne 23, 3) := by decide +kernel
theorem dX4_step_60 : decode cX4_step 60 = .ok (.iload_n 3, 1) := by decide +kernel
theorem dX4_step_61 : decode cX4_step 61 = .ok (.invokestatic 48, 3) := by decide +kernel
theorem dX4_step_64 : decode cX4_step 64 = .ok (.ifCond .eq 16, 3) := by decide +kernel
theorem dX4_step_67 : decode cX4_step 67 = .ok (.aload_n 0, 1) := by decide +kernel
theorem dX4_step_68 : decode cX4_step 68 = .ok (.getfield 9, 3) := by decide +kernel
theorem dX4_step_71 : decode cX4_step 71 = .ok (.iload_n 3, 1) := by decide +kernel
theorem dX4_step_72 : decode cX4_step 72 = .ok (.aload_n 0, 1) := by decide +kernel
theorem dX4_step_73 : decode cX4_step 73 = .ok (.invokevirtual 52, 3) := by decide +kernel
theorem dX4_step_76 : decode cX4_step 76 = .ok (.iastore, 1) := by decide +kernel
theorem dX4_step_77 : decode cX4_step 77 = .ok (.goto 64, 3) := by decide +kernel
theorem dX4_step_80 : decode cX4_step 80 = .ok (.iload_n 2, 1) := by decide +kernel
theorem dX4_step_81 : decode cX4_step 81 = .ok (.invokestatic 56, 3) := by decide +kernel
theorem dX4_step_84 : decode cX4_step 84 = .ok (.ifCond .eq 30, 3) := by decide +kernel
theorem dX4_step_87 : decode cX4_step 87 = .ok (.aload_n 0, 1) := by decide +kernel
theorem dX4_step_88 : decode cX4_step 88 = .ok (.invokevirtual 52, 3) := by decide +kernel
theorem dX4_step_91 : decode cX4_step 91 = .ok (.istore 4, 2) := by decide +kernel
theorem dX4_step_93 : decode cX4_step 93 = .ok (.aload_n 0, 1) := by decide +kernel
theorem dX4_step_94 : decode cX4_step 94 = .ok (.invokevirtual 52, 3) := by decide +kernel
theorem dX4_step_97 : decode cX4_step 97 = .ok (.istore 5, 2) := by decide +kernel
theorem dX4_step_99 : decode cX4_step 99 = .ok (.aload_n 0, 1) := by decide +kernel
theorem dX4_step_100 : decode cX4_step 100 = .ok (.iload_n 2, 1) := by decide +kernel
theorem dX4_step_101 : decode cX4_step 101 = .ok (.iload 5, 2) := by decide +kernel
theorem dX4_step_103 : decode cX4_step 103 = .ok (.iload 4, 2) := by decide +kernel
theorem dX4_step_105 : decode cX4_step 105 = .ok (.invokestatic 59, 3) := by decide +kernel
theorem dX4_step_108 : decode cX4_step 108 = .ok (.invokevirtual 44, 3) := by decide +kernel
theorem dX4_step_111 : decode cX4_step 111 = .ok (.goto 30, 3) := by decide +kernel
theorem dX4_step_114 : decode cX4_step 114 = .ok (.iload_n 2, 1) := by decide +kernel
theorem dX4_step_115 : decode cX4_step 115 = .ok (.bipush 7, 2) := by decide +kernel
theorem dX4_step_117 : decode cX4_step 117 = .ok (.if_icmp .ne 24, 3) := by decide +kernel
theorem dX4_step_120 : decode cX4_step 120 = .ok (.aload_n 0, 1) := by decide +kernel
theorem dX4_step_121 : decode cX4_step 121 = .ok (.getfield 22, 3) := by decide +kernel
theorem dX4_step_124 : decode cX4_step 124 = .ok (.iload_n 1, 1) := by decide +kernel
theorem dX4_step_125 : decode cX4_step 125 = .ok (.aload_n 0, 1) := by decide +kernel
theorem dX4_step_126 : decode cX4_step 126 = .ok (.invokevirtual 52, 3) := by decide +kernel
theorem dX4_step_129 : decode cX4_step 129 = .ok (.ifCond .ne 7, 3) := by decide +kernel
theorem dX4_step_132 : decode cX4_step 132 = .ok (.iconst 1, 1) := by decide +kernel
theorem dX4_step_133 : decode cX4_step 133 = .ok (.goto 4, 3) := by decide +kernel
theorem dX4_step_136 : decode cX4_step 136 = .ok (.iconst 0, 1) := by decide +kernel
theorem dX4_step_137 : decode cX4_step 137 = .ok (.invokevirtual 63, 3) := by decide +kernel
theorem dX4_step_140 : decode cX4_step 140 = .ok (.ireturn, 1) := by decide +kernel
theorem dX4_step_141 : decode cX4_step 141 = .ok (.aload_n 0, 1) := by decide +kernel
theorem dX4_step_142 : decode cX4_step 142 = .ok (.getfield 22, 3) := by decide +kernel
theorem dX4_step_145 : decode cX4_step 145 = .ok (.iload_n 1, 1) := by decide +kernel
theorem dX4_step_146 : decode cX4_step 146 = .ok (.iconst 0, 1) := by decide +kernel
theorem dX4_step_147 : decode cX4_step 147 = .ok (.invokevirtual 63, 3) := by decide +kernel
theorem dX4_step_150 : decode cX4_step 150 = .ok (.ireturn, 1) := by decide +kernel
theorem dX4_push_0 : decode cX4_push 0 = .ok (.aload_n 0, 1) := by decide +kernel
theorem dX4_push_1 : decode cX4_push 1 = .ok (.getfield 18, 3) := by decide +kernel
theorem dX4_push_4 : decode cX4_push 4 = .ok (.bipush 8, 2) := by decide +kernel
theorem dX4_push_6 : decode cX4_push 6 = .ok (.if_icmp .ge 23, 3) := by decide +kernel
theorem dX4_push_9 : decode cX4_push 9 = .ok (.aload_n 0, 1) := by decide +kernel
theorem dX4_push_10 : decode cX4_push 10 = .ok (.getfield 15, 3) := by decide +kernel
theorem dX4_push_13 : decode cX4_push 13 = .ok (.aload_n 0, 1) := by decide +kernel
theorem dX4_push_14 : decode cX4_push 14 = .ok (.getfield 18, 3) := by decide +kernel
theorem dX4_push_17 : decode cX4_push 17 = .ok (.iload_n 1, 1) := by decide +kernel
theorem dX4_push_18 : decode cX4_push 18 = .ok (.iastore, 1) := by decide +kernel
theorem dX4_push_19 : decode cX4_push 19 = .ok (.aload_n 0, 1) := by decide +kernel
theorem dX4_push_20 : decode cX4_push 20 = .ok (.dup, 1) := by decide +kernel
theorem dX4_push_21 : decode cX4_push 21 = .ok (.getfield 18, 3) := by decide +kernel
theorem dX4_push_24 : decode cX4_push 24 = .ok (.iconst 1, 1) := by decide +kernel
theorem dX4_push_25 : decode cX4_push 25 = .ok (.iadd, 1) := by decide +kernel
theorem dX4_push_26 : decode cX4_push 26 = .ok (.putfield 18, 3) := by decide +kernel
theorem dX4_push_29 : decode cX4_push 29 = .ok (.return_, 1) := by decide +kernel
theorem dX4_pop_0 : decode cX4_pop 0 = .ok (.aload_n 0, 1) := by decide +kernel
theorem dX4_pop_1 : decode cX4_pop 1 = .ok (.getfield 18, 3) := by decide +kernel
theorem dX4_pop_4 : decode cX4_pop 4 = .ok (.ifCond .gt 5, 3) := by decide +kernel
theorem dX4_pop_7 : decode cX4_pop 7 = .ok (.iconst 0, 1) := by decide +kernel
theorem dX4_pop_8 : decode cX4_pop 8 = .ok (.ireturn, 1) := by decide +kernel
theorem dX4_pop_9 : decode cX4_pop 9 = .ok (.aload_n 0, 1) := by decide +kernel
theorem dX4_pop_10 : decode cX4_pop 10 = .ok (.dup, 1) := by decide +kernel
theorem dX4_pop_11 : decode cX4_pop 11 = .ok (.getfield 18, 3) := by decide +kernel
theorem dX4_pop_14 : decode cX4_pop 14 = .ok (.iconst 1, 1) := by decide +kernel
theorem dX4_pop_15 : decode cX4_pop 15 = .ok (.isub, 1) := by decide +kernel
theorem dX4_pop_16 : decode cX4_pop 16 = .ok (.putfield 18, 3) := by decide +kernel
theorem dX4_pop_19 : decode cX4_pop 19 = .ok (.aload_n 0, 1) := by decide +kernel
theorem dX4_pop_20 : decode cX4_pop 20 = .ok (.getfield 15, 3) := by decide +kernel
theorem dX4_pop_23 : decode cX4_pop 23 = .ok (.aload_n 0, 1) := by decide +kernel
theorem dX4_pop_24 : decode cX4_pop 24 = .ok (.getfield 18, 3) := by decide +kernel
theorem dX4_pop_27 : decode cX4_pop 27 = .ok (.iaload, 1) := by decide +kernel
theorem dX4_pop_28 : decode cX4_pop 28 = .ok (.ireturn, 1) := by decide +kernel
theorem dX5_init_0 : decode cX5_init 0 = .ok (.aload_n 0, 1) := by decide +kernel
theorem dX5_init_1 : decode cX5_init 1 = .ok (.invokespecial 3, 3) := by decide +kernel
theorem dX5_init_4 : decode cX5_init 4 = .ok (.aload_n 0, 1) := by decide +kernel
theorem dX5_init_5 : decode cX5_init 5 = .ok (.bipush 100, 2) := by decide +kernel
theorem dX5_init_7 : decode cX5_init 7 = .ok (.newarray .long, 2) := by decide +kernel
theorem dX5_init_9 : decode cX5_init 9 = .ok (.putfield 9, 3) := by decide +kernel
theorem dX5_init_12 : decode cX5_init 12 = .ok (.aload_n 0, 1) := by decide +kernel
theorem dX5_init_13 : decode cX5_init 13 = .ok (.bipush 100, 2) := by decide +kernel
theorem dX5_init_15 : decode cX5_init 15 = .ok (.newarray .long, 2) := by decide +kernel
theorem dX5_init_17 : decode cX5_init 17 = .ok (.putfield 15, 3) := by decide +kernel
theorem dX5_init_20 : decode cX5_init 20 = .ok (.return_, 1) := by decide +kernel
theorem dX5_lowBit_0 : decode cX5_lowBit 0 = .ok (.iload_n 0, 1) := by decide +kernel
theorem dX5_lowBit_1 : decode cX5_lowBit 1 = .ok (.bipush 64, 2) := by decide +kernel
theorem dX5_lowBit_3 : decode cX5_lowBit 3 = .ok (.if_icmp .ge 9, 3) := by decide +kernel
theorem dX5_lowBit_6 : decode cX5_lowBit 6 = .ok (.lconst 1, 1) := by decide +kernel
theorem dX5_lowBit_7 : decode cX5_lowBit 7 = .ok (.iload_n 0, 1) := by decide +kernel
theorem dX5_lowBit_8 : decode cX5_lowBit 8 = .ok (.lshl, 1) := by decide +kernel
theorem dX5_lowBit_9 : decode cX5_lowBit 9 = .ok (.goto 4, 3) := by decide +kernel
theorem dX5_lowBit_12 : decode cX5_lowBit 12 = .ok (.lconst 0, 1) := by decide +kernel
theorem dX5_lowBit_13 : decode cX5_lowBit 13 = .ok (.lreturn, 1) := by decide +kernel
theorem dX5_highBit_0 : decode cX5_highBit 0 = .ok (.iload_n 0, 1) := by decide +kernel
theorem dX5_highBit_1 : decode cX5_highBit 1 = .ok (.bipush 64, 2) := by decide +kernel
theorem dX5_highBit_3 : decode cX5_highBit 3 = .ok (.if_icmp .ge 7, 3) := by decide +kernel
theorem dX5_highBit_6 : decode cX5_highBit 6 = .ok (.lconst 0, 1) := by decide +kernel
theorem dX5_highBit_7 : decode cX5_highBit 7 = .ok (.goto 9, 3) := by decide +kernel
theorem dX5_highBit_10 : decode cX5_highBit 10 = .ok (.lconst 1, 1) := by decide +kernel
theorem dX5_highBit_11 : decode cX5_highBit 11 = .ok (.iload_n 0, 1) := by decide +kernel
theorem dX5_highBit_12 : decode cX5_highBit 12 = .ok (.bipush 64, 2) := by decide +kernel
theorem dX5_highBit_14 : decode cX5_highBit 14 = .ok (.isub, 1) := by decide +kernel
theorem dX5_highBit_15 : decode cX5_highBit 15 = .ok (.lshl, 1) := by decide +kernel
theorem dX5_highBit_16 : decode cX5_highBit 16 = .ok (.lreturn, 1) := by decide +kernel
theorem dX5_isPlace_0 : decode cX5_isPlace 0 = .ok (.iload_n 0, 1) := by decide +kernel
theorem dX5_isPlace_1 : decode cX5_isPlace 1 = .ok (.ifCond .lt 13, 3) := by decide +kernel
theorem dX5_isPlace_4 : decode cX5_isPlace 4 = .ok (.iload_n 0, 1) := by decide +kernel
theorem dX5_isPlace_5 : decode cX5_isPlace 5 = .ok (.bipush 100, 2) := by decide +kernel
theorem dX5_isPlace_7 : decode cX5_isPlace 7 = .ok (.if_icmp .ge 7, 3) := by decide +kernel
theorem dX5_isPlace_10 : decode cX5_isPlace 10 = .ok (.iconst 1, 1) := by decide +kernel
theorem dX5_isPlace_11 : decode cX5_isPlace 11 = .ok (.goto 4, 3) := by decide +kernel
theorem dX5_isPlace_14 : decode cX5_isPlace 14 = .ok (.iconst 0, 1) := by decide +kernel
theorem dX5_isPlace_15 : decode cX5_isPlace 15 = .ok (.ireturn, 1) := by decide +kernel
theorem dX5_has_0 : decode cX5_has 0 = .ok (.iload_n 1, 1) := by decide +kernel
theorem dX5_has_1 : decode cX5_has 1 = .ok (.invokestatic 18, 3) := by decide +kernel
theorem dX5_has_4 : decode cX5_has 4 = .ok (.ifCond .eq 42, 3) := by decide +kernel
theorem dX5_has_7 : decode cX5_has 7 = .ok (.iload_n 2, 1) := by decide +kernel
theorem dX5_has_8 : decode cX5_has 8 = .ok (.invokestatic 18, 3) := by decide +kernel
theorem dX5_has_11 : decode cX5_has 11 = .ok (.ifCond .eq 35, 3) := by decide +kernel
theorem dX5_has_14 : decode cX5_has 14 = .ok (.aload_n 0, 1) := by decide +kernel
theorem dX5_has_15 : decode cX5_has 15 = .ok (.getfield 9, 3) := by decide +kernel
theorem dX5_has_18 : decode cX5_has 18 = .ok (.iload_n 1, 1) := by decide +kernel
theorem dX5_has_19 : decode cX5_has 19 = .ok (.laload, 1) := by decide +kernel
theorem dX5_has_20 : decode cX5_has 20 = .ok (.iload_n 2, 1) := by decide +kernel
theorem dX5_has_21 : decode cX5_has 21 = .ok (.invokestatic 22, 3) := by decide +kernel
theorem dX5_has_24 : decode cX5_has 24 = .ok (.land, 1) := by decide +kernel
theorem dX5_has_25 : decode cX5_has 25 = .ok (.aload_n 0, 1) := by decide +kernel
theorem dX5_has_26 : decode cX5_has 26 = .ok (.getfield 15, 3) := by decide +kernel
theorem dX5_has_29 : decode cX5_has 29 = .ok (.iload_n 1, 1) := by decide +kernel
theorem dX5_has_30 : decode cX5_has 30 = .ok (.laload, 1) := by decide +kernel
theorem dX5_has_31 : decode cX5_has 31 = .ok (.iload_n 2, 1) := by decide +kernel
theorem dX5_has_32 : decode cX5_has 32 = .ok (.invokestatic 26, 3) := by decide +kernel
theorem dX5_has_35 : decode cX5_has 35 = .ok (.land, 1) := by decide +kernel
theorem dX5_has_36 : decode cX5_has 36 = .ok (.lor, 1) := by decide +kernel
theorem dX5_has_37 : decode cX5_has 37 = .ok (.lconst 0, 1) := by decide +kernel
theorem dX5_has_38 : decode cX5_has 38 = .ok (.lcmp, 1) := by decide +kernel
theorem dX5_has_39 : decode cX5_has 39 = .ok (.ifCond .eq 7, 3) := by decide +kernel
theorem dX5_has_42 : decode cX5_has 42 = .ok (.iconst 1, 1) := by decide +kernel
theorem dX5_has_43 : decode cX5_has 43 = .ok (.goto 4, 3) := by decide +kernel
theorem dX5_has_46 : decode cX5_has 46 = .ok (.iconst 0, 1) := by decide +kernel
theorem dX5_has_47 : decode cX5_has 47 = .ok (.ireturn, 1) := by decide +kernel
theorem dX5_add_0 : decode cX5_add 0 = .ok (.iload_n 1, 1) := by decide +kernel
theorem dX5_add_1 : decode cX5_add 1 = .ok (.invokestatic 18, 3) := by decide +kernel
theorem dX5_add_4 : decode cX5_add 4 = .ok (.ifCond .eq 36, 3) := by decide +kernel
theorem dX5_add_7 : decode cX5_add 7 = .ok (.iload_n 2, 1) := by decide +kernel
theorem dX5_add_8 : decode cX5_add 8 = .ok (.invokestatic 18, 3) := by decide +kernel
theorem dX5_add_11 : decode cX5_add 11 = .ok (.ifCond .eq 29, 3) := by decide +kernel
theorem dX5_add_14 : decode cX5_add 14 = .ok (.aload_n 0, 1) := by decide +kernel
theorem dX5_add_15 : decode cX5_add 15 = .ok (.getfield 9, 3) := by decide +kernel
theorem dX5_add_18 : decode cX5_add 18 = .ok (.iload_n 1, 1) := by decide +kernel
theorem dX5_add_19 : decode cX5_add 19 = .ok (.dup2, 1) := by decide +kernel
theorem dX5_add_20 : decode cX5_add 20 = .ok (.laload, 1) := by decide +kernel
theorem dX5_add_21 : decode cX5_add 21 = .ok (.iload_n 2, 1) := by decide +kernel
theorem dX5_add_22 : decode cX5_add 22 = .ok (.invokestatic 22, 3) := by decide +kernel
theorem dX5_add_25 : decode cX5_add 25 = .ok (.lor, 1) := by decide +kernel
theorem dX5_add_26 : decode cX5_add 26 = .ok (.lastore, 1) := by decide +kernel
theorem dX5_add_27 : decode cX5_add 27 = .ok (.aload_n 0, 1) := by decide +kernel
theorem dX5_add_28 : decode cX5_add 28 = .ok (.getfield 15, 3) := by decide +kernel
theorem dX5_add_31 : decode cX5_add 31 = .ok (.iload_n 1, 1) := by decide +kernel
theorem dX5_add_32 : decode cX5_add 32 = .ok (.dup2, 1) := by decide +kernel
theorem dX5_add_33 : decode cX5_add 33 = .ok (.laload, 1) := by decide +kernel
theorem dX5_add_34 : decode cX5_add 34 = .ok (.iload_n 2, 1) := by decide +kernel
theorem dX5_add_35 : decode cX5_add 35 = .ok (.invokestatic 26, 3) := by decide +kernel
theorem dX5_add_38 : decode cX5_add 38 = .ok (.lor, 1) := by decide +kernel
theorem dX5_add_39 : decode cX5_add 39 = .ok (.lastore, 1) := by decide +kernel
theorem dX5_add_40 : decode cX5_add 40 = .ok (.return_, 1) := by decide +kernel
theorem dX5_refill_0 : decode cX5_refill 0 = .ok (.iload_n 1, 1) := by decide +kernel
theorem dX5_refill_1 : decode cX5_refill 1 = .ok (.invokestatic 18, 3) := by decide +kernel
theorem dX5_refill_4 : decode cX5_refill 4 = .ok (.ifCond .eq 37, 3) := by decide +kernel
theorem dX5_refill_7 : decode cX5_refill 7 = .ok (.aload_n 0, 1) := by decide +kernel
theorem dX5_refill_8 : decode cX5_refill 8 = .ok (.getfield 9, 3) := by decide +kernel
theorem dX5_refill_11 : decode cX5_refill 11 = .ok (.iload_n 1, 1) := by decide +kernel
theorem dX5_refill_12 : decode cX5_refill 12 = .ok (.iload_n 2, 1) := by decide +kernel
theorem dX5_refill_13 : decode cX5_refill 13 = .ok (.ifCond .eq 9, 3) := by decide +kernel
theorem dX5_refill_16 : decode cX5_refill 16 = .ok (.ldc2_w 29, 3) := by decide +kernel
theorem dX5_refill_19 : decode cX5_refill 19 = .ok (.goto 4, 3) := by decide +kernel
theorem dX5_refill_22 : decode cX5_refill 22 = .ok (.lconst 0, 1) := by decide +kernel
theorem dX5_refill_23 : decode cX5_refill 23 = .ok (.lastore, 1) := by decide +kernel
theorem dX5_refill_24 : decode cX5_refill 24 = .ok (.aload_n 0, 1) := by decide +kernel
theorem dX5_refill_25 : decode cX5_refill 25 = .ok (.getfield 15, 3) := by decide +kernel
theorem dX5_refill_28 : decode cX5_refill 28 = .ok (.iload_n 1, 1) := by decide +kernel
theorem dX5_refill_29 : decode cX5_refill 29 = .ok (.iload_n 2, 1) := by decide +kernel
theorem dX5_refill_30 : decode cX5_refill 30 = .ok (.ifCond .eq 9, 3) := by decide +kernel
theorem dX5_refill_33 : decode cX5_refill 33 = .ok (.ldc2_w 29, 3) := by decide +kernel
theorem dX5_refill_36 : decode cX5_refill 36 = .ok (.goto 4, 3) := by decide +kernel
theorem dX5_refill_39 : decode cX5_refill 39 = .ok (.lconst 0, 1) := by decide +kernel
theorem dX5_refill_40 : decode cX5_refill 40 = .ok (.lastore, 1) := by decide +kernel
theorem dX5_refill_41 : decode cX5_refill 41 = .ok (.return_, 1) := by decide +kernel
theorem dX5_narrow_0 : decode cX5_narrow 0 = .ok (.iload_n 1, 1) := by decide +kernel
theorem dX5_narrow_1 : decode cX5_narrow 1 = .ok (.invokestatic 18, 3) := by decide +kernel
theorem dX5_narrow_4 : decode cX5_narrow 4 = .ok (.ifCond .eq 10, 3) := by decide +kernel
theorem dX5_narrow_7 : decode cX5_narrow 7 = .ok (.iload_n 2, 1) := by decide +kernel
theorem dX5_narrow_8 : decode cX5_narrow 8 = .ok (.invokestatic 18, 3) := by decide +kernel
theorem dX5_narrow_11 : decode cX5_narrow 11 = .ok (.ifCond .ne 5, 3) := by decide +kernel
theorem dX5_narrow_14 : decode cX5_narrow 14 = .ok (.iconst 0, 1) := by decide +kernel
theorem dX5_narrow_15 : decode cX5_narrow 15 = .ok (.ireturn, 1) := by decide +kernel
theorem dX5_narrow_16 : decode cX5_narrow 16 = .ok (.aload_n 0, 1) := by decide +kernel
theorem dX5_narrow_17 : decode cX5_narrow 17 = .ok (.getfield 9, 3) := by decide +kernel
theorem dX5_narrow_20 : decode cX5_narrow 20 = .ok (.iload_n 1, 1) := by decide +kernel
theorem dX5_narrow_21 : decode cX5_narrow 21 = .ok (.laload, 1) := by decide +kernel
theorem dX5_narrow_22 : decode cX5_narrow 22 = .ok (.aload_n 0, 1) := by decide +kernel
theorem dX5_narrow_23 : decode cX5_narrow 23 = .ok (.getfield 9, 3) := by decide +kernel
theorem dX5_narrow_26 : decode cX5_narrow 26 = .ok (.iload_n 2, 1) := by decide +kernel
theorem dX5_narrow_27 : decode cX5_narrow 27 = .ok (.laload, 1) := by decide +kernel
theorem dX5_narrow_28 : decode cX5_narrow 28 = .ok (.iload_n 1, 1) := by decide +kernel
theorem dX5_narrow_29 : decode cX5_narrow 29 = .ok (.invokestatic 22, 3) := by decide +kernel
theorem dX5_narrow_32 : decode cX5_narrow 32 = .ok (.lor, 1) := by decide +kernel
theorem dX5_narrow_33 : decode cX5_narrow 33 = .ok (.land, 1) := by decide +kernel
theorem dX5_narrow_34 : decode cX5_narrow 34 = .ok (.lstore_n 3, 1) := by decide +kernel
theorem dX5_narrow_35 : decode cX5_narrow 35 = .ok (.aload_n 0, 1) := by decide +kernel
theorem dX5_narrow_36 : decode cX5_narrow 36 = .ok (.getfield 15, 3) := by decide +kernel
theorem dX5_narrow_39 : decode cX5_narrow 39 = .ok (.iload_n 1, 1) := by decide +kernel
theorem dX5_narrow_40 : decode cX5_narrow 40 = .ok (.laload, 1) := by decide +kernel
theorem dX5_narrow_41 : decode cX5_narrow 41 = .ok (.aload_n 0, 1) := by decide +kernel
theorem dX5_narrow_42 : decode cX5_narrow 42 = .ok (.getfield 15, 3) := by decide +kernel
theorem dX5_narrow_45 : decode cX5_narrow 45 = .ok (.iload_n 2, 1) := by decide +kernel
theorem dX5_narrow_46 : decode cX5_narrow 46 = .ok (.laload, 1) := by decide +kernel
theorem dX5_narrow_47 : decode cX5_narrow 47 = .ok (.iload_n 1, 1) := by decide +kernel
theorem dX5_narrow_48 : decode cX5_narrow 48 = .ok (.invokestatic 26, 3) := by decide +kernel
theorem dX5_narrow_51 : decode cX5_narrow 51 = .ok (.lor, 1) := by decide +kernel
theorem dX5_narrow_52 : decode cX5_narrow 52 = .ok (.land, 1) := by decide +kernel
theorem dX5_narrow_53 : decode cX5_narrow 53 = .ok (.lstore 5, 2) := by decide +kernel
theorem dX5_narrow_55 : decode cX5_narrow 55 = .ok (.lload_n 3, 1) := by decide +kernel
theorem dX5_narrow_56 : decode cX5_narrow 56 = .ok (.aload_n 0, 1) := by decide +kernel
theorem dX5_narrow_57 : decode cX5_narrow 57 = .ok (.getfield 9, 3) := by decide +kernel
theorem dX5_narrow_60 : decode cX5_narrow 60 = .ok (.iload_n 1, 1) := by decide +kernel
theorem dX5_narrow_61 : decode cX5_narrow 61 = .ok (.laload, 1) := by decide +kernel
theorem dX5_narrow_62 : decode cX5_narrow 62 = .ok (.lcmp, 1) := by decide +kernel
theorem dX5_narrow_63 : decode cX5_narrow 63 = .ok (.ifCond .ne 15, 3) := by decide +kernel
theorem dX5_narrow_66 : decode cX5_narrow 66 = .ok (.lload 5, 2) := by decide +kernel
theorem dX5_narrow_68 : decode cX5_narrow 68 = .ok (.aload_n 0, 1) := by decide +kernel
theorem dX5_narrow_69 : decode cX5_narrow 69 = .ok (.getfield 15, 3) := by decide +kernel
theorem dX5_narrow_72 : decode cX5_narrow 72 = .ok (.iload_n 1, 1) := by decide +kernel
theorem dX5_narrow_73 : decode cX5_narrow 73 = .ok (.laload, 1) := by decide +kernel
theorem dX5_narrow_74 : decode cX5_narrow 74 = .ok (.lcmp, 1) := by decide +kernel
theorem dX5_narrow_75 : decode cX5_narrow 75 = .ok (.ifCond .eq 7, 3) := by decide +kernel
theorem dX5_narrow_78 : decode cX5_narrow 78 = .ok (.iconst 1, 1) := by decide +kernel
theorem dX5_narrow_79 : decode cX5_narrow 79 = .ok (.goto 4, 3) := by decide +kernel
theorem dX5_narrow_82 : decode cX5_narrow 82 = .ok (.iconst 0, 1) := by decide +kernel
theorem dX5_narrow_83 : decode cX5_narrow 83 = .ok (.istore 7, 2) := by decide +kernel
theorem dX5_narrow_85 : decode cX5_narrow 85 = .ok (.aload_n 0, 1) := by decide +kernel
theorem dX5_narrow_86 : decode cX5_narrow 86 = .ok (.getfield 9, 3) := by decide +kernel
theorem dX5_narrow_89 : decode cX5_narrow 89 = .ok (.iload_n 1, 1) := by decide +kernel
theorem dX5_narrow_90 : decode cX5_narrow 90 = .ok (.lload_n 3, 1) := by decide +kernel
theorem dX5_narrow_91 : decode cX5_narrow 91 = .ok (.lastore, 1) := by decide +kernel
theorem dX5_narrow_92 : decode cX5_narrow 92 = .ok (.aload_n 0, 1) := by decide +kernel
theorem dX5_narrow_93 : decode cX5_narrow 93 = .ok (.getfield 15, 3) := by decide +kernel
theorem dX5_narrow_96 : decode cX5_narrow 96 = .ok (.iload_n 1, 1) := by decide +kernel
theorem dX5_narrow_97 : decode cX5_narrow 97 = .ok (.lload 5, 2) := by decide +kernel
theorem dX5_narrow_99 : decode cX5_narrow 99 = .ok (.lastore, 1) := by decide +kernel
theorem dX5_narrow_100 : decode cX5_narrow 100 = .ok (.iload 7, 2) := by decide +kernel
theorem dX5_narrow_102 : decode cX5_narrow 102 = .ok (.ireturn, 1) := by decide +kernel
theorem dX6_init_0 : decode cX6_init 0 = .ok (.aload_n 0, 1) := by decide +kernel
theorem dX6_init_1 : decode cX6_init 1 = .ok (.invokespecial 1, 3) := by decide +kernel
theorem dX6_init_4 : decode cX6_init 4 = .ok (.aload_n 0, 1) := by decide +kernel
theorem dX6_init_5 : decode cX6_init 5 = .ok (.aconst_null, 1) := by decide +kernel
theorem dX6_init_6 : decode cX6_init 6 = .ok (.putfield 7, 3) := by decide +kernel
theorem dX6_init_9 : decode cX6_init 9 = .ok (.aload_n 0, 1) := by decide +kernel
theorem dX6_init_10 : decode cX6_init 10 = .ok (.iload_n 1, 1) := by decide +kernel
theorem dX6_init_11 : decode cX6_init 11 = .ok (.putfield 13, 3) := by decide +kernel
theorem dX6_init_14 : decode cX6_init 14 = .ok (.aload_n 0, 1) := by decide +kernel
theorem dX6_init_15 : decode cX6_init 15 = .ok (.iload_n 2, 1) := by decide +kernel
theorem dX6_init_16 : decode cX6_init 16 = .ok (.putfield 17, 3) := by decide +kernel
theorem dX6_init_19 : decode cX6_init 19 = .ok (.aload_n 0, 1) := by decide +kernel
theorem dX6_init_20 : decode cX6_init 20 = .ok (.aload_n 3, 1) := by decide +kernel
theorem dX6_init_21 : decode cX6_init 21 = .ok (.putfield 20, 3) := by decide +kernel
theorem dX6_init_24 : decode cX6_init 24 = .ok (.aload_n 0, 1) := by decide +kernel
theorem dX6_init_25 : decode cX6_init 25 = .ok (.aload 4, 2) := by decide +kernel
theorem dX6_init_27 : decode cX6_init 27 = .ok (.putfield 23, 3) := by decide +kernel
theorem dX6_init_30 : decode cX6_init 30 = .ok (.aload_n 0, 1) := by decide +kernel
theorem dX6_init_31 : decode cX6_init 31 = .ok (.aload 5, 2) := by decide +kernel
theorem dX6_init_33 : decode cX6_init 33 = .ok (.putfield 26, 3) := by decide +kernel
theorem dX6_init_36 : decode cX6_init 36 = .ok (.return_, 1) := by decide +kernel
theorem dX7_init_0 : decode cX7_init 0 = .ok (.aload_n 0, 1) := by decide +kernel
theorem dX7_init_1 : decode cX7_init 1 = .ok (.invokespecial 3, 3) := by decide +kernel
theorem dX7_init_4 : decode cX7_init 4 = .ok (.aload_n 0, 1) := by decide +kernel
theorem dX7_init_5 : decode cX7_init 5 = .ok (.bipush 8, 2) := by decide +kernel
theorem dX7_init_7 : decode cX7_init 7 = .ok (.newarray .int, 2) := by decide +kernel
theorem dX7_init_9 : decode cX7_init 9 = .ok (.putfield 9, 3) := by decide +kernel
theorem dX7_init_12 : decode cX7_init 12 = .ok (.aload_n 0, 1) := by decide +kernel
theorem dX7_init_13 : decode cX7_init 13 = .ok (.bipush 7, 2) := by decide +kernel
theorem dX7_init_15 : decode cX7_init 15 = .ok (.bipush 8, 2) := by decide +kernel
theorem dX7_init_17 : decode cX7_init 17 = .ok (.multianewarray 15 2, 4) := by decide +kernel
theorem dX7_init_21 : decode cX7_init 21 = .ok (.putfield 17, 3) := by decide +kernel
theorem dX7_init_24 : decode cX7_init 24 = .ok (.aload_n 0, 1) := by decide +kernel
theorem dX7_init_25 : decode cX7_init 25 = .ok (.bipush 7, 2) := by decide +kernel
theorem dX7_init_27 : decode cX7_init 27 = .ok (.bipush 8, 2) := by decide +kernel
theorem dX7_init_29 : decode cX7_init 29 = .ok (.multianewarray 15 2, 4) := by decide +kernel
theorem dX7_init_33 : decode cX7_init 33 = .ok (.putfield 20, 3) := by decide +kernel
theorem dX7_init_36 : decode cX7_init 36 = .ok (.aload_n 0, 1) := by decide +kernel
theorem dX7_init_37 : decode cX7_init 37 = .ok (.aload_n 1, 1) := by decide +kernel
theorem dX7_init_38 : decode cX7_init 38 = .ok (.putfield 23, 3) := by decide +kernel
theorem dX7_init_41 : decode cX7_init 41 = .ok (.return_, 1) := by decide +kernel
theorem dX7_workOut_0 : decode cX7_workOut 0 = .ok (.aload_n 2, 1) := by decide +kernel
theorem dX7_workOut_1 : decode cX7_workOut 1 = .ok (.iconst 0, 1) := by decide +kernel
theorem dX7_workOut_2 : decode cX7_workOut 2 = .ok (.aload_n 0, 1) := by decide +kernel
theorem dX7_workOut_3 : decode cX7_workOut 3 = .ok (.getfield 9, 3) := by decide +kernel
theorem dX7_workOut_6 : decode cX7_workOut 6 = .ok (.iconst 0, 1) := by decide +kernel
theorem dX7_workOut_7 : decode cX7_workOut 7 = .ok (.bipush 8, 2) := by decide +kernel
theorem dX7_workOut_9 : decode cX7_workOut 9 = .ok (.invokestatic 27, 3) := by decide +kernel
theorem dX7_workOut_12 : decode cX7_workOut 12 = .ok (.aload_n 0, 1) := by decide +kernel
theorem dX7_workOut_13 : decode cX7_workOut 13 = .ok (.aload_n 1, 1) := by decide +kernel
theorem dX7_workOut_14 : decode cX7_workOut 14 = .ok (.aload_n 0, 1) := by decide +kernel
theorem dX7_workOut_15 : decode cX7_workOut 15 = .ok (.getfield 23, 3) := by decide +kernel
theorem dX7_workOut_18 : decode cX7_workOut 18 = .ok (.invokevirtual 33, 3) := by decide +kernel
theorem dX7_workOut_21 : decode cX7_workOut 21 = .ok (.iconst 0, 1) := by decide +kernel
theorem dX7_workOut_22 : decode cX7_workOut 22 = .ok (.invokevirtual 39, 3) := by decide +kernel
theorem dX7_workOut_25 : decode cX7_workOut 25 = .ok (.return_, 1) := by decide +kernel
theorem dX7_keepTo_0 : decode cX7_keepTo 0 = .ok (.iconst 0, 1) := by decide +kernel
theorem dX7_keepTo_1 : decode cX7_keepTo 1 = .ok (.istore_n 2, 1) := by decide +kernel
theorem dX7_keepTo_2 : decode cX7_keepTo 2 = .ok (.iload_n 2, 1) := by decide +kernel
theorem dX7_keepTo_3 : decode cX7_keepTo 3 = .ok (.bipush 8, 2) := by decide +kernel
theorem dX7_keepTo_5 : decode cX7_keepTo 5 = .ok (.if_icmp .ge 30, 3) := by decide +kernel
theorem dX7_keepTo_8 : decode cX7_keepTo 8 = .ok (.aload_n 0, 1) := by decide +kernel
theorem dX7_keepTo_9 : decode cX7_keepTo 9 = .ok (.getfield 23, 3) := by decide +kernel
theorem dX7_keepTo_12 : decode cX7_keepTo 12 = .ok (.aload_n 0, 1) := by decide +kernel
theorem dX7_keepTo_13 : decode cX7_keepTo 13 = .ok (.getfield 9, 3) := by decide +kernel
theorem dX7_keepTo_16 : decode cX7_keepTo 16 = .ok (.iload_n 2, 1) := by decide +kernel
theorem dX7_keepTo_17 : decode cX7_keepTo 17 = .ok (.iaload, 1) := by decide +kernel
theorem dX7_keepTo_18 : decode cX7_keepTo 18 = .ok (.aload_n 1, 1) := by decide +kernel
theorem dX7_keepTo_19 : decode cX7_keepTo 19 = .ok (.iload_n 2, 1) := by decide +kernel
theorem dX7_keepTo_20 : decode cX7_keepTo 20 = .ok (.iaload, 1) := by decide +kernel
theorem dX7_keepTo_21 : decode cX7_keepTo 21 = .ok (.invokevirtual 43, 3) := by decide +kernel
theorem dX7_keepTo_24 : decode cX7_keepTo 24 = .ok (.ifCond .ne 5, 3) := by decide +kernel
theorem dX7_keepTo_27 : decode cX7_keepTo 27 = .ok (.iconst 0, 1) := by decide +kernel
theorem dX7_keepTo_28 : decode cX7_keepTo 28 = .ok (.ireturn, 1) := by decide +kernel
theorem dX7_keepTo_29 : decode cX7_keepTo 29 = .ok (.iinc 2 1, 3) := by decide +kernel
theorem dX7_keepTo_32 : decode cX7_keepTo 32 = .ok (.goto (-30), 3) := by decide +kernel
theorem dX7_keepTo_35 : decode cX7_keepTo 35 = .ok (.iconst 1, 1) := by decide +kernel
theorem dX7_keepTo_36 : decode cX7_keepTo 36 = .ok (.ireturn, 1) := by decide +kernel
theorem dX7_exitOf_0 : decode cX7_exitOf 0 = .ok (.iload_n 1, 1) := by decide +kernel
theorem dX7_exitOf_1 : decode cX7_exitOf 1 = .ok (.invokestatic 47, 3) := by decide +kernel
theorem dX7_exitOf_4 : decode cX7_exitOf 4 = .ok (.ifCond .eq 12, 3) := by decide +kernel
theorem dX7_exitOf_7 : decode cX7_exitOf 7 = .ok (.aload_n 0, 1) := by decide +kernel
theorem dX7_exitOf_8 : decode cX7_exitOf 8 = .ok (.getfield 9, 3) := by decide +kernel
theorem dX7_exitOf_11 : decode cX7_exitOf 11 = .ok (.iload_n 1, 1) := by decide +kernel
theorem dX7_exitOf_12 : decode cX7_exitOf 12 = .ok (.iaload, 1) := by decide +kernel
theorem dX7_exitOf_13 : decode cX7_exitOf 13 = .ok (.goto 4, 3) := by decide +kernel
theorem dX7_exitOf_16 : decode cX7_exitOf 16 = .ok (.iconst (-1), 1) := by decide +kernel
theorem dX7_exitOf_17 : decode cX7_exitOf 17 = .ok (.ireturn, 1) := by decide +kernel
theorem dX7_flowRow_0 : decode cX7_flowRow 0 = .ok (.iload_n 3, 1) := by decide +kernel
theorem dX7_flowRow_1 : decode cX7_flowRow 1 = .ok (.bipush 6, 2) := by decide +kernel
theorem dX7_flowRow_3 : decode cX7_flowRow 3 = .ok (.if_icmp .le 4, 3) := by decide +kernel
theorem dX7_flowRow_6 : decode cX7_flowRow 6 = .ok (.return_, 1) := by decide +kernel
theorem dX7_flowRow_7 : decode cX7_flowRow 7 = .ok (.aload_n 1, 1) := by decide +kernel
theorem dX7_flowRow_8 : decode cX7_flowRow 8 = .ok (.astore 4, 2) := by decide +kernel
theorem dX7_flowRow_10 : decode cX7_flowRow 10 = .ok (.aload 4, 2) := by decide +kernel
theorem dX7_flowRow_12 : decode cX7_flowRow 12 = .ok (.ifnull 92, 3) := by decide +kernel
theorem dX7_flowRow_15 : decode cX7_flowRow 15 = .ok (.aload 4, 2) := by decide +kernel
theorem dX7_flowRow_17 : decode cX7_flowRow 17 = .ok (.getfield 51, 3) := by decide +kernel
theorem dX7_flowRow_20 : decode cX7_flowRow 20 = .ok (.iconst 4, 1) := by decide +kernel
theorem dX7_flowRow_21 : decode cX7_flowRow 21 = .ok (.if_icmp .ne 14, 3) := by decide +kernel
theorem dX7_flowRow_24 : decode cX7_flowRow 24 = .ok (.aload_n 0, 1) := by decide +kernel
theorem dX7_flowRow_25 : decode cX7_flowRow 25 = .ok (.aload 4, 2) := by decide +kernel
theorem dX7_flowRow_27 : decode cX7_flowRow 27 = .ok (.iload_n 2, 1) := by decide +kernel
theorem dX7_flowRow_28 : decode cX7_flowRow 28 = .ok (.iload_n 3, 1) := by decide +kernel
theorem dX7_flowRow_29 : decode cX7_flowRow 29 = .ok (.invokevirtual 57, 3) := by decide +kernel
theorem dX7_flowRow_32 : decode cX7_flowRow 32 = .ok (.goto 62, 3) := by decide +kernel
theorem dX7_flowRow_35 : decode cX7_flowRow 35 = .ok (.aload 4, 2) := by decide +kernel
theorem dX7_flowRow_37 : decode cX7_flowRow 37 = .ok (.getfield 51, 3) := by decide +kernel
theorem dX7_flowRow_40 : decode cX7_flowRow 40 = .ok (.iconst 5, 1) := by decide +kernel
theorem dX7_flowRow_41 : decode cX7_flowRow 41 = .ok (.if_icmp .ne 14, 3) := by decide +kernel
theorem dX7_flowRow_44 : decode cX7_flowRow 44 = .ok (.aload_n 0, 1) := by decide +kernel
theorem dX7_flowRow_45 : decode cX7_flowRow 45 = .ok (.aload 4, 2) := by decide +kernel
theorem dX7_flowRow_47 : decode cX7_flowRow 47 = .ok (.iload_n 2, 1) := by decide +kernel
theorem dX7_flowRow_48 : decode cX7_flowRow 48 = .ok (.iload_n 3, 1) := by decide +kernel
theorem dX7_flowRow_49 : decode cX7_flowRow 49 = .ok (.invokevirtual 60, 3) := by decide +kernel
theorem dX7_flowRow_52 : decode cX7_flowRow 52 = .ok (.goto 42, 3) := by decide +kernel
theorem dX7_flowRow_55 : decode cX7_flowRow 55 = .ok (.aload 4, 2) := by decide +kernel
theorem dX7_flowRow_57 : decode cX7_flowRow 57 = .ok (.getfield 63, 3) := by decide +kernel
theorem dX7_flowRow_60 : decode cX7_flowRow 60 = .ok (.invokestatic 47, 3) := by decide +kernel
theorem dX7_flowRow_63 : decode cX7_flowRow 63 = .ok (.ifCond .eq 31, 3) := by decide +kernel
theorem dX7_flowRow_66 : decode cX7_flowRow 66 = .ok (.aload_n 0, 1) := by decide +kernel
theorem dX7_flowRow_67 : decode cX7_flowRow 67 = .ok (.getfield 9, 3) := by decide +kernel
theorem dX7_flowRow_70 : decode cX7_flowRow 70 = .ok (.aload 4, 2) := by decide +kernel
theorem dX7_flowRow_72 : decode cX7_flowRow 72 = .ok (.getfield 63, 3) := by decide +kernel
theorem dX7_flowRow_75 : decode cX7_flowRow 75 = .ok (.aload_n 0, 1) := by decide +kernel
theorem dX7_flowRow_76 : decode cX7_flowRow 76 = .ok (.getfield 23, 3) := by decide +kernel
theorem dX7_flowRow_79 : decode cX7_flowRow 79 = .ok (.iload_n 2, 1) := by decide +kernel
theorem dX7_flowRow_80 : decode cX7_flowRow 80 = .ok (.aload_n 0, 1) := by decide +kernel
theorem dX7_flowRow_81 : decode cX7_flowRow 81 = .ok (.aload 4, 2) := by decide +kernel
theorem dX7_flowRow_83 : decode cX7_flowRow 83 = .ok (.getfield 66, 3) := by decide +kernel
theorem dX7_flowRow_86 : decode cX7_flowRow 86 = .ok (.iconst 0, 1) := by decide +kernel
theorem dX7_flowRow_87 : decode cX7_flowRow 87 = .ok (.invokevirtual 70, 3) := by decide +kernel
theorem dX7_flowRow_90 : decode cX7_flowRow 90 = .ok (.invokevirtual 74, 3) := by decide +kernel
theorem dX7_flowRow_93 : decode cX7_flowRow 93 = .ok (.iastore, 1) := by decide +kernel
theorem dX7_flowRow_94 : decode cX7_flowRow 94 = .ok (.aload 4, 2) := by decide +kernel
theorem dX7_flowRow_96 : decode cX7_flowRow 96 = .ok (.getfield 78, 3) := by decide +kernel
theorem dX7_flowRow_99 : decode cX7_flowRow 99 = .ok (.astore 4, 2) := by decide +kernel
theorem dX7_flowRow_101 : decode cX7_flowRow 101 = .ok (.goto (-91), 3) := by decide +kernel
theorem dX7_flowRow_104 : decode cX7_flowRow 104 = .ok (.return_, 1) := by decide +kernel
theorem dX7_flowChoice_0 : decode cX7_flowChoice 0 = .ok (.aload_n 0, 1) := by decide +kernel
theorem dX7_flowChoice_1 : decode cX7_flowChoice 1 = .ok (.getfield 23, 3) := by decide +kernel
theorem dX7_flowChoice_4 : decode cX7_flowChoice 4 = .ok (.iload_n 2, 1) := by decide +kernel
theorem dX7_flowChoice_5 : decode cX7_flowChoice 5 = .ok (.aload_n 0, 1) := by decide +kernel
theorem dX7_flowChoice_6 : decode cX7_flowChoice 6 = .ok (.aload_n 1, 1) := by decide +kernel
theorem dX7_flowChoice_7 : decode cX7_flowChoice 7 = .ok (.getfield 66, 3) := by decide +kernel
theorem dX7_flowChoice_10 : decode cX7_flowChoice 10 = .ok (.iconst 0, 1) := by decide +kernel
theorem dX7_flowChoice_11 : decode cX7_flowChoice 11 = .ok (.invokevirtual 70, 3) := by decide +kernel
theorem dX7_flowChoice_14 : decode cX7_flowChoice 14 = .ok (.invokevirtual 74, 3) := by decide +kernel
theorem dX7_flowChoice_17 : decode cX7_flowChoice 17 = .ok (.istore 4, 2) := by decide +kernel
theorem dX7_flowChoice_19 : decode cX7_flowChoice 19 = .ok (.aload_n 0, 1) := by decide +kernel
theorem dX7_flowChoice_20 : decode cX7_flowChoice 20 = .ok (.getfield 9, 3) := by decide +kernel
theorem dX7_flowChoice_23 : decode cX7_flowChoice 23 = .ok (.iconst 0, 1) := by decide +kernel
theorem dX7_flowChoice_24 : decode cX7_flowChoice 24 = .ok (.aload_n 0, 1) := by decide +kernel
theorem dX7_flowChoice_25 : decode cX7_flowChoice 25 = .ok (.getfield 17, 3) := by decide +kernel
theorem dX7_flowChoice_28 : decode cX7_flowChoice 28 = .ok (.iload_n 3, 1) := by decide +kernel
theorem dX7_flowChoice_29 : decode cX7_flowChoice 29 = .ok (.aaload, 1) := by decide +kernel
theorem dX7_flowChoice_30 : decode cX7_flowChoice 30 = .ok (.iconst 0, 1) := by decide +kernel
theorem dX7_flowChoice_31 : decode cX7_flowChoice 31 = .ok (.bipush 8, 2) := by decide +kernel
theorem dX7_flowChoice_33 : decode cX7_flowChoice 33 = .ok (.invokestatic 27, 3) := by decide +kernel
theorem dX7_flowChoice_36 : decode cX7_flowChoice 36 = .ok (.aload_n 0, 1) := by decide +kernel
theorem dX7_flowChoice_37 : decode cX7_flowChoice 37 = .ok (.aload_n 1, 1) := by decide +kernel
theorem dX7_flowChoice_38 : decode cX7_flowChoice 38 = .ok (.getfield 81, 3) := by decide +kernel
theorem dX7_flowChoice_41 : decode cX7_flowChoice 41 = .ok (.iload 4, 2) := by decide +kernel
theorem dX7_flowChoice_43 : decode cX7_flowChoice 43 = .ok (.iload_n 3, 1) := by decide +kernel
theorem dX7_flowChoice_44 : decode cX7_flowChoice 44 = .ok (.iconst 1, 1) := by decide +kernel
theorem dX7_flowChoice_45 : decode cX7_flowChoice 45 = .ok (.iadd, 1) := by decide +kernel
theorem dX7_flowChoice_46 : decode cX7_flowChoice 46 = .ok (.invokevirtual 39, 3) := by decide +kernel
theorem dX7_flowChoice_49 : decode cX7_flowChoice 49 = .ok (.aload_n 0, 1) := by decide +kernel
theorem dX7_flowChoice_50 : decode cX7_flowChoice 50 = .ok (.getfield 9, 3) := by decide +kernel
theorem dX7_flowChoice_53 : decode cX7_flowChoice 53 = .ok (.iconst 0, 1) := by decide +kernel
theorem dX7_flowChoice_54 : decode cX7_flowChoice 54 = .ok (.aload_n 0, 1) := by decide +kernel
theorem dX7_flowChoice_55 : decode cX7_flowChoice 55 = .ok (.getfield 20, 3) := by decide +kernel
theorem dX7_flowChoice_58 : decode cX7_flowChoice 58 = .ok (.iload_n 3, 1) := by decide +kernel
theorem dX7_flowChoice_59 : decode cX7_flowChoice 59 = .ok (.aaload, 1) := by decide +kernel
theorem dX7_flowChoice_60 : decode cX7_flowChoice 60 = .ok (.iconst 0, 1) := by decide +kernel
theorem dX7_flowChoice_61 : decode cX7_flowChoice 61 = .ok (.bipush 8, 2) := by decide +kernel
theorem dX7_flowChoice_63 : decode cX7_flowChoice 63 = .ok (.invokestatic 27, 3) := by decide +kernel
theorem dX7_flowChoice_66 : decode cX7_flowChoice 66 = .ok (.aload_n 0, 1) := by decide +kernel
theorem dX7_flowChoice_67 : decode cX7_flowChoice 67 = .ok (.getfield 17, 3) := by decide +kernel
theorem dX7_flowChoice_70 : decode cX7_flowChoice 70 = .ok (.iload_n 3, 1) := by decide +kernel
theorem dX7_flowChoice_71 : decode cX7_flowChoice 71 = .ok (.aaload, 1) := by decide +kernel
theorem dX7_flowChoice_72 : decode cX7_flowChoice 72 = .ok (.iconst 0, 1) := by decide +kernel
theorem dX7_flowChoice_73 : decode cX7_flowChoice 73 = .ok (.aload_n 0, 1) := by decide +kernel
theorem dX7_flowChoice_74 : decode cX7_flowChoice 74 = .ok (.getfield 9, 3) := by decide +kernel
theorem dX7_flowChoice_77 : decode cX7_flowChoice 77 = .ok (.iconst 0, 1) := by decide +kernel
theorem dX7_flowChoice_78 : decode cX7_flowChoice 78 = .ok (.bipush 8, 2) := by decide +kernel
theorem dX7_flowChoice_80 : decode cX7_flowChoice 80 = .ok (.invokestatic 27, 3) := by decide +kernel
theorem dX7_flowChoice_83 : decode cX7_flowChoice 83 = .ok (.aload_n 0, 1) := by decide +kernel
theorem dX7_flowChoice_84 : decode cX7_flowChoice 84 = .ok (.aload_n 1, 1) := by decide +kernel
theorem dX7_flowChoice_85 : decode cX7_flowChoice 85 = .ok (.getfield 84, 3) := by decide +kernel
theorem dX7_flowChoice_88 : decode cX7_flowChoice 88 = .ok (.iload 4, 2) := by decide +kernel
theorem dX7_flowChoice_90 : decode cX7_flowChoice 90 = .ok (.iload_n 3, 1) := by decide +kernel
theorem dX7_flowChoice_91 : decode cX7_flowChoice 91 = .ok (.iconst 1, 1) := by decide +kernel
theorem dX7_flowChoice_92 : decode cX7_flowChoice 92 = .ok (.iadd, 1) := by decide +kernel
theorem dX7_flowChoice_93 : decode cX7_flowChoice 93 = .ok (.invokevirtual 39, 3) := by decide +kernel
theorem dX7_flowChoice_96 : decode cX7_flowChoice 96 = .ok (.aload_n 0, 1) := by decide +kernel
theorem dX7_flowChoice_97 : decode cX7_flowChoice 97 = .ok (.aload_n 0, 1) := by decide +kernel
theorem dX7_flowChoice_98 : decode cX7_flowChoice 98 = .ok (.getfield 20, 3) := by decide +kernel
theorem dX7_flowChoice_101 : decode cX7_flowChoice 101 = .ok (.iload_n 3, 1) := by decide +kernel
theorem dX7_flowChoice_102 : decode cX7_flowChoice 102 = .ok (.aaload, 1) := by decide +kernel
theorem dX7_flowChoice_103 : decode cX7_flowChoice 103 = .ok (.invokevirtual 87, 3) := by decide +kernel
theorem dX7_flowChoice_106 : decode cX7_flowChoice 106 = .ok (.return_, 1) := by decide +kernel
theorem dX7_flowLoop_0 : decode cX7_flowLoop 0 = .ok (.iconst 0, 1) := by decide +kernel
theorem dX7_flowLoop_1 : decode cX7_flowLoop 1 = .ok (.istore 4, 2) := by decide +kernel
theorem dX7_flowLoop_3 : decode cX7_flowLoop 3 = .ok (.iload 4, 2) := by decide +kernel
theorem dX7_flowLoop_5 : decode cX7_flowLoop 5 = .ok (.ldc 91, 2) := by decide +kernel
theorem dX7_flowLoop_7 : decode cX7_flowLoop 7 = .ok (.if_icmp .ge 82, 3) := by decide +kernel
theorem dX7_flowLoop_10 : decode cX7_flowLoop 10 = .ok (.aload_n 0, 1) := by decide +kernel
theorem dX7_flowLoop_11 : decode cX7_flowLoop 11 = .ok (.getfield 23, 3) := by decide +kernel
theorem dX7_flowLoop_14 : decode cX7_flowLoop 14 = .ok (.iload_n 2, 1) := by decide +kernel
theorem dX7_flowLoop_15 : decode cX7_flowLoop 15 = .ok (.aload_n 0, 1) := by decide +kernel
theorem dX7_flowLoop_16 : decode cX7_flowLoop 16 = .ok (.aload_n 1, 1) := by decide +kernel
theorem dX7_flowLoop_17 : decode cX7_flowLoop 17 = .ok (.getfield 66, 3) := by decide +kernel
theorem dX7_flowLoop_20 : decode cX7_flowLoop 20 = .ok (.iconst 0, 1) := by decide +kernel
theorem dX7_flowLoop_21 : decode cX7_flowLoop 21 = .ok (.invokevirtual 70, 3) := by decide +kernel
theorem dX7_flowLoop_24 : decode cX7_flowLoop 24 = .ok (.invokevirtual 74, 3) := by decide +kernel
theorem dX7_flowLoop_27 : decode cX7_flowLoop 27 = .ok (.istore 5, 2) := by decide +kernel
theorem dX7_flowLoop_29 : decode cX7_flowLoop 29 = .ok (.aload_n 0, 1) := by decide +kernel
theorem dX7_flowLoop_30 : decode cX7_flowLoop 30 = .ok (.getfield 9, 3) := by decide +kernel
theorem dX7_flowLoop_33 : decode cX7_flowLoop 33 = .ok (.iconst 0, 1) := by decide +kernel
theorem dX7_flowLoop_34 : decode cX7_flowLoop 34 = .ok (.aload_n 0, 1) := by decide +kernel
theorem dX7_flowLoop_35 : decode cX7_flowLoop 35 = .ok (.getfield 17, 3) := by decide +kernel
theorem dX7_flowLoop_38 : decode cX7_flowLoop 38 = .ok (.iload_n 3, 1) := by decide +kernel
theorem dX7_flowLoop_39 : decode cX7_flowLoop 39 = .ok (.aaload, 1) := by decide +kernel
theorem dX7_flowLoop_40 : decode cX7_flowLoop 40 = .ok (.iconst 0, 1) := by decide +kernel
theorem dX7_flowLoop_41 : decode cX7_flowLoop 41 = .ok (.bipush 8, 2) := by decide +kernel
theorem dX7_flowLoop_43 : decode cX7_flowLoop 43 = .ok (.invokestatic 27, 3) := by decide +kernel
theorem dX7_flowLoop_46 : decode cX7_flowLoop 46 = .ok (.aload_n 0, 1) := by decide +kernel
theorem dX7_flowLoop_47 : decode cX7_flowLoop 47 = .ok (.aload_n 1, 1) := by decide +kernel
theorem dX7_flowLoop_48 : decode cX7_flowLoop 48 = .ok (.getfield 81, 3) := by decide +kernel
theorem dX7_flowLoop_51 : decode cX7_flowLoop 51 = .ok (.iload 5, 2) := by decide +kernel
theorem dX7_flowLoop_53 : decode cX7_flowLoop 53 = .ok (.iload_n 3, 1) := by decide +kernel
theorem dX7_flowLoop_54 : decode cX7_flowLoop 54 = .ok (.iconst 1, 1) := by decide +kernel
theorem dX7_flowLoop_55 : decode cX7_flowLoop 55 = .ok (.iadd, 1) := by decide +kernel
theorem dX7_flowLoop_56 : decode cX7_flowLoop 56 = .ok (.invokevirtual 39, 3) := by decide +kernel
theorem dX7_flowLoop_59 : decode cX7_flowLoop 59 = .ok (.aload_n 0, 1) := by decide +kernel
theorem dX7_flowLoop_60 : decode cX7_flowLoop 60 = .ok (.aload_n 0, 1) := by decide +kernel
theorem dX7_flowLoop_61 : decode cX7_flowLoop 61 = .ok (.getfield 17, 3) := by decide +kernel
theorem dX7_flowLoop_64 : decode cX7_flowLoop 64 = .ok (.iload_n 3, 1) := by decide +kernel
theorem dX7_flowLoop_65 : decode cX7_flowLoop 65 = .ok (.aaload, 1) := by decide +kernel
theorem dX7_flowLoop_66 : decode cX7_flowLoop 66 = .ok (.invokevirtual 87, 3) := by decide +kernel
theorem dX7_flowLoop_69 : decode cX7_flowLoop 69 = .ok (.aload_n 0, 1) := by decide +kernel
theorem dX7_flowLoop_70 : decode cX7_flowLoop 70 = .ok (.aload_n 0, 1) := by decide +kernel
theorem dX7_flowLoop_71 : decode cX7_flowLoop 71 = .ok (.getfield 17, 3) := by decide +kernel
theorem dX7_flowLoop_74 : decode cX7_flowLoop 74 = .ok (.iload_n 3, 1) := by decide +kernel
theorem dX7_flowLoop_75 : decode cX7_flowLoop 75 = .ok (.aaload, 1) := by decide +kernel
theorem dX7_flowLoop_76 : decode cX7_flowLoop 76 = .ok (.invokevirtual 92, 3) := by decide +kernel
theorem dX7_flowLoop_79 : decode cX7_flowLoop 79 = .ok (.ifCond .eq 4, 3) := by decide +kernel
theorem dX7_flowLoop_82 : decode cX7_flowLoop 82 = .ok (.return_, 1) := by decide +kernel
theorem dX7_flowLoop_83 : decode cX7_flowLoop 83 = .ok (.iinc 4 1, 3) := by decide +kernel
theorem dX7_flowLoop_86 : decode cX7_flowLoop 86 = .ok (.goto (-83), 3) := by decide +kernel
theorem dX7_flowLoop_89 : decode cX7_flowLoop 89 = .ok (.return_, 1) := by decide +kernel
theorem dX7_raiseBy_0 : decode cX7_raiseBy 0 = .ok (.iconst 0, 1) := by decide +kernel
theorem dX7_raiseBy_1 : decode cX7_raiseBy 1 = .ok (.istore_n 2, 1) := by decide +kernel
theorem dX7_raiseBy_2 : decode cX7_raiseBy 2 = .ok (.iload_n 2, 1) := by decide +kernel
theorem dX7_raiseBy_3 : decode cX7_raiseBy 3 = .ok (.bipush 8, 2) := by decide +kernel
theorem dX7_raiseBy_5 : decode cX7_raiseBy 5 = .ok (.if_icmp .ge 31, 3) := by decide +kernel
theorem dX7_raiseBy_8 : decode cX7_raiseBy 8 = .ok (.aload_n 0, 1) := by decide +kernel
theorem dX7_raiseBy_9 : decode cX7_raiseBy 9 = .ok (.getfield 9, 3) := by decide +kernel
theorem dX7_raiseBy_12 : decode cX7_raiseBy 12 = .ok (.iload_n 2, 1) := by decide +kernel
theorem dX7_raiseBy_13 : decode cX7_raiseBy 13 = .ok (.aload_n 0, 1) := by decide +kernel
theorem dX7_raiseBy_14 : decode cX7_raiseBy 14 = .ok (.getfield 23, 3) := by decide +kernel
theorem dX7_raiseBy_17 : decode cX7_raiseBy 17 = .ok (.aload_n 0, 1) := by decide +kernel
theorem dX7_raiseBy_18 : decode cX7_raiseBy 18 = .ok (.getfield 9, 3) := by decide +kernel
theorem dX7_raiseBy_21 : decode cX7_raiseBy 21 = .ok (.iload_n 2, 1) := by decide +kernel
theorem dX7_raiseBy_22 : decode cX7_raiseBy 22 = .ok (.iaload, 1) := by decide +kernel
theorem dX7_raiseBy_23 : decode cX7_raiseBy 23 = .ok (.aload_n 1, 1) := by decide +kernel
theorem dX7_raiseBy_24 : decode cX7_raiseBy 24 = .ok (.iload_n 2, 1) := by decide +kernel
theorem dX7_raiseBy_25 : decode cX7_raiseBy 25 = .ok (.iaload, 1) := by decide +kernel
theorem dX7_raiseBy_26 : decode cX7_raiseBy 26 = .ok (.invokevirtual 74, 3) := by decide +kernel
theorem dX7_raiseBy_29 : decode cX7_raiseBy 29 = .ok (.iastore, 1) := by decide +kernel
theorem dX7_raiseBy_30 : decode cX7_raiseBy 30 = .ok (.iinc 2 1, 3) := by decide +kernel
theorem dX7_raiseBy_33 : decode cX7_raiseBy 33 = .ok (.goto (-31), 3) := by decide +kernel
theorem dX7_raiseBy_36 : decode cX7_raiseBy 36 = .ok (.return_, 1) := by decide +kernel
theorem dX7_areLabels_0 : decode cX7_areLabels 0 = .ok (.iconst 0, 1) := by decide +kernel
theorem dX7_areLabels_1 : decode cX7_areLabels 1 = .ok (.istore_n 2, 1) := by decide +kernel
theorem dX7_areLabels_2 : decode cX7_areLabels 2 = .ok (.iload_n 2, 1) := by decide +kernel
theorem dX7_areLabels_3 : decode cX7_areLabels 3 = .ok (.bipush 8, 2) := by decide +kernel
theorem dX7_areLabels_5 : decode cX7_areLabels 5 = .ok (.if_icmp .ge 23, 3) := by decide +kernel
theorem dX7_areLabels_8 : decode cX7_areLabels 8 = .ok (.aload_n 0, 1) := by decide +kernel
theorem dX7_areLabels_9 : decode cX7_areLabels 9 = .ok (.getfield 9, 3) := by decide +kernel
theorem dX7_areLabels_12 : decode cX7_areLabels 12 = .ok (.iload_n 2, 1) := by decide +kernel
theorem dX7_areLabels_13 : decode cX7_areLabels 13 = .ok (.iaload, 1) := by decide +kernel
theorem dX7_areLabels_14 : decode cX7_areLabels 14 = .ok (.aload_n 1, 1) := by decide +kernel
theorem dX7_areLabels_15 : decode cX7_areLabels 15 = .ok (.iload_n 2, 1) := by decide +kernel
theorem dX7_areLabels_16 : decode cX7_areLabels 16 = .ok (.iaload, 1) := by decide +kernel
theorem dX7_areLabels_17 : decode cX7_areLabels 17 = .ok (.if_icmp .eq 5, 3) := by decide +kernel
theorem dX7_areLabels_20 : decode cX7_areLabels 20 = .ok (.iconst 0, 1) := by decide +kernel
theorem dX7_areLabels_21 : decode cX7_areLabels 21 = .ok (.ireturn, 1) := by decide +kernel
theorem dX7_areLabels_22 : decode cX7_areLabels 22 = .ok (.iinc 2 1, 3) := by decide +kernel
theorem dX7_areLabels_25 : decode cX7_areLabels 25 = .ok (.goto (-23), 3) := by decide +kernel
theorem dX7_areLabels_28 : decode cX7_areLabels 28 = .ok (.iconst 1, 1) := by decide +kernel
theorem dX7_areLabels_29 : decode cX7_areLabels 29 = .ok (.ireturn, 1) := by decide +kernel
theorem dX7_labelOf_0 : decode cX7_labelOf 0 = .ok (.aload_n 1, 1) := by decide +kernel
theorem dX7_labelOf_1 : decode cX7_labelOf 1 = .ok (.ifnull 9, 3) := by decide +kernel
theorem dX7_labelOf_4 : decode cX7_labelOf 4 = .ok (.iload_n 2, 1) := by decide +kernel
theorem dX7_labelOf_5 : decode cX7_labelOf 5 = .ok (.bipush 6, 2) := by decide +kernel
theorem dX7_labelOf_7 : decode cX7_labelOf 7 = .ok (.if_icmp .le 11, 3) := by decide +kernel
theorem dX7_labelOf_10 : decode cX7_labelOf 10 = .ok (.aload_n 0, 1) := by decide +kernel
theorem dX7_labelOf_11 : decode cX7_labelOf 11 = .ok (.getfield 23, 3) := by decide +kernel
theorem dX7_labelOf_14 : decode cX7_labelOf 14 = .ok (.invokevirtual 33, 3) := by decide +kernel
theorem dX7_labelOf_17 : decode cX7_labelOf 17 = .ok (.ireturn, 1) := by decide +kernel
theorem dX7_labelOf_18 : decode cX7_labelOf 18 = .ok (.aload_n 1, 1) := by decide +kernel
theorem dX7_labelOf_19 : decode cX7_labelOf 19 = .ok (.getfield 51, 3) := by decide +kernel
theorem dX7_labelOf_22 : decode cX7_labelOf 22 = .ok (.iconst 1, 1) := by decide +kernel
theorem dX7_labelOf_23 : decode cX7_labelOf 23 = .ok (.if_icmp .ne 23, 3) := by decide +kernel
theorem dX7_labelOf_26 : decode cX7_labelOf 26 = .ok (.aload_n 1, 1) := by decide +kernel
theorem dX7_labelOf_27 : decode cX7_labelOf 27 = .ok (.getfield 63, 3) := by decide +kernel
theorem dX7_labelOf_30 : decode cX7_labelOf 30 = .ok (.invokestatic 47, 3) := by decide +kernel
theorem dX7_labelOf_33 : decode cX7_labelOf 33 = .ok (.ifCond .eq 13, 3) := by decide +kernel
theorem dX7_labelOf_36 : decode cX7_labelOf 36 = .ok (.aload_n 0, 1) := by decide +kernel
theorem dX7_labelOf_37 : decode cX7_labelOf 37 = .ok (.getfield 9, 3) := by decide +kernel
theorem dX7_labelOf_40 : decode cX7_labelOf 40 = .ok (.aload_n 1, 1) := by decide +kernel
theorem dX7_labelOf_41 : decode cX7_labelOf 41 = .ok (.getfield 63, 3) := by decide +kernel
theorem dX7_labelOf_44 : decode cX7_labelOf 44 = .ok (.iaload, 1) := by decide +kernel
theorem dX7_labelOf_45 : decode cX7_labelOf 45 = .ok (.ireturn, 1) := by decide +kernel
theorem dX7_labelOf_46 : decode cX7_labelOf 46 = .ok (.aload_n 1, 1) := by decide +kernel
theorem dX7_labelOf_47 : decode cX7_labelOf 47 = .ok (.getfield 51, 3) := by decide +kernel
theorem dX7_labelOf_50 : decode cX7_labelOf 50 = .ok (.iconst 2, 1) := by decide +kernel
theorem dX7_labelOf_51 : decode cX7_labelOf 51 = .ok (.if_icmp .ne 33, 3) := by decide +kernel
theorem dX7_labelOf_54 : decode cX7_labelOf 54 = .ok (.aload_n 0, 1) := by decide +kernel
theorem dX7_labelOf_55 : decode cX7_labelOf 55 = .ok (.getfield 23, 3) := by decide +kernel
theorem dX7_labelOf_58 : decode cX7_labelOf 58 = .ok (.aload_n 0, 1) := by decide +kernel
theorem dX7_labelOf_59 : decode cX7_labelOf 59 = .ok (.aload_n 1, 1) := by decide +kernel
theorem dX7_labelOf_60 : decode cX7_labelOf 60 = .ok (.getfield 81, 3) := by decide +kernel
theorem dX7_labelOf_63 : decode cX7_labelOf 63 = .ok (.iload_n 2, 1) := by decide +kernel
theorem dX7_labelOf_64 : decode cX7_labelOf 64 = .ok (.iconst 1, 1) := by decide +kernel
theorem dX7_labelOf_65 : decode cX7_labelOf 65 = .ok (.iadd, 1) := by decide +kernel
theorem dX7_labelOf_66 : decode cX7_labelOf 66 = .ok (.invokevirtual 70, 3) := by decide +kernel
theorem dX7_labelOf_69 : decode cX7_labelOf 69 = .ok (.aload_n 0, 1) := by decide +kernel
theorem dX7_labelOf_70 : decode cX7_labelOf 70 = .ok (.aload_n 1, 1) := by decide +kernel
theorem dX7_labelOf_71 : decode cX7_labelOf 71 = .ok (.getfield 84, 3) := by decide +kernel
theorem dX7_labelOf_74 : decode cX7_labelOf 74 = .ok (.iload_n 2, 1) := by decide +kernel
theorem dX7_labelOf_75 : decode cX7_labelOf 75 = .ok (.iconst 1, 1) := by decide +kernel
theorem dX7_labelOf_76 : decode cX7_labelOf 76 = .ok (.iadd, 1) := by decide +kernel
theorem dX7_labelOf_77 : decode cX7_labelOf 77 = .ok (.invokevirtual 70, 3) := by decide +kernel
theorem dX7_labelOf_80 : decode cX7_labelOf 80 = .ok (.invokevirtual 74, 3) := by decide +kernel
theorem dX7_labelOf_83 : decode cX7_labelOf 83 = .ok (.ireturn, 1) := by decide +kernel
theorem dX7_labelOf_84 : decode cX7_labelOf 84 = .ok (.aload_n 0, 1) := by decide +kernel
theorem dX7_labelOf_85 : decode cX7_labelOf 85 = .ok (.getfield 23, 3) := by decide +kernel
theorem dX7_labelOf_88 : decode cX7_labelOf 88 = .ok (.invokevirtual 33, 3) := by decide +kernel
theorem dX7_labelOf_91 : decode cX7_labelOf 91 = .ok (.ireturn, 1) := by decide +kernel
theorem dX8_init_0 : decode cX8_init 0 = .ok (.aload_n 0, 1) := by decide +kernel
theorem dX8_init_1 : decode cX8_init 1 = .ok (.invokespecial 3, 3) := by decide +kernel
theorem dX8_init_4 : decode cX8_init 4 = .ok (.aload_n 0, 1) := by decide +kernel
theorem dX8_init_5 : decode cX8_init 5 = .ok (.bipush 72, 2) := by decide +kernel
theorem dX8_init_7 : decode cX8_init 7 = .ok (.newarray .int, 2) := by decide +kernel
theorem dX8_init_9 : decode cX8_init 9 = .ok (.putfield 9, 3) := by decide +kernel
theorem dX8_init_12 : decode cX8_init 12 = .ok (.aload_n 0, 1) := by decide +kernel
theorem dX8_init_13 : decode cX8_init 13 = .ok (.iconst 0, 1) := by decide +kernel
theorem dX8_init_14 : decode cX8_init 14 = .ok (.putfield 15, 3) := by decide +kernel
theorem dX8_init_17 : decode cX8_init 17 = .ok (.aload_n 0, 1) := by decide +kernel
theorem dX8_init_18 : decode cX8_init 18 = .ok (.iconst 0, 1) := by decide +kernel
theorem dX8_init_19 : decode cX8_init 19 = .ok (.putfield 19, 3) := by decide +kernel
theorem dX8_init_22 : decode cX8_init 22 = .ok (.aload_n 0, 1) := by decide +kernel
theorem dX8_init_23 : decode cX8_init 23 = .ok (.iconst (-1), 1) := by decide +kernel
theorem dX8_init_24 : decode cX8_init 24 = .ok (.putfield 22, 3) := by decide +kernel
theorem dX8_init_27 : decode cX8_init 27 = .ok (.return_, 1) := by decide +kernel
theorem dX8_append_0 : decode cX8_append 0 = .ok (.iconst 0, 1) := by decide +kernel
theorem dX8_append_1 : decode cX8_append 1 = .ok (.istore_n 3, 1) := by decide +kernel
theorem dX8_append_2 : decode cX8_append 2 = .ok (.bipush 56, 2) := by decide +kernel
theorem dX8_append_4 : decode cX8_append 4 = .ok (.istore 4, 2) := by decide +kernel
theorem dX8_append_6 : decode cX8_append 6 = .ok (.iload 4, 2) := by decide +kernel
theorem dX8_append_8 : decode cX8_append 8 = .ok (.ifCond .lt 54, 3) := by decide +kernel
theorem dX8_append_11 : decode cX8_append 11 = .ok (.lload_n 1, 1) := by decide +kernel
theorem dX8_append_12 : decode cX8_append 12 = .ok (.iload 4, 2) := by decide +kernel
theorem dX8_append_14 : decode cX8_append 14 = .ok (.lushr, 1) := by decide +kernel
theorem dX8_append_15 : decode cX8_append 15 = .ok (.ldc2_w 25, 3) := by decide +kernel
theorem dX8_append_18 : decode cX8_append 18 = .ok (.land, 1) := by decide +kernel
theorem dX8_append_19 : decode cX8_append 19 = .ok (.l2i, 1) := by decide +kernel
theorem dX8_append_20 : decode cX8_append 20 = .ok (.istore 5, 2) := by decide +kernel
theorem dX8_append_22 : decode cX8_append 22 = .ok (.iload 5, 2) := by decide +kernel
theorem dX8_append_24 : decode cX8_append 24 = .ok (.ifCond .eq 19, 3) := by decide +kernel
theorem dX8_append_27 : decode cX8_append 27 = .ok (.iload 5, 2) := by decide +kernel
theorem dX8_append_29 : decode cX8_append 29 = .ok (.bipush 32, 2) := by decide +kernel
theorem dX8_append_31 : decode cX8_append 31 = .ok (.if_icmp .lt 10, 3) := by decide +kernel
theorem dX8_append_34 : decode cX8_append 34 = .ok (.iload 5, 2) := by decide +kernel
theorem dX8_append_36 : decode cX8_append 36 = .ok (.bipush 126, 2) := by decide +kernel
theorem dX8_append_38 : decode cX8_append 38 = .ok (.if_icmp .le 5, 3) := by decide +kernel
theorem dX8_append_41 : decode cX8_append 41 = .ok (.iconst 0, 1) := by decide +kernel
theorem dX8_append_42 : decode cX8_append 42 = .ok (.ireturn, 1) := by decide +kernel
theorem dX8_append_43 : decode cX8_append 43 = .ok (.iload_n 3, 1) := by decide +kernel
theorem dX8_append_44 : decode cX8_append 44 = .ok (.iload 5, 2) := by decide +kernel
theorem dX8_append_46 : decode cX8_append 46 = .ok (.ifCond .ne 7, 3) := by decide +kernel
theorem dX8_append_49 : decode cX8_append 49 = .ok (.iconst 0, 1) := by decide +kernel
theorem dX8_append_50 : decode cX8_append 50 = .ok (.goto 4, 3) := by decide +kernel
theorem dX8_append_53 : decode cX8_append 53 = .ok (.iconst 1, 1) := by decide +kernel
theorem dX8_append_54 : decode cX8_append 54 = .ok (.iadd, 1) := by decide +kernel
theorem dX8_append_55 : decode cX8_append 55 = .ok (.istore_n 3, 1) := by decide +kernel
theorem dX8_append_56 : decode cX8_append 56 = .ok (.iinc 4 (-8), 3) := by decide +kernel
theorem dX8_append_59 : decode cX8_append 59 = .ok (.goto (-53), 3) := by decide +kernel
theorem dX8_append_62 : decode cX8_append 62 = .ok (.iload_n 3, 1) := by decide +kernel
theorem dX8_append_63 : decode cX8_append 63 = .ok (.bipush 72, 2) := by decide +kernel
theorem dX8_append_65 : decode cX8_append 65 = .ok (.aload_n 0, 1) := by decide +kernel
theorem dX8_append_66 : decode cX8_append 66 = .ok (.getfield 15, 3) := by decide +kernel
theorem dX8_append_69 : decode cX8_append 69 = .ok (.isub, 1) := by decide +kernel
theorem dX8_append_70 : decode cX8_append 70 = .ok (.if_icmp .le 5, 3) := by decide +kernel
theorem dX8_append_73 : decode cX8_append 73 = .ok (.iconst 0, 1) := by decide +kernel
theorem dX8_append_74 : decode cX8_append 74 = .ok (.ireturn, 1) := by decide +kernel
theorem dX8_append_75 : decode cX8_append 75 = .ok (.bipush 56, 2) := by decide +kernel
theorem dX8_append_77 : decode cX8_append 77 = .ok (.istore 4, 2) := by decide +kernel
theorem dX8_append_79 : decode cX8_append 79 = .ok (.iload 4, 2) := by decide +kernel
theorem dX8_append_81 : decode cX8_append 81 = .ok (.ifCond .lt 46, 3) := by decide +kernel
theorem dX8_append_84 : decode cX8_append 84 = .ok (.lload_n 1, 1) := by decide +kernel
theorem dX8_append_85 : decode cX8_append 85 = .ok (.iload 4, 2) := by decide +kernel
theorem dX8_append_87 : decode cX8_append 87 = .ok (.lushr, 1) := by decide +kernel
theorem dX8_append_88 : decode cX8_append 88 = .ok (.ldc2_w 25, 3) := by decide +kernel
theorem dX8_append_91 : decode cX8_append 91 = .ok (.land, 1) := by decide +kernel
theorem dX8_append_92 : decode cX8_append 92 = .ok (.l2i, 1) := by decide +kernel
theorem dX8_append_93 : decode cX8_append 93 = .ok (.istore 5, 2) := by decide +kernel
theorem dX8_append_95 : decode cX8_append 95 = .ok (.iload 5, 2) := by decide +kernel
theorem dX8_append_97 : decode cX8_append 97 = .ok (.ifCond .eq 24, 3) := by decide +kernel
theorem dX8_append_100 : decode cX8_append 100 = .ok (.aload_n 0, 1) := by decide +kernel
theorem dX8_append_101 : decode cX8_append 101 = .ok (.getfield 9, 3) := by decide +kernel
theorem dX8_append_104 : decode cX8_append 104 = .ok (.aload_n 0, 1) := by decide +kernel
theorem dX8_append_105 : decode cX8_append 105 = .ok (.getfield 15, 3) := by decide +kernel
theorem dX8_append_108 : decode cX8_append 108 = .ok (.iload 5, 2) := by decide +kernel
theorem dX8_append_110 : decode cX8_append 110 = .ok (.iastore, 1) := by decide +kernel
theorem dX8_append_111 : decode cX8_append 111 = .ok (.aload_n 0, 1) := by decide +kernel
theorem dX8_append_112 : decode cX8_append 112 = .ok (.dup, 1) := by decide +kernel
theorem dX8_append_113 : decode cX8_append 113 = .ok (.getfield 15, 3) := by decide +kernel
theorem dX8_append_116 : decode cX8_append 116 = .ok (.iconst 1, 1) := by decide +kernel
theorem dX8_append_117 : decode cX8_append 117 = .ok (.iadd, 1) := by decide +kernel
theorem dX8_append_118 : decode cX8_append 118 = .ok (.putfield 15, 3) := by decide +kernel
theorem dX8_append_121 : decode cX8_append 121 = .ok (.iinc 4 (-8), 3) := by decide +kernel
theorem dX8_append_124 : decode cX8_append 124 = .ok (.goto (-45), 3) := by decide +kernel
theorem dX8_append_127 : decode cX8_append 127 = .ok (.iconst 1, 1) := by decide +kernel
theorem dX8_append_128 : decode cX8_append 128 = .ok (.ireturn, 1) := by decide +kernel
theorem dX8_takeProgram_0 : decode cX8_takeProgram 0 = .ok (.aload_n 0, 1) := by decide +kernel
theorem dX8_takeProgram_1 : decode cX8_takeProgram 1 = .ok (.iconst 0, 1) := by decide +kernel
theorem dX8_takeProgram_2 : decode cX8_takeProgram 2 = .ok (.putfield 19, 3) := by decide +kernel
theorem dX8_takeProgram_5 : decode cX8_takeProgram 5 = .ok (.aload_n 0, 1) := by decide +kernel
theorem dX8_takeProgram_6 : decode cX8_takeProgram 6 = .ok (.iconst (-1), 1) := by decide +kernel
theorem dX8_takeProgram_7 : decode cX8_takeProgram 7 = .ok (.putfield 22, 3) := by decide +kernel
theorem dX8_takeProgram_10 : decode cX8_takeProgram 10 = .ok (.aload_n 0, 1) := by decide +kernel
theorem dX8_takeProgram_11 : decode cX8_takeProgram 11 = .ok (.iconst 0, 1) := by decide +kernel
theorem dX8_takeProgram_12 : decode cX8_takeProgram 12 = .ok (.invokevirtual 27, 3) := by decide +kernel
theorem dX8_takeProgram_15 : decode cX8_takeProgram 15 = .ok (.astore_n 1, 1) := by decide +kernel
theorem dX8_takeProgram_16 : decode cX8_takeProgram 16 = .ok (.aload_n 0, 1) := by decide +kernel
theorem dX8_takeProgram_17 : decode cX8_takeProgram 17 = .ok (.getfield 22, 3) := by decide +kernel
theorem dX8_takeProgram_20 : decode cX8_takeProgram 20 = .ok (.iconst (-1), 1) := by decide +kernel
theorem dX8_takeProgram_21 : decode cX8_takeProgram 21 = .ok (.if_icmp .ne 22, 3) := by decide +kernel
theorem dX8_takeProgram_24 : decode cX8_takeProgram 24 = .ok (.aload_n 0, 1) := by decide +kernel
theorem dX8_takeProgram_25 : decode cX8_takeProgram 25 = .ok (.getfield 19, 3) := by decide +kernel
theorem dX8_takeProgram_28 : decode cX8_takeProgram 28 = .ok (.aload_n 0, 1) := by decide +kernel
theorem dX8_takeProgram_29 : decode cX8_takeProgram 29 = .ok (.getfield 15, 3) := by decide +kernel
theorem dX8_takeProgram_32 : decode cX8_takeProgram 32 = .ok (.if_icmp .ge 11, 3) := by decide +kernel
theorem dX8_takeProgram_35 : decode cX8_takeProgram 35 = .ok (.aload_n 0, 1) := by decide +kernel
theorem dX8_takeProgram_36 : decode cX8_takeProgram 36 = .ok (.aload_n 0, 1) := by decide +kernel
theorem dX8_takeProgram_37 : decode cX8_takeProgram 37 = .ok (.getfield 19, 3) := by decide +kernel
theorem dX8_takeProgram_40 : decode cX8_takeProgram 40 = .ok (.putfield 22, 3) := by decide +kernel
theorem dX8_takeProgram_43 : decode cX8_takeProgram 43 = .ok (.aload_n 0, 1) := by decide +kernel
theorem dX8_takeProgram_44 : decode cX8_takeProgram 44 = .ok (.iconst 0, 1) := by decide +kernel
theorem dX8_takeProgram_45 : decode cX8_takeProgram 45 = .ok (.putfield 15, 3) := by decide +kernel
theorem dX8_takeProgram_48 : decode cX8_takeProgram 48 = .ok (.aload_n 1, 1) := by decide +kernel
theorem dX8_takeProgram_49 : decode cX8_takeProgram 49 = .ok (.areturn, 1) := by decide +kernel
theorem dX8_error_0 : decode cX8_error 0 = .ok (.aload_n 0, 1) := by decide +kernel
theorem dX8_error_1 : decode cX8_error 1 = .ok (.getfield 22, 3) := by decide +kernel
theorem dX8_error_4 : decode cX8_error 4 = .ok (.ireturn, 1) := by decide +kernel
theorem dX8_current_0 : decode cX8_current 0 = .ok (.aload_n 0, 1) := by decide +kernel
theorem dX8_current_1 : decode cX8_current 1 = .ok (.getfield 19, 3) := by decide +kernel
theorem dX8_current_4 : decode cX8_current 4 = .ok (.aload_n 0, 1) := by decide +kernel
theorem dX8_current_5 : decode cX8_current 5 = .ok (.getfield 15, 3) := by decide +kernel
theorem dX8_current_8 : decode cX8_current 8 = .ok (.if_icmp .ge 15, 3) := by decide +kernel
theorem dX8_current_11 : decode cX8_current 11 = .ok (.aload_n 0, 1) := by decide +kernel
theorem dX8_current_12 : decode cX8_current 12 = .ok (.getfield 9, 3) := by decide +kernel
theorem dX8_current_15 : decode cX8_current 15 = .ok (.aload_n 0, 1) := by decide +kernel
theorem dX8_current_16 : decode cX8_current 16 = .ok (.getfield 19, 3) := by decide +kernel
theorem dX8_current_19 : decode cX8_current 19 = .ok (.iaload, 1) := by decide +kernel
theorem dX8_current_20 : decode cX8_current 20 = .ok (.goto 4, 3) := by decide +kernel
theorem dX8_current_23 : decode cX8_current 23 = .ok (.iconst (-1), 1) := by decide +kernel
theorem dX8_current_24 : decode cX8_current 24 = .ok (.ireturn, 1) := by decide +kernel
theorem dX8_skip_0 : decode cX8_skip 0 = .ok (.aload_n 0, 1) := by decide +kernel
theorem dX8_skip_1 : decode cX8_skip 1 = .ok (.invokevirtual 31, 3) := by decide +kernel
theorem dX8_skip_4 : decode cX8_skip 4 = .ok (.iload_n 1, 1) := by decide +kernel
theorem dX8_skip_5 : decode cX8_skip 5 = .ok (.if_icmp .eq 13, 3) := by decide +kernel
theorem dX8_skip_8 : decode cX8_skip 8 = .ok (.aload_n 0, 1) := by decide +kernel
theorem dX8_skip_9 : decode cX8_skip 9 = .ok (.aload_n 0, 1) := by decide +kernel
theorem dX8_skip_10 : decode cX8_skip 10 = .ok (.getfield 19, 3) := by decide +kernel
theorem dX8_skip_13 : decode cX8_skip 13 = .ok (.putfield 22, 3) := by decide +kernel
theorem dX8_skip_16 : decode cX8_skip 16 = .ok (.iconst 0, 1) := by decide +kernel
theorem dX8_skip_17 : decode cX8_skip 17 = .ok (.ireturn, 1) := by decide +kernel
theorem dX8_skip_18 : decode cX8_skip 18 = .ok (.aload_n 0, 1) := by decide +kernel
theorem dX8_skip_19 : decode cX8_skip 19 = .ok (.dup, 1) := by decide +kernel
theorem dX8_skip_20 : decode cX8_skip 20 = .ok (.getfield 19, 3) := by decide +kernel
theorem dX8_skip_23 : decode cX8_skip 23 = .ok (.iconst 1, 1) := by decide +kernel
theorem dX8_skip_24 : decode cX8_skip 24 = .ok (.iadd, 1) := by decide +kernel
theorem dX8_skip_25 : decode cX8_skip 25 = .ok (.putfield 19, 3) := by decide +kernel
theorem dX8_skip_28 : decode cX8_skip 28 = .ok (.iconst 1, 1) := by decide +kernel
theorem dX8_skip_29 : decode cX8_skip 29 = .ok (.ireturn, 1) := by decide +kernel
theorem dX8_open_0 : decode cX8_open 0 = .ok (.iload_n 2, 1) := by decide +kernel
theorem dX8_open_1 : decode cX8_open 1 = .ok (.bipush 6, 2) := by decide +kernel
theorem dX8_open_3 : decode cX8_open 3 = .ok (.if_icmp .gt 11, 3) := by decide +kernel
theorem dX8_open_6 : decode cX8_open 6 = .ok (.aload_n 0, 1) := by decide +kernel
theorem dX8_open_7 : decode cX8_open 7 = .ok (.invokevirtual 31, 3) := by decide +kernel
theorem dX8_open_10 : decode cX8_open 10 = .ok (.iload_n 1, 1) := by decide +kernel
theorem dX8_open_11 : decode cX8_open 11 = .ok (.if_icmp .eq 13, 3) := by decide +kernel
theorem dX8_open_14 : decode cX8_open 14 = .ok (.aload_n 0, 1) := by decide +kernel
theorem dX8_open_15 : decode cX8_open 15 = .ok (.aload_n 0, 1) := by decide +kernel
theorem dX8_open_16 : decode cX8_open 16 = .ok (.getfield 19, 3) := by decide +kernel
theorem dX8_open_19 : decode cX8_open 19 = .ok (.putfield 22, 3) := by decide +kernel
theorem dX8_open_22 : decode cX8_open 22 = .ok (.iconst 0, 1) := by decide +kernel
theorem dX8_open_23 : decode cX8_open 23 = .ok (.ireturn, 1) := by decide +kernel
theorem dX8_open_24 : decode cX8_open 24 = .ok (.aload_n 0, 1) := by decide +kernel
theorem dX8_open_25 : decode cX8_open 25 = .ok (.dup, 1) := by decide +kernel
theorem dX8_open_26 : decode cX8_open 26 = .ok (.getfield 19, 3) := by decide +kernel
theorem dX8_open_29 : decode cX8_open 29 = .ok (.iconst 1, 1) := by decide +kernel
theorem dX8_open_30 : decode cX8_open 30 = .ok (.iadd, 1) := by decide +kernel
theorem dX8_open_31 : decode cX8_open 31 = .ok (.putfield 19, 3) := by decide +kernel
theorem dX8_open_34 : decode cX8_open 34 = .ok (.iconst 1, 1) := by decide +kernel
theorem dX8_open_35 : decode cX8_open 35 = .ok (.ireturn, 1) := by decide +kernel
theorem dX8_isName_0 : decode cX8_isName 0 = .ok (.iload_n 0, 1) := by decide +kernel
theorem dX8_isName_1 : decode cX8_isName 1 = .ok (.bipush 97, 2) := by decide +kernel
theorem dX8_isName_3 : decode cX8_isName 3 = .ok (.if_icmp .lt 13, 3) := by decide +kernel
theorem dX8_isName_6 : decode cX8_isName 6 = .ok (.iload_n 0, 1) := by decide +kernel
theorem dX8_isName_7 : decode cX8_isName 7 = .ok (.bipush 105, 2) := by decide +kernel
theorem dX8_isName_9 : decode cX8_isName 9 = .ok (.if_icmp .ge 7, 3) := by decide +kernel
theorem dX8_isName_12 : decode cX8_isName 12 = .ok (.iconst 1, 1) := by decide +kernel
theorem dX8_isName_13 : decode cX8_isName 13 = .ok (.goto 4, 3) := by decide +kernel
theorem dX8_isName_16 : decode cX8_isName 16 = .ok (.iconst 0, 1) := by decide +kernel
theorem dX8_isName_17 : decode cX8_isName 17 = .ok (.ireturn, 1) := by decide +kernel
theorem dX8_isDigit_0 : decode cX8_isDigit 0 = .ok (.iload_n 0, 1) := by decide +kernel
theorem dX8_isDigit_1 : decode cX8_isDigit 1 = .ok (.bipush 48, 2) := by decide +kernel
theorem dX8_isDigit_3 : decode cX8_isDigit 3 = .ok (.if_icmp .lt 13, 3) := by decide +kernel
theorem dX8_isDigit_6 : decode cX8_isDigit 6 = .ok (.iload_n 0, 1) := by decide +kernel
theorem dX8_isDigit_7 : decode cX8_isDigit 7 = .ok (.bipush 57, 2) := by decide +kernel
theorem dX8_isDigit_9 : decode cX8_isDigit 9 = .ok (.if_icmp .gt 7, 3) := by decide +kernel
theorem dX8_isDigit_12 : decode cX8_isDigit 12 = .ok (.iconst 1, 1) := by decide +kernel
theorem dX8_isDigit_13 : decode cX8_isDigit 13 = .ok (.goto 4, 3) := by decide +kernel
theorem dX8_isDigit_16 : decode cX8_isDigit 16 = .ok (.iconst 0, 1) := by decide +kernel
theorem dX8_isDigit_17 : decode cX8_isDigit 17 = .ok (.ireturn, 1) := by decide +kernel
theorem dX8_atStatement_0 : decode cX8_atStatement 0 = .ok (.aload_n 0, 1) := by decide +kernel
theorem dX8_atStatement_1 : decode cX8_atStatement 1 = .ok (.invokevirtual 31, 3) := by decide +kernel
theorem dX8_atStatement_4 : decode cX8_atStatement 4 = .ok (.istore_n 1, 1) := by decide +kernel
theorem dX8_atStatement_5 : decode cX8_atStatement 5 = .ok (.iload_n 1, 1) := by decide +kernel
theorem dX8_atStatement_6 : decode cX8_atStatement 6 = .ok (.invokestatic 35, 3) := by decide +kernel
theorem dX8_atStatement_9 : decode cX8_atStatement 9 = .ok (.ifCond .ne 15, 3) := by decide +kernel
theorem dX8_atStatement_12 : decode cX8_atStatement 12 = .ok (.iload_n 1, 1) := by decide +kernel
theorem dX8_atStatement_13 : decode cX8_atStatement 13 = .ok (.bipush 63, 2) := by decide +kernel
theorem dX8_atStatement_15 : decode cX8_atStatement 15 = .ok (.if_icmp .eq 9, 3) := by decide +kernel
theorem dX8_atStatement_18 : decode cX8_atStatement 18 = .ok (.iload_n 1, 1) := by decide +kernel
theorem dX8_atStatement_19 : decode cX8_atStatement 19 = .ok (.bipush 42, 2) := by decide +kernel
theorem dX8_atStatement_21 : decode cX8_atStatement 21 = .ok (.if_icmp .ne 7, 3) := by decide +kernel
theorem dX8_atStatement_24 : decode cX8_atStatement 24 = .ok (.iconst 1, 1) := by decide +kernel
theorem dX8_atStatement_25 : decode cX8_atStatement 25 = .ok (.goto 4, 3) := by decide +kernel
theorem dX8_atStatement_28 : decode cX8_atStatement 28 = .ok (.iconst 0, 1) := by decide +kernel
theorem dX8_atStatement_29 : decode cX8_atStatement 29 = .ok (.ireturn, 1) := by decide +kernel
theorem dX8_readRow_0 : decode cX8_readRow 0 = .ok (.aconst_null, 1) := by decide +kernel
theorem dX8_readRow_1 : decode cX8_readRow 1 = .ok (.astore_n 2, 1) := by decide +kernel
theorem dX8_readRow_2 : decode cX8_readRow 2 = .ok (.aconst_null, 1) := by decide +kernel
theorem dX8_readRow_3 : decode cX8_readRow 3 = .ok (.astore_n 3, 1) := by decide +kernel
theorem dX8_readRow_4 : decode cX8_readRow 4 = .ok (.iconst 0, 1) := by decide +kernel
theorem dX8_readRow_5 : decode cX8_readRow 5 = .ok (.istore 4, 2) := by decide +kernel
theorem dX8_readRow_7 : decode cX8_readRow 7 = .ok (.iload 4, 2) := by decide +kernel
theorem dX8_readRow_9 : decode cX8_readRow 9 = .ok (.bipush 72, 2) := by decide +kernel
theorem dX8_readRow_11 : decode cX8_readRow 11 = .ok (.if_icmp .ge 49, 3) := by decide +kernel
theorem dX8_readRow_14 : decode cX8_readRow 14 = .ok (.aload_n 0, 1) := by decide +kernel
theorem dX8_readRow_15 : decode cX8_readRow 15 = .ok (.invokevirtual 39, 3) := by decide +kernel
theorem dX8_readRow_18 : decode cX8_readRow 18 = .ok (.ifCond .eq 42, 3) := by decide +kernel
theorem dX8_readRow_21 : decode cX8_readRow 21 = .ok (.aload_n 0, 1) := by decide +kernel
theorem dX8_readRow_22 : decode cX8_readRow 22 = .ok (.iload_n 1, 1) := by decide +kernel
theorem dX8_readRow_23 : decode cX8_readRow 23 = .ok (.invokevirtual 43, 3) := by decide +kernel
theorem dX8_readRow_26 : decode cX8_readRow 26 = .ok (.astore 5, 2) := by decide +kernel
theorem dX8_readRow_28 : decode cX8_readRow 28 = .ok (.aload 5, 2) := by decide +kernel
theorem dX8_readRow_30 : decode cX8_readRow 30 = .ok (.ifnonnull 5, 3) := by decide +kernel
theorem dX8_readRow_33 : decode cX8_readRow 33 = .ok (.aconst_null, 1) := by decide +kernel
theorem dX8_readRow_34 : decode cX8_readRow 34 = .ok (.areturn, 1) := by decide +kernel
theorem dX8_readRow_35 : decode cX8_readRow 35 = .ok (.aload_n 3, 1) := by decide +kernel
theorem dX8_readRow_36 : decode cX8_readRow 36 = .ok (.ifnonnull 9, 3) := by decide +kernel
theorem dX8_readRow_39 : decode cX8_readRow 39 = .ok (.aload 5, 2) := by decide +kernel
theorem dX8_readRow_41 : decode cX8_readRow 41 = .ok (.astore_n 2, 1) := by decide +kernel
theorem dX8_readRow_42 : decode cX8_readRow 42 = .ok (.goto 9, 3) := by decide +kernel
theorem dX8_readRow_45 : decode cX8_readRow 45 = .ok (.aload_n 3, 1) := by decide +kernel
theorem dX8_readRow_46 : decode cX8_readRow 46 = .ok (.aload 5, 2) := by decide +kernel
theorem dX8_readRow_48 : decode cX8_readRow 48 = .ok (.putfield 46, 3) := by decide +kernel
theorem dX8_readRow_51 : decode cX8_readRow 51 = .ok (.aload 5, 2) := by decide +kernel
theorem dX8_readRow_53 : decode cX8_readRow 53 = .ok (.astore_n 3, 1) := by decide +kernel
theorem dX8_readRow_54 : decode cX8_readRow 54 = .ok (.iinc 4 1, 3) := by decide +kernel
theorem dX8_readRow_57 : decode cX8_readRow 57 = .ok (.goto (-50), 3) := by decide +kernel
theorem dX8_readRow_60 : decode cX8_readRow 60 = .ok (.aload_n 2, 1) := by decide +kernel
theorem dX8_readRow_61 : decode cX8_readRow 61 = .ok (.areturn, 1) := by decide +kernel
theorem dX8_readStatement_0 : decode cX8_readStatement 0 = .ok (.aload_n 0, 1) := by decide +kernel
theorem dX8_readStatement_1 : decode cX8_readStatement 1 = .ok (.invokevirtual 31, 3) := by decide +kernel
theorem dX8_readStatement_4 : decode cX8_readStatement 4 = .ok (.istore_n 2, 1) := by decide +kernel
theorem dX8_readStatement_5 : decode cX8_readStatement 5 = .ok (.aload_n 0, 1) := by decide +kernel
theorem dX8_readStatement_6 : decode cX8_readStatement 6 = .ok (.dup, 1) := by decide +kernel
theorem dX8_readStatement_7 : decode cX8_readStatement 7 = .ok (.getfield 19, 3) := by decide +kernel
theorem dX8_readStatement_10 : decode cX8_readStatement 10 = .ok (.iconst 1, 1) := by decide +kernel
theorem dX8_readStatement_11 : decode cX8_readStatement 11 = .ok (.iadd, 1) := by decide +kernel
theorem dX8_readStatement_12 : decode cX8_readStatement 12 = .ok (.putfield 19, 3) := by decide +kernel
theorem dX8_readStatement_15 : decode cX8_readStatement 15 = .ok (.iload_n 2, 1) := by decide +kernel
theorem dX8_readStatement_16 : decode cX8_readStatement 16 = .ok (.bipush 63, 2) := by decide +kernel
theorem dX8_readStatement_18 : decode cX8_readStatement 18 = .ok (.if_icmp .ne 9, 3) := by decide +kernel
theorem dX8_readStatement_21 : decode cX8_readStatement 21 = .ok (.aload_n 0, 1) := by decide +kernel
theorem dX8_readStatement_22 : decode cX8_readStatement 22 = .ok (.iload_n 1, 1) := by decide +kernel
theorem dX8_readStatement_23 : decode cX8_readStatement 23 = .ok (.invokevirtual 52, 3) := by decide +kernel
theorem dX8_readStatement_26 : decode cX8_readStatement 26 = .ok (.areturn, 1) := by decide +kernel
theorem dX8_readStatement_27 : decode cX8_readStatement 27 = .ok (.iload_n 2, 1) := by decide +kernel
theorem dX8_readStatement_28 : decode cX8_readStatement 28 = .ok (.bipush 42, 2) := by decide +kernel
theorem dX8_readStatement_30 : decode cX8_readStatement 30 = .ok (.if_icmp .ne 11, 3) := by decide +kernel
theorem dX8_readStatement_33 : decode cX8_readStatement 33 = .ok (.aload_n 0, 1) := by decide +kernel
theorem dX8_readStatement_34 : decode cX8_readStatement 34 = .ok (.iload_n 1, 1) := by decide +kernel
theorem dX8_readStatement_35 : decode cX8_readStatement 35 = .ok (.invokevirtual 55, 3) := by decide +kernel
theorem dX8_readStatement_38 : decode cX8_readStatement 38 = .ok (.goto 12, 3) := by decide +kernel
theorem dX8_readStatement_41 : decode cX8_readStatement 41 = .ok (.aload_n 0, 1) := by decide +kernel
theorem dX8_readStatement_42 : decode cX8_readStatement 42 = .ok (.iload_n 2, 1) := by decide +kernel
theorem dX8_readStatement_43 : decode cX8_readStatement 43 = .ok (.bipush 97, 2) := by decide +kernel
theorem dX8_readStatement_45 : decode cX8_readStatement 45 = .ok (.isub, 1) := by decide +kernel
theorem dX8_readStatement_46 : decode cX8_readStatement 46 = .ok (.iload_n 1, 1) := by decide +kernel
theorem dX8_readStatement_47 : decode cX8_readStatement 47 = .ok (.invokevirtual 58, 3) := by decide +kernel
theorem dX8_readStatement_50 : decode cX8_readStatement 50 = .ok (.areturn, 1) := by decide +kernel
theorem dX8_readAssignment_0 : decode cX8_readAssignment 0 = .ok (.aload_n 0, 1) := by decide +kernel
theorem dX8_readAssignment_1 : decode cX8_readAssignment 1 = .ok (.bipush 61, 2) := by decide +kernel
theorem dX8_readAssignment_3 : decode cX8_readAssignment 3 = .ok (.invokevirtual 62, 3) := by decide +kernel
theorem dX8_readAssignment_6 : decode cX8_readAssignment 6 = .ok (.ifCond .ne 5, 3) := by decide +kernel
theorem dX8_readAssignment_9 : decode cX8_readAssignment 9 = .ok (.aconst_null, 1) := by decide +kernel
theorem dX8_readAssignment_10 : decode cX8_readAssignment 10 = .ok (.areturn, 1) := by decide +kernel
theorem dX8_readAssignment_11 : decode cX8_readAssignment 11 = .ok (.aload_n 0, 1) := by decide +kernel
theorem dX8_readAssignment_12 : decode cX8_readAssignment 12 = .ok (.iload_n 2, 1) := by decide +kernel
theorem dX8_readAssignment_13 : decode cX8_readAssignment 13 = .ok (.invokevirtual 65, 3) := by decide +kernel
theorem dX8_readAssignment_16 : decode cX8_readAssignment 16 = .ok (.astore_n 3, 1) := by decide +kernel
theorem dX8_readAssignment_17 : decode cX8_readAssignment 17 = .ok (.aload_n 3, 1) := by decide +kernel
theorem dX8_readAssignment_18 : decode cX8_readAssignment 18 = .ok (.ifnull 12, 3) := by decide +kernel
theorem dX8_readAssignment_21 : decode cX8_readAssignment 21 = .ok (.aload_n 0, 1) := by decide +kernel
theorem dX8_readAssignment_22 : decode cX8_readAssignment 22 = .ok (.bipush 59, 2) := by decide +kernel
theorem dX8_readAssignment_24 : decode cX8_readAssignment 24 = .ok (.invokevirtual 62, 3) := by decide +kernel
theorem dX8_readAssignment_27 : decode cX8_readAssignment 27 = .ok (.ifCond .ne 5, 3) := by decide +kernel
theorem dX8_readAssignment_30 : decode cX8_readAssignment 30 = .ok (.aconst_null, 1) := by decide +kernel
theorem dX8_readAssignment_31 : decode cX8_readAssignment 31 = .ok (.areturn, 1) := by decide +kernel
theorem dX8_readAssignment_32 : decode cX8_readAssignment 32 = .ok (.new 47, 3) := by decide +kernel
theorem dX8_readAssignment_35 : decode cX8_readAssignment 35 = .ok (.dup, 1) := by decide +kernel
theorem dX8_readAssignment_36 : decode cX8_readAssignment 36 = .ok (.iconst 3, 1) := by decide +kernel
theorem dX8_readAssignment_37 : decode cX8_readAssignment 37 = .ok (.iload_n 1, 1) := by decide +kernel
theorem dX8_readAssignment_38 : decode cX8_readAssignment 38 = .ok (.aload_n 3, 1) := by decide +kernel
theorem dX8_readAssignment_39 : decode cX8_readAssignment 39 = .ok (.aconst_null, 1) := by decide +kernel
theorem dX8_readAssignment_40 : decode cX8_readAssignment 40 = .ok (.aconst_null, 1) := by decide +kernel
theorem dX8_readAssignment_41 : decode cX8_readAssignment 41 = .ok (.invokespecial 68, 3) := by decide +kernel
theorem dX8_readAssignment_44 : decode cX8_readAssignment 44 = .ok (.areturn, 1) := by decide +kernel
theorem dX8_readChoice_0 : decode cX8_readChoice 0 = .ok (.aload_n 0, 1) := by decide +kernel
theorem dX8_readChoice_1 : decode cX8_readChoice 1 = .ok (.iload_n 1, 1) := by decide +kernel
theorem dX8_readChoice_2 : decode cX8_readChoice 2 = .ok (.invokevirtual 65, 3) := by decide +kernel
theorem dX8_readChoice_5 : decode cX8_readChoice 5 = .ok (.astore_n 2, 1) := by decide +kernel
theorem dX8_readChoice_6 : decode cX8_readChoice 6 = .ok (.aload_n 2, 1) := by decide +kernel
theorem dX8_readChoice_7 : decode cX8_readChoice 7 = .ok (.ifnonnull 5, 3) := by decide +kernel
theorem dX8_readChoice_10 : decode cX8_readChoice 10 = .ok (.aconst_null, 1) := by decide +kernel
theorem dX8_readChoice_11 : decode cX8_readChoice 11 = .ok (.areturn, 1) := by decide +kernel
theorem dX8_readChoice_12 : decode cX8_readChoice 12 = .ok (.aload_n 0, 1) := by decide +kernel
theorem dX8_readChoice_13 : decode cX8_readChoice 13 = .ok (.iload_n 1, 1) := by decide +kernel
theorem dX8_readChoice_14 : decode cX8_readChoice 14 = .ok (.iconst 1, 1) := by decide +kernel
theorem dX8_readChoice_15 : decode cX8_readChoice 15 = .ok (.iadd, 1) := by decide +kernel
theorem dX8_readChoice_16 : decode cX8_readChoice 16 = .ok (.invokevirtual 71, 3) := by decide +kernel
theorem dX8_readChoice_19 : decode cX8_readChoice 19 = .ok (.astore_n 3, 1) := by decide +kernel
theorem dX8_readChoice_20 : decode cX8_readChoice 20 = .ok (.aload_n 0, 1) := by decide +kernel
theorem dX8_readChoice_21 : decode cX8_readChoice 21 = .ok (.getfield 22, 3) := by decide +kernel
theorem dX8_readChoice_24 : decode cX8_readChoice 24 = .ok (.iconst (-1), 1) := by decide +kernel
theorem dX8_readChoice_25 : decode cX8_readChoice 25 = .ok (.if_icmp .eq 5, 3) := by decide +kernel
theorem dX8_readChoice_28 : decode cX8_readChoice 28 = .ok (.aconst_null, 1) := by decide +kernel
theorem dX8_readChoice_29 : decode cX8_readChoice 29 = .ok (.areturn, 1) := by decide +kernel
theorem dX8_readChoice_30 : decode cX8_readChoice 30 = .ok (.aload_n 0, 1) := by decide +kernel
theorem dX8_readChoice_31 : decode cX8_readChoice 31 = .ok (.iload_n 1, 1) := by decide +kernel
theorem dX8_readChoice_32 : decode cX8_readChoice 32 = .ok (.iconst 1, 1) := by decide +kernel
theorem dX8_readChoice_33 : decode cX8_readChoice 33 = .ok (.iadd, 1) := by decide +kernel
theorem dX8_readChoice_34 : decode cX8_readChoice 34 = .ok (.invokevirtual 71, 3) := by decide +kernel
theorem dX8_readChoice_37 : decode cX8_readChoice 37 = .ok (.astore 4, 2) := by decide +kernel
theorem dX8_readChoice_39 : decode cX8_readChoice 39 = .ok (.aload_n 0, 1) := by decide +kernel
theorem dX8_readChoice_40 : decode cX8_readChoice 40 = .ok (.getfield 22, 3) := by decide +kernel
theorem dX8_readChoice_43 : decode cX8_readChoice 43 = .ok (.iconst (-1), 1) := by decide +kernel
theorem dX8_readChoice_44 : decode cX8_readChoice 44 = .ok (.if_icmp .ne 19, 3) := by decide +kernel
theorem dX8_readChoice_47 : decode cX8_readChoice 47 = .ok (.new 47, 3) := by decide +kernel
theorem dX8_readChoice_50 : decode cX8_readChoice 50 = .ok (.dup, 1) := by decide +kernel
theorem dX8_readChoice_51 : decode cX8_readChoice 51 = .ok (.iconst 4, 1) := by decide +kernel
theorem dX8_readChoice_52 : decode cX8_readChoice 52 = .ok (.iconst 0, 1) := by decide +kernel
theorem dX8_readChoice_53 : decode cX8_readChoice 53 = .ok (.aload_n 2, 1) := by decide +kernel
theorem dX8_readChoice_54 : decode cX8_readChoice 54 = .ok (.aload_n 3, 1) := by decide +kernel
theorem dX8_readChoice_55 : decode cX8_readChoice 55 = .ok (.aload 4, 2) := by decide +kernel
theorem dX8_readChoice_57 : decode cX8_readChoice 57 = .ok (.invokespecial 68, 3) := by decide +kernel
theorem dX8_readChoice_60 : decode cX8_readChoice 60 = .ok (.goto 4, 3) := by decide +kernel
theorem dX8_readChoice_63 : decode cX8_readChoice 63 = .ok (.aconst_null, 1) := by decide +kernel
theorem dX8_readChoice_64 : decode cX8_readChoice 64 = .ok (.areturn, 1) := by decide +kernel
theorem dX8_readLoop_0 : decode cX8_readLoop 0 = .ok (.aload_n 0, 1) := by decide +kernel
theorem dX8_readLoop_1 : decode cX8_readLoop 1 = .ok (.iload_n 1, 1) := by decide +kernel
theorem dX8_readLoop_2 : decode cX8_readLoop 2 = .ok (.invokevirtual 65, 3) := by decide +kernel
theorem dX8_readLoop_5 : decode cX8_readLoop 5 = .ok (.astore_n 2, 1) := by decide +kernel
theorem dX8_readLoop_6 : decode cX8_readLoop 6 = .ok (.aload_n 2, 1) := by decide +kernel
theorem dX8_readLoop_7 : decode cX8_readLoop 7 = .ok (.ifnonnull 5, 3) := by decide +kernel
theorem dX8_readLoop_10 : decode cX8_readLoop 10 = .ok (.aconst_null, 1) := by decide +kernel
theorem dX8_readLoop_11 : decode cX8_readLoop 11 = .ok (.areturn, 1) := by decide +kernel
theorem dX8_readLoop_12 : decode cX8_readLoop 12 = .ok (.aload_n 0, 1) := by decide +kernel
theorem dX8_readLoop_13 : decode cX8_readLoop 13 = .ok (.iload_n 1, 1) := by decide +kernel
theorem dX8_readLoop_14 : decode cX8_readLoop 14 = .ok (.iconst 1, 1) := by decide +kernel
theorem dX8_readLoop_15 : decode cX8_readLoop 15 = .ok (.iadd, 1) := by decide +kernel
theorem dX8_readLoop_16 : decode cX8_readLoop 16 = .ok (.invokevirtual 71, 3) := by decide +kernel
theorem dX8_readLoop_19 : decode cX8_readLoop 19 = .ok (.astore_n 3, 1) := by decide +kernel
theorem dX8_readLoop_20 : decode cX8_readLoop 20 = .ok (.aload_n 0, 1) := by decide +kernel
theorem dX8_readLoop_21 : decode cX8_readLoop 21 = .ok (.getfield 22, 3) := by decide +kernel
theorem dX8_readLoop_24 : decode cX8_readLoop 24 = .ok (.iconst (-1), 1) := by decide +kernel
theorem dX8_readLoop_25 : decode cX8_readLoop 25 = .ok (.if_icmp .ne 18, 3) := by decide +kernel
theorem dX8_readLoop_28 : decode cX8_readLoop 28 = .ok (.new 47, 3) := by decide +kernel
theorem dX8_readLoop_31 : decode cX8_readLoop 31 = .ok (.dup, 1) := by decide +kernel
theorem dX8_readLoop_32 : decode cX8_readLoop 32 = .ok (.iconst 5, 1) := by decide +kernel
theorem dX8_readLoop_33 : decode cX8_readLoop 33 = .ok (.iconst 0, 1) := by decide +kernel
theorem dX8_readLoop_34 : decode cX8_readLoop 34 = .ok (.aload_n 2, 1) := by decide +kernel
theorem dX8_readLoop_35 : decode cX8_readLoop 35 = .ok (.aload_n 3, 1) := by decide +kernel
theorem dX8_readLoop_36 : decode cX8_readLoop 36 = .ok (.aconst_null, 1) := by decide +kernel
theorem dX8_readLoop_37 : decode cX8_readLoop 37 = .ok (.invokespecial 68, 3) := by decide +kernel
theorem dX8_readLoop_40 : decode cX8_readLoop 40 = .ok (.goto 4, 3) := by decide +kernel
theorem dX8_readLoop_43 : decode cX8_readLoop 43 = .ok (.aconst_null, 1) := by decide +kernel
theorem dX8_readLoop_44 : decode cX8_readLoop 44 = .ok (.areturn, 1) := by decide +kernel
theorem dX8_readBlock_0 : decode cX8_readBlock 0 = .ok (.aload_n 0, 1) := by decide +kernel
theorem dX8_readBlock_1 : decode cX8_readBlock 1 = .ok (.bipush 123, 2) := by decide +kernel
theorem dX8_readBlock_3 : decode cX8_readBlock 3 = .ok (.iload_n 1, 1) := by decide +kernel
theorem dX8_readBlock_4 : decode cX8_readBlock 4 = .ok (.invokevirtual 74, 3) := by decide +kernel
theorem dX8_readBlock_7 : decode cX8_readBlock 7 = .ok (.ifCond .ne 5, 3) := by decide +kernel
theorem dX8_readBlock_10 : decode cX8_readBlock 10 = .ok (.aconst_null, 1) := by decide +kernel
theorem dX8_readBlock_11 : decode cX8_readBlock 11 = .ok (.areturn, 1) := by decide +kernel
theorem dX8_readBlock_12 : decode cX8_readBlock 12 = .ok (.aload_n 0, 1) := by decide +kernel
theorem dX8_readBlock_13 : decode cX8_readBlock 13 = .ok (.iload_n 1, 1) := by decide +kernel
theorem dX8_readBlock_14 : decode cX8_readBlock 14 = .ok (.invokevirtual 27, 3) := by decide +kernel
theorem dX8_readBlock_17 : decode cX8_readBlock 17 = .ok (.astore_n 2, 1) := by decide +kernel
theorem dX8_readBlock_18 : decode cX8_readBlock 18 = .ok (.aload_n 0, 1) := by decide +kernel
theorem dX8_readBlock_19 : decode cX8_readBlock 19 = .ok (.getfield 22, 3) := by decide +kernel
theorem dX8_readBlock_22 : decode cX8_readBlock 22 = .ok (.iconst (-1), 1) := by decide +kernel
theorem dX8_readBlock_23 : decode cX8_readBlock 23 = .ok (.if_icmp .ne 16, 3) := by decide +kernel
theorem dX8_readBlock_26 : decode cX8_readBlock 26 = .ok (.aload_n 0, 1) := by decide +kernel
theorem dX8_readBlock_27 : decode cX8_readBlock 27 = .ok (.bipush 125, 2) := by decide +kernel
theorem dX8_readBlock_29 : decode cX8_readBlock 29 = .ok (.invokevirtual 62, 3) := by decide +kernel
theorem dX8_readBlock_32 : decode cX8_readBlock 32 = .ok (.ifCond .eq 7, 3) := by decide +kernel
theorem dX8_readBlock_35 : decode cX8_readBlock 35 = .ok (.aload_n 2, 1) := by decide +kernel
theorem dX8_readBlock_36 : decode cX8_readBlock 36 = .ok (.goto 4, 3) := by decide +kernel
theorem dX8_readBlock_39 : decode cX8_readBlock 39 = .ok (.aconst_null, 1) := by decide +kernel
theorem dX8_readBlock_40 : decode cX8_readBlock 40 = .ok (.areturn, 1) := by decide +kernel
theorem dX8_readExpression_0 : decode cX8_readExpression 0 = .ok (.aload_n 0, 1) := by decide +kernel
theorem dX8_readExpression_1 : decode cX8_readExpression 1 = .ok (.invokevirtual 31, 3) := by decide +kernel
theorem dX8_readExpression_4 : decode cX8_readExpression 4 = .ok (.istore_n 2, 1) := by decide +kernel
theorem dX8_readExpression_5 : decode cX8_readExpression 5 = .ok (.iload_n 2, 1) := by decide +kernel
theorem dX8_readExpression_6 : decode cX8_readExpression 6 = .ok (.invokestatic 78, 3) := by decide +kernel
theorem dX8_readExpression_9 : decode cX8_readExpression 9 = .ok (.ifCond .eq 8, 3) := by decide +kernel
theorem dX8_readExpression_12 : decode cX8_readExpression 12 = .ok (.aload_n 0, 1) := by decide +kernel
theorem dX8_readExpression_13 : decode cX8_readExpression 13 = .ok (.invokevirtual 81, 3) := by decide +kernel
theorem dX8_readExpression_16 : decode cX8_readExpression 16 = .ok (.areturn, 1) := by decide +kernel
theorem dX8_readExpression_17 : decode cX8_readExpression 17 = .ok (.iload_n 2, 1) := by decide +kernel
theorem dX8_readExpression_18 : decode cX8_readExpression 18 = .ok (.invokestatic 35, 3) := by decide +kernel
theorem dX8_readExpression_21 : decode cX8_readExpression 21 = .ok (.ifCond .eq 29, 3) := by decide +kernel
theorem dX8_readExpression_24 : decode cX8_readExpression 24 = .ok (.aload_n 0, 1) := by decide +kernel
theorem dX8_readExpression_25 : decode cX8_readExpression 25 = .ok (.dup, 1) := by decide +kernel
theorem dX8_readExpression_26 : decode cX8_readExpression 26 = .ok (.getfield 19, 3) := by decide +kernel
theorem dX8_readExpression_29 : decode cX8_readExpression 29 = .ok (.iconst 1, 1) := by decide +kernel
theorem dX8_readExpression_30 : decode cX8_readExpression 30 = .ok (.iadd, 1) := by decide +kernel
theorem dX8_readExpression_31 : decode cX8_readExpression 31 = .ok (.putfield 19, 3) := by decide +kernel
theorem dX8_readExpression_34 : decode cX8_readExpression 34 = .ok (.new 47, 3) := by decide +kernel
theorem dX8_readExpression_37 : decode cX8_readExpression 37 = .ok (.dup, 1) := by decide +kernel
theorem dX8_readExpression_38 : decode cX8_readExpression 38 = .ok (.iconst 1, 1) := by decide +kernel
theorem dX8_readExpression_39 : decode cX8_readExpression 39 = .ok (.iload_n 2, 1) := by decide +kernel
theorem dX8_readExpression_40 : decode cX8_readExpression 40 = .ok (.bipush 97, 2) := by decide +kernel
theorem dX8_readExpression_42 : decode cX8_readExpression 42 = .ok (.isub, 1) := by decide +kernel
theorem dX8_readExpression_43 : decode cX8_readExpression 43 = .ok (.aconst_null, 1) := by decide +kernel
theorem dX8_readExpression_44 : decode cX8_readExpression 44 = .ok (.aconst_null, 1) := by decide +kernel
theorem dX8_readExpression_45 : decode cX8_readExpression 45 = .ok (.aconst_null, 1) := by decide +kernel
theorem dX8_readExpression_46 : decode cX8_readExpression 46 = .ok (.invokespecial 68, 3) := by decide +kernel
theorem dX8_readExpression_49 : decode cX8_readExpression 49 = .ok (.areturn, 1) := by decide +kernel
theorem dX8_readExpression_50 : decode cX8_readExpression 50 = .ok (.aload_n 0, 1) := by decide +kernel
theorem dX8_readExpression_51 : decode cX8_readExpression 51 = .ok (.iload_n 1, 1) := by decide +kernel
theorem dX8_readExpression_52 : decode cX8_readExpression 52 = .ok (.iconst 1, 1) := by decide +kernel
theorem dX8_readExpression_53 : decode cX8_readExpression 53 = .ok (.iadd, 1) := by decide +kernel
theorem dX8_readExpression_54 : decode cX8_readExpression 54 = .ok (.invokevirtual 85, 3) := by decide +kernel
theorem dX8_readExpression_57 : decode cX8_readExpression 57 = .ok (.areturn, 1) := by decide +kernel
theorem dX8_readNumber_0 : decode cX8_readNumber 0 = .ok (.iconst 0, 1) := by decide +kernel
theorem dX8_readNumber_1 : decode cX8_readNumber 1 = .ok (.istore_n 1, 1) := by decide +kernel
theorem dX8_readNumber_2 : decode cX8_readNumber 2 = .ok (.iconst 0, 1) := by decide +kernel
theorem dX8_readNumber_3 : decode cX8_readNumber 3 = .ok (.istore_n 2, 1) := by decide +kernel
theorem dX8_readNumber_4 : decode cX8_readNumber 4 = .ok (.iload_n 2, 1) := by decide +kernel
theorem dX8_readNumber_5 : decode cX8_readNumber 5 = .ok (.iconst 3, 1) := by decide +kernel
theorem dX8_readNumber_6 : decode cX8_readNumber 6 = .ok (.if_icmp .ge 42, 3) := by decide +kernel
theorem dX8_readNumber_9 : decode cX8_readNumber 9 = .ok (.aload_n 0, 1) := by decide +kernel
theorem dX8_readNumber_10 : decode cX8_readNumber 10 = .ok (.invokevirtual 31, 3) := by decide +kernel
theorem dX8_readNumber_13 : decode cX8_readNumber 13 = .ok (.invokestatic 78, 3) := by decide +kernel
theorem dX8_readNumber_16 : decode cX8_readNumber 16 = .ok (.ifCond .eq 32, 3) := by decide +kernel
theorem dX8_readNumber_19 : decode cX8_readNumber 19 = .ok (.iload_n 1, 1) := by decide +kernel
theorem dX8_readNumber_20 : decode cX8_readNumber 20 = .ok (.bipush 10, 2) := by decide +kernel
theorem dX8_readNumber_22 : decode cX8_readNumber 22 = .ok (.imul, 1) := by decide +kernel
theorem dX8_readNumber_23 : decode cX8_readNumber 23 = .ok (.aload_n 0, 1) := by decide +kernel
theorem dX8_readNumber_24 : decode cX8_readNumber 24 = .ok (.invokevirtual 31, 3) := by decide +kernel
theorem dX8_readNumber_27 : decode cX8_readNumber 27 = .ok (.iadd, 1) := by decide +kernel
theorem dX8_readNumber_28 : decode cX8_readNumber 28 = .ok (.bipush 48, 2) := by decide +kernel
theorem dX8_readNumber_30 : decode cX8_readNumber 30 = .ok (.isub, 1) := by decide +kernel
theorem dX8_readNumber_31 : decode cX8_readNumber 31 = .ok (.istore_n 1, 1) := by decide +kernel
theorem dX8_readNumber_32 : decode cX8_readNumber 32 = .ok (.aload_n 0, 1) := by decide +kernel
theorem dX8_readNumber_33 : decode cX8_readNumber 33 = .ok (.dup, 1) := by decide +kernel
theorem dX8_readNumber_34 : decode cX8_readNumber 34 = .ok (.getfield 19, 3) := by decide +kernel
theorem dX8_readNumber_37 : decode cX8_readNumber 37 = .ok (.iconst 1, 1) := by decide +kernel
theorem dX8_readNumber_38 : decode cX8_readNumber 38 = .ok (.iadd, 1) := by decide +kernel
theorem dX8_readNumber_39 : decode cX8_readNumber 39 = .ok (.putfield 19, 3) := by decide +kernel
theorem dX8_readNumber_42 : decode cX8_readNumber 42 = .ok (.iinc 2 1, 3) := by decide +kernel
theorem dX8_readNumber_45 : decode cX8_readNumber 45 = .ok (.goto (-41), 3) := by decide +kernel
theorem dX8_readNumber_48 : decode cX8_readNumber 48 = .ok (.new 47, 3) := by decide +kernel
theorem dX8_readNumber_51 : decode cX8_readNumber 51 = .ok (.dup, 1) := by decide +kernel
theorem dX8_readNumber_52 : decode cX8_readNumber 52 = .ok (.iconst 0, 1) := by decide +kernel
theorem dX8_readNumber_53 : decode cX8_readNumber 53 = .ok (.iload_n 1, 1) := by decide +kernel
theorem dX8_readNumber_54 : decode cX8_readNumber 54 = .ok (.aconst_null, 1) := by decide +kernel
theorem dX8_readNumber_55 : decode cX8_readNumber 55 = .ok (.aconst_null, 1) := by decide +kernel
theorem dX8_readNumber_56 : decode cX8_readNumber 56 = .ok (.aconst_null, 1) := by decide +kernel
theorem dX8_readNumber_57 : decode cX8_readNumber 57 = .ok (.invokespecial 68, 3) := by decide +kernel
theorem dX8_readNumber_60 : decode cX8_readNumber 60 = .ok (.areturn, 1) := by decide +kernel
theorem dX8_readBrackets_0 : decode cX8_readBrackets 0 = .ok (.aload_n 0, 1) := by decide +kernel
theorem dX8_readBrackets_1 : decode cX8_readBrackets 1 = .ok (.bipush 40, 2) := by decide +kernel
theorem dX8_readBrackets_3 : decode cX8_readBrackets 3 = .ok (.iload_n 1, 1) := by decide +kernel
theorem dX8_readBrackets_4 : decode cX8_readBrackets 4 = .ok (.invokevirtual 74, 3) := by decide +kernel
theorem dX8_readBrackets_7 : decode cX8_readBrackets 7 = .ok (.ifCond .ne 5, 3) := by decide +kernel
theorem dX8_readBrackets_10 : decode cX8_readBrackets 10 = .ok (.aconst_null, 1) := by decide +kernel
theorem dX8_readBrackets_11 : decode cX8_readBrackets 11 = .ok (.areturn, 1) := by decide +kernel
theorem dX8_readBrackets_12 : decode cX8_readBrackets 12 = .ok (.aload_n 0, 1) := by decide +kernel
theorem dX8_readBrackets_13 : decode cX8_readBrackets 13 = .ok (.iload_n 1, 1) := by decide +kernel
theorem dX8_readBrackets_14 : decode cX8_readBrackets 14 = .ok (.invokevirtual 65, 3) := by decide +kernel
theorem dX8_readBrackets_17 : decode cX8_readBrackets 17 = .ok (.astore_n 2, 1) := by decide +kernel
theorem dX8_readBrackets_18 : decode cX8_readBrackets 18 = .ok (.aload_n 2, 1) := by decide +kernel
theorem dX8_readBrackets_19 : decode cX8_readBrackets 19 = .ok (.ifnonnull 7, 3) := by decide +kernel
theorem dX8_readBrackets_22 : decode cX8_readBrackets 22 = .ok (.iconst (-1), 1) := by decide +kernel
theorem dX8_readBrackets_23 : decode cX8_readBrackets 23 = .ok (.goto 7, 3) := by decide +kernel
theorem dX8_readBrackets_26 : decode cX8_readBrackets 26 = .ok (.aload_n 0, 1) := by decide +kernel
theorem dX8_readBrackets_27 : decode cX8_readBrackets 27 = .ok (.invokevirtual 88, 3) := by decide +kernel
theorem dX8_readBrackets_30 : decode cX8_readBrackets 30 = .ok (.istore_n 3, 1) := by decide +kernel
theorem dX8_readBrackets_31 : decode cX8_readBrackets 31 = .ok (.iload_n 3, 1) := by decide +kernel
theorem dX8_readBrackets_32 : decode cX8_readBrackets 32 = .ok (.iconst (-1), 1) := by decide +kernel
theorem dX8_readBrackets_33 : decode cX8_readBrackets 33 = .ok (.if_icmp .ne 5, 3) := by decide +kernel
theorem dX8_readBrackets_36 : decode cX8_readBrackets 36 = .ok (.aconst_null, 1) := by decide +kernel
theorem dX8_readBrackets_37 : decode cX8_readBrackets 37 = .ok (.areturn, 1) := by decide +kernel
theorem dX8_readBrackets_38 : decode cX8_readBrackets 38 = .ok (.aload_n 0, 1) := by decide +kernel
theorem dX8_readBrackets_39 : decode cX8_readBrackets 39 = .ok (.iload_n 1, 1) := by decide +kernel
theorem dX8_readBrackets_40 : decode cX8_readBrackets 40 = .ok (.invokevirtual 65, 3) := by decide +kernel
theorem dX8_readBrackets_43 : decode cX8_readBrackets 43 = .ok (.astore 4, 2) := by decide +kernel
theorem dX8_readBrackets_45 : decode cX8_readBrackets 45 = .ok (.aload 4, 2) := by decide +kernel
theorem dX8_readBrackets_47 : decode cX8_readBrackets 47 = .ok (.ifnull 28, 3) := by decide +kernel
theorem dX8_readBrackets_50 : decode cX8_readBrackets 50 = .ok (.aload_n 0, 1) := by decide +kernel
theorem dX8_readBrackets_51 : decode cX8_readBrackets 51 = .ok (.bipush 41, 2) := by decide +kernel
theorem dX8_readBrackets_53 : decode cX8_readBrackets 53 = .ok (.invokevirtual 62, 3) := by decide +kernel
theorem dX8_readBrackets_56 : decode cX8_readBrackets 56 = .ok (.ifCond .eq 19, 3) := by decide +kernel
theorem dX8_readBrackets_59 : decode cX8_readBrackets 59 = .ok (.new 47, 3) := by decide +kernel
theorem dX8_readBrackets_62 : decode cX8_readBrackets 62 = .ok (.dup, 1) := by decide +kernel
theorem dX8_readBrackets_63 : decode cX8_readBrackets 63 = .ok (.iconst 2, 1) := by decide +kernel
theorem dX8_readBrackets_64 : decode cX8_readBrackets 64 = .ok (.iload_n 3, 1) := by decide +kernel
theorem dX8_readBrackets_65 : decode cX8_readBrackets 65 = .ok (.aconst_null, 1) := by decide +kernel
theorem dX8_readBrackets_66 : decode cX8_readBrackets 66 = .ok (.aload_n 2, 1) := by decide +kernel
theorem dX8_readBrackets_67 : decode cX8_readBrackets 67 = .ok (.aload 4, 2) := by decide +kernel
theorem dX8_readBrackets_69 : decode cX8_readBrackets 69 = .ok (.invokespecial 68, 3) := by decide +kernel
theorem dX8_readBrackets_72 : decode cX8_readBrackets 72 = .ok (.goto 4, 3) := by decide +kernel
theorem dX8_readBrackets_75 : decode cX8_readBrackets 75 = .ok (.aconst_null, 1) := by decide +kernel
theorem dX8_readBrackets_76 : decode cX8_readBrackets 76 = .ok (.areturn, 1) := by decide +kernel
theorem dX8_readOperation_0 : decode cX8_readOperation 0 = .ok (.aload_n 0, 1) := by decide +kernel
theorem dX8_readOperation_1 : decode cX8_readOperation 1 = .ok (.invokevirtual 31, 3) := by decide +kernel
theorem dX8_readOperation_4 : decode cX8_readOperation 4 = .ok (.lookupswitch 65 #[(42, 54), (43, 44), (45, 49), (60, 59)], 44) := by decide +kernel
theorem dX8_readOperation_48 : decode cX8_readOperation 48 = .ok (.iconst 3, 1) := by decide +kernel
theorem dX8_readOperation_49 : decode cX8_readOperation 49 = .ok (.istore_n 1, 1) := by decide +kernel
theorem dX8_readOperation_50 : decode cX8_readOperation 50 = .ok (.goto 29, 3) := by decide +kernel
theorem dX8_readOperation_53 : decode cX8_readOperation 53 = .ok (.iconst 4, 1) := by decide +kernel
theorem dX8_readOperation_54 : decode cX8_readOperation 54 = .ok (.istore_n 1, 1) := by decide +kernel
theorem dX8_readOperation_55 : decode cX8_readOperation 55 = .ok (.goto 24, 3) := by decide +kernel
theorem dX8_readOperation_58 : decode cX8_readOperation 58 = .ok (.iconst 5, 1) := by decide +kernel
theorem dX8_readOperation_59 : decode cX8_readOperation 59 = .ok (.istore_n 1, 1) := by decide +kernel
theorem dX8_readOperation_60 : decode cX8_readOperation 60 = .ok (.goto 19, 3) := by decide +kernel
theorem dX8_readOperation_63 : decode cX8_readOperation 63 = .ok (.bipush 6, 2) := by decide +kernel
theorem dX8_readOperation_65 : decode cX8_readOperation 65 = .ok (.istore_n 1, 1) := by decide +kernel
theorem dX8_readOperation_66 : decode cX8_readOperation 66 = .ok (.goto 13, 3) := by decide +kernel
theorem dX8_readOperation_69 : decode cX8_readOperation 69 = .ok (.aload_n 0, 1) := by decide +kernel
theorem dX8_readOperation_70 : decode cX8_readOperation 70 = .ok (.aload_n 0, 1) := by decide +kernel
theorem dX8_readOperation_71 : decode cX8_readOperation 71 = .ok (.getfield 19, 3) := by decide +kernel
theorem dX8_readOperation_74 : decode cX8_readOperation 74 = .ok (.putfield 22, 3) := by decide +kernel
theorem dX8_readOperation_77 : decode cX8_readOperation 77 = .ok (.iconst (-1), 1) := by decide +kernel
theorem dX8_readOperation_78 : decode cX8_readOperation 78 = .ok (.ireturn, 1) := by decide +kernel
theorem dX8_readOperation_79 : decode cX8_readOperation 79 = .ok (.aload_n 0, 1) := by decide +kernel
theorem dX8_readOperation_80 : decode cX8_readOperation 80 = .ok (.dup, 1) := by decide +kernel
theorem dX8_readOperation_81 : decode cX8_readOperation 81 = .ok (.getfield 19, 3) := by decide +kernel
theorem dX8_readOperation_84 : decode cX8_readOperation 84 = .ok (.iconst 1, 1) := by decide +kernel
theorem dX8_readOperation_85 : decode cX8_readOperation 85 = .ok (.iadd, 1) := by decide +kernel
theorem dX8_readOperation_86 : decode cX8_readOperation 86 = .ok (.putfield 19, 3) := by decide +kernel
theorem dX8_readOperation_89 : decode cX8_readOperation 89 = .ok (.iload_n 1, 1) := by decide +kernel
theorem dX8_readOperation_90 : decode cX8_readOperation 90 = .ok (.ireturn, 1) := by decide +kernel
theorem dX9_init_0 : decode cX9_init 0 = .ok (.aload_n 0, 1) := by decide +kernel
theorem dX9_init_1 : decode cX9_init 1 = .ok (.invokespecial 3, 3) := by decide +kernel
theorem dX9_init_4 : decode cX9_init 4 = .ok (.aload_n 0, 1) := by decide +kernel
theorem dX9_init_5 : decode cX9_init 5 = .ok (.new 9, 3) := by decide +kernel
theorem dX9_init_8 : decode cX9_init 8 = .ok (.dup, 1) := by decide +kernel
theorem dX9_init_9 : decode cX9_init 9 = .ok (.invokespecial 11, 3) := by decide +kernel
theorem dX9_init_12 : decode cX9_init 12 = .ok (.putfield 12, 3) := by decide +kernel
theorem dX9_init_15 : decode cX9_init 15 = .ok (.aload_n 0, 1) := by decide +kernel
theorem dX9_init_16 : decode cX9_init 16 = .ok (.new 9, 3) := by decide +kernel
theorem dX9_init_19 : decode cX9_init 19 = .ok (.dup, 1) := by decide +kernel
theorem dX9_init_20 : decode cX9_init 20 = .ok (.invokespecial 11, 3) := by decide +kernel
theorem dX9_init_23 : decode cX9_init 23 = .ok (.putfield 18, 3) := by decide +kernel
theorem dX9_init_26 : decode cX9_init 26 = .ok (.aload_n 0, 1) := by decide +kernel
theorem dX9_init_27 : decode cX9_init 27 = .ok (.bipush 100, 2) := by decide +kernel
theorem dX9_init_29 : decode cX9_init 29 = .ok (.newarray .int, 2) := by decide +kernel
theorem dX9_init_31 : decode cX9_init 31 = .ok (.putfield 21, 3) := by decide +kernel
theorem dX9_init_34 : decode cX9_init 34 = .ok (.aload_n 0, 1) := by decide +kernel
theorem dX9_init_35 : decode cX9_init 35 = .ok (.iconst 0, 1) := by decide +kernel
theorem dX9_init_36 : decode cX9_init 36 = .ok (.putfield 25, 3) := by decide +kernel
theorem dX9_init_39 : decode cX9_init 39 = .ok (.aload_n 0, 1) := by decide +kernel
theorem dX9_init_40 : decode cX9_init 40 = .ok (.aload_n 1, 1) := by decide +kernel
theorem dX9_init_41 : decode cX9_init 41 = .ok (.putfield 29, 3) := by decide +kernel
theorem dX9_init_44 : decode cX9_init 44 = .ok (.aload_n 0, 1) := by decide +kernel
theorem dX9_init_45 : decode cX9_init 45 = .ok (.aload_n 2, 1) := by decide +kernel
theorem dX9_init_46 : decode cX9_init 46 = .ok (.putfield 33, 3) := by decide +kernel
theorem dX9_init_49 : decode cX9_init 49 = .ok (.return_, 1) := by decide +kernel
theorem dX9_workOut_0 : decode cX9_workOut 0 = .ok (.aload_n 0, 1) := by decide +kernel
theorem dX9_workOut_1 : decode cX9_workOut 1 = .ok (.invokevirtual 37, 3) := by decide +kernel
theorem dX9_workOut_4 : decode cX9_workOut 4 = .ok (.iconst 0, 1) := by decide +kernel
theorem dX9_workOut_5 : decode cX9_workOut 5 = .ok (.istore_n 1, 1) := by decide +kernel
theorem dX9_workOut_6 : decode cX9_workOut 6 = .ok (.iload_n 1, 1) := by decide +kernel
theorem dX9_workOut_7 : decode cX9_workOut 7 = .ok (.aload_n 0, 1) := by decide +kernel
theorem dX9_workOut_8 : decode cX9_workOut 8 = .ok (.getfield 29, 3) := by decide +kernel
theorem dX9_workOut_11 : decode cX9_workOut 11 = .ok (.invokevirtual 40, 3) := by decide +kernel
theorem dX9_workOut_14 : decode cX9_workOut 14 = .ok (.if_icmp .ge 48, 3) := by decide +kernel
theorem dX9_workOut_17 : decode cX9_workOut 17 = .ok (.aload_n 0, 1) := by decide +kernel
theorem dX9_workOut_18 : decode cX9_workOut 18 = .ok (.getfield 18, 3) := by decide +kernel
theorem dX9_workOut_21 : decode cX9_workOut 21 = .ok (.iload_n 1, 1) := by decide +kernel
theorem dX9_workOut_22 : decode cX9_workOut 22 = .ok (.iconst 0, 1) := by decide +kernel
theorem dX9_workOut_23 : decode cX9_workOut 23 = .ok (.invokevirtual 46, 3) := by decide +kernel
theorem dX9_workOut_26 : decode cX9_workOut 26 = .ok (.aload_n 0, 1) := by decide +kernel
theorem dX9_workOut_27 : decode cX9_workOut 27 = .ok (.getfield 33, 3) := by decide +kernel
theorem dX9_workOut_30 : decode cX9_workOut 30 = .ok (.iload_n 1, 1) := by decide +kernel
theorem dX9_workOut_31 : decode cX9_workOut 31 = .ok (.invokevirtual 50, 3) := by decide +kernel
theorem dX9_workOut_34 : decode cX9_workOut 34 = .ok (.iconst (-1), 1) := by decide +kernel
theorem dX9_workOut_35 : decode cX9_workOut 35 = .ok (.if_icmp .eq 21, 3) := by decide +kernel
theorem dX9_workOut_38 : decode cX9_workOut 38 = .ok (.aload_n 0, 1) := by decide +kernel
theorem dX9_workOut_39 : decode cX9_workOut 39 = .ok (.getfield 29, 3) := by decide +kernel
theorem dX9_workOut_42 : decode cX9_workOut 42 = .ok (.iload_n 1, 1) := by decide +kernel
theorem dX9_workOut_43 : decode cX9_workOut 43 = .ok (.invokevirtual 56, 3) := by decide +kernel
theorem dX9_workOut_46 : decode cX9_workOut 46 = .ok (.bipush 7, 2) := by decide +kernel
theorem dX9_workOut_48 : decode cX9_workOut 48 = .ok (.if_icmp .ne 8, 3) := by decide +kernel
theorem dX9_workOut_51 : decode cX9_workOut 51 = .ok (.aload_n 0, 1) := by decide +kernel
theorem dX9_workOut_52 : decode cX9_workOut 52 = .ok (.iload_n 1, 1) := by decide +kernel
theorem dX9_workOut_53 : decode cX9_workOut 53 = .ok (.invokevirtual 59, 3) := by decide +kernel
theorem dX9_workOut_56 : decode cX9_workOut 56 = .ok (.iinc 1 1, 3) := by decide +kernel
theorem dX9_workOut_59 : decode cX9_workOut 59 = .ok (.goto (-53), 3) := by decide +kernel
theorem dX9_workOut_62 : decode cX9_workOut 62 = .ok (.return_, 1) := by decide +kernel
theorem dX9_has_0 : decode cX9_has 0 = .ok (.aload_n 0, 1) := by decide +kernel
theorem dX9_has_1 : decode cX9_has 1 = .ok (.getfield 18, 3) := by decide +kernel
end
section
theorem dX9_has_4 : decode cX9_has 4 = .ok (.iload_n 1, 1) := by decide +kernel
theorem dX9_has_5 : decode cX9_has 5 = .ok (.iload_n 2, 1) := by decide +kernel
theorem dX9_has_6 : decode cX9_has 6 = .ok (.invokevirtual 63, 3) := by decide +kernel
theorem dX9_has_9 : decode cX9_has 9 = .ok (.ireturn, 1) := by decide +kernel
theorem dX9_findPassed_0 : decode cX9_findPassed 0 = .ok (.iconst 0, 1) := by decide +kernel
theorem dX9_findPassed_1 : decode cX9_findPassed 1 = .ok (.istore_n 1, 1) := by decide +kernel
theorem dX9_findPassed_2 : decode cX9_findPassed 2 = .ok (.iload_n 1, 1) := by decide +kernel
theorem dX9_findPassed_3 : decode cX9_findPassed 3 = .ok (.aload_n 0, 1) := by decide +kernel
theorem dX9_findPassed_4 : decode cX9_findPassed 4 = .ok (.getfield 29, 3) := by decide +kernel
theorem dX9_findPassed_7 : decode cX9_findPassed 7 = .ok (.invokevirtual 40, 3) := by decide +kernel
theorem dX9_findPassed_10 : decode cX9_findPassed 10 = .ok (.if_icmp .ge 54, 3) := by decide +kernel
theorem dX9_findPassed_13 : decode cX9_findPassed 13 = .ok (.aload_n 0, 1) := by decide +kernel
theorem dX9_findPassed_14 : decode cX9_findPassed 14 = .ok (.getfield 29, 3) := by decide +kernel
theorem dX9_findPassed_17 : decode cX9_findPassed 17 = .ok (.iload_n 1, 1) := by decide +kernel
theorem dX9_findPassed_18 : decode cX9_findPassed 18 = .ok (.invokevirtual 56, 3) := by decide +kernel
theorem dX9_findPassed_21 : decode cX9_findPassed 21 = .ok (.bipush 9, 2) := by decide +kernel
theorem dX9_findPassed_23 : decode cX9_findPassed 23 = .ok (.if_icmp .ne 7, 3) := by decide +kernel
theorem dX9_findPassed_26 : decode cX9_findPassed 26 = .ok (.iconst 1, 1) := by decide +kernel
theorem dX9_findPassed_27 : decode cX9_findPassed 27 = .ok (.goto 4, 3) := by decide +kernel
theorem dX9_findPassed_30 : decode cX9_findPassed 30 = .ok (.iconst 0, 1) := by decide +kernel
theorem dX9_findPassed_31 : decode cX9_findPassed 31 = .ok (.istore_n 2, 1) := by decide +kernel
theorem dX9_findPassed_32 : decode cX9_findPassed 32 = .ok (.aload_n 0, 1) := by decide +kernel
theorem dX9_findPassed_33 : decode cX9_findPassed 33 = .ok (.getfield 12, 3) := by decide +kernel
theorem dX9_findPassed_36 : decode cX9_findPassed 36 = .ok (.iload_n 1, 1) := by decide +kernel
theorem dX9_findPassed_37 : decode cX9_findPassed 37 = .ok (.iload_n 2, 1) := by decide +kernel
theorem dX9_findPassed_38 : decode cX9_findPassed 38 = .ok (.ifCond .ne 7, 3) := by decide +kernel
theorem dX9_findPassed_41 : decode cX9_findPassed 41 = .ok (.iconst 1, 1) := by decide +kernel
theorem dX9_findPassed_42 : decode cX9_findPassed 42 = .ok (.goto 4, 3) := by decide +kernel
theorem dX9_findPassed_45 : decode cX9_findPassed 45 = .ok (.iconst 0, 1) := by decide +kernel
theorem dX9_findPassed_46 : decode cX9_findPassed 46 = .ok (.invokevirtual 46, 3) := by decide +kernel
theorem dX9_findPassed_49 : decode cX9_findPassed 49 = .ok (.aload_n 0, 1) := by decide +kernel
theorem dX9_findPassed_50 : decode cX9_findPassed 50 = .ok (.getfield 12, 3) := by decide +kernel
theorem dX9_findPassed_53 : decode cX9_findPassed 53 = .ok (.iload_n 1, 1) := by decide +kernel
theorem dX9_findPassed_54 : decode cX9_findPassed 54 = .ok (.iload_n 1, 1) := by decide +kernel
theorem dX9_findPassed_55 : decode cX9_findPassed 55 = .ok (.invokevirtual 67, 3) := by decide +kernel
theorem dX9_findPassed_58 : decode cX9_findPassed 58 = .ok (.iinc 1 1, 3) := by decide +kernel
theorem dX9_findPassed_61 : decode cX9_findPassed 61 = .ok (.goto (-59), 3) := by decide +kernel
theorem dX9_findPassed_64 : decode cX9_findPassed 64 = .ok (.iconst 1, 1) := by decide +kernel
theorem dX9_findPassed_65 : decode cX9_findPassed 65 = .ok (.istore_n 1, 1) := by decide +kernel
theorem dX9_findPassed_66 : decode cX9_findPassed 66 = .ok (.iconst 0, 1) := by decide +kernel
theorem dX9_findPassed_67 : decode cX9_findPassed 67 = .ok (.istore_n 2, 1) := by decide +kernel
theorem dX9_findPassed_68 : decode cX9_findPassed 68 = .ok (.iload_n 2, 1) := by decide +kernel
theorem dX9_findPassed_69 : decode cX9_findPassed 69 = .ok (.ldc 71, 2) := by decide +kernel
theorem dX9_findPassed_71 : decode cX9_findPassed 71 = .ok (.if_icmp .ge 18, 3) := by decide +kernel
theorem dX9_findPassed_74 : decode cX9_findPassed 74 = .ok (.iload_n 1, 1) := by decide +kernel
theorem dX9_findPassed_75 : decode cX9_findPassed 75 = .ok (.ifCond .eq 14, 3) := by decide +kernel
theorem dX9_findPassed_78 : decode cX9_findPassed 78 = .ok (.aload_n 0, 1) := by decide +kernel
theorem dX9_findPassed_79 : decode cX9_findPassed 79 = .ok (.invokevirtual 72, 3) := by decide +kernel
theorem dX9_findPassed_82 : decode cX9_findPassed 82 = .ok (.istore_n 1, 1) := by decide +kernel
theorem dX9_findPassed_83 : decode cX9_findPassed 83 = .ok (.iinc 2 1, 3) := by decide +kernel
theorem dX9_findPassed_86 : decode cX9_findPassed 86 = .ok (.goto (-18), 3) := by decide +kernel
theorem dX9_findPassed_89 : decode cX9_findPassed 89 = .ok (.return_, 1) := by decide +kernel
theorem dX9_narrowAll_0 : decode cX9_narrowAll 0 = .ok (.iconst 0, 1) := by decide +kernel
theorem dX9_narrowAll_1 : decode cX9_narrowAll 1 = .ok (.istore_n 1, 1) := by decide +kernel
theorem dX9_narrowAll_2 : decode cX9_narrowAll 2 = .ok (.aload_n 0, 1) := by decide +kernel
theorem dX9_narrowAll_3 : decode cX9_narrowAll 3 = .ok (.getfield 29, 3) := by decide +kernel
theorem dX9_narrowAll_6 : decode cX9_narrowAll 6 = .ok (.invokevirtual 40, 3) := by decide +kernel
theorem dX9_narrowAll_9 : decode cX9_narrowAll 9 = .ok (.iconst 1, 1) := by decide +kernel
theorem dX9_narrowAll_10 : decode cX9_narrowAll 10 = .ok (.isub, 1) := by decide +kernel
theorem dX9_narrowAll_11 : decode cX9_narrowAll 11 = .ok (.istore_n 2, 1) := by decide +kernel
theorem dX9_narrowAll_12 : decode cX9_narrowAll 12 = .ok (.iload_n 2, 1) := by decide +kernel
theorem dX9_narrowAll_13 : decode cX9_narrowAll 13 = .ok (.ifCond .lt 61, 3) := by decide +kernel
theorem dX9_narrowAll_16 : decode cX9_narrowAll 16 = .ok (.aload_n 0, 1) := by decide +kernel
theorem dX9_narrowAll_17 : decode cX9_narrowAll 17 = .ok (.getfield 33, 3) := by decide +kernel
theorem dX9_narrowAll_20 : decode cX9_narrowAll 20 = .ok (.iload_n 2, 1) := by decide +kernel
theorem dX9_narrowAll_21 : decode cX9_narrowAll 21 = .ok (.invokevirtual 50, 3) := by decide +kernel
theorem dX9_narrowAll_24 : decode cX9_narrowAll 24 = .ok (.iconst (-1), 1) := by decide +kernel
theorem dX9_narrowAll_25 : decode cX9_narrowAll 25 = .ok (.if_icmp .eq 43, 3) := by decide +kernel
theorem dX9_narrowAll_28 : decode cX9_narrowAll 28 = .ok (.iload_n 1, 1) := by decide +kernel
theorem dX9_narrowAll_29 : decode cX9_narrowAll 29 = .ok (.aload_n 0, 1) := by decide +kernel
theorem dX9_narrowAll_30 : decode cX9_narrowAll 30 = .ok (.getfield 12, 3) := by decide +kernel
theorem dX9_narrowAll_33 : decode cX9_narrowAll 33 = .ok (.iload_n 2, 1) := by decide +kernel
theorem dX9_narrowAll_34 : decode cX9_narrowAll 34 = .ok (.aload_n 0, 1) := by decide +kernel
theorem dX9_narrowAll_35 : decode cX9_narrowAll 35 = .ok (.getfield 29, 3) := by decide +kernel
theorem dX9_narrowAll_38 : decode cX9_narrowAll 38 = .ok (.iload_n 2, 1) := by decide +kernel
theorem dX9_narrowAll_39 : decode cX9_narrowAll 39 = .ok (.iconst 0, 1) := by decide +kernel
theorem dX9_narrowAll_40 : decode cX9_narrowAll 40 = .ok (.invokevirtual 76, 3) := by decide +kernel
theorem dX9_narrowAll_43 : decode cX9_narrowAll 43 = .ok (.invokevirtual 80, 3) := by decide +kernel
theorem dX9_narrowAll_46 : decode cX9_narrowAll 46 = .ok (.ior, 1) := by decide +kernel
theorem dX9_narrowAll_47 : decode cX9_narrowAll 47 = .ok (.istore_n 1, 1) := by decide +kernel
theorem dX9_narrowAll_48 : decode cX9_narrowAll 48 = .ok (.iload_n 1, 1) := by decide +kernel
theorem dX9_narrowAll_49 : decode cX9_narrowAll 49 = .ok (.aload_n 0, 1) := by decide +kernel
theorem dX9_narrowAll_50 : decode cX9_narrowAll 50 = .ok (.getfield 12, 3) := by decide +kernel
theorem dX9_narrowAll_53 : decode cX9_narrowAll 53 = .ok (.iload_n 2, 1) := by decide +kernel
theorem dX9_narrowAll_54 : decode cX9_narrowAll 54 = .ok (.aload_n 0, 1) := by decide +kernel
theorem dX9_narrowAll_55 : decode cX9_narrowAll 55 = .ok (.getfield 29, 3) := by decide +kernel
theorem dX9_narrowAll_58 : decode cX9_narrowAll 58 = .ok (.iload_n 2, 1) := by decide +kernel
theorem dX9_narrowAll_59 : decode cX9_narrowAll 59 = .ok (.iconst 1, 1) := by decide +kernel
theorem dX9_narrowAll_60 : decode cX9_narrowAll 60 = .ok (.invokevirtual 76, 3) := by decide +kernel
theorem dX9_narrowAll_63 : decode cX9_narrowAll 63 = .ok (.invokevirtual 80, 3) := by decide +kernel
theorem dX9_narrowAll_66 : decode cX9_narrowAll 66 = .ok (.ior, 1) := by decide +kernel
theorem dX9_narrowAll_67 : decode cX9_narrowAll 67 = .ok (.istore_n 1, 1) := by decide +kernel
theorem dX9_narrowAll_68 : decode cX9_narrowAll 68 = .ok (.iinc 2 (-1), 3) := by decide +kernel
theorem dX9_narrowAll_71 : decode cX9_narrowAll 71 = .ok (.goto (-59), 3) := by decide +kernel
theorem dX9_narrowAll_74 : decode cX9_narrowAll 74 = .ok (.iload_n 1, 1) := by decide +kernel
theorem dX9_narrowAll_75 : decode cX9_narrowAll 75 = .ok (.ireturn, 1) := by decide +kernel
theorem dX9_collect_0 : decode cX9_collect 0 = .ok (.aload_n 0, 1) := by decide +kernel
theorem dX9_collect_1 : decode cX9_collect 1 = .ok (.iconst 0, 1) := by decide +kernel
theorem dX9_collect_2 : decode cX9_collect 2 = .ok (.putfield 25, 3) := by decide +kernel
theorem dX9_collect_5 : decode cX9_collect 5 = .ok (.aload_n 0, 1) := by decide +kernel
theorem dX9_collect_6 : decode cX9_collect 6 = .ok (.iload_n 1, 1) := by decide +kernel
theorem dX9_collect_7 : decode cX9_collect 7 = .ok (.iload_n 1, 1) := by decide +kernel
theorem dX9_collect_8 : decode cX9_collect 8 = .ok (.invokevirtual 83, 3) := by decide +kernel
theorem dX9_collect_11 : decode cX9_collect 11 = .ok (.iconst 0, 1) := by decide +kernel
theorem dX9_collect_12 : decode cX9_collect 12 = .ok (.istore_n 2, 1) := by decide +kernel
theorem dX9_collect_13 : decode cX9_collect 13 = .ok (.iload_n 2, 1) := by decide +kernel
theorem dX9_collect_14 : decode cX9_collect 14 = .ok (.bipush 100, 2) := by decide +kernel
theorem dX9_collect_16 : decode cX9_collect 16 = .ok (.if_icmp .ge 28, 3) := by decide +kernel
theorem dX9_collect_19 : decode cX9_collect 19 = .ok (.iload_n 2, 1) := by decide +kernel
theorem dX9_collect_20 : decode cX9_collect 20 = .ok (.aload_n 0, 1) := by decide +kernel
theorem dX9_collect_21 : decode cX9_collect 21 = .ok (.getfield 25, 3) := by decide +kernel
theorem dX9_collect_24 : decode cX9_collect 24 = .ok (.if_icmp .ge 20, 3) := by decide +kernel
theorem dX9_collect_27 : decode cX9_collect 27 = .ok (.aload_n 0, 1) := by decide +kernel
theorem dX9_collect_28 : decode cX9_collect 28 = .ok (.iload_n 1, 1) := by decide +kernel
theorem dX9_collect_29 : decode cX9_collect 29 = .ok (.aload_n 0, 1) := by decide +kernel
theorem dX9_collect_30 : decode cX9_collect 30 = .ok (.getfield 21, 3) := by decide +kernel
theorem dX9_collect_33 : decode cX9_collect 33 = .ok (.iload_n 2, 1) := by decide +kernel
theorem dX9_collect_34 : decode cX9_collect 34 = .ok (.iaload, 1) := by decide +kernel
theorem dX9_collect_35 : decode cX9_collect 35 = .ok (.invokevirtual 83, 3) := by decide +kernel
theorem dX9_collect_38 : decode cX9_collect 38 = .ok (.iinc 2 1, 3) := by decide +kernel
theorem dX9_collect_41 : decode cX9_collect 41 = .ok (.goto (-28), 3) := by decide +kernel
theorem dX9_collect_44 : decode cX9_collect 44 = .ok (.return_, 1) := by decide +kernel
theorem dX9_visitNext_0 : decode cX9_visitNext 0 = .ok (.aload_n 0, 1) := by decide +kernel
theorem dX9_visitNext_1 : decode cX9_visitNext 1 = .ok (.iload_n 1, 1) := by decide +kernel
theorem dX9_visitNext_2 : decode cX9_visitNext 2 = .ok (.aload_n 0, 1) := by decide +kernel
theorem dX9_visitNext_3 : decode cX9_visitNext 3 = .ok (.getfield 29, 3) := by decide +kernel
theorem dX9_visitNext_6 : decode cX9_visitNext 6 = .ok (.iload_n 2, 1) := by decide +kernel
theorem dX9_visitNext_7 : decode cX9_visitNext 7 = .ok (.iconst 0, 1) := by decide +kernel
theorem dX9_visitNext_8 : decode cX9_visitNext 8 = .ok (.invokevirtual 76, 3) := by decide +kernel
theorem dX9_visitNext_11 : decode cX9_visitNext 11 = .ok (.invokevirtual 86, 3) := by decide +kernel
theorem dX9_visitNext_14 : decode cX9_visitNext 14 = .ok (.aload_n 0, 1) := by decide +kernel
theorem dX9_visitNext_15 : decode cX9_visitNext 15 = .ok (.iload_n 1, 1) := by decide +kernel
theorem dX9_visitNext_16 : decode cX9_visitNext 16 = .ok (.aload_n 0, 1) := by decide +kernel
theorem dX9_visitNext_17 : decode cX9_visitNext 17 = .ok (.getfield 29, 3) := by decide +kernel
theorem dX9_visitNext_20 : decode cX9_visitNext 20 = .ok (.iload_n 2, 1) := by decide +kernel
theorem dX9_visitNext_21 : decode cX9_visitNext 21 = .ok (.iconst 1, 1) := by decide +kernel
theorem dX9_visitNext_22 : decode cX9_visitNext 22 = .ok (.invokevirtual 76, 3) := by decide +kernel
theorem dX9_visitNext_25 : decode cX9_visitNext 25 = .ok (.invokevirtual 86, 3) := by decide +kernel
theorem dX9_visitNext_28 : decode cX9_visitNext 28 = .ok (.return_, 1) := by decide +kernel
theorem dX9_visit_0 : decode cX9_visit 0 = .ok (.aload_n 0, 1) := by decide +kernel
theorem dX9_visit_1 : decode cX9_visit 1 = .ok (.getfield 29, 3) := by decide +kernel
theorem dX9_visit_4 : decode cX9_visit 4 = .ok (.iload_n 2, 1) := by decide +kernel
theorem dX9_visit_5 : decode cX9_visit 5 = .ok (.invokevirtual 89, 3) := by decide +kernel
theorem dX9_visit_8 : decode cX9_visit 8 = .ok (.ifCond .eq 32, 3) := by decide +kernel
theorem dX9_visit_11 : decode cX9_visit 11 = .ok (.aload_n 0, 1) := by decide +kernel
theorem dX9_visit_12 : decode cX9_visit 12 = .ok (.getfield 18, 3) := by decide +kernel
theorem dX9_visit_15 : decode cX9_visit 15 = .ok (.iload_n 1, 1) := by decide +kernel
theorem dX9_visit_16 : decode cX9_visit 16 = .ok (.iload_n 2, 1) := by decide +kernel
theorem dX9_visit_17 : decode cX9_visit 17 = .ok (.invokevirtual 63, 3) := by decide +kernel
theorem dX9_visit_20 : decode cX9_visit 20 = .ok (.ifCond .ne 20, 3) := by decide +kernel
theorem dX9_visit_23 : decode cX9_visit 23 = .ok (.iload_n 2, 1) := by decide +kernel
theorem dX9_visit_24 : decode cX9_visit 24 = .ok (.iload_n 1, 1) := by decide +kernel
theorem dX9_visit_25 : decode cX9_visit 25 = .ok (.if_icmp .eq 16, 3) := by decide +kernel
theorem dX9_visit_28 : decode cX9_visit 28 = .ok (.aload_n 0, 1) := by decide +kernel
theorem dX9_visit_29 : decode cX9_visit 29 = .ok (.getfield 12, 3) := by decide +kernel
theorem dX9_visit_32 : decode cX9_visit 32 = .ok (.iload_n 1, 1) := by decide +kernel
theorem dX9_visit_33 : decode cX9_visit 33 = .ok (.iload_n 2, 1) := by decide +kernel
theorem dX9_visit_34 : decode cX9_visit 34 = .ok (.invokevirtual 63, 3) := by decide +kernel
theorem dX9_visit_37 : decode cX9_visit 37 = .ok (.ifCond .eq 4, 3) := by decide +kernel
theorem dX9_visit_40 : decode cX9_visit 40 = .ok (.return_, 1) := by decide +kernel
theorem dX9_visit_41 : decode cX9_visit 41 = .ok (.aload_n 0, 1) := by decide +kernel
theorem dX9_visit_42 : decode cX9_visit 42 = .ok (.getfield 18, 3) := by decide +kernel
theorem dX9_visit_45 : decode cX9_visit 45 = .ok (.iload_n 1, 1) := by decide +kernel
theorem dX9_visit_46 : decode cX9_visit 46 = .ok (.iload_n 2, 1) := by decide +kernel
theorem dX9_visit_47 : decode cX9_visit 47 = .ok (.invokevirtual 67, 3) := by decide +kernel
theorem dX9_visit_50 : decode cX9_visit 50 = .ok (.aload_n 0, 1) := by decide +kernel
theorem dX9_visit_51 : decode cX9_visit 51 = .ok (.getfield 25, 3) := by decide +kernel
theorem dX9_visit_54 : decode cX9_visit 54 = .ok (.bipush 100, 2) := by decide +kernel
theorem dX9_visit_56 : decode cX9_visit 56 = .ok (.if_icmp .ge 23, 3) := by decide +kernel
theorem dX9_visit_59 : decode cX9_visit 59 = .ok (.aload_n 0, 1) := by decide +kernel
theorem dX9_visit_60 : decode cX9_visit 60 = .ok (.getfield 21, 3) := by decide +kernel
theorem dX9_visit_63 : decode cX9_visit 63 = .ok (.aload_n 0, 1) := by decide +kernel
theorem dX9_visit_64 : decode cX9_visit 64 = .ok (.getfield 25, 3) := by decide +kernel
theorem dX9_visit_67 : decode cX9_visit 67 = .ok (.iload_n 2, 1) := by decide +kernel
theorem dX9_visit_68 : decode cX9_visit 68 = .ok (.iastore, 1) := by decide +kernel
theorem dX9_visit_69 : decode cX9_visit 69 = .ok (.aload_n 0, 1) := by decide +kernel
theorem dX9_visit_70 : decode cX9_visit 70 = .ok (.dup, 1) := by decide +kernel
theorem dX9_visit_71 : decode cX9_visit 71 = .ok (.getfield 25, 3) := by decide +kernel
theorem dX9_visit_74 : decode cX9_visit 74 = .ok (.iconst 1, 1) := by decide +kernel
theorem dX9_visit_75 : decode cX9_visit 75 = .ok (.iadd, 1) := by decide +kernel
theorem dX9_visit_76 : decode cX9_visit 76 = .ok (.putfield 25, 3) := by decide +kernel
theorem dX9_visit_79 : decode cX9_visit 79 = .ok (.return_, 1) := by decide +kernel
theorem dX10_init_0 : decode cX10_init 0 = .ok (.aload_n 0, 1) := by decide +kernel
theorem dX10_init_1 : decode cX10_init 1 = .ok (.invokespecial 3, 3) := by decide +kernel
theorem dX10_init_4 : decode cX10_init 4 = .ok (.aload_n 0, 1) := by decide +kernel
theorem dX10_init_5 : decode cX10_init 5 = .ok (.bipush 100, 2) := by decide +kernel
theorem dX10_init_7 : decode cX10_init 7 = .ok (.newarray .int, 2) := by decide +kernel
theorem dX10_init_9 : decode cX10_init 9 = .ok (.putfield 9, 3) := by decide +kernel
theorem dX10_init_12 : decode cX10_init 12 = .ok (.aload_n 0, 1) := by decide +kernel
theorem dX10_init_13 : decode cX10_init 13 = .ok (.bipush 100, 2) := by decide +kernel
theorem dX10_init_15 : decode cX10_init 15 = .ok (.newarray .int, 2) := by decide +kernel
theorem dX10_init_17 : decode cX10_init 17 = .ok (.putfield 15, 3) := by decide +kernel
theorem dX10_init_20 : decode cX10_init 20 = .ok (.aload_n 0, 1) := by decide +kernel
theorem dX10_init_21 : decode cX10_init 21 = .ok (.bipush 100, 2) := by decide +kernel
theorem dX10_init_23 : decode cX10_init 23 = .ok (.newarray .boolean, 2) := by decide +kernel
theorem dX10_init_25 : decode cX10_init 25 = .ok (.putfield 18, 3) := by decide +kernel
theorem dX10_init_28 : decode cX10_init 28 = .ok (.aload_n 0, 1) := by decide +kernel
theorem dX10_init_29 : decode cX10_init 29 = .ok (.iconst 0, 1) := by decide +kernel
theorem dX10_init_30 : decode cX10_init 30 = .ok (.putfield 22, 3) := by decide +kernel
theorem dX10_init_33 : decode cX10_init 33 = .ok (.aload_n 0, 1) := by decide +kernel
theorem dX10_init_34 : decode cX10_init 34 = .ok (.aload_n 1, 1) := by decide +kernel
theorem dX10_init_35 : decode cX10_init 35 = .ok (.putfield 26, 3) := by decide +kernel
theorem dX10_init_38 : decode cX10_init 38 = .ok (.return_, 1) := by decide +kernel
theorem dX10_fits_0 : decode cX10_fits 0 = .ok (.aload_n 0, 1) := by decide +kernel
theorem dX10_fits_1 : decode cX10_fits 1 = .ok (.getfield 26, 3) := by decide +kernel
theorem dX10_fits_4 : decode cX10_fits 4 = .ok (.invokevirtual 30, 3) := by decide +kernel
theorem dX10_fits_7 : decode cX10_fits 7 = .ok (.ifCond .le 28, 3) := by decide +kernel
theorem dX10_fits_10 : decode cX10_fits 10 = .ok (.aload_n 0, 1) := by decide +kernel
theorem dX10_fits_11 : decode cX10_fits 11 = .ok (.invokevirtual 36, 3) := by decide +kernel
theorem dX10_fits_14 : decode cX10_fits 14 = .ok (.ifCond .eq 21, 3) := by decide +kernel
theorem dX10_fits_17 : decode cX10_fits 17 = .ok (.aload_n 0, 1) := by decide +kernel
theorem dX10_fits_18 : decode cX10_fits 18 = .ok (.invokevirtual 40, 3) := by decide +kernel
theorem dX10_fits_21 : decode cX10_fits 21 = .ok (.ifCond .eq 14, 3) := by decide +kernel
theorem dX10_fits_24 : decode cX10_fits 24 = .ok (.aload_n 0, 1) := by decide +kernel
theorem dX10_fits_25 : decode cX10_fits 25 = .ok (.invokevirtual 43, 3) := by decide +kernel
theorem dX10_fits_28 : decode cX10_fits 28 = .ok (.ifCond .eq 7, 3) := by decide +kernel
theorem dX10_fits_31 : decode cX10_fits 31 = .ok (.iconst 1, 1) := by decide +kernel
theorem dX10_fits_32 : decode cX10_fits 32 = .ok (.goto 4, 3) := by decide +kernel
theorem dX10_fits_35 : decode cX10_fits 35 = .ok (.iconst 0, 1) := by decide +kernel
theorem dX10_fits_36 : decode cX10_fits 36 = .ok (.ireturn, 1) := by decide +kernel
theorem dX10_reachedCount_0 : decode cX10_reachedCount 0 = .ok (.aload_n 0, 1) := by decide +kernel
theorem dX10_reachedCount_1 : decode cX10_reachedCount 1 = .ok (.getfield 22, 3) := by decide +kernel
theorem dX10_reachedCount_4 : decode cX10_reachedCount 4 = .ok (.ireturn, 1) := by decide +kernel
theorem dX10_heightAt_0 : decode cX10_heightAt 0 = .ok (.aload_n 0, 1) := by decide +kernel
theorem dX10_heightAt_1 : decode cX10_heightAt 1 = .ok (.getfield 26, 3) := by decide +kernel
theorem dX10_heightAt_4 : decode cX10_heightAt 4 = .ok (.iload_n 1, 1) := by decide +kernel
theorem dX10_heightAt_5 : decode cX10_heightAt 5 = .ok (.invokevirtual 46, 3) := by decide +kernel
theorem dX10_heightAt_8 : decode cX10_heightAt 8 = .ok (.ifCond .eq 12, 3) := by decide +kernel
theorem dX10_heightAt_11 : decode cX10_heightAt 11 = .ok (.aload_n 0, 1) := by decide +kernel
theorem dX10_heightAt_12 : decode cX10_heightAt 12 = .ok (.getfield 9, 3) := by decide +kernel
theorem dX10_heightAt_15 : decode cX10_heightAt 15 = .ok (.iload_n 1, 1) := by decide +kernel
theorem dX10_heightAt_16 : decode cX10_heightAt 16 = .ok (.iaload, 1) := by decide +kernel
theorem dX10_heightAt_17 : decode cX10_heightAt 17 = .ok (.goto 4, 3) := by decide +kernel
theorem dX10_heightAt_20 : decode cX10_heightAt 20 = .ok (.iconst (-1), 1) := by decide +kernel
theorem dX10_heightAt_21 : decode cX10_heightAt 21 = .ok (.ireturn, 1) := by decide +kernel
theorem dX10_partsFit_0 : decode cX10_partsFit 0 = .ok (.iconst 0, 1) := by decide +kernel
theorem dX10_partsFit_1 : decode cX10_partsFit 1 = .ok (.istore_n 1, 1) := by decide +kernel
theorem dX10_partsFit_2 : decode cX10_partsFit 2 = .ok (.iload_n 1, 1) := by decide +kernel
theorem dX10_partsFit_3 : decode cX10_partsFit 3 = .ok (.aload_n 0, 1) := by decide +kernel
theorem dX10_partsFit_4 : decode cX10_partsFit 4 = .ok (.getfield 26, 3) := by decide +kernel
theorem dX10_partsFit_7 : decode cX10_partsFit 7 = .ok (.invokevirtual 30, 3) := by decide +kernel
theorem dX10_partsFit_10 : decode cX10_partsFit 10 = .ok (.if_icmp .ge 83, 3) := by decide +kernel
theorem dX10_partsFit_13 : decode cX10_partsFit 13 = .ok (.aload_n 0, 1) := by decide +kernel
theorem dX10_partsFit_14 : decode cX10_partsFit 14 = .ok (.getfield 26, 3) := by decide +kernel
theorem dX10_partsFit_17 : decode cX10_partsFit 17 = .ok (.iload_n 1, 1) := by decide +kernel
theorem dX10_partsFit_18 : decode cX10_partsFit 18 = .ok (.invokevirtual 50, 3) := by decide +kernel
theorem dX10_partsFit_21 : decode cX10_partsFit 21 = .ok (.istore_n 2, 1) := by decide +kernel
theorem dX10_partsFit_22 : decode cX10_partsFit 22 = .ok (.aload_n 0, 1) := by decide +kernel
theorem dX10_partsFit_23 : decode cX10_partsFit 23 = .ok (.getfield 26, 3) := by decide +kernel
theorem dX10_partsFit_26 : decode cX10_partsFit 26 = .ok (.iload_n 1, 1) := by decide +kernel
theorem dX10_partsFit_27 : decode cX10_partsFit 27 = .ok (.invokevirtual 54, 3) := by decide +kernel
theorem dX10_partsFit_30 : decode cX10_partsFit 30 = .ok (.istore_n 3, 1) := by decide +kernel
theorem dX10_partsFit_31 : decode cX10_partsFit 31 = .ok (.iload_n 2, 1) := by decide +kernel
theorem dX10_partsFit_32 : decode cX10_partsFit 32 = .ok (.ifCond .lt 9, 3) := by decide +kernel
theorem dX10_partsFit_35 : decode cX10_partsFit 35 = .ok (.iload_n 2, 1) := by decide +kernel
theorem dX10_partsFit_36 : decode cX10_partsFit 36 = .ok (.bipush 9, 2) := by decide +kernel
theorem dX10_partsFit_38 : decode cX10_partsFit 38 = .ok (.if_icmp .le 5, 3) := by decide +kernel
theorem dX10_partsFit_41 : decode cX10_partsFit 41 = .ok (.iconst 0, 1) := by decide +kernel
theorem dX10_partsFit_42 : decode cX10_partsFit 42 = .ok (.ireturn, 1) := by decide +kernel
theorem dX10_partsFit_43 : decode cX10_partsFit 43 = .ok (.iload_n 2, 1) := by decide +kernel
theorem dX10_partsFit_44 : decode cX10_partsFit 44 = .ok (.iconst 1, 1) := by decide +kernel
theorem dX10_partsFit_45 : decode cX10_partsFit 45 = .ok (.if_icmp .eq 8, 3) := by decide +kernel
theorem dX10_partsFit_48 : decode cX10_partsFit 48 = .ok (.iload_n 2, 1) := by decide +kernel
theorem dX10_partsFit_49 : decode cX10_partsFit 49 = .ok (.iconst 2, 1) := by decide +kernel
theorem dX10_partsFit_50 : decode cX10_partsFit 50 = .ok (.if_icmp .ne 12, 3) := by decide +kernel
theorem dX10_partsFit_53 : decode cX10_partsFit 53 = .ok (.iload_n 3, 1) := by decide +kernel
theorem dX10_partsFit_54 : decode cX10_partsFit 54 = .ok (.invokestatic 57, 3) := by decide +kernel
theorem dX10_partsFit_57 : decode cX10_partsFit 57 = .ok (.ifCond .ne 5, 3) := by decide +kernel
theorem dX10_partsFit_60 : decode cX10_partsFit 60 = .ok (.iconst 0, 1) := by decide +kernel
theorem dX10_partsFit_61 : decode cX10_partsFit 61 = .ok (.ireturn, 1) := by decide +kernel
theorem dX10_partsFit_62 : decode cX10_partsFit 62 = .ok (.iload_n 2, 1) := by decide +kernel
theorem dX10_partsFit_63 : decode cX10_partsFit 63 = .ok (.bipush 7, 2) := by decide +kernel
theorem dX10_partsFit_65 : decode cX10_partsFit 65 = .ok (.if_icmp .eq 9, 3) := by decide +kernel
theorem dX10_partsFit_68 : decode cX10_partsFit 68 = .ok (.iload_n 2, 1) := by decide +kernel
theorem dX10_partsFit_69 : decode cX10_partsFit 69 = .ok (.bipush 8, 2) := by decide +kernel
theorem dX10_partsFit_71 : decode cX10_partsFit 71 = .ok (.if_icmp .ne 16, 3) := by decide +kernel
theorem dX10_partsFit_74 : decode cX10_partsFit 74 = .ok (.aload_n 0, 1) := by decide +kernel
theorem dX10_partsFit_75 : decode cX10_partsFit 75 = .ok (.getfield 26, 3) := by decide +kernel
theorem dX10_partsFit_78 : decode cX10_partsFit 78 = .ok (.iload_n 3, 1) := by decide +kernel
theorem dX10_partsFit_79 : decode cX10_partsFit 79 = .ok (.invokevirtual 46, 3) := by decide +kernel
theorem dX10_partsFit_82 : decode cX10_partsFit 82 = .ok (.ifCond .ne 5, 3) := by decide +kernel
theorem dX10_partsFit_85 : decode cX10_partsFit 85 = .ok (.iconst 0, 1) := by decide +kernel
theorem dX10_partsFit_86 : decode cX10_partsFit 86 = .ok (.ireturn, 1) := by decide +kernel
theorem dX10_partsFit_87 : decode cX10_partsFit 87 = .ok (.iinc 1 1, 3) := by decide +kernel
theorem dX10_partsFit_90 : decode cX10_partsFit 90 = .ok (.goto (-88), 3) := by decide +kernel
theorem dX10_partsFit_93 : decode cX10_partsFit 93 = .ok (.iconst 1, 1) := by decide +kernel
theorem dX10_partsFit_94 : decode cX10_partsFit 94 = .ok (.ireturn, 1) := by decide +kernel
theorem dX10_waysFit_0 : decode cX10_waysFit 0 = .ok (.iconst 0, 1) := by decide +kernel
theorem dX10_waysFit_1 : decode cX10_waysFit 1 = .ok (.istore_n 1, 1) := by decide +kernel
theorem dX10_waysFit_2 : decode cX10_waysFit 2 = .ok (.iload_n 1, 1) := by decide +kernel
theorem dX10_waysFit_3 : decode cX10_waysFit 3 = .ok (.bipush 100, 2) := by decide +kernel
theorem dX10_waysFit_5 : decode cX10_waysFit 5 = .ok (.if_icmp .ge 16, 3) := by decide +kernel
theorem dX10_waysFit_8 : decode cX10_waysFit 8 = .ok (.aload_n 0, 1) := by decide +kernel
theorem dX10_waysFit_9 : decode cX10_waysFit 9 = .ok (.getfield 9, 3) := by decide +kernel
theorem dX10_waysFit_12 : decode cX10_waysFit 12 = .ok (.iload_n 1, 1) := by decide +kernel
theorem dX10_waysFit_13 : decode cX10_waysFit 13 = .ok (.iconst (-1), 1) := by decide +kernel
theorem dX10_waysFit_14 : decode cX10_waysFit 14 = .ok (.iastore, 1) := by decide +kernel
theorem dX10_waysFit_15 : decode cX10_waysFit 15 = .ok (.iinc 1 1, 3) := by decide +kernel
theorem dX10_waysFit_18 : decode cX10_waysFit 18 = .ok (.goto (-16), 3) := by decide +kernel
theorem dX10_waysFit_21 : decode cX10_waysFit 21 = .ok (.aload_n 0, 1) := by decide +kernel
theorem dX10_waysFit_22 : decode cX10_waysFit 22 = .ok (.getfield 9, 3) := by decide +kernel
theorem dX10_waysFit_25 : decode cX10_waysFit 25 = .ok (.iconst 0, 1) := by decide +kernel
theorem dX10_waysFit_26 : decode cX10_waysFit 26 = .ok (.iconst 0, 1) := by decide +kernel
theorem dX10_waysFit_27 : decode cX10_waysFit 27 = .ok (.iastore, 1) := by decide +kernel
theorem dX10_waysFit_28 : decode cX10_waysFit 28 = .ok (.aload_n 0, 1) := by decide +kernel
theorem dX10_waysFit_29 : decode cX10_waysFit 29 = .ok (.getfield 15, 3) := by decide +kernel
theorem dX10_waysFit_32 : decode cX10_waysFit 32 = .ok (.iconst 0, 1) := by decide +kernel
theorem dX10_waysFit_33 : decode cX10_waysFit 33 = .ok (.iconst 0, 1) := by decide +kernel
theorem dX10_waysFit_34 : decode cX10_waysFit 34 = .ok (.iastore, 1) := by decide +kernel
theorem dX10_waysFit_35 : decode cX10_waysFit 35 = .ok (.aload_n 0, 1) := by decide +kernel
theorem dX10_waysFit_36 : decode cX10_waysFit 36 = .ok (.iconst 1, 1) := by decide +kernel
theorem dX10_waysFit_37 : decode cX10_waysFit 37 = .ok (.putfield 22, 3) := by decide +kernel
theorem dX10_waysFit_40 : decode cX10_waysFit 40 = .ok (.iconst 0, 1) := by decide +kernel
theorem dX10_waysFit_41 : decode cX10_waysFit 41 = .ok (.istore_n 1, 1) := by decide +kernel
theorem dX10_waysFit_42 : decode cX10_waysFit 42 = .ok (.iload_n 1, 1) := by decide +kernel
theorem dX10_waysFit_43 : decode cX10_waysFit 43 = .ok (.bipush 100, 2) := by decide +kernel
theorem dX10_waysFit_45 : decode cX10_waysFit 45 = .ok (.if_icmp .ge 32, 3) := by decide +kernel
theorem dX10_waysFit_48 : decode cX10_waysFit 48 = .ok (.iload_n 1, 1) := by decide +kernel
theorem dX10_waysFit_49 : decode cX10_waysFit 49 = .ok (.aload_n 0, 1) := by decide +kernel
theorem dX10_waysFit_50 : decode cX10_waysFit 50 = .ok (.getfield 22, 3) := by decide +kernel
theorem dX10_waysFit_53 : decode cX10_waysFit 53 = .ok (.if_icmp .ge 24, 3) := by decide +kernel
theorem dX10_waysFit_56 : decode cX10_waysFit 56 = .ok (.aload_n 0, 1) := by decide +kernel
theorem dX10_waysFit_57 : decode cX10_waysFit 57 = .ok (.aload_n 0, 1) := by decide +kernel
theorem dX10_waysFit_58 : decode cX10_waysFit 58 = .ok (.getfield 15, 3) := by decide +kernel
theorem dX10_waysFit_61 : decode cX10_waysFit 61 = .ok (.iload_n 1, 1) := by decide +kernel
theorem dX10_waysFit_62 : decode cX10_waysFit 62 = .ok (.iaload, 1) := by decide +kernel
theorem dX10_waysFit_63 : decode cX10_waysFit 63 = .ok (.invokevirtual 60, 3) := by decide +kernel
theorem dX10_waysFit_66 : decode cX10_waysFit 66 = .ok (.ifCond .ne 5, 3) := by decide +kernel
theorem dX10_waysFit_69 : decode cX10_waysFit 69 = .ok (.iconst 0, 1) := by decide +kernel
theorem dX10_waysFit_70 : decode cX10_waysFit 70 = .ok (.ireturn, 1) := by decide +kernel
theorem dX10_waysFit_71 : decode cX10_waysFit 71 = .ok (.iinc 1 1, 3) := by decide +kernel
theorem dX10_waysFit_74 : decode cX10_waysFit 74 = .ok (.goto (-32), 3) := by decide +kernel
theorem dX10_waysFit_77 : decode cX10_waysFit 77 = .ok (.iconst 1, 1) := by decide +kernel
theorem dX10_waysFit_78 : decode cX10_waysFit 78 = .ok (.ireturn, 1) := by decide +kernel
theorem dX10_goesOnWell_0 : decode cX10_goesOnWell 0 = .ok (.aload_n 0, 1) := by decide +kernel
theorem dX10_goesOnWell_1 : decode cX10_goesOnWell 1 = .ok (.getfield 26, 3) := by decide +kernel
theorem dX10_goesOnWell_4 : decode cX10_goesOnWell 4 = .ok (.iload_n 1, 1) := by decide +kernel
theorem dX10_goesOnWell_5 : decode cX10_goesOnWell 5 = .ok (.invokevirtual 50, 3) := by decide +kernel
theorem dX10_goesOnWell_8 : decode cX10_goesOnWell 8 = .ok (.istore_n 2, 1) := by decide +kernel
theorem dX10_goesOnWell_9 : decode cX10_goesOnWell 9 = .ok (.iload_n 2, 1) := by decide +kernel
theorem dX10_goesOnWell_10 : decode cX10_goesOnWell 10 = .ok (.bipush 9, 2) := by decide +kernel
theorem dX10_goesOnWell_12 : decode cX10_goesOnWell 12 = .ok (.if_icmp .ne 18, 3) := by decide +kernel
theorem dX10_goesOnWell_15 : decode cX10_goesOnWell 15 = .ok (.aload_n 0, 1) := by decide +kernel
theorem dX10_goesOnWell_16 : decode cX10_goesOnWell 16 = .ok (.getfield 9, 3) := by decide +kernel
theorem dX10_goesOnWell_19 : decode cX10_goesOnWell 19 = .ok (.iload_n 1, 1) := by decide +kernel
theorem dX10_goesOnWell_20 : decode cX10_goesOnWell 20 = .ok (.iaload, 1) := by decide +kernel
theorem dX10_goesOnWell_21 : decode cX10_goesOnWell 21 = .ok (.ifCond .ne 7, 3) := by decide +kernel
theorem dX10_goesOnWell_24 : decode cX10_goesOnWell 24 = .ok (.iconst 1, 1) := by decide +kernel
theorem dX10_goesOnWell_25 : decode cX10_goesOnWell 25 = .ok (.goto 4, 3) := by decide +kernel
theorem dX10_goesOnWell_28 : decode cX10_goesOnWell 28 = .ok (.iconst 0, 1) := by decide +kernel
theorem dX10_goesOnWell_29 : decode cX10_goesOnWell 29 = .ok (.ireturn, 1) := by decide +kernel
theorem dX10_goesOnWell_30 : decode cX10_goesOnWell 30 = .ok (.aload_n 0, 1) := by decide +kernel
theorem dX10_goesOnWell_31 : decode cX10_goesOnWell 31 = .ok (.getfield 9, 3) := by decide +kernel
theorem dX10_goesOnWell_34 : decode cX10_goesOnWell 34 = .ok (.iload_n 1, 1) := by decide +kernel
theorem dX10_goesOnWell_35 : decode cX10_goesOnWell 35 = .ok (.iaload, 1) := by decide +kernel
theorem dX10_goesOnWell_36 : decode cX10_goesOnWell 36 = .ok (.iload_n 2, 1) := by decide +kernel
theorem dX10_goesOnWell_37 : decode cX10_goesOnWell 37 = .ok (.invokestatic 63, 3) := by decide +kernel
theorem dX10_goesOnWell_40 : decode cX10_goesOnWell 40 = .ok (.isub, 1) := by decide +kernel
theorem dX10_goesOnWell_41 : decode cX10_goesOnWell 41 = .ok (.iload_n 2, 1) := by decide +kernel
theorem dX10_goesOnWell_42 : decode cX10_goesOnWell 42 = .ok (.invokestatic 66, 3) := by decide +kernel
theorem dX10_goesOnWell_45 : decode cX10_goesOnWell 45 = .ok (.iadd, 1) := by decide +kernel
theorem dX10_goesOnWell_46 : decode cX10_goesOnWell 46 = .ok (.istore_n 3, 1) := by decide +kernel
theorem dX10_goesOnWell_47 : decode cX10_goesOnWell 47 = .ok (.aload_n 0, 1) := by decide +kernel
theorem dX10_goesOnWell_48 : decode cX10_goesOnWell 48 = .ok (.getfield 9, 3) := by decide +kernel
theorem dX10_goesOnWell_51 : decode cX10_goesOnWell 51 = .ok (.iload_n 1, 1) := by decide +kernel
theorem dX10_goesOnWell_52 : decode cX10_goesOnWell 52 = .ok (.iaload, 1) := by decide +kernel
theorem dX10_goesOnWell_53 : decode cX10_goesOnWell 53 = .ok (.iload_n 2, 1) := by decide +kernel
theorem dX10_goesOnWell_54 : decode cX10_goesOnWell 54 = .ok (.invokestatic 63, 3) := by decide +kernel
theorem dX10_goesOnWell_57 : decode cX10_goesOnWell 57 = .ok (.if_icmp .lt 22, 3) := by decide +kernel
theorem dX10_goesOnWell_60 : decode cX10_goesOnWell 60 = .ok (.iload_n 3, 1) := by decide +kernel
theorem dX10_goesOnWell_61 : decode cX10_goesOnWell 61 = .ok (.bipush 8, 2) := by decide +kernel
theorem dX10_goesOnWell_63 : decode cX10_goesOnWell 63 = .ok (.if_icmp .gt 16, 3) := by decide +kernel
theorem dX10_goesOnWell_66 : decode cX10_goesOnWell 66 = .ok (.aload_n 0, 1) := by decide +kernel
theorem dX10_goesOnWell_67 : decode cX10_goesOnWell 67 = .ok (.getfield 26, 3) := by decide +kernel
theorem dX10_goesOnWell_70 : decode cX10_goesOnWell 70 = .ok (.iload_n 1, 1) := by decide +kernel
theorem dX10_goesOnWell_71 : decode cX10_goesOnWell 71 = .ok (.iconst 0, 1) := by decide +kernel
theorem dX10_goesOnWell_72 : decode cX10_goesOnWell 72 = .ok (.invokevirtual 69, 3) := by decide +kernel
theorem dX10_goesOnWell_75 : decode cX10_goesOnWell 75 = .ok (.iconst (-1), 1) := by decide +kernel
theorem dX10_goesOnWell_76 : decode cX10_goesOnWell 76 = .ok (.if_icmp .ne 5, 3) := by decide +kernel
theorem dX10_goesOnWell_79 : decode cX10_goesOnWell 79 = .ok (.iconst 0, 1) := by decide +kernel
theorem dX10_goesOnWell_80 : decode cX10_goesOnWell 80 = .ok (.ireturn, 1) := by decide +kernel
theorem dX10_goesOnWell_81 : decode cX10_goesOnWell 81 = .ok (.aload_n 0, 1) := by decide +kernel
theorem dX10_goesOnWell_82 : decode cX10_goesOnWell 82 = .ok (.aload_n 0, 1) := by decide +kernel
theorem dX10_goesOnWell_83 : decode cX10_goesOnWell 83 = .ok (.getfield 26, 3) := by decide +kernel
theorem dX10_goesOnWell_86 : decode cX10_goesOnWell 86 = .ok (.iload_n 1, 1) := by decide +kernel
theorem dX10_goesOnWell_87 : decode cX10_goesOnWell 87 = .ok (.iconst 0, 1) := by decide +kernel
theorem dX10_goesOnWell_88 : decode cX10_goesOnWell 88 = .ok (.invokevirtual 69, 3) := by decide +kernel
theorem dX10_goesOnWell_91 : decode cX10_goesOnWell 91 = .ok (.iload_n 3, 1) := by decide +kernel
theorem dX10_goesOnWell_92 : decode cX10_goesOnWell 92 = .ok (.invokevirtual 73, 3) := by decide +kernel
theorem dX10_goesOnWell_95 : decode cX10_goesOnWell 95 = .ok (.ifCond .eq 30, 3) := by decide +kernel
theorem dX10_goesOnWell_98 : decode cX10_goesOnWell 98 = .ok (.iload_n 2, 1) := by decide +kernel
theorem dX10_goesOnWell_99 : decode cX10_goesOnWell 99 = .ok (.bipush 7, 2) := by decide +kernel
theorem dX10_goesOnWell_101 : decode cX10_goesOnWell 101 = .ok (.if_icmp .ne 20, 3) := by decide +kernel
theorem dX10_goesOnWell_104 : decode cX10_goesOnWell 104 = .ok (.aload_n 0, 1) := by decide +kernel
theorem dX10_goesOnWell_105 : decode cX10_goesOnWell 105 = .ok (.aload_n 0, 1) := by decide +kernel
theorem dX10_goesOnWell_106 : decode cX10_goesOnWell 106 = .ok (.getfield 26, 3) := by decide +kernel
theorem dX10_goesOnWell_109 : decode cX10_goesOnWell 109 = .ok (.iload_n 1, 1) := by decide +kernel
theorem dX10_goesOnWell_110 : decode cX10_goesOnWell 110 = .ok (.iconst 1, 1) := by decide +kernel
theorem dX10_goesOnWell_111 : decode cX10_goesOnWell 111 = .ok (.invokevirtual 69, 3) := by decide +kernel
theorem dX10_goesOnWell_114 : decode cX10_goesOnWell 114 = .ok (.iload_n 3, 1) := by decide +kernel
theorem dX10_goesOnWell_115 : decode cX10_goesOnWell 115 = .ok (.invokevirtual 73, 3) := by decide +kernel
theorem dX10_goesOnWell_118 : decode cX10_goesOnWell 118 = .ok (.ifCond .eq 7, 3) := by decide +kernel
theorem dX10_goesOnWell_121 : decode cX10_goesOnWell 121 = .ok (.iconst 1, 1) := by decide +kernel
theorem dX10_goesOnWell_122 : decode cX10_goesOnWell 122 = .ok (.goto 4, 3) := by decide +kernel
theorem dX10_goesOnWell_125 : decode cX10_goesOnWell 125 = .ok (.iconst 0, 1) := by decide +kernel
theorem dX10_goesOnWell_126 : decode cX10_goesOnWell 126 = .ok (.ireturn, 1) := by decide +kernel
theorem dX10_comesTo_0 : decode cX10_comesTo 0 = .ok (.aload_n 0, 1) := by decide +kernel
theorem dX10_comesTo_1 : decode cX10_comesTo 1 = .ok (.getfield 26, 3) := by decide +kernel
theorem dX10_comesTo_4 : decode cX10_comesTo 4 = .ok (.iload_n 1, 1) := by decide +kernel
theorem dX10_comesTo_5 : decode cX10_comesTo 5 = .ok (.invokevirtual 46, 3) := by decide +kernel
theorem dX10_comesTo_8 : decode cX10_comesTo 8 = .ok (.ifCond .ne 5, 3) := by decide +kernel
theorem dX10_comesTo_11 : decode cX10_comesTo 11 = .ok (.iconst 0, 1) := by decide +kernel
theorem dX10_comesTo_12 : decode cX10_comesTo 12 = .ok (.ireturn, 1) := by decide +kernel
theorem dX10_comesTo_13 : decode cX10_comesTo 13 = .ok (.aload_n 0, 1) := by decide +kernel
theorem dX10_comesTo_14 : decode cX10_comesTo 14 = .ok (.getfield 9, 3) := by decide +kernel
theorem dX10_comesTo_17 : decode cX10_comesTo 17 = .ok (.iload_n 1, 1) := by decide +kernel
theorem dX10_comesTo_18 : decode cX10_comesTo 18 = .ok (.iaload, 1) := by decide +kernel
theorem dX10_comesTo_19 : decode cX10_comesTo 19 = .ok (.iconst (-1), 1) := by decide +kernel
theorem dX10_comesTo_20 : decode cX10_comesTo 20 = .ok (.if_icmp .ne 39, 3) := by decide +kernel
theorem dX10_comesTo_23 : decode cX10_comesTo 23 = .ok (.aload_n 0, 1) := by decide +kernel
theorem dX10_comesTo_24 : decode cX10_comesTo 24 = .ok (.getfield 22, 3) := by decide +kernel
theorem dX10_comesTo_27 : decode cX10_comesTo 27 = .ok (.bipush 100, 2) := by decide +kernel
theorem dX10_comesTo_29 : decode cX10_comesTo 29 = .ok (.if_icmp .ge 30, 3) := by decide +kernel
theorem dX10_comesTo_32 : decode cX10_comesTo 32 = .ok (.aload_n 0, 1) := by decide +kernel
theorem dX10_comesTo_33 : decode cX10_comesTo 33 = .ok (.getfield 9, 3) := by decide +kernel
theorem dX10_comesTo_36 : decode cX10_comesTo 36 = .ok (.iload_n 1, 1) := by decide +kernel
theorem dX10_comesTo_37 : decode cX10_comesTo 37 = .ok (.iload_n 2, 1) := by decide +kernel
theorem dX10_comesTo_38 : decode cX10_comesTo 38 = .ok (.iastore, 1) := by decide +kernel
theorem dX10_comesTo_39 : decode cX10_comesTo 39 = .ok (.aload_n 0, 1) := by decide +kernel
theorem dX10_comesTo_40 : decode cX10_comesTo 40 = .ok (.getfield 15, 3) := by decide +kernel
theorem dX10_comesTo_43 : decode cX10_comesTo 43 = .ok (.aload_n 0, 1) := by decide +kernel
theorem dX10_comesTo_44 : decode cX10_comesTo 44 = .ok (.getfield 22, 3) := by decide +kernel
theorem dX10_comesTo_47 : decode cX10_comesTo 47 = .ok (.iload_n 1, 1) := by decide +kernel
theorem dX10_comesTo_48 : decode cX10_comesTo 48 = .ok (.iastore, 1) := by decide +kernel
theorem dX10_comesTo_49 : decode cX10_comesTo 49 = .ok (.aload_n 0, 1) := by decide +kernel
theorem dX10_comesTo_50 : decode cX10_comesTo 50 = .ok (.dup, 1) := by decide +kernel
theorem dX10_comesTo_51 : decode cX10_comesTo 51 = .ok (.getfield 22, 3) := by decide +kernel
theorem dX10_comesTo_54 : decode cX10_comesTo 54 = .ok (.iconst 1, 1) := by decide +kernel
theorem dX10_comesTo_55 : decode cX10_comesTo 55 = .ok (.iadd, 1) := by decide +kernel
theorem dX10_comesTo_56 : decode cX10_comesTo 56 = .ok (.putfield 22, 3) := by decide +kernel
theorem dX10_comesTo_59 : decode cX10_comesTo 59 = .ok (.aload_n 0, 1) := by decide +kernel
theorem dX10_comesTo_60 : decode cX10_comesTo 60 = .ok (.getfield 9, 3) := by decide +kernel
theorem dX10_comesTo_63 : decode cX10_comesTo 63 = .ok (.iload_n 1, 1) := by decide +kernel
theorem dX10_comesTo_64 : decode cX10_comesTo 64 = .ok (.iaload, 1) := by decide +kernel
theorem dX10_comesTo_65 : decode cX10_comesTo 65 = .ok (.iload_n 2, 1) := by decide +kernel
theorem dX10_comesTo_66 : decode cX10_comesTo 66 = .ok (.if_icmp .ne 7, 3) := by decide +kernel
theorem dX10_comesTo_69 : decode cX10_comesTo 69 = .ok (.iconst 1, 1) := by decide +kernel
theorem dX10_comesTo_70 : decode cX10_comesTo 70 = .ok (.goto 4, 3) := by decide +kernel
theorem dX10_comesTo_73 : decode cX10_comesTo 73 = .ok (.iconst 0, 1) := by decide +kernel
theorem dX10_comesTo_74 : decode cX10_comesTo 74 = .ok (.ireturn, 1) := by decide +kernel
theorem dX10_taken_0 : decode cX10_taken 0 = .ok (.iload_n 0, 1) := by decide +kernel
theorem dX10_taken_1 : decode cX10_taken 1 = .ok (.invokestatic 77, 3) := by decide +kernel
theorem dX10_taken_4 : decode cX10_taken 4 = .ok (.ifCond .eq 5, 3) := by decide +kernel
theorem dX10_taken_7 : decode cX10_taken 7 = .ok (.iconst 2, 1) := by decide +kernel
theorem dX10_taken_8 : decode cX10_taken 8 = .ok (.ireturn, 1) := by decide +kernel
theorem dX10_taken_9 : decode cX10_taken 9 = .ok (.iload_n 0, 1) := by decide +kernel
theorem dX10_taken_10 : decode cX10_taken 10 = .ok (.iconst 2, 1) := by decide +kernel
theorem dX10_taken_11 : decode cX10_taken 11 = .ok (.if_icmp .eq 9, 3) := by decide +kernel
theorem dX10_taken_14 : decode cX10_taken 14 = .ok (.iload_n 0, 1) := by decide +kernel
theorem dX10_taken_15 : decode cX10_taken 15 = .ok (.bipush 7, 2) := by decide +kernel
theorem dX10_taken_17 : decode cX10_taken 17 = .ok (.if_icmp .ne 7, 3) := by decide +kernel
theorem dX10_taken_20 : decode cX10_taken 20 = .ok (.iconst 1, 1) := by decide +kernel
theorem dX10_taken_21 : decode cX10_taken 21 = .ok (.goto 4, 3) := by decide +kernel
theorem dX10_taken_24 : decode cX10_taken 24 = .ok (.iconst 0, 1) := by decide +kernel
theorem dX10_taken_25 : decode cX10_taken 25 = .ok (.ireturn, 1) := by decide +kernel
theorem dX10_given_0 : decode cX10_given 0 = .ok (.iload_n 0, 1) := by decide +kernel
theorem dX10_given_1 : decode cX10_given 1 = .ok (.ifCond .eq 15, 3) := by decide +kernel
theorem dX10_given_4 : decode cX10_given 4 = .ok (.iload_n 0, 1) := by decide +kernel
theorem dX10_given_5 : decode cX10_given 5 = .ok (.iconst 1, 1) := by decide +kernel
theorem dX10_given_6 : decode cX10_given 6 = .ok (.if_icmp .eq 10, 3) := by decide +kernel
theorem dX10_given_9 : decode cX10_given 9 = .ok (.iload_n 0, 1) := by decide +kernel
theorem dX10_given_10 : decode cX10_given 10 = .ok (.invokestatic 77, 3) := by decide +kernel
theorem dX10_given_13 : decode cX10_given 13 = .ok (.ifCond .eq 7, 3) := by decide +kernel
theorem dX10_given_16 : decode cX10_given 16 = .ok (.iconst 1, 1) := by decide +kernel
theorem dX10_given_17 : decode cX10_given 17 = .ok (.goto 4, 3) := by decide +kernel
theorem dX10_given_20 : decode cX10_given 20 = .ok (.iconst 0, 1) := by decide +kernel
theorem dX10_given_21 : decode cX10_given 21 = .ok (.ireturn, 1) := by decide +kernel
theorem dX10_allCanEnd_0 : decode cX10_allCanEnd 0 = .ok (.iconst 0, 1) := by decide +kernel
theorem dX10_allCanEnd_1 : decode cX10_allCanEnd 1 = .ok (.istore_n 1, 1) := by decide +kernel
theorem dX10_allCanEnd_2 : decode cX10_allCanEnd 2 = .ok (.iload_n 1, 1) := by decide +kernel
theorem dX10_allCanEnd_3 : decode cX10_allCanEnd 3 = .ok (.bipush 100, 2) := by decide +kernel
theorem dX10_allCanEnd_5 : decode cX10_allCanEnd 5 = .ok (.if_icmp .ge 16, 3) := by decide +kernel
theorem dX10_allCanEnd_8 : decode cX10_allCanEnd 8 = .ok (.aload_n 0, 1) := by decide +kernel
theorem dX10_allCanEnd_9 : decode cX10_allCanEnd 9 = .ok (.getfield 18, 3) := by decide +kernel
theorem dX10_allCanEnd_12 : decode cX10_allCanEnd 12 = .ok (.iload_n 1, 1) := by decide +kernel
theorem dX10_allCanEnd_13 : decode cX10_allCanEnd 13 = .ok (.iconst 0, 1) := by decide +kernel
theorem dX10_allCanEnd_14 : decode cX10_allCanEnd 14 = .ok (.bastore, 1) := by decide +kernel
theorem dX10_allCanEnd_15 : decode cX10_allCanEnd 15 = .ok (.iinc 1 1, 3) := by decide +kernel
theorem dX10_allCanEnd_18 : decode cX10_allCanEnd 18 = .ok (.goto (-16), 3) := by decide +kernel
theorem dX10_allCanEnd_21 : decode cX10_allCanEnd 21 = .ok (.iconst 0, 1) := by decide +kernel
theorem dX10_allCanEnd_22 : decode cX10_allCanEnd 22 = .ok (.istore_n 1, 1) := by decide +kernel
theorem dX10_allCanEnd_23 : decode cX10_allCanEnd 23 = .ok (.iconst 1, 1) := by decide +kernel
theorem dX10_allCanEnd_24 : decode cX10_allCanEnd 24 = .ok (.istore_n 2, 1) := by decide +kernel
theorem dX10_allCanEnd_25 : decode cX10_allCanEnd 25 = .ok (.iconst 0, 1) := by decide +kernel
theorem dX10_allCanEnd_26 : decode cX10_allCanEnd 26 = .ok (.istore_n 3, 1) := by decide +kernel
theorem dX10_allCanEnd_27 : decode cX10_allCanEnd 27 = .ok (.iload_n 3, 1) := by decide +kernel
theorem dX10_allCanEnd_28 : decode cX10_allCanEnd 28 = .ok (.bipush 100, 2) := by decide +kernel
theorem dX10_allCanEnd_30 : decode cX10_allCanEnd 30 = .ok (.if_icmp .ge 22, 3) := by decide +kernel
theorem dX10_allCanEnd_33 : decode cX10_allCanEnd 33 = .ok (.iload_n 2, 1) := by decide +kernel
theorem dX10_allCanEnd_34 : decode cX10_allCanEnd 34 = .ok (.ifCond .le 18, 3) := by decide +kernel
theorem dX10_allCanEnd_37 : decode cX10_allCanEnd 37 = .ok (.aload_n 0, 1) := by decide +kernel
theorem dX10_allCanEnd_38 : decode cX10_allCanEnd 38 = .ok (.invokevirtual 80, 3) := by decide +kernel
theorem dX10_allCanEnd_41 : decode cX10_allCanEnd 41 = .ok (.istore_n 2, 1) := by decide +kernel
theorem dX10_allCanEnd_42 : decode cX10_allCanEnd 42 = .ok (.iload_n 1, 1) := by decide +kernel
theorem dX10_allCanEnd_43 : decode cX10_allCanEnd 43 = .ok (.iload_n 2, 1) := by decide +kernel
theorem dX10_allCanEnd_44 : decode cX10_allCanEnd 44 = .ok (.iadd, 1) := by decide +kernel
theorem dX10_allCanEnd_45 : decode cX10_allCanEnd 45 = .ok (.istore_n 1, 1) := by decide +kernel
theorem dX10_allCanEnd_46 : decode cX10_allCanEnd 46 = .ok (.iinc 3 1, 3) := by decide +kernel
theorem dX10_allCanEnd_49 : decode cX10_allCanEnd 49 = .ok (.goto (-22), 3) := by decide +kernel
theorem dX10_allCanEnd_52 : decode cX10_allCanEnd 52 = .ok (.iload_n 1, 1) := by decide +kernel
theorem dX10_allCanEnd_53 : decode cX10_allCanEnd 53 = .ok (.aload_n 0, 1) := by decide +kernel
theorem dX10_allCanEnd_54 : decode cX10_allCanEnd 54 = .ok (.getfield 22, 3) := by decide +kernel
theorem dX10_allCanEnd_57 : decode cX10_allCanEnd 57 = .ok (.if_icmp .ne 7, 3) := by decide +kernel
theorem dX10_allCanEnd_60 : decode cX10_allCanEnd 60 = .ok (.iconst 1, 1) := by decide +kernel
theorem dX10_allCanEnd_61 : decode cX10_allCanEnd 61 = .ok (.goto 4, 3) := by decide +kernel
theorem dX10_allCanEnd_64 : decode cX10_allCanEnd 64 = .ok (.iconst 0, 1) := by decide +kernel
theorem dX10_allCanEnd_65 : decode cX10_allCanEnd 65 = .ok (.ireturn, 1) := by decide +kernel
theorem dX10_findEnding_0 : decode cX10_findEnding 0 = .ok (.iconst 0, 1) := by decide +kernel
theorem dX10_findEnding_1 : decode cX10_findEnding 1 = .ok (.istore_n 1, 1) := by decide +kernel
theorem dX10_findEnding_2 : decode cX10_findEnding 2 = .ok (.aload_n 0, 1) := by decide +kernel
theorem dX10_findEnding_3 : decode cX10_findEnding 3 = .ok (.getfield 26, 3) := by decide +kernel
theorem dX10_findEnding_6 : decode cX10_findEnding 6 = .ok (.invokevirtual 30, 3) := by decide +kernel
theorem dX10_findEnding_9 : decode cX10_findEnding 9 = .ok (.iconst 1, 1) := by decide +kernel
theorem dX10_findEnding_10 : decode cX10_findEnding 10 = .ok (.isub, 1) := by decide +kernel
theorem dX10_findEnding_11 : decode cX10_findEnding 11 = .ok (.istore_n 2, 1) := by decide +kernel
theorem dX10_findEnding_12 : decode cX10_findEnding 12 = .ok (.iload_n 2, 1) := by decide +kernel
theorem dX10_findEnding_13 : decode cX10_findEnding 13 = .ok (.ifCond .lt 46, 3) := by decide +kernel
theorem dX10_findEnding_16 : decode cX10_findEnding 16 = .ok (.aload_n 0, 1) := by decide +kernel
theorem dX10_findEnding_17 : decode cX10_findEnding 17 = .ok (.getfield 9, 3) := by decide +kernel
theorem dX10_findEnding_20 : decode cX10_findEnding 20 = .ok (.iload_n 2, 1) := by decide +kernel
theorem dX10_findEnding_21 : decode cX10_findEnding 21 = .ok (.iaload, 1) := by decide +kernel
theorem dX10_findEnding_22 : decode cX10_findEnding 22 = .ok (.iconst (-1), 1) := by decide +kernel
theorem dX10_findEnding_23 : decode cX10_findEnding 23 = .ok (.if_icmp .eq 30, 3) := by decide +kernel
theorem dX10_findEnding_26 : decode cX10_findEnding 26 = .ok (.aload_n 0, 1) := by decide +kernel
theorem dX10_findEnding_27 : decode cX10_findEnding 27 = .ok (.getfield 18, 3) := by decide +kernel
theorem dX10_findEnding_30 : decode cX10_findEnding 30 = .ok (.iload_n 2, 1) := by decide +kernel
theorem dX10_findEnding_31 : decode cX10_findEnding 31 = .ok (.baload, 1) := by decide +kernel
theorem dX10_findEnding_32 : decode cX10_findEnding 32 = .ok (.ifCond .ne 21, 3) := by decide +kernel
theorem dX10_findEnding_35 : decode cX10_findEnding 35 = .ok (.aload_n 0, 1) := by decide +kernel
theorem dX10_findEnding_36 : decode cX10_findEnding 36 = .ok (.iload_n 2, 1) := by decide +kernel
theorem dX10_findEnding_37 : decode cX10_findEnding 37 = .ok (.invokevirtual 83, 3) := by decide +kernel
theorem dX10_findEnding_40 : decode cX10_findEnding 40 = .ok (.ifCond .eq 13, 3) := by decide +kernel
theorem dX10_findEnding_43 : decode cX10_findEnding 43 = .ok (.aload_n 0, 1) := by decide +kernel
theorem dX10_findEnding_44 : decode cX10_findEnding 44 = .ok (.getfield 18, 3) := by decide +kernel
theorem dX10_findEnding_47 : decode cX10_findEnding 47 = .ok (.iload_n 2, 1) := by decide +kernel
theorem dX10_findEnding_48 : decode cX10_findEnding 48 = .ok (.iconst 1, 1) := by decide +kernel
theorem dX10_findEnding_49 : decode cX10_findEnding 49 = .ok (.bastore, 1) := by decide +kernel
theorem dX10_findEnding_50 : decode cX10_findEnding 50 = .ok (.iinc 1 1, 3) := by decide +kernel
theorem dX10_findEnding_53 : decode cX10_findEnding 53 = .ok (.iinc 2 (-1), 3) := by decide +kernel
theorem dX10_findEnding_56 : decode cX10_findEnding 56 = .ok (.goto (-44), 3) := by decide +kernel
theorem dX10_findEnding_59 : decode cX10_findEnding 59 = .ok (.iload_n 1, 1) := by decide +kernel
theorem dX10_findEnding_60 : decode cX10_findEnding 60 = .ok (.ireturn, 1) := by decide +kernel
theorem dX10_canEnd_0 : decode cX10_canEnd 0 = .ok (.aload_n 0, 1) := by decide +kernel
theorem dX10_canEnd_1 : decode cX10_canEnd 1 = .ok (.getfield 26, 3) := by decide +kernel
theorem dX10_canEnd_4 : decode cX10_canEnd 4 = .ok (.iload_n 1, 1) := by decide +kernel
theorem dX10_canEnd_5 : decode cX10_canEnd 5 = .ok (.invokevirtual 50, 3) := by decide +kernel
theorem dX10_canEnd_8 : decode cX10_canEnd 8 = .ok (.bipush 9, 2) := by decide +kernel
theorem dX10_canEnd_10 : decode cX10_canEnd 10 = .ok (.if_icmp .eq 35, 3) := by decide +kernel
theorem dX10_canEnd_13 : decode cX10_canEnd 13 = .ok (.aload_n 0, 1) := by decide +kernel
theorem dX10_canEnd_14 : decode cX10_canEnd 14 = .ok (.aload_n 0, 1) := by decide +kernel
theorem dX10_canEnd_15 : decode cX10_canEnd 15 = .ok (.getfield 26, 3) := by decide +kernel
theorem dX10_canEnd_18 : decode cX10_canEnd 18 = .ok (.iload_n 1, 1) := by decide +kernel
theorem dX10_canEnd_19 : decode cX10_canEnd 19 = .ok (.iconst 0, 1) := by decide +kernel
theorem dX10_canEnd_20 : decode cX10_canEnd 20 = .ok (.invokevirtual 69, 3) := by decide +kernel
theorem dX10_canEnd_23 : decode cX10_canEnd 23 = .ok (.invokevirtual 86, 3) := by decide +kernel
theorem dX10_canEnd_26 : decode cX10_canEnd 26 = .ok (.ifCond .ne 19, 3) := by decide +kernel
theorem dX10_canEnd_29 : decode cX10_canEnd 29 = .ok (.aload_n 0, 1) := by decide +kernel
theorem dX10_canEnd_30 : decode cX10_canEnd 30 = .ok (.aload_n 0, 1) := by decide +kernel
theorem dX10_canEnd_31 : decode cX10_canEnd 31 = .ok (.getfield 26, 3) := by decide +kernel
theorem dX10_canEnd_34 : decode cX10_canEnd 34 = .ok (.iload_n 1, 1) := by decide +kernel
theorem dX10_canEnd_35 : decode cX10_canEnd 35 = .ok (.iconst 1, 1) := by decide +kernel
theorem dX10_canEnd_36 : decode cX10_canEnd 36 = .ok (.invokevirtual 69, 3) := by decide +kernel
theorem dX10_canEnd_39 : decode cX10_canEnd 39 = .ok (.invokevirtual 86, 3) := by decide +kernel
theorem dX10_canEnd_42 : decode cX10_canEnd 42 = .ok (.ifCond .eq 7, 3) := by decide +kernel
theorem dX10_canEnd_45 : decode cX10_canEnd 45 = .ok (.iconst 1, 1) := by decide +kernel
theorem dX10_canEnd_46 : decode cX10_canEnd 46 = .ok (.goto 4, 3) := by decide +kernel
theorem dX10_canEnd_49 : decode cX10_canEnd 49 = .ok (.iconst 0, 1) := by decide +kernel
theorem dX10_canEnd_50 : decode cX10_canEnd 50 = .ok (.ireturn, 1) := by decide +kernel
theorem dX10_isEnding_0 : decode cX10_isEnding 0 = .ok (.aload_n 0, 1) := by decide +kernel
theorem dX10_isEnding_1 : decode cX10_isEnding 1 = .ok (.getfield 26, 3) := by decide +kernel
theorem dX10_isEnding_4 : decode cX10_isEnding 4 = .ok (.iload_n 1, 1) := by decide +kernel
theorem dX10_isEnding_5 : decode cX10_isEnding 5 = .ok (.invokevirtual 46, 3) := by decide +kernel
theorem dX10_isEnding_8 : decode cX10_isEnding 8 = .ok (.ifCond .eq 16, 3) := by decide +kernel
theorem dX10_isEnding_11 : decode cX10_isEnding 11 = .ok (.aload_n 0, 1) := by decide +kernel
theorem dX10_isEnding_12 : decode cX10_isEnding 12 = .ok (.getfield 18, 3) := by decide +kernel
theorem dX10_isEnding_15 : decode cX10_isEnding 15 = .ok (.iload_n 1, 1) := by decide +kernel
theorem dX10_isEnding_16 : decode cX10_isEnding 16 = .ok (.baload, 1) := by decide +kernel
theorem dX10_isEnding_17 : decode cX10_isEnding 17 = .ok (.ifCond .eq 7, 3) := by decide +kernel
theorem dX10_isEnding_20 : decode cX10_isEnding 20 = .ok (.iconst 1, 1) := by decide +kernel
theorem dX10_isEnding_21 : decode cX10_isEnding 21 = .ok (.goto 4, 3) := by decide +kernel
theorem dX10_isEnding_24 : decode cX10_isEnding 24 = .ok (.iconst 0, 1) := by decide +kernel
theorem dX10_isEnding_25 : decode cX10_isEnding 25 = .ok (.ireturn, 1) := by decide +kernel
theorem dX11_init_0 : decode cX11_init 0 = .ok (.aload_n 0, 1) := by decide +kernel
theorem dX11_init_1 : decode cX11_init 1 = .ok (.invokespecial 1, 3) := by decide +kernel
theorem dX11_init_4 : decode cX11_init 4 = .ok (.aload_n 0, 1) := by decide +kernel
theorem dX11_init_5 : decode cX11_init 5 = .ok (.new 7, 3) := by decide +kernel
theorem dX11_init_8 : decode cX11_init 8 = .ok (.dup, 1) := by decide +kernel
theorem dX11_init_9 : decode cX11_init 9 = .ok (.invokespecial 9, 3) := by decide +kernel
theorem dX11_init_12 : decode cX11_init 12 = .ok (.putfield 10, 3) := by decide +kernel
theorem dX11_init_15 : decode cX11_init 15 = .ok (.aload_n 0, 1) := by decide +kernel
theorem dX11_init_16 : decode cX11_init 16 = .ok (.bipush 8, 2) := by decide +kernel
theorem dX11_init_18 : decode cX11_init 18 = .ok (.newarray .int, 2) := by decide +kernel
theorem dX11_init_20 : decode cX11_init 20 = .ok (.putfield 16, 3) := by decide +kernel
theorem dX11_init_23 : decode cX11_init 23 = .ok (.aload_n 0, 1) := by decide +kernel
theorem dX11_init_24 : decode cX11_init 24 = .ok (.bipush 8, 2) := by decide +kernel
theorem dX11_init_26 : decode cX11_init 26 = .ok (.newarray .int, 2) := by decide +kernel
theorem dX11_init_28 : decode cX11_init 28 = .ok (.putfield 20, 3) := by decide +kernel
theorem dX11_init_31 : decode cX11_init 31 = .ok (.aload_n 0, 1) := by decide +kernel
theorem dX11_init_32 : decode cX11_init 32 = .ok (.bipush 8, 2) := by decide +kernel
theorem dX11_init_34 : decode cX11_init 34 = .ok (.newarray .int, 2) := by decide +kernel
theorem dX11_init_36 : decode cX11_init 36 = .ok (.putfield 23, 3) := by decide +kernel
theorem dX11_init_39 : decode cX11_init 39 = .ok (.aload_n 0, 1) := by decide +kernel
theorem dX11_init_40 : decode cX11_init 40 = .ok (.new 26, 3) := by decide +kernel
theorem dX11_init_43 : decode cX11_init 43 = .ok (.dup, 1) := by decide +kernel
theorem dX11_init_44 : decode cX11_init 44 = .ok (.invokespecial 28, 3) := by decide +kernel
theorem dX11_init_47 : decode cX11_init 47 = .ok (.putfield 29, 3) := by decide +kernel
theorem dX11_init_50 : decode cX11_init 50 = .ok (.aload_n 0, 1) := by decide +kernel
theorem dX11_init_51 : decode cX11_init 51 = .ok (.new 33, 3) := by decide +kernel
theorem dX11_init_54 : decode cX11_init 54 = .ok (.dup, 1) := by decide +kernel
theorem dX11_init_55 : decode cX11_init 55 = .ok (.aload_n 0, 1) := by decide +kernel
theorem dX11_init_56 : decode cX11_init 56 = .ok (.getfield 10, 3) := by decide +kernel
theorem dX11_init_59 : decode cX11_init 59 = .ok (.invokespecial 35, 3) := by decide +kernel
theorem dX11_init_62 : decode cX11_init 62 = .ok (.putfield 38, 3) := by decide +kernel
theorem dX11_init_65 : decode cX11_init 65 = .ok (.aload_n 0, 1) := by decide +kernel
theorem dX11_init_66 : decode cX11_init 66 = .ok (.new 42, 3) := by decide +kernel
theorem dX11_init_69 : decode cX11_init 69 = .ok (.dup, 1) := by decide +kernel
theorem dX11_init_70 : decode cX11_init 70 = .ok (.invokespecial 44, 3) := by decide +kernel
theorem dX11_init_73 : decode cX11_init 73 = .ok (.putfield 45, 3) := by decide +kernel
theorem dX11_init_76 : decode cX11_init 76 = .ok (.aload_n 0, 1) := by decide +kernel
theorem dX11_init_77 : decode cX11_init 77 = .ok (.new 49, 3) := by decide +kernel
theorem dX11_init_80 : decode cX11_init 80 = .ok (.dup, 1) := by decide +kernel
theorem dX11_init_81 : decode cX11_init 81 = .ok (.invokespecial 51, 3) := by decide +kernel
theorem dX11_init_84 : decode cX11_init 84 = .ok (.putfield 52, 3) := by decide +kernel
theorem dX11_init_87 : decode cX11_init 87 = .ok (.aload_n 0, 1) := by decide +kernel
theorem dX11_init_88 : decode cX11_init 88 = .ok (.new 56, 3) := by decide +kernel
theorem dX11_init_91 : decode cX11_init 91 = .ok (.dup, 1) := by decide +kernel
theorem dX11_init_92 : decode cX11_init 92 = .ok (.aload_n 0, 1) := by decide +kernel
theorem dX11_init_93 : decode cX11_init 93 = .ok (.getfield 52, 3) := by decide +kernel
theorem dX11_init_96 : decode cX11_init 96 = .ok (.invokespecial 58, 3) := by decide +kernel
theorem dX11_init_99 : decode cX11_init 99 = .ok (.putfield 61, 3) := by decide +kernel
theorem dX11_init_102 : decode cX11_init 102 = .ok (.aload_n 0, 1) := by decide +kernel
theorem dX11_init_103 : decode cX11_init 103 = .ok (.new 65, 3) := by decide +kernel
theorem dX11_init_106 : decode cX11_init 106 = .ok (.dup, 1) := by decide +kernel
theorem dX11_init_107 : decode cX11_init 107 = .ok (.aload_n 0, 1) := by decide +kernel
theorem dX11_init_108 : decode cX11_init 108 = .ok (.getfield 52, 3) := by decide +kernel
theorem dX11_init_111 : decode cX11_init 111 = .ok (.aload_n 0, 1) := by decide +kernel
theorem dX11_init_112 : decode cX11_init 112 = .ok (.getfield 61, 3) := by decide +kernel
theorem dX11_init_115 : decode cX11_init 115 = .ok (.invokespecial 67, 3) := by decide +kernel
theorem dX11_init_118 : decode cX11_init 118 = .ok (.putfield 70, 3) := by decide +kernel
theorem dX11_init_121 : decode cX11_init 121 = .ok (.aload_n 0, 1) := by decide +kernel
theorem dX11_init_122 : decode cX11_init 122 = .ok (.new 74, 3) := by decide +kernel
theorem dX11_init_125 : decode cX11_init 125 = .ok (.dup, 1) := by decide +kernel
theorem dX11_init_126 : decode cX11_init 126 = .ok (.aload_n 0, 1) := by decide +kernel
theorem dX11_init_127 : decode cX11_init 127 = .ok (.getfield 52, 3) := by decide +kernel
theorem dX11_init_130 : decode cX11_init 130 = .ok (.aload_n 0, 1) := by decide +kernel
theorem dX11_init_131 : decode cX11_init 131 = .ok (.getfield 61, 3) := by decide +kernel
theorem dX11_init_134 : decode cX11_init 134 = .ok (.aload_n 0, 1) := by decide +kernel
theorem dX11_init_135 : decode cX11_init 135 = .ok (.getfield 70, 3) := by decide +kernel
theorem dX11_init_138 : decode cX11_init 138 = .ok (.aload_n 0, 1) := by decide +kernel
theorem dX11_init_139 : decode cX11_init 139 = .ok (.getfield 10, 3) := by decide +kernel
theorem dX11_init_142 : decode cX11_init 142 = .ok (.invokespecial 76, 3) := by decide +kernel
theorem dX11_init_145 : decode cX11_init 145 = .ok (.putfield 79, 3) := by decide +kernel
theorem dX11_init_148 : decode cX11_init 148 = .ok (.aload_n 0, 1) := by decide +kernel
theorem dX11_init_149 : decode cX11_init 149 = .ok (.new 83, 3) := by decide +kernel
theorem dX11_init_152 : decode cX11_init 152 = .ok (.dup, 1) := by decide +kernel
theorem dX11_init_153 : decode cX11_init 153 = .ok (.aload_n 0, 1) := by decide +kernel
theorem dX11_init_154 : decode cX11_init 154 = .ok (.getfield 52, 3) := by decide +kernel
theorem dX11_init_157 : decode cX11_init 157 = .ok (.invokespecial 85, 3) := by decide +kernel
theorem dX11_init_160 : decode cX11_init 160 = .ok (.putfield 86, 3) := by decide +kernel
theorem dX11_init_163 : decode cX11_init 163 = .ok (.aload_n 0, 1) := by decide +kernel
theorem dX11_init_164 : decode cX11_init 164 = .ok (.aconst_null, 1) := by decide +kernel
theorem dX11_init_165 : decode cX11_init 165 = .ok (.putfield 90, 3) := by decide +kernel
theorem dX11_init_168 : decode cX11_init 168 = .ok (.aload_n 0, 1) := by decide +kernel
theorem dX11_init_169 : decode cX11_init 169 = .ok (.iconst 0, 1) := by decide +kernel
theorem dX11_init_170 : decode cX11_init 170 = .ok (.putfield 94, 3) := by decide +kernel
theorem dX11_init_173 : decode cX11_init 173 = .ok (.aload_n 0, 1) := by decide +kernel
theorem dX11_init_174 : decode cX11_init 174 = .ok (.iconst (-1), 1) := by decide +kernel
theorem dX11_init_175 : decode cX11_init 175 = .ok (.putfield 98, 3) := by decide +kernel
theorem dX11_init_178 : decode cX11_init 178 = .ok (.aload_n 0, 1) := by decide +kernel
theorem dX11_init_179 : decode cX11_init 179 = .ok (.iconst 0, 1) := by decide +kernel
theorem dX11_init_180 : decode cX11_init 180 = .ok (.putfield 102, 3) := by decide +kernel
theorem dX11_init_183 : decode cX11_init 183 = .ok (.aload_n 0, 1) := by decide +kernel
theorem dX11_init_184 : decode cX11_init 184 = .ok (.iconst 0, 1) := by decide +kernel
theorem dX11_init_185 : decode cX11_init 185 = .ok (.putfield 105, 3) := by decide +kernel
theorem dX11_init_188 : decode cX11_init 188 = .ok (.return_, 1) := by decide +kernel
theorem dX11_levels_0 : decode cX11_levels 0 = .ok (.iload_n 1, 1) := by decide +kernel
theorem dX11_levels_1 : decode cX11_levels 1 = .ok (.iconst 1, 1) := by decide +kernel
theorem dX11_levels_2 : decode cX11_levels 2 = .ok (.if_icmp .lt 9, 3) := by decide +kernel
theorem dX11_levels_5 : decode cX11_levels 5 = .ok (.iload_n 1, 1) := by decide +kernel
theorem dX11_levels_6 : decode cX11_levels 6 = .ok (.bipush 6, 2) := by decide +kernel
theorem dX11_levels_8 : decode cX11_levels 8 = .ok (.if_icmp .le 13, 3) := by decide +kernel
theorem dX11_levels_11 : decode cX11_levels 11 = .ok (.new 108, 3) := by decide +kernel
theorem dX11_levels_14 : decode cX11_levels 14 = .ok (.dup, 1) := by decide +kernel
theorem dX11_levels_15 : decode cX11_levels 15 = .ok (.ldc 110, 2) := by decide +kernel
theorem dX11_levels_17 : decode cX11_levels 17 = .ok (.invokespecial 112, 3) := by decide +kernel
theorem dX11_levels_20 : decode cX11_levels 20 = .ok (.athrow, 1) := by decide +kernel
theorem dX11_levels_21 : decode cX11_levels 21 = .ok (.iload_n 1, 1) := by decide +kernel
theorem dX11_levels_22 : decode cX11_levels 22 = .ok (.lload_n 2, 1) := by decide +kernel
theorem dX11_levels_23 : decode cX11_levels 23 = .ok (.invokestatic 115, 3) := by decide +kernel
theorem dX11_levels_26 : decode cX11_levels 26 = .ok (.ifCond .ne 13, 3) := by decide +kernel
theorem dX11_levels_29 : decode cX11_levels 29 = .ok (.new 108, 3) := by decide +kernel
theorem dX11_levels_32 : decode cX11_levels 32 = .ok (.dup, 1) := by decide +kernel
theorem dX11_levels_33 : decode cX11_levels 33 = .ok (.ldc 119, 2) := by decide +kernel
theorem dX11_levels_35 : decode cX11_levels 35 = .ok (.invokespecial 112, 3) := by decide +kernel
theorem dX11_levels_38 : decode cX11_levels 38 = .ok (.athrow, 1) := by decide +kernel
theorem dX11_levels_39 : decode cX11_levels 39 = .ok (.iload_n 1, 1) := by decide +kernel
theorem dX11_levels_40 : decode cX11_levels 40 = .ok (.lload_n 2, 1) := by decide +kernel
theorem dX11_levels_41 : decode cX11_levels 41 = .ok (.invokestatic 121, 3) := by decide +kernel
theorem dX11_levels_44 : decode cX11_levels 44 = .ok (.ifCond .ne 13, 3) := by decide +kernel
theorem dX11_levels_47 : decode cX11_levels 47 = .ok (.new 124, 3) := by decide +kernel
theorem dX11_levels_50 : decode cX11_levels 50 = .ok (.dup, 1) := by decide +kernel
theorem dX11_levels_51 : decode cX11_levels 51 = .ok (.ldc 126, 2) := by decide +kernel
theorem dX11_levels_53 : decode cX11_levels 53 = .ok (.invokespecial 128, 3) := by decide +kernel
theorem dX11_levels_56 : decode cX11_levels 56 = .ok (.athrow, 1) := by decide +kernel
theorem dX11_levels_57 : decode cX11_levels 57 = .ok (.aload_n 0, 1) := by decide +kernel
theorem dX11_levels_58 : decode cX11_levels 58 = .ok (.getfield 10, 3) := by decide +kernel
theorem dX11_levels_61 : decode cX11_levels 61 = .ok (.iload_n 1, 1) := by decide +kernel
theorem dX11_levels_62 : decode cX11_levels 62 = .ok (.lload_n 2, 1) := by decide +kernel
theorem dX11_levels_63 : decode cX11_levels 63 = .ok (.invokevirtual 129, 3) := by decide +kernel
theorem dX11_levels_66 : decode cX11_levels 66 = .ok (.iconst 0, 1) := by decide +kernel
theorem dX11_levels_67 : decode cX11_levels 67 = .ok (.istore 4, 2) := by decide +kernel
theorem dX11_levels_69 : decode cX11_levels 69 = .ok (.iload 4, 2) := by decide +kernel
theorem dX11_levels_71 : decode cX11_levels 71 = .ok (.bipush 8, 2) := by decide +kernel
theorem dX11_levels_73 : decode cX11_levels 73 = .ok (.if_icmp .ge 37, 3) := by decide +kernel
theorem dX11_levels_76 : decode cX11_levels 76 = .ok (.aload_n 0, 1) := by decide +kernel
theorem dX11_levels_77 : decode cX11_levels 77 = .ok (.getfield 16, 3) := by decide +kernel
theorem dX11_levels_80 : decode cX11_levels 80 = .ok (.iload 4, 2) := by decide +kernel
theorem dX11_levels_82 : decode cX11_levels 82 = .ok (.aload_n 0, 1) := by decide +kernel
theorem dX11_levels_83 : decode cX11_levels 83 = .ok (.getfield 10, 3) := by decide +kernel
theorem dX11_levels_86 : decode cX11_levels 86 = .ok (.invokevirtual 133, 3) := by decide +kernel
theorem dX11_levels_89 : decode cX11_levels 89 = .ok (.iastore, 1) := by decide +kernel
theorem dX11_levels_90 : decode cX11_levels 90 = .ok (.aload_n 0, 1) := by decide +kernel
theorem dX11_levels_91 : decode cX11_levels 91 = .ok (.getfield 20, 3) := by decide +kernel
theorem dX11_levels_94 : decode cX11_levels 94 = .ok (.iload 4, 2) := by decide +kernel
theorem dX11_levels_96 : decode cX11_levels 96 = .ok (.aload_n 0, 1) := by decide +kernel
theorem dX11_levels_97 : decode cX11_levels 97 = .ok (.getfield 10, 3) := by decide +kernel
theorem dX11_levels_100 : decode cX11_levels 100 = .ok (.invokevirtual 137, 3) := by decide +kernel
theorem dX11_levels_103 : decode cX11_levels 103 = .ok (.iastore, 1) := by decide +kernel
theorem dX11_levels_104 : decode cX11_levels 104 = .ok (.iinc 4 1, 3) := by decide +kernel
theorem dX11_levels_107 : decode cX11_levels 107 = .ok (.goto (-38), 3) := by decide +kernel
theorem dX11_levels_110 : decode cX11_levels 110 = .ok (.iconst 1, 1) := by decide +kernel
theorem dX11_levels_111 : decode cX11_levels 111 = .ok (.ireturn, 1) := by decide +kernel
theorem dX11_join_0 : decode cX11_join 0 = .ok (.aload_n 0, 1) := by decide +kernel
theorem dX11_join_1 : decode cX11_join 1 = .ok (.getfield 10, 3) := by decide +kernel
theorem dX11_join_4 : decode cX11_join 4 = .ok (.iload_n 1, 1) := by decide +kernel
theorem dX11_join_5 : decode cX11_join 5 = .ok (.iload_n 2, 1) := by decide +kernel
theorem dX11_join_6 : decode cX11_join 6 = .ok (.invokevirtual 140, 3) := by decide +kernel
theorem dX11_join_9 : decode cX11_join 9 = .ok (.ireturn, 1) := by decide +kernel
theorem dX11_label_0 : decode cX11_label 0 = .ok (.iload_n 2, 1) := by decide +kernel
theorem dX11_label_1 : decode cX11_label 1 = .ok (.invokestatic 144, 3) := by decide +kernel
theorem dX11_label_4 : decode cX11_label 4 = .ok (.ifCond .eq 14, 3) := by decide +kernel
theorem dX11_label_7 : decode cX11_label 7 = .ok (.aload_n 0, 1) := by decide +kernel
theorem dX11_label_8 : decode cX11_label 8 = .ok (.getfield 10, 3) := by decide +kernel
theorem dX11_label_11 : decode cX11_label 11 = .ok (.iload_n 3, 1) := by decide +kernel
theorem dX11_label_12 : decode cX11_label 12 = .ok (.invokevirtual 148, 3) := by decide +kernel
theorem dX11_label_15 : decode cX11_label 15 = .ok (.ifCond .ne 5, 3) := by decide +kernel
theorem dX11_label_18 : decode cX11_label 18 = .ok (.iconst 0, 1) := by decide +kernel
theorem dX11_label_19 : decode cX11_label 19 = .ok (.ireturn, 1) := by decide +kernel
theorem dX11_label_20 : decode cX11_label 20 = .ok (.iload_n 1, 1) := by decide +kernel
theorem dX11_label_21 : decode cX11_label 21 = .ok (.ifCond .ne 12, 3) := by decide +kernel
theorem dX11_label_24 : decode cX11_label 24 = .ok (.aload_n 0, 1) := by decide +kernel
theorem dX11_label_25 : decode cX11_label 25 = .ok (.getfield 16, 3) := by decide +kernel
theorem dX11_label_28 : decode cX11_label 28 = .ok (.iload_n 2, 1) := by decide +kernel
theorem dX11_label_29 : decode cX11_label 29 = .ok (.iload_n 3, 1) := by decide +kernel
theorem dX11_label_30 : decode cX11_label 30 = .ok (.iastore, 1) := by decide +kernel
theorem dX11_label_31 : decode cX11_label 31 = .ok (.iconst 1, 1) := by decide +kernel
theorem dX11_label_32 : decode cX11_label 32 = .ok (.ireturn, 1) := by decide +kernel
theorem dX11_label_33 : decode cX11_label 33 = .ok (.iload_n 1, 1) := by decide +kernel
theorem dX11_label_34 : decode cX11_label 34 = .ok (.iconst 1, 1) := by decide +kernel
theorem dX11_label_35 : decode cX11_label 35 = .ok (.if_icmp .ne 12, 3) := by decide +kernel
theorem dX11_label_38 : decode cX11_label 38 = .ok (.aload_n 0, 1) := by decide +kernel
theorem dX11_label_39 : decode cX11_label 39 = .ok (.getfield 20, 3) := by decide +kernel
theorem dX11_label_42 : decode cX11_label 42 = .ok (.iload_n 2, 1) := by decide +kernel
theorem dX11_label_43 : decode cX11_label 43 = .ok (.iload_n 3, 1) := by decide +kernel
theorem dX11_label_44 : decode cX11_label 44 = .ok (.iastore, 1) := by decide +kernel
theorem dX11_label_45 : decode cX11_label 45 = .ok (.iconst 1, 1) := by decide +kernel
theorem dX11_label_46 : decode cX11_label 46 = .ok (.ireturn, 1) := by decide +kernel
theorem dX11_label_47 : decode cX11_label 47 = .ok (.iconst 0, 1) := by decide +kernel
theorem dX11_label_48 : decode cX11_label 48 = .ok (.ireturn, 1) := by decide +kernel
theorem dX11_write_0 : decode cX11_write 0 = .ok (.aload_n 0, 1) := by decide +kernel
theorem dX11_write_1 : decode cX11_write 1 = .ok (.getfield 29, 3) := by decide +kernel
theorem dX11_write_4 : decode cX11_write 4 = .ok (.lload_n 1, 1) := by decide +kernel
theorem dX11_write_5 : decode cX11_write 5 = .ok (.invokevirtual 151, 3) := by decide +kernel
theorem dX11_write_8 : decode cX11_write 8 = .ok (.ireturn, 1) := by decide +kernel
theorem dX11_compile_0 : decode cX11_compile 0 = .ok (.aload_n 0, 1) := by decide +kernel
theorem dX11_compile_1 : decode cX11_compile 1 = .ok (.getfield 29, 3) := by decide +kernel
theorem dX11_compile_4 : decode cX11_compile 4 = .ok (.invokevirtual 155, 3) := by decide +kernel
theorem dX11_compile_7 : decode cX11_compile 7 = .ok (.astore_n 1, 1) := by decide +kernel
theorem dX11_compile_8 : decode cX11_compile 8 = .ok (.aload_n 0, 1) := by decide +kernel
theorem dX11_compile_9 : decode cX11_compile 9 = .ok (.aload_n 0, 1) := by decide +kernel
theorem dX11_compile_10 : decode cX11_compile 10 = .ok (.getfield 29, 3) := by decide +kernel
theorem dX11_compile_13 : decode cX11_compile 13 = .ok (.invokevirtual 159, 3) := by decide +kernel
theorem dX11_compile_16 : decode cX11_compile 16 = .ok (.putfield 98, 3) := by decide +kernel
theorem dX11_compile_19 : decode cX11_compile 19 = .ok (.aload_n 0, 1) := by decide +kernel
theorem dX11_compile_20 : decode cX11_compile 20 = .ok (.getfield 98, 3) := by decide +kernel
theorem dX11_compile_23 : decode cX11_compile 23 = .ok (.iconst (-1), 1) := by decide +kernel
theorem dX11_compile_24 : decode cX11_compile 24 = .ok (.if_icmp .eq 13, 3) := by decide +kernel
theorem dX11_compile_27 : decode cX11_compile 27 = .ok (.new 108, 3) := by decide +kernel
theorem dX11_compile_30 : decode cX11_compile 30 = .ok (.dup, 1) := by decide +kernel
theorem dX11_compile_31 : decode cX11_compile 31 = .ok (.ldc 162, 2) := by decide +kernel
theorem dX11_compile_33 : decode cX11_compile 33 = .ok (.invokespecial 112, 3) := by decide +kernel
theorem dX11_compile_36 : decode cX11_compile 36 = .ok (.athrow, 1) := by decide +kernel
theorem dX11_compile_37 : decode cX11_compile 37 = .ok (.aload_n 0, 1) := by decide +kernel
theorem dX11_compile_38 : decode cX11_compile 38 = .ok (.aload_n 1, 1) := by decide +kernel
theorem dX11_compile_39 : decode cX11_compile 39 = .ok (.putfield 90, 3) := by decide +kernel
theorem dX11_compile_42 : decode cX11_compile 42 = .ok (.aload_n 0, 1) := by decide +kernel
theorem dX11_compile_43 : decode cX11_compile 43 = .ok (.iconst 1, 1) := by decide +kernel
theorem dX11_compile_44 : decode cX11_compile 44 = .ok (.putfield 94, 3) := by decide +kernel
theorem dX11_compile_47 : decode cX11_compile 47 = .ok (.aload_n 0, 1) := by decide +kernel
theorem dX11_compile_48 : decode cX11_compile 48 = .ok (.getfield 38, 3) := by decide +kernel
theorem dX11_compile_51 : decode cX11_compile 51 = .ok (.aload_n 1, 1) := by decide +kernel
theorem dX11_compile_52 : decode cX11_compile 52 = .ok (.aload_n 0, 1) := by decide +kernel
theorem dX11_compile_53 : decode cX11_compile 53 = .ok (.getfield 16, 3) := by decide +kernel
theorem dX11_compile_56 : decode cX11_compile 56 = .ok (.invokevirtual 164, 3) := by decide +kernel
theorem dX11_compile_59 : decode cX11_compile 59 = .ok (.aload_n 0, 1) := by decide +kernel
theorem dX11_compile_60 : decode cX11_compile 60 = .ok (.getfield 38, 3) := by decide +kernel
theorem dX11_compile_63 : decode cX11_compile 63 = .ok (.aload_n 0, 1) := by decide +kernel
theorem dX11_compile_64 : decode cX11_compile 64 = .ok (.getfield 20, 3) := by decide +kernel
theorem dX11_compile_67 : decode cX11_compile 67 = .ok (.invokevirtual 168, 3) := by decide +kernel
theorem dX11_compile_70 : decode cX11_compile 70 = .ok (.ifCond .ne 13, 3) := by decide +kernel
theorem dX11_compile_73 : decode cX11_compile 73 = .ok (.new 124, 3) := by decide +kernel
theorem dX11_compile_76 : decode cX11_compile 76 = .ok (.dup, 1) := by decide +kernel
theorem dX11_compile_77 : decode cX11_compile 77 = .ok (.ldc 172, 2) := by decide +kernel
theorem dX11_compile_79 : decode cX11_compile 79 = .ok (.invokespecial 128, 3) := by decide +kernel
theorem dX11_compile_82 : decode cX11_compile 82 = .ok (.athrow, 1) := by decide +kernel
theorem dX11_compile_83 : decode cX11_compile 83 = .ok (.aload_n 0, 1) := by decide +kernel
theorem dX11_compile_84 : decode cX11_compile 84 = .ok (.getfield 52, 3) := by decide +kernel
theorem dX11_compile_87 : decode cX11_compile 87 = .ok (.aload_n 1, 1) := by decide +kernel
theorem dX11_compile_88 : decode cX11_compile 88 = .ok (.invokevirtual 174, 3) := by decide +kernel
theorem dX11_compile_91 : decode cX11_compile 91 = .ok (.aload_n 0, 1) := by decide +kernel
theorem dX11_compile_92 : decode cX11_compile 92 = .ok (.iconst 1, 1) := by decide +kernel
theorem dX11_compile_93 : decode cX11_compile 93 = .ok (.putfield 102, 3) := by decide +kernel
theorem dX11_compile_96 : decode cX11_compile 96 = .ok (.aload_n 0, 1) := by decide +kernel
theorem dX11_compile_97 : decode cX11_compile 97 = .ok (.iconst 0, 1) := by decide +kernel
theorem dX11_compile_98 : decode cX11_compile 98 = .ok (.putfield 105, 3) := by decide +kernel
theorem dX11_compile_101 : decode cX11_compile 101 = .ok (.aload_n 0, 1) := by decide +kernel
theorem dX11_compile_102 : decode cX11_compile 102 = .ok (.getfield 52, 3) := by decide +kernel
theorem dX11_compile_105 : decode cX11_compile 105 = .ok (.invokevirtual 177, 3) := by decide +kernel
theorem dX11_compile_108 : decode cX11_compile 108 = .ok (.ireturn, 1) := by decide +kernel
theorem dX11_position_0 : decode cX11_position 0 = .ok (.aload_n 0, 1) := by decide +kernel
theorem dX11_position_1 : decode cX11_position 1 = .ok (.getfield 98, 3) := by decide +kernel
theorem dX11_position_4 : decode cX11_position 4 = .ok (.ireturn, 1) := by decide +kernel
theorem dX11_exit_0 : decode cX11_exit 0 = .ok (.aload_n 0, 1) := by decide +kernel
theorem dX11_exit_1 : decode cX11_exit 1 = .ok (.getfield 94, 3) := by decide +kernel
theorem dX11_exit_4 : decode cX11_exit 4 = .ok (.ifCond .eq 14, 3) := by decide +kernel
theorem dX11_exit_7 : decode cX11_exit 7 = .ok (.aload_n 0, 1) := by decide +kernel
theorem dX11_exit_8 : decode cX11_exit 8 = .ok (.getfield 38, 3) := by decide +kernel
theorem dX11_exit_11 : decode cX11_exit 11 = .ok (.iload_n 1, 1) := by decide +kernel
theorem dX11_exit_12 : decode cX11_exit 12 = .ok (.invokevirtual 180, 3) := by decide +kernel
theorem dX11_exit_15 : decode cX11_exit 15 = .ok (.goto 4, 3) := by decide +kernel
theorem dX11_exit_18 : decode cX11_exit 18 = .ok (.iconst (-1), 1) := by decide +kernel
theorem dX11_exit_19 : decode cX11_exit 19 = .ok (.ireturn, 1) := by decide +kernel
theorem dX11_code_0 : decode cX11_code 0 = .ok (.iload_n 1, 1) := by decide +kernel
theorem dX11_code_1 : decode cX11_code 1 = .ok (.iconst (-1), 1) := by decide +kernel
theorem dX11_code_2 : decode cX11_code 2 = .ok (.if_icmp .ne 11, 3) := by decide +kernel
theorem dX11_code_5 : decode cX11_code 5 = .ok (.aload_n 0, 1) := by decide +kernel
theorem dX11_code_6 : decode cX11_code 6 = .ok (.getfield 52, 3) := by decide +kernel
theorem dX11_code_9 : decode cX11_code 9 = .ok (.invokevirtual 177, 3) := by decide +kernel
theorem dX11_code_12 : decode cX11_code 12 = .ok (.ireturn, 1) := by decide +kernel
theorem dX11_code_13 : decode cX11_code 13 = .ok (.aload_n 0, 1) := by decide +kernel
theorem dX11_code_14 : decode cX11_code 14 = .ok (.getfield 52, 3) := by decide +kernel
theorem dX11_code_17 : decode cX11_code 17 = .ok (.iload_n 1, 1) := by decide +kernel
theorem dX11_code_18 : decode cX11_code 18 = .ok (.invokevirtual 184, 3) := by decide +kernel
theorem dX11_code_21 : decode cX11_code 21 = .ok (.ifCond .ne 5, 3) := by decide +kernel
theorem dX11_code_24 : decode cX11_code 24 = .ok (.iconst (-1), 1) := by decide +kernel
theorem dX11_code_25 : decode cX11_code 25 = .ok (.ireturn, 1) := by decide +kernel
theorem dX11_code_26 : decode cX11_code 26 = .ok (.iload_n 2, 1) := by decide +kernel
theorem dX11_code_27 : decode cX11_code 27 = .ok (.ifCond .ne 12, 3) := by decide +kernel
theorem dX11_code_30 : decode cX11_code 30 = .ok (.aload_n 0, 1) := by decide +kernel
theorem dX11_code_31 : decode cX11_code 31 = .ok (.getfield 52, 3) := by decide +kernel
theorem dX11_code_34 : decode cX11_code 34 = .ok (.iload_n 1, 1) := by decide +kernel
theorem dX11_code_35 : decode cX11_code 35 = .ok (.invokevirtual 185, 3) := by decide +kernel
theorem dX11_code_38 : decode cX11_code 38 = .ok (.ireturn, 1) := by decide +kernel
theorem dX11_code_39 : decode cX11_code 39 = .ok (.iload_n 2, 1) := by decide +kernel
theorem dX11_code_40 : decode cX11_code 40 = .ok (.iconst 1, 1) := by decide +kernel
theorem dX11_code_41 : decode cX11_code 41 = .ok (.if_icmp .ne 14, 3) := by decide +kernel
theorem dX11_code_44 : decode cX11_code 44 = .ok (.aload_n 0, 1) := by decide +kernel
theorem dX11_code_45 : decode cX11_code 45 = .ok (.getfield 52, 3) := by decide +kernel
theorem dX11_code_48 : decode cX11_code 48 = .ok (.iload_n 1, 1) := by decide +kernel
theorem dX11_code_49 : decode cX11_code 49 = .ok (.invokevirtual 188, 3) := by decide +kernel
theorem dX11_code_52 : decode cX11_code 52 = .ok (.goto 4, 3) := by decide +kernel
theorem dX11_code_55 : decode cX11_code 55 = .ok (.iconst (-1), 1) := by decide +kernel
theorem dX11_code_56 : decode cX11_code 56 = .ok (.ireturn, 1) := by decide +kernel
theorem dX11_empty_0 : decode cX11_empty 0 = .ok (.aload_n 0, 1) := by decide +kernel
theorem dX11_empty_1 : decode cX11_empty 1 = .ok (.getfield 52, 3) := by decide +kernel
theorem dX11_empty_4 : decode cX11_empty 4 = .ok (.invokevirtual 191, 3) := by decide +kernel
theorem dX11_empty_7 : decode cX11_empty 7 = .ok (.aload_n 0, 1) := by decide +kernel
theorem dX11_empty_8 : decode cX11_empty 8 = .ok (.invokevirtual 194, 3) := by decide +kernel
theorem dX11_empty_11 : decode cX11_empty 11 = .ok (.return_, 1) := by decide +kernel
theorem dX11_put_0 : decode cX11_put 0 = .ok (.aload_n 0, 1) := by decide +kernel
theorem dX11_put_1 : decode cX11_put 1 = .ok (.getfield 52, 3) := by decide +kernel
theorem dX11_put_4 : decode cX11_put 4 = .ok (.iload_n 1, 1) := by decide +kernel
theorem dX11_put_5 : decode cX11_put 5 = .ok (.iload_n 2, 1) := by decide +kernel
theorem dX11_put_6 : decode cX11_put 6 = .ok (.invokevirtual 197, 3) := by decide +kernel
theorem dX11_put_9 : decode cX11_put 9 = .ok (.ifCond .ne 5, 3) := by decide +kernel
theorem dX11_put_12 : decode cX11_put 12 = .ok (.iconst 0, 1) := by decide +kernel
theorem dX11_put_13 : decode cX11_put 13 = .ok (.ireturn, 1) := by decide +kernel
theorem dX11_put_14 : decode cX11_put 14 = .ok (.aload_n 0, 1) := by decide +kernel
theorem dX11_put_15 : decode cX11_put 15 = .ok (.invokevirtual 194, 3) := by decide +kernel
theorem dX11_put_18 : decode cX11_put 18 = .ok (.iconst 1, 1) := by decide +kernel
theorem dX11_put_19 : decode cX11_put 19 = .ok (.ireturn, 1) := by decide +kernel
theorem dX11_verify_0 : decode cX11_verify 0 = .ok (.aload_n 0, 1) := by decide +kernel
theorem dX11_verify_1 : decode cX11_verify 1 = .ok (.invokevirtual 194, 3) := by decide +kernel
theorem dX11_verify_4 : decode cX11_verify 4 = .ok (.aload_n 0, 1) := by decide +kernel
theorem dX11_verify_5 : decode cX11_verify 5 = .ok (.getfield 61, 3) := by decide +kernel
theorem dX11_verify_8 : decode cX11_verify 8 = .ok (.invokevirtual 201, 3) := by decide +kernel
theorem dX11_verify_11 : decode cX11_verify 11 = .ok (.ifCond .ne 13, 3) := by decide +kernel
theorem dX11_verify_14 : decode cX11_verify 14 = .ok (.new 108, 3) := by decide +kernel
theorem dX11_verify_17 : decode cX11_verify 17 = .ok (.dup, 1) := by decide +kernel
theorem dX11_verify_18 : decode cX11_verify 18 = .ok (.ldc 205, 2) := by decide +kernel
theorem dX11_verify_20 : decode cX11_verify 20 = .ok (.invokespecial 112, 3) := by decide +kernel
theorem dX11_verify_23 : decode cX11_verify 23 = .ok (.athrow, 1) := by decide +kernel
theorem dX11_verify_24 : decode cX11_verify 24 = .ok (.aload_n 0, 1) := by decide +kernel
theorem dX11_verify_25 : decode cX11_verify 25 = .ok (.iconst 1, 1) := by decide +kernel
theorem dX11_verify_26 : decode cX11_verify 26 = .ok (.putfield 105, 3) := by decide +kernel
theorem dX11_verify_29 : decode cX11_verify 29 = .ok (.aload_n 0, 1) := by decide +kernel
theorem dX11_verify_30 : decode cX11_verify 30 = .ok (.getfield 70, 3) := by decide +kernel
theorem dX11_verify_33 : decode cX11_verify 33 = .ok (.invokevirtual 207, 3) := by decide +kernel
theorem dX11_verify_36 : decode cX11_verify 36 = .ok (.aload_n 0, 1) := by decide +kernel
theorem dX11_verify_37 : decode cX11_verify 37 = .ok (.getfield 79, 3) := by decide +kernel
theorem dX11_verify_40 : decode cX11_verify 40 = .ok (.aload_n 0, 1) := by decide +kernel
theorem dX11_verify_41 : decode cX11_verify 41 = .ok (.getfield 16, 3) := by decide +kernel
theorem dX11_verify_44 : decode cX11_verify 44 = .ok (.invokevirtual 209, 3) := by decide +kernel
theorem dX11_verify_47 : decode cX11_verify 47 = .ok (.aload_n 0, 1) := by decide +kernel
theorem dX11_verify_48 : decode cX11_verify 48 = .ok (.getfield 79, 3) := by decide +kernel
theorem dX11_verify_51 : decode cX11_verify 51 = .ok (.aload_n 0, 1) := by decide +kernel
theorem dX11_verify_52 : decode cX11_verify 52 = .ok (.getfield 20, 3) := by decide +kernel
theorem dX11_verify_55 : decode cX11_verify 55 = .ok (.invokevirtual 212, 3) := by decide +kernel
theorem dX11_verify_58 : decode cX11_verify 58 = .ok (.ifCond .ne 13, 3) := by decide +kernel
theorem dX11_verify_61 : decode cX11_verify 61 = .ok (.new 124, 3) := by decide +kernel
theorem dX11_verify_64 : decode cX11_verify 64 = .ok (.dup, 1) := by decide +kernel
theorem dX11_verify_65 : decode cX11_verify 65 = .ok (.ldc 213, 2) := by decide +kernel
theorem dX11_verify_67 : decode cX11_verify 67 = .ok (.invokespecial 128, 3) := by decide +kernel
theorem dX11_verify_70 : decode cX11_verify 70 = .ok (.athrow, 1) := by decide +kernel
theorem dX11_verify_71 : decode cX11_verify 71 = .ok (.aload_n 0, 1) := by decide +kernel
theorem dX11_verify_72 : decode cX11_verify 72 = .ok (.iconst 1, 1) := by decide +kernel
theorem dX11_verify_73 : decode cX11_verify 73 = .ok (.putfield 102, 3) := by decide +kernel
theorem dX11_verify_76 : decode cX11_verify 76 = .ok (.aload_n 0, 1) := by decide +kernel
theorem dX11_verify_77 : decode cX11_verify 77 = .ok (.getfield 61, 3) := by decide +kernel
theorem dX11_verify_80 : decode cX11_verify 80 = .ok (.invokevirtual 215, 3) := by decide +kernel
theorem dX11_verify_83 : decode cX11_verify 83 = .ok (.ireturn, 1) := by decide +kernel
theorem dX11_found_0 : decode cX11_found 0 = .ok (.aload_n 0, 1) := by decide +kernel
theorem dX11_found_1 : decode cX11_found 1 = .ok (.getfield 105, 3) := by decide +kernel
theorem dX11_found_4 : decode cX11_found 4 = .ok (.ifCond .eq 15, 3) := by decide +kernel
theorem dX11_found_7 : decode cX11_found 7 = .ok (.aload_n 0, 1) := by decide +kernel
theorem dX11_found_8 : decode cX11_found 8 = .ok (.getfield 79, 3) := by decide +kernel
theorem dX11_found_11 : decode cX11_found 11 = .ok (.iload_n 1, 1) := by decide +kernel
theorem dX11_found_12 : decode cX11_found 12 = .ok (.iload_n 2, 1) := by decide +kernel
theorem dX11_found_13 : decode cX11_found 13 = .ok (.invokevirtual 218, 3) := by decide +kernel
theorem dX11_found_16 : decode cX11_found 16 = .ok (.goto 4, 3) := by decide +kernel
theorem dX11_found_19 : decode cX11_found 19 = .ok (.iconst (-1), 1) := by decide +kernel
theorem dX11_found_20 : decode cX11_found 20 = .ok (.ireturn, 1) := by decide +kernel
theorem dX11_set_0 : decode cX11_set 0 = .ok (.iload_n 1, 1) := by decide +kernel
theorem dX11_set_1 : decode cX11_set 1 = .ok (.invokestatic 144, 3) := by decide +kernel
theorem dX11_set_4 : decode cX11_set 4 = .ok (.ifCond .ne 5, 3) := by decide +kernel
theorem dX11_set_7 : decode cX11_set 7 = .ok (.iconst 0, 1) := by decide +kernel
theorem dX11_set_8 : decode cX11_set 8 = .ok (.ireturn, 1) := by decide +kernel
theorem dX11_set_9 : decode cX11_set 9 = .ok (.aload_n 0, 1) := by decide +kernel
theorem dX11_set_10 : decode cX11_set 10 = .ok (.getfield 23, 3) := by decide +kernel
theorem dX11_set_13 : decode cX11_set 13 = .ok (.iload_n 1, 1) := by decide +kernel
theorem dX11_set_14 : decode cX11_set 14 = .ok (.iload_n 2, 1) := by decide +kernel
theorem dX11_set_15 : decode cX11_set 15 = .ok (.iastore, 1) := by decide +kernel
theorem dX11_set_16 : decode cX11_set 16 = .ok (.iconst 1, 1) := by decide +kernel
theorem dX11_set_17 : decode cX11_set 17 = .ok (.ireturn, 1) := by decide +kernel
theorem dX11_get_0 : decode cX11_get 0 = .ok (.iload_n 1, 1) := by decide +kernel
theorem dX11_get_1 : decode cX11_get 1 = .ok (.invokestatic 144, 3) := by decide +kernel
theorem dX11_get_4 : decode cX11_get 4 = .ok (.ifCond .eq 12, 3) := by decide +kernel
theorem dX11_get_7 : decode cX11_get 7 = .ok (.aload_n 0, 1) := by decide +kernel
theorem dX11_get_8 : decode cX11_get 8 = .ok (.getfield 23, 3) := by decide +kernel
theorem dX11_get_11 : decode cX11_get 11 = .ok (.iload_n 1, 1) := by decide +kernel
theorem dX11_get_12 : decode cX11_get 12 = .ok (.iaload, 1) := by decide +kernel
theorem dX11_get_13 : decode cX11_get 13 = .ok (.goto 4, 3) := by decide +kernel
theorem dX11_get_16 : decode cX11_get 16 = .ok (.iconst 0, 1) := by decide +kernel
theorem dX11_get_17 : decode cX11_get 17 = .ok (.ireturn, 1) := by decide +kernel
theorem dX11_run_0 : decode cX11_run 0 = .ok (.iload_n 1, 1) := by decide +kernel
theorem dX11_run_1 : decode cX11_run 1 = .ok (.ifCond .lt 10, 3) := by decide +kernel
theorem dX11_run_4 : decode cX11_run 4 = .ok (.iload_n 1, 1) := by decide +kernel
theorem dX11_run_5 : decode cX11_run 5 = .ok (.sipush 2000, 3) := by decide +kernel
theorem dX11_run_8 : decode cX11_run 8 = .ok (.if_icmp .le 13, 3) := by decide +kernel
theorem dX11_run_11 : decode cX11_run 11 = .ok (.new 108, 3) := by decide +kernel
theorem dX11_run_14 : decode cX11_run 14 = .ok (.dup, 1) := by decide +kernel
theorem dX11_run_15 : decode cX11_run 15 = .ok (.ldc 221, 2) := by decide +kernel
theorem dX11_run_17 : decode cX11_run 17 = .ok (.invokespecial 112, 3) := by decide +kernel
theorem dX11_run_20 : decode cX11_run 20 = .ok (.athrow, 1) := by decide +kernel
theorem dX11_run_21 : decode cX11_run 21 = .ok (.aload_n 0, 1) := by decide +kernel
theorem dX11_run_22 : decode cX11_run 22 = .ok (.getfield 102, 3) := by decide +kernel
theorem dX11_run_25 : decode cX11_run 25 = .ok (.ifCond .ne 13, 3) := by decide +kernel
theorem dX11_run_28 : decode cX11_run 28 = .ok (.new 124, 3) := by decide +kernel
theorem dX11_run_31 : decode cX11_run 31 = .ok (.dup, 1) := by decide +kernel
theorem dX11_run_32 : decode cX11_run 32 = .ok (.ldc 223, 2) := by decide +kernel
theorem dX11_run_34 : decode cX11_run 34 = .ok (.invokespecial 128, 3) := by decide +kernel
theorem dX11_run_37 : decode cX11_run 37 = .ok (.athrow, 1) := by decide +kernel
theorem dX11_run_38 : decode cX11_run 38 = .ok (.aload_n 0, 1) := by decide +kernel
theorem dX11_run_39 : decode cX11_run 39 = .ok (.getfield 86, 3) := by decide +kernel
theorem dX11_run_42 : decode cX11_run 42 = .ok (.aload_n 0, 1) := by decide +kernel
theorem dX11_run_43 : decode cX11_run 43 = .ok (.getfield 23, 3) := by decide +kernel
theorem dX11_run_46 : decode cX11_run 46 = .ok (.iload_n 1, 1) := by decide +kernel
theorem dX11_run_47 : decode cX11_run 47 = .ok (.invokevirtual 225, 3) := by decide +kernel
theorem dX11_run_50 : decode cX11_run 50 = .ok (.ireturn, 1) := by decide +kernel
theorem dX11_follow_0 : decode cX11_follow 0 = .ok (.aload_n 0, 1) := by decide +kernel
theorem dX11_follow_1 : decode cX11_follow 1 = .ok (.getfield 94, 3) := by decide +kernel
theorem dX11_follow_4 : decode cX11_follow 4 = .ok (.ifCond .eq 14, 3) := by decide +kernel
theorem dX11_follow_7 : decode cX11_follow 7 = .ok (.iload_n 1, 1) := by decide +kernel
theorem dX11_follow_8 : decode cX11_follow 8 = .ok (.ifCond .lt 10, 3) := by decide +kernel
theorem dX11_follow_11 : decode cX11_follow 11 = .ok (.iload_n 1, 1) := by decide +kernel
theorem dX11_follow_12 : decode cX11_follow 12 = .ok (.sipush 500, 3) := by decide +kernel
theorem dX11_follow_15 : decode cX11_follow 15 = .ok (.if_icmp .le 5, 3) := by decide +kernel
theorem dX11_follow_18 : decode cX11_follow 18 = .ok (.iconst (-1), 1) := by decide +kernel
theorem dX11_follow_19 : decode cX11_follow 19 = .ok (.ireturn, 1) := by decide +kernel
theorem dX11_follow_20 : decode cX11_follow 20 = .ok (.aload_n 0, 1) := by decide +kernel
theorem dX11_follow_21 : decode cX11_follow 21 = .ok (.getfield 45, 3) := by decide +kernel
theorem dX11_follow_24 : decode cX11_follow 24 = .ok (.aload_n 0, 1) := by decide +kernel
theorem dX11_follow_25 : decode cX11_follow 25 = .ok (.getfield 90, 3) := by decide +kernel
theorem dX11_follow_28 : decode cX11_follow 28 = .ok (.aload_n 0, 1) := by decide +kernel
theorem dX11_follow_29 : decode cX11_follow 29 = .ok (.getfield 23, 3) := by decide +kernel
theorem dX11_follow_32 : decode cX11_follow 32 = .ok (.iload_n 1, 1) := by decide +kernel
theorem dX11_follow_33 : decode cX11_follow 33 = .ok (.invokevirtual 229, 3) := by decide +kernel
theorem dX11_follow_36 : decode cX11_follow 36 = .ok (.ireturn, 1) := by decide +kernel
theorem dX11_forgetChecks_0 : decode cX11_forgetChecks 0 = .ok (.aload_n 0, 1) := by decide +kernel
theorem dX11_forgetChecks_1 : decode cX11_forgetChecks 1 = .ok (.iconst 0, 1) := by decide +kernel
theorem dX11_forgetChecks_2 : decode cX11_forgetChecks 2 = .ok (.putfield 102, 3) := by decide +kernel
theorem dX11_forgetChecks_5 : decode cX11_forgetChecks 5 = .ok (.aload_n 0, 1) := by decide +kernel
theorem dX11_forgetChecks_6 : decode cX11_forgetChecks 6 = .ok (.iconst 0, 1) := by decide +kernel
theorem dX11_forgetChecks_7 : decode cX11_forgetChecks 7 = .ok (.putfield 105, 3) := by decide +kernel
theorem dX11_forgetChecks_10 : decode cX11_forgetChecks 10 = .ok (.return_, 1) := by decide +kernel
theorem dX11_isVariable_0 : decode cX11_isVariable 0 = .ok (.iload_n 0, 1) := by decide +kernel
theorem dX11_isVariable_1 : decode cX11_isVariable 1 = .ok (.ifCond .lt 13, 3) := by decide +kernel
theorem dX11_isVariable_4 : decode cX11_isVariable 4 = .ok (.iload_n 0, 1) := by decide +kernel
theorem dX11_isVariable_5 : decode cX11_isVariable 5 = .ok (.bipush 8, 2) := by decide +kernel
theorem dX11_isVariable_7 : decode cX11_isVariable 7 = .ok (.if_icmp .ge 7, 3) := by decide +kernel
theorem dX11_isVariable_10 : decode cX11_isVariable 10 = .ok (.iconst 1, 1) := by decide +kernel
theorem dX11_isVariable_11 : decode cX11_isVariable 11 = .ok (.goto 4, 3) := by decide +kernel
theorem dX11_isVariable_14 : decode cX11_isVariable 14 = .ok (.iconst 0, 1) := by decide +kernel
theorem dX11_isVariable_15 : decode cX11_isVariable 15 = .ok (.ireturn, 1) := by decide +kernel
theorem dX11_isOperation_0 : decode cX11_isOperation 0 = .ok (.iload_n 0, 1) := by decide +kernel
theorem dX11_isOperation_1 : decode cX11_isOperation 1 = .ok (.iconst 3, 1) := by decide +kernel
theorem dX11_isOperation_2 : decode cX11_isOperation 2 = .ok (.if_icmp .lt 13, 3) := by decide +kernel
theorem dX11_isOperation_5 : decode cX11_isOperation 5 = .ok (.iload_n 0, 1) := by decide +kernel
theorem dX11_isOperation_6 : decode cX11_isOperation 6 = .ok (.bipush 6, 2) := by decide +kernel
theorem dX11_isOperation_8 : decode cX11_isOperation 8 = .ok (.if_icmp .gt 7, 3) := by decide +kernel
theorem dX11_isOperation_11 : decode cX11_isOperation 11 = .ok (.iconst 1, 1) := by decide +kernel
theorem dX11_isOperation_12 : decode cX11_isOperation 12 = .ok (.goto 4, 3) := by decide +kernel
theorem dX11_isOperation_15 : decode cX11_isOperation 15 = .ok (.iconst 0, 1) := by decide +kernel
theorem dX11_isOperation_16 : decode cX11_isOperation 16 = .ok (.ireturn, 1) := by decide +kernel
theorem dX11_operate_0 : decode cX11_operate 0 = .ok (.iload_n 0, 1) := by decide +kernel
theorem dX11_operate_1 : decode cX11_operate 1 = .ok (.tableswitch 39 3 5 #[27, 31, 35], 27) := by decide +kernel
theorem dX11_operate_28 : decode cX11_operate 28 = .ok (.iload_n 1, 1) := by decide +kernel
theorem dX11_operate_29 : decode cX11_operate 29 = .ok (.iload_n 2, 1) := by decide +kernel
theorem dX11_operate_30 : decode cX11_operate 30 = .ok (.iadd, 1) := by decide +kernel
theorem dX11_operate_31 : decode cX11_operate 31 = .ok (.ireturn, 1) := by decide +kernel
theorem dX11_operate_32 : decode cX11_operate 32 = .ok (.iload_n 1, 1) := by decide +kernel
theorem dX11_operate_33 : decode cX11_operate 33 = .ok (.iload_n 2, 1) := by decide +kernel
theorem dX11_operate_34 : decode cX11_operate 34 = .ok (.isub, 1) := by decide +kernel
theorem dX11_operate_35 : decode cX11_operate 35 = .ok (.ireturn, 1) := by decide +kernel
theorem dX11_operate_36 : decode cX11_operate 36 = .ok (.iload_n 1, 1) := by decide +kernel
theorem dX11_operate_37 : decode cX11_operate 37 = .ok (.iload_n 2, 1) := by decide +kernel
theorem dX11_operate_38 : decode cX11_operate 38 = .ok (.imul, 1) := by decide +kernel
theorem dX11_operate_39 : decode cX11_operate 39 = .ok (.ireturn, 1) := by decide +kernel
theorem dX11_operate_40 : decode cX11_operate 40 = .ok (.iload_n 1, 1) := by decide +kernel
theorem dX11_operate_41 : decode cX11_operate 41 = .ok (.iload_n 2, 1) := by decide +kernel
theorem dX11_operate_42 : decode cX11_operate 42 = .ok (.if_icmp .ge 7, 3) := by decide +kernel
theorem dX11_operate_45 : decode cX11_operate 45 = .ok (.iconst 1, 1) := by decide +kernel
theorem dX11_operate_46 : decode cX11_operate 46 = .ok (.goto 4, 3) := by decide +kernel
theorem dX11_operate_49 : decode cX11_operate 49 = .ok (.iconst 0, 1) := by decide +kernel
theorem dX11_operate_50 : decode cX11_operate 50 = .ok (.ireturn, 1) := by decide +kernel
theorem dX12_init_0 : decode cX12_init 0 = .ok (.aload_n 0, 1) := by decide +kernel
theorem dX12_init_1 : decode cX12_init 1 = .ok (.invokespecial 1, 3) := by decide +kernel
theorem dX12_init_4 : decode cX12_init 4 = .ok (.aload_n 0, 1) := by decide +kernel
theorem dX12_init_5 : decode cX12_init 5 = .ok (.iconst 1, 1) := by decide +kernel
theorem dX12_init_6 : decode cX12_init 6 = .ok (.putfield 7, 3) := by decide +kernel
theorem dX12_init_9 : decode cX12_init 9 = .ok (.aload_n 0, 1) := by decide +kernel
theorem dX12_init_10 : decode cX12_init 10 = .ok (.bipush 36, 2) := by decide +kernel
theorem dX12_init_12 : decode cX12_init 12 = .ok (.newarray .boolean, 2) := by decide +kernel
theorem dX12_init_14 : decode cX12_init 14 = .ok (.putfield 13, 3) := by decide +kernel
theorem dX12_init_17 : decode cX12_init 17 = .ok (.aload_n 0, 1) := by decide +kernel
theorem dX12_init_18 : decode cX12_init 18 = .ok (.bipush 36, 2) := by decide +kernel
theorem dX12_init_20 : decode cX12_init 20 = .ok (.newarray .int, 2) := by decide +kernel
theorem dX12_init_22 : decode cX12_init 22 = .ok (.putfield 17, 3) := by decide +kernel
theorem dX12_init_25 : decode cX12_init 25 = .ok (.aload_n 0, 1) := by decide +kernel
theorem dX12_init_26 : decode cX12_init 26 = .ok (.bipush 8, 2) := by decide +kernel
theorem dX12_init_28 : decode cX12_init 28 = .ok (.newarray .int, 2) := by decide +kernel
theorem dX12_init_30 : decode cX12_init 30 = .ok (.putfield 21, 3) := by decide +kernel
theorem dX12_init_33 : decode cX12_init 33 = .ok (.aload_n 0, 1) := by decide +kernel
theorem dX12_init_34 : decode cX12_init 34 = .ok (.bipush 8, 2) := by decide +kernel
theorem dX12_init_36 : decode cX12_init 36 = .ok (.newarray .int, 2) := by decide +kernel
theorem dX12_init_38 : decode cX12_init 38 = .ok (.putfield 24, 3) := by decide +kernel
theorem dX12_init_41 : decode cX12_init 41 = .ok (.aload_n 0, 1) := by decide +kernel
theorem dX12_init_42 : decode cX12_init 42 = .ok (.bipush 8, 2) := by decide +kernel
theorem dX12_init_44 : decode cX12_init 44 = .ok (.newarray .int, 2) := by decide +kernel
theorem dX12_init_46 : decode cX12_init 46 = .ok (.putfield 27, 3) := by decide +kernel
theorem dX12_init_49 : decode cX12_init 49 = .ok (.aload_n 0, 1) := by decide +kernel
theorem dX12_init_50 : decode cX12_init 50 = .ok (.bipush 8, 2) := by decide +kernel
theorem dX12_init_52 : decode cX12_init 52 = .ok (.newarray .int, 2) := by decide +kernel
theorem dX12_init_54 : decode cX12_init 54 = .ok (.putfield 30, 3) := by decide +kernel
theorem dX12_init_57 : decode cX12_init 57 = .ok (.aload_n 0, 1) := by decide +kernel
theorem dX12_init_58 : decode cX12_init 58 = .ok (.bipush 36, 2) := by decide +kernel
theorem dX12_init_60 : decode cX12_init 60 = .ok (.newarray .boolean, 2) := by decide +kernel
theorem dX12_init_62 : decode cX12_init 62 = .ok (.putfield 33, 3) := by decide +kernel
theorem dX12_init_65 : decode cX12_init 65 = .ok (.aload_n 0, 1) := by decide +kernel
theorem dX12_init_66 : decode cX12_init 66 = .ok (.bipush 72, 2) := by decide +kernel
theorem dX12_init_68 : decode cX12_init 68 = .ok (.newarray .char, 2) := by decide +kernel
theorem dX12_init_70 : decode cX12_init 70 = .ok (.putfield 36, 3) := by decide +kernel
theorem dX12_init_73 : decode cX12_init 73 = .ok (.aload_n 0, 1) := by decide +kernel
theorem dX12_init_74 : decode cX12_init 74 = .ok (.iconst (-1), 1) := by decide +kernel
theorem dX12_init_75 : decode cX12_init 75 = .ok (.putfield 40, 3) := by decide +kernel
theorem dX12_init_78 : decode cX12_init 78 = .ok (.aload_n 0, 1) := by decide +kernel
theorem dX12_init_79 : decode cX12_init 79 = .ok (.sipush 160, 3) := by decide +kernel
theorem dX12_init_82 : decode cX12_init 82 = .ok (.newarray .int, 2) := by decide +kernel
theorem dX12_init_84 : decode cX12_init 84 = .ok (.putfield 43, 3) := by decide +kernel
theorem dX12_init_87 : decode cX12_init 87 = .ok (.aload_n 0, 1) := by decide +kernel
theorem dX12_init_88 : decode cX12_init 88 = .ok (.sipush 160, 3) := by decide +kernel
theorem dX12_init_91 : decode cX12_init 91 = .ok (.newarray .int, 2) := by decide +kernel
theorem dX12_init_93 : decode cX12_init 93 = .ok (.putfield 46, 3) := by decide +kernel
theorem dX12_init_96 : decode cX12_init 96 = .ok (.aload_n 0, 1) := by decide +kernel
theorem dX12_init_97 : decode cX12_init 97 = .ok (.sipush 160, 3) := by decide +kernel
theorem dX12_init_100 : decode cX12_init 100 = .ok (.newarray .int, 2) := by decide +kernel
theorem dX12_init_102 : decode cX12_init 102 = .ok (.putfield 49, 3) := by decide +kernel
theorem dX12_init_105 : decode cX12_init 105 = .ok (.aload_n 0, 1) := by decide +kernel
theorem dX12_init_106 : decode cX12_init 106 = .ok (.sipush 160, 3) := by decide +kernel
theorem dX12_init_109 : decode cX12_init 109 = .ok (.newarray .int, 2) := by decide +kernel
theorem dX12_init_111 : decode cX12_init 111 = .ok (.putfield 52, 3) := by decide +kernel
theorem dX12_init_114 : decode cX12_init 114 = .ok (.aload_n 0, 1) := by decide +kernel
theorem dX12_init_115 : decode cX12_init 115 = .ok (.sipush 160, 3) := by decide +kernel
theorem dX12_init_118 : decode cX12_init 118 = .ok (.newarray .int, 2) := by decide +kernel
theorem dX12_init_120 : decode cX12_init 120 = .ok (.putfield 55, 3) := by decide +kernel
theorem dX12_init_123 : decode cX12_init 123 = .ok (.aload_n 0, 1) := by decide +kernel
theorem dX12_init_124 : decode cX12_init 124 = .ok (.sipush 160, 3) := by decide +kernel
theorem dX12_init_127 : decode cX12_init 127 = .ok (.newarray .int, 2) := by decide +kernel
theorem dX12_init_129 : decode cX12_init 129 = .ok (.putfield 58, 3) := by decide +kernel
theorem dX12_init_132 : decode cX12_init 132 = .ok (.aload_n 0, 1) := by decide +kernel
theorem dX12_init_133 : decode cX12_init 133 = .ok (.sipush 160, 3) := by decide +kernel
theorem dX12_init_136 : decode cX12_init 136 = .ok (.newarray .int, 2) := by decide +kernel
theorem dX12_init_138 : decode cX12_init 138 = .ok (.putfield 61, 3) := by decide +kernel
theorem dX12_init_141 : decode cX12_init 141 = .ok (.aload_n 0, 1) := by decide +kernel
theorem dX12_init_142 : decode cX12_init 142 = .ok (.sipush 160, 3) := by decide +kernel
theorem dX12_init_145 : decode cX12_init 145 = .ok (.newarray .int, 2) := by decide +kernel
theorem dX12_init_147 : decode cX12_init 147 = .ok (.putfield 64, 3) := by decide +kernel
theorem dX12_init_150 : decode cX12_init 150 = .ok (.aload_n 0, 1) := by decide +kernel
theorem dX12_init_151 : decode cX12_init 151 = .ok (.sipush 160, 3) := by decide +kernel
theorem dX12_init_154 : decode cX12_init 154 = .ok (.newarray .int, 2) := by decide +kernel
theorem dX12_init_156 : decode cX12_init 156 = .ok (.putfield 67, 3) := by decide +kernel
theorem dX12_init_159 : decode cX12_init 159 = .ok (.aload_n 0, 1) := by decide +kernel
theorem dX12_init_160 : decode cX12_init 160 = .ok (.sipush 160, 3) := by decide +kernel
theorem dX12_init_163 : decode cX12_init 163 = .ok (.newarray .int, 2) := by decide +kernel
theorem dX12_init_165 : decode cX12_init 165 = .ok (.putfield 70, 3) := by decide +kernel
theorem dX12_init_168 : decode cX12_init 168 = .ok (.aload_n 0, 1) := by decide +kernel
theorem dX12_init_169 : decode cX12_init 169 = .ok (.sipush 1280, 3) := by decide +kernel
theorem dX12_init_172 : decode cX12_init 172 = .ok (.newarray .int, 2) := by decide +kernel
theorem dX12_init_174 : decode cX12_init 174 = .ok (.putfield 73, 3) := by decide +kernel
theorem dX12_init_177 : decode cX12_init 177 = .ok (.aload_n 0, 1) := by decide +kernel
theorem dX12_init_178 : decode cX12_init 178 = .ok (.sipush 1280, 3) := by decide +kernel
theorem dX12_init_181 : decode cX12_init 181 = .ok (.newarray .int, 2) := by decide +kernel
theorem dX12_init_183 : decode cX12_init 183 = .ok (.putfield 76, 3) := by decide +kernel
theorem dX12_init_186 : decode cX12_init 186 = .ok (.aload_n 0, 1) := by decide +kernel
theorem dX12_init_187 : decode cX12_init 187 = .ok (.sipush 160, 3) := by decide +kernel
theorem dX12_init_190 : decode cX12_init 190 = .ok (.newarray .int, 2) := by decide +kernel
theorem dX12_init_192 : decode cX12_init 192 = .ok (.putfield 79, 3) := by decide +kernel
theorem dX12_init_195 : decode cX12_init 195 = .ok (.aload_n 0, 1) := by decide +kernel
theorem dX12_init_196 : decode cX12_init 196 = .ok (.bipush 8, 2) := by decide +kernel
theorem dX12_init_198 : decode cX12_init 198 = .ok (.newarray .int, 2) := by decide +kernel
theorem dX12_init_200 : decode cX12_init 200 = .ok (.putfield 82, 3) := by decide +kernel
theorem dX12_init_203 : decode cX12_init 203 = .ok (.aload_n 0, 1) := by decide +kernel
theorem dX12_init_204 : decode cX12_init 204 = .ok (.bipush 100, 2) := by decide +kernel
theorem dX12_init_206 : decode cX12_init 206 = .ok (.newarray .int, 2) := by decide +kernel
theorem dX12_init_208 : decode cX12_init 208 = .ok (.putfield 85, 3) := by decide +kernel
theorem dX12_init_211 : decode cX12_init 211 = .ok (.aload_n 0, 1) := by decide +kernel
theorem dX12_init_212 : decode cX12_init 212 = .ok (.bipush 100, 2) := by decide +kernel
theorem dX12_init_214 : decode cX12_init 214 = .ok (.newarray .int, 2) := by decide +kernel
theorem dX12_init_216 : decode cX12_init 216 = .ok (.putfield 88, 3) := by decide +kernel
theorem dX12_init_219 : decode cX12_init 219 = .ok (.aload_n 0, 1) := by decide +kernel
theorem dX12_init_220 : decode cX12_init 220 = .ok (.bipush 8, 2) := by decide +kernel
theorem dX12_init_222 : decode cX12_init 222 = .ok (.newarray .int, 2) := by decide +kernel
theorem dX12_init_224 : decode cX12_init 224 = .ok (.putfield 91, 3) := by decide +kernel
theorem dX12_init_227 : decode cX12_init 227 = .ok (.aload_n 0, 1) := by decide +kernel
theorem dX12_init_228 : decode cX12_init 228 = .ok (.bipush 100, 2) := by decide +kernel
theorem dX12_init_230 : decode cX12_init 230 = .ok (.newarray .int, 2) := by decide +kernel
theorem dX12_init_232 : decode cX12_init 232 = .ok (.putfield 94, 3) := by decide +kernel
theorem dX12_init_235 : decode cX12_init 235 = .ok (.aload_n 0, 1) := by decide +kernel
theorem dX12_init_236 : decode cX12_init 236 = .ok (.bipush 100, 2) := by decide +kernel
theorem dX12_init_238 : decode cX12_init 238 = .ok (.newarray .int, 2) := by decide +kernel
theorem dX12_init_240 : decode cX12_init 240 = .ok (.putfield 97, 3) := by decide +kernel
theorem dX12_init_243 : decode cX12_init 243 = .ok (.aload_n 0, 1) := by decide +kernel
theorem dX12_init_244 : decode cX12_init 244 = .ok (.bipush 100, 2) := by decide +kernel
theorem dX12_init_246 : decode cX12_init 246 = .ok (.newarray .int, 2) := by decide +kernel
theorem dX12_init_248 : decode cX12_init 248 = .ok (.putfield 100, 3) := by decide +kernel
theorem dX12_init_251 : decode cX12_init 251 = .ok (.aload_n 0, 1) := by decide +kernel
theorem dX12_init_252 : decode cX12_init 252 = .ok (.bipush 100, 2) := by decide +kernel
theorem dX12_init_254 : decode cX12_init 254 = .ok (.newarray .boolean, 2) := by decide +kernel
theorem dX12_init_256 : decode cX12_init 256 = .ok (.putfield 103, 3) := by decide +kernel
theorem dX12_init_259 : decode cX12_init 259 = .ok (.aload_n 0, 1) := by decide +kernel
theorem dX12_init_260 : decode cX12_init 260 = .ok (.sipush 220, 3) := by decide +kernel
theorem dX12_init_263 : decode cX12_init 263 = .ok (.newarray .int, 2) := by decide +kernel
theorem dX12_init_265 : decode cX12_init 265 = .ok (.putfield 106, 3) := by decide +kernel
theorem dX12_init_268 : decode cX12_init 268 = .ok (.aload_n 0, 1) := by decide +kernel
theorem dX12_init_269 : decode cX12_init 269 = .ok (.sipush 10000, 3) := by decide +kernel
theorem dX12_init_272 : decode cX12_init 272 = .ok (.newarray .boolean, 2) := by decide +kernel
theorem dX12_init_274 : decode cX12_init 274 = .ok (.putfield 109, 3) := by decide +kernel
theorem dX12_init_277 : decode cX12_init 277 = .ok (.aload_n 0, 1) := by decide +kernel
theorem dX12_init_278 : decode cX12_init 278 = .ok (.bipush 100, 2) := by decide +kernel
theorem dX12_init_280 : decode cX12_init 280 = .ok (.newarray .boolean, 2) := by decide +kernel
theorem dX12_init_282 : decode cX12_init 282 = .ok (.putfield 112, 3) := by decide +kernel
theorem dX12_init_285 : decode cX12_init 285 = .ok (.aload_n 0, 1) := by decide +kernel
theorem dX12_init_286 : decode cX12_init 286 = .ok (.sipush 1600, 3) := by decide +kernel
theorem dX12_init_289 : decode cX12_init 289 = .ok (.newarray .int, 2) := by decide +kernel
theorem dX12_init_291 : decode cX12_init 291 = .ok (.putfield 115, 3) := by decide +kernel
theorem dX12_init_294 : decode cX12_init 294 = .ok (.aload_n 0, 1) := by decide +kernel
theorem dX12_init_295 : decode cX12_init 295 = .ok (.bipush 100, 2) := by decide +kernel
theorem dX12_init_297 : decode cX12_init 297 = .ok (.newarray .int, 2) := by decide +kernel
theorem dX12_init_299 : decode cX12_init 299 = .ok (.putfield 118, 3) := by decide +kernel
theorem dX12_init_302 : decode cX12_init 302 = .ok (.aload_n 0, 1) := by decide +kernel
theorem dX12_init_303 : decode cX12_init 303 = .ok (.bipush 12, 2) := by decide +kernel
theorem dX12_init_305 : decode cX12_init 305 = .ok (.newarray .int, 2) := by decide +kernel
theorem dX12_init_307 : decode cX12_init 307 = .ok (.putfield 121, 3) := by decide +kernel
theorem dX12_init_310 : decode cX12_init 310 = .ok (.aload_n 0, 1) := by decide +kernel
theorem dX12_init_311 : decode cX12_init 311 = .ok (.getfield 13, 3) := by decide +kernel
theorem dX12_init_314 : decode cX12_init 314 = .ok (.iconst 0, 1) := by decide +kernel
theorem dX12_init_315 : decode cX12_init 315 = .ok (.iconst 1, 1) := by decide +kernel
theorem dX12_init_316 : decode cX12_init 316 = .ok (.bastore, 1) := by decide +kernel
theorem dX12_init_317 : decode cX12_init 317 = .ok (.return_, 1) := by decide +kernel
theorem dX12_thrown_0 : decode cX12_thrown 0 = .ok (.aload_n 0, 1) := by decide +kernel
theorem dX12_thrown_1 : decode cX12_thrown 1 = .ok (.getfield 124, 3) := by decide +kernel
theorem dX12_thrown_4 : decode cX12_thrown 4 = .ok (.ireturn, 1) := by decide +kernel
theorem dX12_isLevel_0 : decode cX12_isLevel 0 = .ok (.iload_n 1, 1) := by decide +kernel
theorem dX12_isLevel_1 : decode cX12_isLevel 1 = .ok (.ifCond .lt 15, 3) := by decide +kernel
theorem dX12_isLevel_4 : decode cX12_isLevel 4 = .ok (.iload_n 1, 1) := by decide +kernel
theorem dX12_isLevel_5 : decode cX12_isLevel 5 = .ok (.aload_n 0, 1) := by decide +kernel
theorem dX12_isLevel_6 : decode cX12_isLevel 6 = .ok (.getfield 7, 3) := by decide +kernel
theorem dX12_isLevel_9 : decode cX12_isLevel 9 = .ok (.if_icmp .ge 7, 3) := by decide +kernel
theorem dX12_isLevel_12 : decode cX12_isLevel 12 = .ok (.iconst 1, 1) := by decide +kernel
theorem dX12_isLevel_13 : decode cX12_isLevel 13 = .ok (.goto 4, 3) := by decide +kernel
theorem dX12_isLevel_16 : decode cX12_isLevel 16 = .ok (.iconst 0, 1) := by decide +kernel
theorem dX12_isLevel_17 : decode cX12_isLevel 17 = .ok (.ireturn, 1) := by decide +kernel
theorem dX12_bound_0 : decode cX12_bound 0 = .ok (.iconst 0, 1) := by decide +kernel
theorem dX12_bound_1 : decode cX12_bound 1 = .ok (.istore 5, 2) := by decide +kernel
theorem dX12_bound_3 : decode cX12_bound 3 = .ok (.iload 5, 2) := by decide +kernel
theorem dX12_bound_5 : decode cX12_bound 5 = .ok (.iload_n 1, 1) := by decide +kernel
theorem dX12_bound_6 : decode cX12_bound 6 = .ok (.if_icmp .ge 112, 3) := by decide +kernel
theorem dX12_bound_9 : decode cX12_bound 9 = .ok (.aload_n 0, 1) := by decide +kernel
theorem dX12_bound_10 : decode cX12_bound 10 = .ok (.iload_n 2, 1) := by decide +kernel
theorem dX12_bound_11 : decode cX12_bound 11 = .ok (.iload 5, 2) := by decide +kernel
theorem dX12_bound_13 : decode cX12_bound 13 = .ok (.iload 4, 2) := by decide +kernel
theorem dX12_bound_15 : decode cX12_bound 15 = .ok (.invokevirtual 127, 3) := by decide +kernel
theorem dX12_bound_18 : decode cX12_bound 18 = .ok (.ifCond .eq 19, 3) := by decide +kernel
theorem dX12_bound_21 : decode cX12_bound 21 = .ok (.aload_n 0, 1) := by decide +kernel
theorem dX12_bound_22 : decode cX12_bound 22 = .ok (.iload_n 3, 1) := by decide +kernel
theorem dX12_bound_23 : decode cX12_bound 23 = .ok (.iload 5, 2) := by decide +kernel
theorem dX12_bound_25 : decode cX12_bound 25 = .ok (.iload 4, 2) := by decide +kernel
theorem dX12_bound_27 : decode cX12_bound 27 = .ok (.invokevirtual 127, 3) := by decide +kernel
theorem dX12_bound_30 : decode cX12_bound 30 = .ok (.ifCond .eq 7, 3) := by decide +kernel
theorem dX12_bound_33 : decode cX12_bound 33 = .ok (.iconst 1, 1) := by decide +kernel
theorem dX12_bound_34 : decode cX12_bound 34 = .ok (.goto 4, 3) := by decide +kernel
theorem dX12_bound_37 : decode cX12_bound 37 = .ok (.iconst 0, 1) := by decide +kernel
theorem dX12_bound_38 : decode cX12_bound 38 = .ok (.istore 6, 2) := by decide +kernel
theorem dX12_bound_40 : decode cX12_bound 40 = .ok (.iconst 0, 1) := by decide +kernel
theorem dX12_bound_41 : decode cX12_bound 41 = .ok (.istore 7, 2) := by decide +kernel
theorem dX12_bound_43 : decode cX12_bound 43 = .ok (.iload 7, 2) := by decide +kernel
theorem dX12_bound_45 : decode cX12_bound 45 = .ok (.iload_n 1, 1) := by decide +kernel
theorem dX12_bound_46 : decode cX12_bound 46 = .ok (.if_icmp .ge 58, 3) := by decide +kernel
theorem dX12_bound_49 : decode cX12_bound 49 = .ok (.iload 6, 2) := by decide +kernel
theorem dX12_bound_51 : decode cX12_bound 51 = .ok (.ifCond .eq 44, 3) := by decide +kernel
theorem dX12_bound_54 : decode cX12_bound 54 = .ok (.aload_n 0, 1) := by decide +kernel
theorem dX12_bound_55 : decode cX12_bound 55 = .ok (.iload_n 2, 1) := by decide +kernel
theorem dX12_bound_56 : decode cX12_bound 56 = .ok (.iload 7, 2) := by decide +kernel
theorem dX12_bound_58 : decode cX12_bound 58 = .ok (.iload 4, 2) := by decide +kernel
theorem dX12_bound_60 : decode cX12_bound 60 = .ok (.invokevirtual 127, 3) := by decide +kernel
theorem dX12_bound_63 : decode cX12_bound 63 = .ok (.ifCond .eq 28, 3) := by decide +kernel
theorem dX12_bound_66 : decode cX12_bound 66 = .ok (.aload_n 0, 1) := by decide +kernel
theorem dX12_bound_67 : decode cX12_bound 67 = .ok (.iload_n 3, 1) := by decide +kernel
theorem dX12_bound_68 : decode cX12_bound 68 = .ok (.iload 7, 2) := by decide +kernel
theorem dX12_bound_70 : decode cX12_bound 70 = .ok (.iload 4, 2) := by decide +kernel
theorem dX12_bound_72 : decode cX12_bound 72 = .ok (.invokevirtual 127, 3) := by decide +kernel
theorem dX12_bound_75 : decode cX12_bound 75 = .ok (.ifCond .eq 16, 3) := by decide +kernel
theorem dX12_bound_78 : decode cX12_bound 78 = .ok (.aload_n 0, 1) := by decide +kernel
theorem dX12_bound_79 : decode cX12_bound 79 = .ok (.iload 5, 2) := by decide +kernel
theorem dX12_bound_81 : decode cX12_bound 81 = .ok (.iload 7, 2) := by decide +kernel
theorem dX12_bound_83 : decode cX12_bound 83 = .ok (.iload 4, 2) := by decide +kernel
theorem dX12_bound_85 : decode cX12_bound 85 = .ok (.invokevirtual 127, 3) := by decide +kernel
theorem dX12_bound_88 : decode cX12_bound 88 = .ok (.ifCond .eq 7, 3) := by decide +kernel
theorem dX12_bound_91 : decode cX12_bound 91 = .ok (.iconst 1, 1) := by decide +kernel
theorem dX12_bound_92 : decode cX12_bound 92 = .ok (.goto 4, 3) := by decide +kernel
theorem dX12_bound_95 : decode cX12_bound 95 = .ok (.iconst 0, 1) := by decide +kernel
theorem dX12_bound_96 : decode cX12_bound 96 = .ok (.istore 6, 2) := by decide +kernel
theorem dX12_bound_98 : decode cX12_bound 98 = .ok (.iinc 7 1, 3) := by decide +kernel
theorem dX12_bound_101 : decode cX12_bound 101 = .ok (.goto (-58), 3) := by decide +kernel
theorem dX12_bound_104 : decode cX12_bound 104 = .ok (.iload 6, 2) := by decide +kernel
theorem dX12_bound_106 : decode cX12_bound 106 = .ok (.ifCond .eq 6, 3) := by decide +kernel
theorem dX12_bound_109 : decode cX12_bound 109 = .ok (.iload 5, 2) := by decide +kernel
theorem dX12_bound_111 : decode cX12_bound 111 = .ok (.ireturn, 1) := by decide +kernel
theorem dX12_bound_112 : decode cX12_bound 112 = .ok (.iinc 5 1, 3) := by decide +kernel
theorem dX12_bound_115 : decode cX12_bound 115 = .ok (.goto (-112), 3) := by decide +kernel
theorem dX12_bound_118 : decode cX12_bound 118 = .ok (.iconst (-1), 1) := by decide +kernel
theorem dX12_bound_119 : decode cX12_bound 119 = .ok (.ireturn, 1) := by decide +kernel
theorem dX12_fits_0 : decode cX12_fits 0 = .ok (.iload_n 3, 1) := by decide +kernel
theorem dX12_fits_1 : decode cX12_fits 1 = .ok (.ifCond .eq 17, 3) := by decide +kernel
theorem dX12_fits_4 : decode cX12_fits 4 = .ok (.aload_n 0, 1) := by decide +kernel
theorem dX12_fits_5 : decode cX12_fits 5 = .ok (.getfield 33, 3) := by decide +kernel
theorem dX12_fits_8 : decode cX12_fits 8 = .ok (.bipush 6, 2) := by decide +kernel
theorem dX12_fits_10 : decode cX12_fits 10 = .ok (.iload_n 2, 1) := by decide +kernel
theorem dX12_fits_11 : decode cX12_fits 11 = .ok (.imul, 1) := by decide +kernel
theorem dX12_fits_12 : decode cX12_fits 12 = .ok (.iload_n 1, 1) := by decide +kernel
end
section
theorem dX12_fits_13 : decode cX12_fits 13 = .ok (.iadd, 1) := by decide +kernel
theorem dX12_fits_14 : decode cX12_fits 14 = .ok (.baload, 1) := by decide +kernel
theorem dX12_fits_15 : decode cX12_fits 15 = .ok (.goto 14, 3) := by decide +kernel
theorem dX12_fits_18 : decode cX12_fits 18 = .ok (.aload_n 0, 1) := by decide +kernel
theorem dX12_fits_19 : decode cX12_fits 19 = .ok (.getfield 33, 3) := by decide +kernel
theorem dX12_fits_22 : decode cX12_fits 22 = .ok (.bipush 6, 2) := by decide +kernel
theorem dX12_fits_24 : decode cX12_fits 24 = .ok (.iload_n 1, 1) := by decide +kernel
theorem dX12_fits_25 : decode cX12_fits 25 = .ok (.imul, 1) := by decide +kernel
theorem dX12_fits_26 : decode cX12_fits 26 = .ok (.iload_n 2, 1) := by decide +kernel
theorem dX12_fits_27 : decode cX12_fits 27 = .ok (.iadd, 1) := by decide +kernel
theorem dX12_fits_28 : decode cX12_fits 28 = .ok (.baload, 1) := by decide +kernel
theorem dX12_fits_29 : decode cX12_fits 29 = .ok (.ireturn, 1) := by decide +kernel
theorem dX12_isOrder_0 : decode cX12_isOrder 0 = .ok (.iconst 1, 1) := by decide +kernel
theorem dX12_isOrder_1 : decode cX12_isOrder 1 = .ok (.istore_n 2, 1) := by decide +kernel
theorem dX12_isOrder_2 : decode cX12_isOrder 2 = .ok (.iconst 0, 1) := by decide +kernel
theorem dX12_isOrder_3 : decode cX12_isOrder 3 = .ok (.istore_n 3, 1) := by decide +kernel
theorem dX12_isOrder_4 : decode cX12_isOrder 4 = .ok (.iload_n 3, 1) := by decide +kernel
theorem dX12_isOrder_5 : decode cX12_isOrder 5 = .ok (.iload_n 1, 1) := by decide +kernel
theorem dX12_isOrder_6 : decode cX12_isOrder 6 = .ok (.if_icmp .ge 163, 3) := by decide +kernel
theorem dX12_isOrder_9 : decode cX12_isOrder 9 = .ok (.iload_n 2, 1) := by decide +kernel
theorem dX12_isOrder_10 : decode cX12_isOrder 10 = .ok (.ifCond .eq 19, 3) := by decide +kernel
theorem dX12_isOrder_13 : decode cX12_isOrder 13 = .ok (.aload_n 0, 1) := by decide +kernel
theorem dX12_isOrder_14 : decode cX12_isOrder 14 = .ok (.getfield 33, 3) := by decide +kernel
theorem dX12_isOrder_17 : decode cX12_isOrder 17 = .ok (.bipush 7, 2) := by decide +kernel
theorem dX12_isOrder_19 : decode cX12_isOrder 19 = .ok (.iload_n 3, 1) := by decide +kernel
theorem dX12_isOrder_20 : decode cX12_isOrder 20 = .ok (.imul, 1) := by decide +kernel
theorem dX12_isOrder_21 : decode cX12_isOrder 21 = .ok (.baload, 1) := by decide +kernel
theorem dX12_isOrder_22 : decode cX12_isOrder 22 = .ok (.ifCond .eq 7, 3) := by decide +kernel
theorem dX12_isOrder_25 : decode cX12_isOrder 25 = .ok (.iconst 1, 1) := by decide +kernel
theorem dX12_isOrder_26 : decode cX12_isOrder 26 = .ok (.goto 4, 3) := by decide +kernel
theorem dX12_isOrder_29 : decode cX12_isOrder 29 = .ok (.iconst 0, 1) := by decide +kernel
theorem dX12_isOrder_30 : decode cX12_isOrder 30 = .ok (.istore_n 2, 1) := by decide +kernel
theorem dX12_isOrder_31 : decode cX12_isOrder 31 = .ok (.iconst 0, 1) := by decide +kernel
theorem dX12_isOrder_32 : decode cX12_isOrder 32 = .ok (.istore 4, 2) := by decide +kernel
theorem dX12_isOrder_34 : decode cX12_isOrder 34 = .ok (.iload 4, 2) := by decide +kernel
theorem dX12_isOrder_36 : decode cX12_isOrder 36 = .ok (.iload_n 1, 1) := by decide +kernel
theorem dX12_isOrder_37 : decode cX12_isOrder 37 = .ok (.if_icmp .ge 126, 3) := by decide +kernel
theorem dX12_isOrder_40 : decode cX12_isOrder 40 = .ok (.iload_n 2, 1) := by decide +kernel
theorem dX12_isOrder_41 : decode cX12_isOrder 41 = .ok (.ifCond .eq 43, 3) := by decide +kernel
theorem dX12_isOrder_44 : decode cX12_isOrder 44 = .ok (.iload_n 3, 1) := by decide +kernel
theorem dX12_isOrder_45 : decode cX12_isOrder 45 = .ok (.iload 4, 2) := by decide +kernel
theorem dX12_isOrder_47 : decode cX12_isOrder 47 = .ok (.if_icmp .eq 33, 3) := by decide +kernel
theorem dX12_isOrder_50 : decode cX12_isOrder 50 = .ok (.aload_n 0, 1) := by decide +kernel
theorem dX12_isOrder_51 : decode cX12_isOrder 51 = .ok (.getfield 33, 3) := by decide +kernel
theorem dX12_isOrder_54 : decode cX12_isOrder 54 = .ok (.bipush 6, 2) := by decide +kernel
theorem dX12_isOrder_56 : decode cX12_isOrder 56 = .ok (.iload_n 3, 1) := by decide +kernel
theorem dX12_isOrder_57 : decode cX12_isOrder 57 = .ok (.imul, 1) := by decide +kernel
theorem dX12_isOrder_58 : decode cX12_isOrder 58 = .ok (.iload 4, 2) := by decide +kernel
theorem dX12_isOrder_60 : decode cX12_isOrder 60 = .ok (.iadd, 1) := by decide +kernel
theorem dX12_isOrder_61 : decode cX12_isOrder 61 = .ok (.baload, 1) := by decide +kernel
theorem dX12_isOrder_62 : decode cX12_isOrder 62 = .ok (.ifCond .eq 18, 3) := by decide +kernel
theorem dX12_isOrder_65 : decode cX12_isOrder 65 = .ok (.aload_n 0, 1) := by decide +kernel
theorem dX12_isOrder_66 : decode cX12_isOrder 66 = .ok (.getfield 33, 3) := by decide +kernel
theorem dX12_isOrder_69 : decode cX12_isOrder 69 = .ok (.bipush 6, 2) := by decide +kernel
theorem dX12_isOrder_71 : decode cX12_isOrder 71 = .ok (.iload 4, 2) := by decide +kernel
theorem dX12_isOrder_73 : decode cX12_isOrder 73 = .ok (.imul, 1) := by decide +kernel
theorem dX12_isOrder_74 : decode cX12_isOrder 74 = .ok (.iload_n 3, 1) := by decide +kernel
theorem dX12_isOrder_75 : decode cX12_isOrder 75 = .ok (.iadd, 1) := by decide +kernel
theorem dX12_isOrder_76 : decode cX12_isOrder 76 = .ok (.baload, 1) := by decide +kernel
theorem dX12_isOrder_77 : decode cX12_isOrder 77 = .ok (.ifCond .ne 7, 3) := by decide +kernel
theorem dX12_isOrder_80 : decode cX12_isOrder 80 = .ok (.iconst 1, 1) := by decide +kernel
theorem dX12_isOrder_81 : decode cX12_isOrder 81 = .ok (.goto 4, 3) := by decide +kernel
theorem dX12_isOrder_84 : decode cX12_isOrder 84 = .ok (.iconst 0, 1) := by decide +kernel
theorem dX12_isOrder_85 : decode cX12_isOrder 85 = .ok (.istore_n 2, 1) := by decide +kernel
theorem dX12_isOrder_86 : decode cX12_isOrder 86 = .ok (.iconst 0, 1) := by decide +kernel
theorem dX12_isOrder_87 : decode cX12_isOrder 87 = .ok (.istore 5, 2) := by decide +kernel
theorem dX12_isOrder_89 : decode cX12_isOrder 89 = .ok (.iload 5, 2) := by decide +kernel
theorem dX12_isOrder_91 : decode cX12_isOrder 91 = .ok (.iload_n 1, 1) := by decide +kernel
theorem dX12_isOrder_92 : decode cX12_isOrder 92 = .ok (.if_icmp .ge 65, 3) := by decide +kernel
theorem dX12_isOrder_95 : decode cX12_isOrder 95 = .ok (.iload_n 2, 1) := by decide +kernel
theorem dX12_isOrder_96 : decode cX12_isOrder 96 = .ok (.ifCond .eq 53, 3) := by decide +kernel
theorem dX12_isOrder_99 : decode cX12_isOrder 99 = .ok (.aload_n 0, 1) := by decide +kernel
theorem dX12_isOrder_100 : decode cX12_isOrder 100 = .ok (.getfield 33, 3) := by decide +kernel
theorem dX12_isOrder_103 : decode cX12_isOrder 103 = .ok (.bipush 6, 2) := by decide +kernel
theorem dX12_isOrder_105 : decode cX12_isOrder 105 = .ok (.iload_n 3, 1) := by decide +kernel
theorem dX12_isOrder_106 : decode cX12_isOrder 106 = .ok (.imul, 1) := by decide +kernel
theorem dX12_isOrder_107 : decode cX12_isOrder 107 = .ok (.iload 4, 2) := by decide +kernel
theorem dX12_isOrder_109 : decode cX12_isOrder 109 = .ok (.iadd, 1) := by decide +kernel
theorem dX12_isOrder_110 : decode cX12_isOrder 110 = .ok (.baload, 1) := by decide +kernel
theorem dX12_isOrder_111 : decode cX12_isOrder 111 = .ok (.ifCond .eq 34, 3) := by decide +kernel
theorem dX12_isOrder_114 : decode cX12_isOrder 114 = .ok (.aload_n 0, 1) := by decide +kernel
theorem dX12_isOrder_115 : decode cX12_isOrder 115 = .ok (.getfield 33, 3) := by decide +kernel
theorem dX12_isOrder_118 : decode cX12_isOrder 118 = .ok (.bipush 6, 2) := by decide +kernel
theorem dX12_isOrder_120 : decode cX12_isOrder 120 = .ok (.iload 4, 2) := by decide +kernel
theorem dX12_isOrder_122 : decode cX12_isOrder 122 = .ok (.imul, 1) := by decide +kernel
theorem dX12_isOrder_123 : decode cX12_isOrder 123 = .ok (.iload 5, 2) := by decide +kernel
theorem dX12_isOrder_125 : decode cX12_isOrder 125 = .ok (.iadd, 1) := by decide +kernel
theorem dX12_isOrder_126 : decode cX12_isOrder 126 = .ok (.baload, 1) := by decide +kernel
theorem dX12_isOrder_127 : decode cX12_isOrder 127 = .ok (.ifCond .eq 18, 3) := by decide +kernel
theorem dX12_isOrder_130 : decode cX12_isOrder 130 = .ok (.aload_n 0, 1) := by decide +kernel
theorem dX12_isOrder_131 : decode cX12_isOrder 131 = .ok (.getfield 33, 3) := by decide +kernel
theorem dX12_isOrder_134 : decode cX12_isOrder 134 = .ok (.bipush 6, 2) := by decide +kernel
theorem dX12_isOrder_136 : decode cX12_isOrder 136 = .ok (.iload_n 3, 1) := by decide +kernel
theorem dX12_isOrder_137 : decode cX12_isOrder 137 = .ok (.imul, 1) := by decide +kernel
theorem dX12_isOrder_138 : decode cX12_isOrder 138 = .ok (.iload 5, 2) := by decide +kernel
theorem dX12_isOrder_140 : decode cX12_isOrder 140 = .ok (.iadd, 1) := by decide +kernel
theorem dX12_isOrder_141 : decode cX12_isOrder 141 = .ok (.baload, 1) := by decide +kernel
theorem dX12_isOrder_142 : decode cX12_isOrder 142 = .ok (.ifCond .eq 7, 3) := by decide +kernel
theorem dX12_isOrder_145 : decode cX12_isOrder 145 = .ok (.iconst 1, 1) := by decide +kernel
theorem dX12_isOrder_146 : decode cX12_isOrder 146 = .ok (.goto 4, 3) := by decide +kernel
theorem dX12_isOrder_149 : decode cX12_isOrder 149 = .ok (.iconst 0, 1) := by decide +kernel
theorem dX12_isOrder_150 : decode cX12_isOrder 150 = .ok (.istore_n 2, 1) := by decide +kernel
theorem dX12_isOrder_151 : decode cX12_isOrder 151 = .ok (.iinc 5 1, 3) := by decide +kernel
theorem dX12_isOrder_154 : decode cX12_isOrder 154 = .ok (.goto (-65), 3) := by decide +kernel
theorem dX12_isOrder_157 : decode cX12_isOrder 157 = .ok (.iinc 4 1, 3) := by decide +kernel
theorem dX12_isOrder_160 : decode cX12_isOrder 160 = .ok (.goto (-126), 3) := by decide +kernel
theorem dX12_isOrder_163 : decode cX12_isOrder 163 = .ok (.iinc 3 1, 3) := by decide +kernel
theorem dX12_isOrder_166 : decode cX12_isOrder 166 = .ok (.goto (-162), 3) := by decide +kernel
theorem dX12_isOrder_169 : decode cX12_isOrder 169 = .ok (.iload_n 2, 1) := by decide +kernel
theorem dX12_isOrder_170 : decode cX12_isOrder 170 = .ok (.ireturn, 1) := by decide +kernel
theorem dX12_isLattice_0 : decode cX12_isLattice 0 = .ok (.iconst 1, 1) := by decide +kernel
theorem dX12_isLattice_1 : decode cX12_isLattice 1 = .ok (.istore_n 2, 1) := by decide +kernel
theorem dX12_isLattice_2 : decode cX12_isLattice 2 = .ok (.iconst 0, 1) := by decide +kernel
theorem dX12_isLattice_3 : decode cX12_isLattice 3 = .ok (.istore_n 3, 1) := by decide +kernel
theorem dX12_isLattice_4 : decode cX12_isLattice 4 = .ok (.iload_n 3, 1) := by decide +kernel
theorem dX12_isLattice_5 : decode cX12_isLattice 5 = .ok (.iload_n 1, 1) := by decide +kernel
theorem dX12_isLattice_6 : decode cX12_isLattice 6 = .ok (.if_icmp .ge 58, 3) := by decide +kernel
theorem dX12_isLattice_9 : decode cX12_isLattice 9 = .ok (.iconst 0, 1) := by decide +kernel
theorem dX12_isLattice_10 : decode cX12_isLattice 10 = .ok (.istore 4, 2) := by decide +kernel
theorem dX12_isLattice_12 : decode cX12_isLattice 12 = .ok (.iload 4, 2) := by decide +kernel
theorem dX12_isLattice_14 : decode cX12_isLattice 14 = .ok (.iload_n 1, 1) := by decide +kernel
theorem dX12_isLattice_15 : decode cX12_isLattice 15 = .ok (.if_icmp .ge 43, 3) := by decide +kernel
theorem dX12_isLattice_18 : decode cX12_isLattice 18 = .ok (.iload_n 2, 1) := by decide +kernel
theorem dX12_isLattice_19 : decode cX12_isLattice 19 = .ok (.ifCond .eq 31, 3) := by decide +kernel
theorem dX12_isLattice_22 : decode cX12_isLattice 22 = .ok (.aload_n 0, 1) := by decide +kernel
theorem dX12_isLattice_23 : decode cX12_isLattice 23 = .ok (.iload_n 1, 1) := by decide +kernel
theorem dX12_isLattice_24 : decode cX12_isLattice 24 = .ok (.iload_n 3, 1) := by decide +kernel
theorem dX12_isLattice_25 : decode cX12_isLattice 25 = .ok (.iload 4, 2) := by decide +kernel
theorem dX12_isLattice_27 : decode cX12_isLattice 27 = .ok (.iconst 0, 1) := by decide +kernel
theorem dX12_isLattice_28 : decode cX12_isLattice 28 = .ok (.invokevirtual 131, 3) := by decide +kernel
theorem dX12_isLattice_31 : decode cX12_isLattice 31 = .ok (.ifCond .lt 19, 3) := by decide +kernel
theorem dX12_isLattice_34 : decode cX12_isLattice 34 = .ok (.aload_n 0, 1) := by decide +kernel
theorem dX12_isLattice_35 : decode cX12_isLattice 35 = .ok (.iload_n 1, 1) := by decide +kernel
theorem dX12_isLattice_36 : decode cX12_isLattice 36 = .ok (.iload_n 3, 1) := by decide +kernel
theorem dX12_isLattice_37 : decode cX12_isLattice 37 = .ok (.iload 4, 2) := by decide +kernel
theorem dX12_isLattice_39 : decode cX12_isLattice 39 = .ok (.iconst 1, 1) := by decide +kernel
theorem dX12_isLattice_40 : decode cX12_isLattice 40 = .ok (.invokevirtual 131, 3) := by decide +kernel
theorem dX12_isLattice_43 : decode cX12_isLattice 43 = .ok (.ifCond .lt 7, 3) := by decide +kernel
theorem dX12_isLattice_46 : decode cX12_isLattice 46 = .ok (.iconst 1, 1) := by decide +kernel
theorem dX12_isLattice_47 : decode cX12_isLattice 47 = .ok (.goto 4, 3) := by decide +kernel
theorem dX12_isLattice_50 : decode cX12_isLattice 50 = .ok (.iconst 0, 1) := by decide +kernel
theorem dX12_isLattice_51 : decode cX12_isLattice 51 = .ok (.istore_n 2, 1) := by decide +kernel
theorem dX12_isLattice_52 : decode cX12_isLattice 52 = .ok (.iinc 4 1, 3) := by decide +kernel
theorem dX12_isLattice_55 : decode cX12_isLattice 55 = .ok (.goto (-43), 3) := by decide +kernel
theorem dX12_isLattice_58 : decode cX12_isLattice 58 = .ok (.iinc 3 1, 3) := by decide +kernel
theorem dX12_isLattice_61 : decode cX12_isLattice 61 = .ok (.goto (-57), 3) := by decide +kernel
theorem dX12_isLattice_64 : decode cX12_isLattice 64 = .ok (.iload_n 2, 1) := by decide +kernel
theorem dX12_isLattice_65 : decode cX12_isLattice 65 = .ok (.ireturn, 1) := by decide +kernel
theorem dX12_levels_0 : decode cX12_levels 0 = .ok (.iconst 0, 1) := by decide +kernel
theorem dX12_levels_1 : decode cX12_levels 1 = .ok (.istore 4, 2) := by decide +kernel
theorem dX12_levels_3 : decode cX12_levels 3 = .ok (.iload 4, 2) := by decide +kernel
theorem dX12_levels_5 : decode cX12_levels 5 = .ok (.bipush 36, 2) := by decide +kernel
theorem dX12_levels_7 : decode cX12_levels 7 = .ok (.if_icmp .ge 32, 3) := by decide +kernel
theorem dX12_levels_10 : decode cX12_levels 10 = .ok (.aload_n 0, 1) := by decide +kernel
theorem dX12_levels_11 : decode cX12_levels 11 = .ok (.getfield 33, 3) := by decide +kernel
theorem dX12_levels_14 : decode cX12_levels 14 = .ok (.iload 4, 2) := by decide +kernel
theorem dX12_levels_16 : decode cX12_levels 16 = .ok (.lload_n 2, 1) := by decide +kernel
theorem dX12_levels_17 : decode cX12_levels 17 = .ok (.iload 4, 2) := by decide +kernel
theorem dX12_levels_19 : decode cX12_levels 19 = .ok (.lshr, 1) := by decide +kernel
theorem dX12_levels_20 : decode cX12_levels 20 = .ok (.lconst 1, 1) := by decide +kernel
theorem dX12_levels_21 : decode cX12_levels 21 = .ok (.land, 1) := by decide +kernel
theorem dX12_levels_22 : decode cX12_levels 22 = .ok (.lconst 1, 1) := by decide +kernel
theorem dX12_levels_23 : decode cX12_levels 23 = .ok (.lcmp, 1) := by decide +kernel
theorem dX12_levels_24 : decode cX12_levels 24 = .ok (.ifCond .ne 7, 3) := by decide +kernel
theorem dX12_levels_27 : decode cX12_levels 27 = .ok (.iconst 1, 1) := by decide +kernel
theorem dX12_levels_28 : decode cX12_levels 28 = .ok (.goto 4, 3) := by decide +kernel
theorem dX12_levels_31 : decode cX12_levels 31 = .ok (.iconst 0, 1) := by decide +kernel
theorem dX12_levels_32 : decode cX12_levels 32 = .ok (.bastore, 1) := by decide +kernel
theorem dX12_levels_33 : decode cX12_levels 33 = .ok (.iinc 4 1, 3) := by decide +kernel
theorem dX12_levels_36 : decode cX12_levels 36 = .ok (.goto (-33), 3) := by decide +kernel
theorem dX12_levels_39 : decode cX12_levels 39 = .ok (.iload_n 1, 1) := by decide +kernel
theorem dX12_levels_40 : decode cX12_levels 40 = .ok (.iconst 1, 1) := by decide +kernel
theorem dX12_levels_41 : decode cX12_levels 41 = .ok (.if_icmp .lt 21, 3) := by decide +kernel
theorem dX12_levels_44 : decode cX12_levels 44 = .ok (.iload_n 1, 1) := by decide +kernel
theorem dX12_levels_45 : decode cX12_levels 45 = .ok (.bipush 6, 2) := by decide +kernel
theorem dX12_levels_47 : decode cX12_levels 47 = .ok (.if_icmp .gt 15, 3) := by decide +kernel
theorem dX12_levels_50 : decode cX12_levels 50 = .ok (.aload_n 0, 1) := by decide +kernel
theorem dX12_levels_51 : decode cX12_levels 51 = .ok (.iload_n 1, 1) := by decide +kernel
theorem dX12_levels_52 : decode cX12_levels 52 = .ok (.invokevirtual 135, 3) := by decide +kernel
theorem dX12_levels_55 : decode cX12_levels 55 = .ok (.ifCond .eq 7, 3) := by decide +kernel
theorem dX12_levels_58 : decode cX12_levels 58 = .ok (.iconst 1, 1) := by decide +kernel
theorem dX12_levels_59 : decode cX12_levels 59 = .ok (.goto 4, 3) := by decide +kernel
theorem dX12_levels_62 : decode cX12_levels 62 = .ok (.iconst 0, 1) := by decide +kernel
theorem dX12_levels_63 : decode cX12_levels 63 = .ok (.istore 4, 2) := by decide +kernel
theorem dX12_levels_65 : decode cX12_levels 65 = .ok (.aload_n 0, 1) := by decide +kernel
theorem dX12_levels_66 : decode cX12_levels 66 = .ok (.iload 4, 2) := by decide +kernel
theorem dX12_levels_68 : decode cX12_levels 68 = .ok (.ifCond .ne 7, 3) := by decide +kernel
theorem dX12_levels_71 : decode cX12_levels 71 = .ok (.iconst 1, 1) := by decide +kernel
theorem dX12_levels_72 : decode cX12_levels 72 = .ok (.goto 16, 3) := by decide +kernel
theorem dX12_levels_75 : decode cX12_levels 75 = .ok (.aload_n 0, 1) := by decide +kernel
theorem dX12_levels_76 : decode cX12_levels 76 = .ok (.iload_n 1, 1) := by decide +kernel
theorem dX12_levels_77 : decode cX12_levels 77 = .ok (.invokevirtual 139, 3) := by decide +kernel
theorem dX12_levels_80 : decode cX12_levels 80 = .ok (.ifCond .ne 7, 3) := by decide +kernel
theorem dX12_levels_83 : decode cX12_levels 83 = .ok (.iconst 2, 1) := by decide +kernel
theorem dX12_levels_84 : decode cX12_levels 84 = .ok (.goto 4, 3) := by decide +kernel
theorem dX12_levels_87 : decode cX12_levels 87 = .ok (.iconst 0, 1) := by decide +kernel
theorem dX12_levels_88 : decode cX12_levels 88 = .ok (.putfield 124, 3) := by decide +kernel
theorem dX12_levels_91 : decode cX12_levels 91 = .ok (.aload_n 0, 1) := by decide +kernel
theorem dX12_levels_92 : decode cX12_levels 92 = .ok (.getfield 124, 3) := by decide +kernel
theorem dX12_levels_95 : decode cX12_levels 95 = .ok (.ifCond .le 5, 3) := by decide +kernel
theorem dX12_levels_98 : decode cX12_levels 98 = .ok (.iconst 0, 1) := by decide +kernel
theorem dX12_levels_99 : decode cX12_levels 99 = .ok (.ireturn, 1) := by decide +kernel
theorem dX12_levels_100 : decode cX12_levels 100 = .ok (.aload_n 0, 1) := by decide +kernel
theorem dX12_levels_101 : decode cX12_levels 101 = .ok (.iload_n 1, 1) := by decide +kernel
theorem dX12_levels_102 : decode cX12_levels 102 = .ok (.putfield 7, 3) := by decide +kernel
theorem dX12_levels_105 : decode cX12_levels 105 = .ok (.iconst 0, 1) := by decide +kernel
theorem dX12_levels_106 : decode cX12_levels 106 = .ok (.istore 5, 2) := by decide +kernel
theorem dX12_levels_108 : decode cX12_levels 108 = .ok (.aload_n 0, 1) := by decide +kernel
theorem dX12_levels_109 : decode cX12_levels 109 = .ok (.iconst 0, 1) := by decide +kernel
theorem dX12_levels_110 : decode cX12_levels 110 = .ok (.putfield 142, 3) := by decide +kernel
theorem dX12_levels_113 : decode cX12_levels 113 = .ok (.iconst 0, 1) := by decide +kernel
theorem dX12_levels_114 : decode cX12_levels 114 = .ok (.istore 6, 2) := by decide +kernel
theorem dX12_levels_116 : decode cX12_levels 116 = .ok (.iload 6, 2) := by decide +kernel
theorem dX12_levels_118 : decode cX12_levels 118 = .ok (.bipush 36, 2) := by decide +kernel
theorem dX12_levels_120 : decode cX12_levels 120 = .ok (.if_icmp .ge 68, 3) := by decide +kernel
theorem dX12_levels_123 : decode cX12_levels 123 = .ok (.aload_n 0, 1) := by decide +kernel
theorem dX12_levels_124 : decode cX12_levels 124 = .ok (.getfield 13, 3) := by decide +kernel
theorem dX12_levels_127 : decode cX12_levels 127 = .ok (.iload 6, 2) := by decide +kernel
theorem dX12_levels_129 : decode cX12_levels 129 = .ok (.aload_n 0, 1) := by decide +kernel
theorem dX12_levels_130 : decode cX12_levels 130 = .ok (.getfield 33, 3) := by decide +kernel
theorem dX12_levels_133 : decode cX12_levels 133 = .ok (.iload 6, 2) := by decide +kernel
theorem dX12_levels_135 : decode cX12_levels 135 = .ok (.baload, 1) := by decide +kernel
theorem dX12_levels_136 : decode cX12_levels 136 = .ok (.bastore, 1) := by decide +kernel
theorem dX12_levels_137 : decode cX12_levels 137 = .ok (.aload_n 0, 1) := by decide +kernel
theorem dX12_levels_138 : decode cX12_levels 138 = .ok (.getfield 17, 3) := by decide +kernel
theorem dX12_levels_141 : decode cX12_levels 141 = .ok (.iload 6, 2) := by decide +kernel
theorem dX12_levels_143 : decode cX12_levels 143 = .ok (.iload 6, 2) := by decide +kernel
theorem dX12_levels_145 : decode cX12_levels 145 = .ok (.bipush 6, 2) := by decide +kernel
theorem dX12_levels_147 : decode cX12_levels 147 = .ok (.idiv, 1) := by decide +kernel
theorem dX12_levels_148 : decode cX12_levels 148 = .ok (.iload_n 1, 1) := by decide +kernel
theorem dX12_levels_149 : decode cX12_levels 149 = .ok (.if_icmp .ge 31, 3) := by decide +kernel
theorem dX12_levels_152 : decode cX12_levels 152 = .ok (.iload 6, 2) := by decide +kernel
theorem dX12_levels_154 : decode cX12_levels 154 = .ok (.bipush 6, 2) := by decide +kernel
theorem dX12_levels_156 : decode cX12_levels 156 = .ok (.irem, 1) := by decide +kernel
theorem dX12_levels_157 : decode cX12_levels 157 = .ok (.iload_n 1, 1) := by decide +kernel
theorem dX12_levels_158 : decode cX12_levels 158 = .ok (.if_icmp .ge 22, 3) := by decide +kernel
theorem dX12_levels_161 : decode cX12_levels 161 = .ok (.aload_n 0, 1) := by decide +kernel
theorem dX12_levels_162 : decode cX12_levels 162 = .ok (.iload_n 1, 1) := by decide +kernel
theorem dX12_levels_163 : decode cX12_levels 163 = .ok (.iload 6, 2) := by decide +kernel
theorem dX12_levels_165 : decode cX12_levels 165 = .ok (.bipush 6, 2) := by decide +kernel
theorem dX12_levels_167 : decode cX12_levels 167 = .ok (.idiv, 1) := by decide +kernel
theorem dX12_levels_168 : decode cX12_levels 168 = .ok (.iload 6, 2) := by decide +kernel
theorem dX12_levels_170 : decode cX12_levels 170 = .ok (.bipush 6, 2) := by decide +kernel
theorem dX12_levels_172 : decode cX12_levels 172 = .ok (.irem, 1) := by decide +kernel
theorem dX12_levels_173 : decode cX12_levels 173 = .ok (.iconst 0, 1) := by decide +kernel
theorem dX12_levels_174 : decode cX12_levels 174 = .ok (.invokevirtual 131, 3) := by decide +kernel
theorem dX12_levels_177 : decode cX12_levels 177 = .ok (.goto 4, 3) := by decide +kernel
theorem dX12_levels_180 : decode cX12_levels 180 = .ok (.iconst 0, 1) := by decide +kernel
theorem dX12_levels_181 : decode cX12_levels 181 = .ok (.iastore, 1) := by decide +kernel
theorem dX12_levels_182 : decode cX12_levels 182 = .ok (.iinc 6 1, 3) := by decide +kernel
theorem dX12_levels_185 : decode cX12_levels 185 = .ok (.goto (-69), 3) := by decide +kernel
theorem dX12_levels_188 : decode cX12_levels 188 = .ok (.iconst 0, 1) := by decide +kernel
theorem dX12_levels_189 : decode cX12_levels 189 = .ok (.istore 6, 2) := by decide +kernel
theorem dX12_levels_191 : decode cX12_levels 191 = .ok (.iload 6, 2) := by decide +kernel
theorem dX12_levels_193 : decode cX12_levels 193 = .ok (.iload_n 1, 1) := by decide +kernel
theorem dX12_levels_194 : decode cX12_levels 194 = .ok (.if_icmp .ge 40, 3) := by decide +kernel
theorem dX12_levels_197 : decode cX12_levels 197 = .ok (.aload_n 0, 1) := by decide +kernel
theorem dX12_levels_198 : decode cX12_levels 198 = .ok (.getfield 17, 3) := by decide +kernel
theorem dX12_levels_201 : decode cX12_levels 201 = .ok (.bipush 6, 2) := by decide +kernel
theorem dX12_levels_203 : decode cX12_levels 203 = .ok (.iload 5, 2) := by decide +kernel
theorem dX12_levels_205 : decode cX12_levels 205 = .ok (.imul, 1) := by decide +kernel
theorem dX12_levels_206 : decode cX12_levels 206 = .ok (.iload 6, 2) := by decide +kernel
theorem dX12_levels_208 : decode cX12_levels 208 = .ok (.iadd, 1) := by decide +kernel
theorem dX12_levels_209 : decode cX12_levels 209 = .ok (.iaload, 1) := by decide +kernel
theorem dX12_levels_210 : decode cX12_levels 210 = .ok (.istore 5, 2) := by decide +kernel
theorem dX12_levels_212 : decode cX12_levels 212 = .ok (.aload_n 0, 1) := by decide +kernel
theorem dX12_levels_213 : decode cX12_levels 213 = .ok (.aload_n 0, 1) := by decide +kernel
theorem dX12_levels_214 : decode cX12_levels 214 = .ok (.iload_n 1, 1) := by decide +kernel
theorem dX12_levels_215 : decode cX12_levels 215 = .ok (.aload_n 0, 1) := by decide +kernel
theorem dX12_levels_216 : decode cX12_levels 216 = .ok (.getfield 142, 3) := by decide +kernel
theorem dX12_levels_219 : decode cX12_levels 219 = .ok (.iload 6, 2) := by decide +kernel
theorem dX12_levels_221 : decode cX12_levels 221 = .ok (.iconst 1, 1) := by decide +kernel
theorem dX12_levels_222 : decode cX12_levels 222 = .ok (.invokevirtual 131, 3) := by decide +kernel
theorem dX12_levels_225 : decode cX12_levels 225 = .ok (.putfield 142, 3) := by decide +kernel
theorem dX12_levels_228 : decode cX12_levels 228 = .ok (.iinc 6 1, 3) := by decide +kernel
theorem dX12_levels_231 : decode cX12_levels 231 = .ok (.goto (-40), 3) := by decide +kernel
theorem dX12_levels_234 : decode cX12_levels 234 = .ok (.iconst 0, 1) := by decide +kernel
theorem dX12_levels_235 : decode cX12_levels 235 = .ok (.istore 6, 2) := by decide +kernel
theorem dX12_levels_237 : decode cX12_levels 237 = .ok (.iload 6, 2) := by decide +kernel
theorem dX12_levels_239 : decode cX12_levels 239 = .ok (.bipush 8, 2) := by decide +kernel
theorem dX12_levels_241 : decode cX12_levels 241 = .ok (.if_icmp .ge 29, 3) := by decide +kernel
theorem dX12_levels_244 : decode cX12_levels 244 = .ok (.aload_n 0, 1) := by decide +kernel
theorem dX12_levels_245 : decode cX12_levels 245 = .ok (.getfield 21, 3) := by decide +kernel
theorem dX12_levels_248 : decode cX12_levels 248 = .ok (.iload 6, 2) := by decide +kernel
theorem dX12_levels_250 : decode cX12_levels 250 = .ok (.aload_n 0, 1) := by decide +kernel
theorem dX12_levels_251 : decode cX12_levels 251 = .ok (.getfield 142, 3) := by decide +kernel
theorem dX12_levels_254 : decode cX12_levels 254 = .ok (.iastore, 1) := by decide +kernel
theorem dX12_levels_255 : decode cX12_levels 255 = .ok (.aload_n 0, 1) := by decide +kernel
theorem dX12_levels_256 : decode cX12_levels 256 = .ok (.getfield 24, 3) := by decide +kernel
theorem dX12_levels_259 : decode cX12_levels 259 = .ok (.iload 6, 2) := by decide +kernel
theorem dX12_levels_261 : decode cX12_levels 261 = .ok (.iload 5, 2) := by decide +kernel
theorem dX12_levels_263 : decode cX12_levels 263 = .ok (.iastore, 1) := by decide +kernel
theorem dX12_levels_264 : decode cX12_levels 264 = .ok (.iinc 6 1, 3) := by decide +kernel
theorem dX12_levels_267 : decode cX12_levels 267 = .ok (.goto (-30), 3) := by decide +kernel
theorem dX12_levels_270 : decode cX12_levels 270 = .ok (.iconst 1, 1) := by decide +kernel
theorem dX12_levels_271 : decode cX12_levels 271 = .ok (.ireturn, 1) := by decide +kernel
theorem dX12_joined_0 : decode cX12_joined 0 = .ok (.aload_n 0, 1) := by decide +kernel
theorem dX12_joined_1 : decode cX12_joined 1 = .ok (.getfield 17, 3) := by decide +kernel
theorem dX12_joined_4 : decode cX12_joined 4 = .ok (.bipush 6, 2) := by decide +kernel
theorem dX12_joined_6 : decode cX12_joined 6 = .ok (.iload_n 1, 1) := by decide +kernel
theorem dX12_joined_7 : decode cX12_joined 7 = .ok (.imul, 1) := by decide +kernel
theorem dX12_joined_8 : decode cX12_joined 8 = .ok (.iload_n 2, 1) := by decide +kernel
theorem dX12_joined_9 : decode cX12_joined 9 = .ok (.iadd, 1) := by decide +kernel
theorem dX12_joined_10 : decode cX12_joined 10 = .ok (.iaload, 1) := by decide +kernel
theorem dX12_joined_11 : decode cX12_joined 11 = .ok (.ireturn, 1) := by decide +kernel
theorem dX12_join_0 : decode cX12_join 0 = .ok (.aload_n 0, 1) := by decide +kernel
theorem dX12_join_1 : decode cX12_join 1 = .ok (.iconst 0, 1) := by decide +kernel
theorem dX12_join_2 : decode cX12_join 2 = .ok (.putfield 124, 3) := by decide +kernel
theorem dX12_join_5 : decode cX12_join 5 = .ok (.aload_n 0, 1) := by decide +kernel
theorem dX12_join_6 : decode cX12_join 6 = .ok (.iload_n 1, 1) := by decide +kernel
theorem dX12_join_7 : decode cX12_join 7 = .ok (.invokevirtual 145, 3) := by decide +kernel
theorem dX12_join_10 : decode cX12_join 10 = .ok (.ifCond .eq 20, 3) := by decide +kernel
theorem dX12_join_13 : decode cX12_join 13 = .ok (.aload_n 0, 1) := by decide +kernel
theorem dX12_join_14 : decode cX12_join 14 = .ok (.iload_n 2, 1) := by decide +kernel
theorem dX12_join_15 : decode cX12_join 15 = .ok (.invokevirtual 145, 3) := by decide +kernel
theorem dX12_join_18 : decode cX12_join 18 = .ok (.ifCond .eq 12, 3) := by decide +kernel
theorem dX12_join_21 : decode cX12_join 21 = .ok (.aload_n 0, 1) := by decide +kernel
theorem dX12_join_22 : decode cX12_join 22 = .ok (.iload_n 1, 1) := by decide +kernel
theorem dX12_join_23 : decode cX12_join 23 = .ok (.iload_n 2, 1) := by decide +kernel
theorem dX12_join_24 : decode cX12_join 24 = .ok (.invokevirtual 148, 3) := by decide +kernel
theorem dX12_join_27 : decode cX12_join 27 = .ok (.goto 4, 3) := by decide +kernel
theorem dX12_join_30 : decode cX12_join 30 = .ok (.iconst (-1), 1) := by decide +kernel
theorem dX12_join_31 : decode cX12_join 31 = .ok (.ireturn, 1) := by decide +kernel
theorem dX12_label_0 : decode cX12_label 0 = .ok (.aload_n 0, 1) := by decide +kernel
theorem dX12_label_1 : decode cX12_label 1 = .ok (.iconst 0, 1) := by decide +kernel
theorem dX12_label_2 : decode cX12_label 2 = .ok (.putfield 124, 3) := by decide +kernel
theorem dX12_label_5 : decode cX12_label 5 = .ok (.iload_n 1, 1) := by decide +kernel
theorem dX12_label_6 : decode cX12_label 6 = .ok (.ifCond .eq 8, 3) := by decide +kernel
theorem dX12_label_9 : decode cX12_label 9 = .ok (.iload_n 1, 1) := by decide +kernel
theorem dX12_label_10 : decode cX12_label 10 = .ok (.iconst 1, 1) := by decide +kernel
theorem dX12_label_11 : decode cX12_label 11 = .ok (.if_icmp .ne 21, 3) := by decide +kernel
theorem dX12_label_14 : decode cX12_label 14 = .ok (.iload_n 2, 1) := by decide +kernel
theorem dX12_label_15 : decode cX12_label 15 = .ok (.ifCond .lt 17, 3) := by decide +kernel
theorem dX12_label_18 : decode cX12_label 18 = .ok (.iload_n 2, 1) := by decide +kernel
theorem dX12_label_19 : decode cX12_label 19 = .ok (.bipush 7, 2) := by decide +kernel
theorem dX12_label_21 : decode cX12_label 21 = .ok (.if_icmp .gt 11, 3) := by decide +kernel
theorem dX12_label_24 : decode cX12_label 24 = .ok (.aload_n 0, 1) := by decide +kernel
theorem dX12_label_25 : decode cX12_label 25 = .ok (.iload_n 3, 1) := by decide +kernel
theorem dX12_label_26 : decode cX12_label 26 = .ok (.invokevirtual 145, 3) := by decide +kernel
theorem dX12_label_29 : decode cX12_label 29 = .ok (.ifCond .ne 5, 3) := by decide +kernel
theorem dX12_label_32 : decode cX12_label 32 = .ok (.iconst 0, 1) := by decide +kernel
theorem dX12_label_33 : decode cX12_label 33 = .ok (.ireturn, 1) := by decide +kernel
theorem dX12_label_34 : decode cX12_label 34 = .ok (.iload_n 1, 1) := by decide +kernel
theorem dX12_label_35 : decode cX12_label 35 = .ok (.ifCond .ne 13, 3) := by decide +kernel
theorem dX12_label_38 : decode cX12_label 38 = .ok (.aload_n 0, 1) := by decide +kernel
theorem dX12_label_39 : decode cX12_label 39 = .ok (.getfield 21, 3) := by decide +kernel
theorem dX12_label_42 : decode cX12_label 42 = .ok (.iload_n 2, 1) := by decide +kernel
theorem dX12_label_43 : decode cX12_label 43 = .ok (.iload_n 3, 1) := by decide +kernel
theorem dX12_label_44 : decode cX12_label 44 = .ok (.iastore, 1) := by decide +kernel
theorem dX12_label_45 : decode cX12_label 45 = .ok (.goto 10, 3) := by decide +kernel
theorem dX12_label_48 : decode cX12_label 48 = .ok (.aload_n 0, 1) := by decide +kernel
theorem dX12_label_49 : decode cX12_label 49 = .ok (.getfield 24, 3) := by decide +kernel
theorem dX12_label_52 : decode cX12_label 52 = .ok (.iload_n 2, 1) := by decide +kernel
theorem dX12_label_53 : decode cX12_label 53 = .ok (.iload_n 3, 1) := by decide +kernel
theorem dX12_label_54 : decode cX12_label 54 = .ok (.iastore, 1) := by decide +kernel
theorem dX12_label_55 : decode cX12_label 55 = .ok (.iconst 1, 1) := by decide +kernel
theorem dX12_label_56 : decode cX12_label 56 = .ok (.ireturn, 1) := by decide +kernel
theorem dX12_write_0 : decode cX12_write 0 = .ok (.aload_n 0, 1) := by decide +kernel
theorem dX12_write_1 : decode cX12_write 1 = .ok (.iconst 0, 1) := by decide +kernel
theorem dX12_write_2 : decode cX12_write 2 = .ok (.putfield 124, 3) := by decide +kernel
theorem dX12_write_5 : decode cX12_write 5 = .ok (.iconst 0, 1) := by decide +kernel
theorem dX12_write_6 : decode cX12_write 6 = .ok (.istore_n 3, 1) := by decide +kernel
theorem dX12_write_7 : decode cX12_write 7 = .ok (.bipush 56, 2) := by decide +kernel
theorem dX12_write_9 : decode cX12_write 9 = .ok (.istore 4, 2) := by decide +kernel
theorem dX12_write_11 : decode cX12_write 11 = .ok (.iload 4, 2) := by decide +kernel
theorem dX12_write_13 : decode cX12_write 13 = .ok (.ifCond .lt 58, 3) := by decide +kernel
theorem dX12_write_16 : decode cX12_write 16 = .ok (.lload_n 1, 1) := by decide +kernel
theorem dX12_write_17 : decode cX12_write 17 = .ok (.iload 4, 2) := by decide +kernel
theorem dX12_write_19 : decode cX12_write 19 = .ok (.lushr, 1) := by decide +kernel
theorem dX12_write_20 : decode cX12_write 20 = .ok (.ldc2_w 152, 3) := by decide +kernel
theorem dX12_write_23 : decode cX12_write 23 = .ok (.land, 1) := by decide +kernel
theorem dX12_write_24 : decode cX12_write 24 = .ok (.l2i, 1) := by decide +kernel
theorem dX12_write_25 : decode cX12_write 25 = .ok (.istore 5, 2) := by decide +kernel
theorem dX12_write_27 : decode cX12_write 27 = .ok (.iload 5, 2) := by decide +kernel
theorem dX12_write_29 : decode cX12_write 29 = .ok (.ifCond .eq 19, 3) := by decide +kernel
theorem dX12_write_32 : decode cX12_write 32 = .ok (.iload 5, 2) := by decide +kernel
theorem dX12_write_34 : decode cX12_write 34 = .ok (.bipush 32, 2) := by decide +kernel
theorem dX12_write_36 : decode cX12_write 36 = .ok (.if_icmp .lt 10, 3) := by decide +kernel
theorem dX12_write_39 : decode cX12_write 39 = .ok (.iload 5, 2) := by decide +kernel
theorem dX12_write_41 : decode cX12_write 41 = .ok (.bipush 126, 2) := by decide +kernel
theorem dX12_write_43 : decode cX12_write 43 = .ok (.if_icmp .le 5, 3) := by decide +kernel
theorem dX12_write_46 : decode cX12_write 46 = .ok (.iconst 0, 1) := by decide +kernel
theorem dX12_write_47 : decode cX12_write 47 = .ok (.ireturn, 1) := by decide +kernel
theorem dX12_write_48 : decode cX12_write 48 = .ok (.iload 5, 2) := by decide +kernel
theorem dX12_write_50 : decode cX12_write 50 = .ok (.ifCond .eq 9, 3) := by decide +kernel
theorem dX12_write_53 : decode cX12_write 53 = .ok (.iload_n 3, 1) := by decide +kernel
theorem dX12_write_54 : decode cX12_write 54 = .ok (.iconst 1, 1) := by decide +kernel
theorem dX12_write_55 : decode cX12_write 55 = .ok (.iadd, 1) := by decide +kernel
theorem dX12_write_56 : decode cX12_write 56 = .ok (.goto 4, 3) := by decide +kernel
theorem dX12_write_59 : decode cX12_write 59 = .ok (.iload_n 3, 1) := by decide +kernel
theorem dX12_write_60 : decode cX12_write 60 = .ok (.istore_n 3, 1) := by decide +kernel
theorem dX12_write_61 : decode cX12_write 61 = .ok (.iload 4, 2) := by decide +kernel
theorem dX12_write_63 : decode cX12_write 63 = .ok (.bipush 8, 2) := by decide +kernel
theorem dX12_write_65 : decode cX12_write 65 = .ok (.isub, 1) := by decide +kernel
theorem dX12_write_66 : decode cX12_write 66 = .ok (.istore 4, 2) := by decide +kernel
theorem dX12_write_68 : decode cX12_write 68 = .ok (.goto (-57), 3) := by decide +kernel
theorem dX12_write_71 : decode cX12_write 71 = .ok (.aload_n 0, 1) := by decide +kernel
theorem dX12_write_72 : decode cX12_write 72 = .ok (.getfield 154, 3) := by decide +kernel
theorem dX12_write_75 : decode cX12_write 75 = .ok (.iload_n 3, 1) := by decide +kernel
theorem dX12_write_76 : decode cX12_write 76 = .ok (.iadd, 1) := by decide +kernel
theorem dX12_write_77 : decode cX12_write 77 = .ok (.bipush 72, 2) := by decide +kernel
theorem dX12_write_79 : decode cX12_write 79 = .ok (.if_icmp .le 5, 3) := by decide +kernel
theorem dX12_write_82 : decode cX12_write 82 = .ok (.iconst 0, 1) := by decide +kernel
theorem dX12_write_83 : decode cX12_write 83 = .ok (.ireturn, 1) := by decide +kernel
theorem dX12_write_84 : decode cX12_write 84 = .ok (.bipush 56, 2) := by decide +kernel
theorem dX12_write_86 : decode cX12_write 86 = .ok (.istore 4, 2) := by decide +kernel
theorem dX12_write_88 : decode cX12_write 88 = .ok (.iload 4, 2) := by decide +kernel
theorem dX12_write_90 : decode cX12_write 90 = .ok (.ifCond .lt 51, 3) := by decide +kernel
theorem dX12_write_93 : decode cX12_write 93 = .ok (.lload_n 1, 1) := by decide +kernel
theorem dX12_write_94 : decode cX12_write 94 = .ok (.iload 4, 2) := by decide +kernel
theorem dX12_write_96 : decode cX12_write 96 = .ok (.lushr, 1) := by decide +kernel
theorem dX12_write_97 : decode cX12_write 97 = .ok (.ldc2_w 152, 3) := by decide +kernel
theorem dX12_write_100 : decode cX12_write 100 = .ok (.land, 1) := by decide +kernel
theorem dX12_write_101 : decode cX12_write 101 = .ok (.l2i, 1) := by decide +kernel
theorem dX12_write_102 : decode cX12_write 102 = .ok (.istore 5, 2) := by decide +kernel
theorem dX12_write_104 : decode cX12_write 104 = .ok (.iload 5, 2) := by decide +kernel
theorem dX12_write_106 : decode cX12_write 106 = .ok (.ifCond .eq 25, 3) := by decide +kernel
theorem dX12_write_109 : decode cX12_write 109 = .ok (.aload_n 0, 1) := by decide +kernel
theorem dX12_write_110 : decode cX12_write 110 = .ok (.getfield 36, 3) := by decide +kernel
theorem dX12_write_113 : decode cX12_write 113 = .ok (.aload_n 0, 1) := by decide +kernel
theorem dX12_write_114 : decode cX12_write 114 = .ok (.getfield 154, 3) := by decide +kernel
theorem dX12_write_117 : decode cX12_write 117 = .ok (.iload 5, 2) := by decide +kernel
theorem dX12_write_119 : decode cX12_write 119 = .ok (.i2c, 1) := by decide +kernel
theorem dX12_write_120 : decode cX12_write 120 = .ok (.castore, 1) := by decide +kernel
theorem dX12_write_121 : decode cX12_write 121 = .ok (.aload_n 0, 1) := by decide +kernel
theorem dX12_write_122 : decode cX12_write 122 = .ok (.dup, 1) := by decide +kernel
theorem dX12_write_123 : decode cX12_write 123 = .ok (.getfield 154, 3) := by decide +kernel
theorem dX12_write_126 : decode cX12_write 126 = .ok (.iconst 1, 1) := by decide +kernel
theorem dX12_write_127 : decode cX12_write 127 = .ok (.iadd, 1) := by decide +kernel
theorem dX12_write_128 : decode cX12_write 128 = .ok (.putfield 154, 3) := by decide +kernel
theorem dX12_write_131 : decode cX12_write 131 = .ok (.iload 4, 2) := by decide +kernel
theorem dX12_write_133 : decode cX12_write 133 = .ok (.bipush 8, 2) := by decide +kernel
theorem dX12_write_135 : decode cX12_write 135 = .ok (.isub, 1) := by decide +kernel
theorem dX12_write_136 : decode cX12_write 136 = .ok (.istore 4, 2) := by decide +kernel
theorem dX12_write_138 : decode cX12_write 138 = .ok (.goto (-50), 3) := by decide +kernel
theorem dX12_write_141 : decode cX12_write 141 = .ok (.iconst 1, 1) := by decide +kernel
theorem dX12_write_142 : decode cX12_write 142 = .ok (.ireturn, 1) := by decide +kernel
theorem dX12_here_0 : decode cX12_here 0 = .ok (.aload_n 0, 1) := by decide +kernel
theorem dX12_here_1 : decode cX12_here 1 = .ok (.getfield 157, 3) := by decide +kernel
theorem dX12_here_4 : decode cX12_here 4 = .ok (.aload_n 0, 1) := by decide +kernel
theorem dX12_here_5 : decode cX12_here 5 = .ok (.getfield 154, 3) := by decide +kernel
theorem dX12_here_8 : decode cX12_here 8 = .ok (.if_icmp .ge 15, 3) := by decide +kernel
theorem dX12_here_11 : decode cX12_here 11 = .ok (.aload_n 0, 1) := by decide +kernel
theorem dX12_here_12 : decode cX12_here 12 = .ok (.getfield 36, 3) := by decide +kernel
theorem dX12_here_15 : decode cX12_here 15 = .ok (.aload_n 0, 1) := by decide +kernel
theorem dX12_here_16 : decode cX12_here 16 = .ok (.getfield 157, 3) := by decide +kernel
theorem dX12_here_19 : decode cX12_here 19 = .ok (.caload, 1) := by decide +kernel
theorem dX12_here_20 : decode cX12_here 20 = .ok (.goto 4, 3) := by decide +kernel
theorem dX12_here_23 : decode cX12_here 23 = .ok (.iconst 0, 1) := by decide +kernel
theorem dX12_here_24 : decode cX12_here 24 = .ok (.ireturn, 1) := by decide +kernel
theorem dX12_takes_0 : decode cX12_takes 0 = .ok (.aload_n 0, 1) := by decide +kernel
theorem dX12_takes_1 : decode cX12_takes 1 = .ok (.invokevirtual 160, 3) := by decide +kernel
theorem dX12_takes_4 : decode cX12_takes 4 = .ok (.iload_n 1, 1) := by decide +kernel
theorem dX12_takes_5 : decode cX12_takes 5 = .ok (.if_icmp .ne 7, 3) := by decide +kernel
theorem dX12_takes_8 : decode cX12_takes 8 = .ok (.iconst 1, 1) := by decide +kernel
theorem dX12_takes_9 : decode cX12_takes 9 = .ok (.goto 4, 3) := by decide +kernel
theorem dX12_takes_12 : decode cX12_takes 12 = .ok (.iconst 0, 1) := by decide +kernel
theorem dX12_takes_13 : decode cX12_takes 13 = .ok (.istore_n 2, 1) := by decide +kernel
theorem dX12_takes_14 : decode cX12_takes 14 = .ok (.aload_n 0, 1) := by decide +kernel
theorem dX12_takes_15 : decode cX12_takes 15 = .ok (.iload_n 2, 1) := by decide +kernel
theorem dX12_takes_16 : decode cX12_takes 16 = .ok (.ifCond .eq 12, 3) := by decide +kernel
theorem dX12_takes_19 : decode cX12_takes 19 = .ok (.aload_n 0, 1) := by decide +kernel
theorem dX12_takes_20 : decode cX12_takes 20 = .ok (.getfield 157, 3) := by decide +kernel
theorem dX12_takes_23 : decode cX12_takes 23 = .ok (.iconst 1, 1) := by decide +kernel
theorem dX12_takes_24 : decode cX12_takes 24 = .ok (.iadd, 1) := by decide +kernel
theorem dX12_takes_25 : decode cX12_takes 25 = .ok (.goto 7, 3) := by decide +kernel
theorem dX12_takes_28 : decode cX12_takes 28 = .ok (.aload_n 0, 1) := by decide +kernel
theorem dX12_takes_29 : decode cX12_takes 29 = .ok (.getfield 157, 3) := by decide +kernel
theorem dX12_takes_32 : decode cX12_takes 32 = .ok (.putfield 157, 3) := by decide +kernel
theorem dX12_takes_35 : decode cX12_takes 35 = .ok (.iload_n 2, 1) := by decide +kernel
theorem dX12_takes_36 : decode cX12_takes 36 = .ok (.ireturn, 1) := by decide +kernel
theorem dX12_opens_0 : decode cX12_opens 0 = .ok (.aload_n 0, 1) := by decide +kernel
theorem dX12_opens_1 : decode cX12_opens 1 = .ok (.invokevirtual 160, 3) := by decide +kernel
theorem dX12_opens_4 : decode cX12_opens 4 = .ok (.iload_n 1, 1) := by decide +kernel
theorem dX12_opens_5 : decode cX12_opens 5 = .ok (.if_icmp .ne 12, 3) := by decide +kernel
theorem dX12_opens_8 : decode cX12_opens 8 = .ok (.aload_n 0, 1) := by decide +kernel
theorem dX12_opens_9 : decode cX12_opens 9 = .ok (.getfield 164, 3) := by decide +kernel
theorem dX12_opens_12 : decode cX12_opens 12 = .ok (.bipush 6, 2) := by decide +kernel
theorem dX12_opens_14 : decode cX12_opens 14 = .ok (.if_icmp .ne 5, 3) := by decide +kernel
theorem dX12_opens_17 : decode cX12_opens 17 = .ok (.iconst 0, 1) := by decide +kernel
theorem dX12_opens_18 : decode cX12_opens 18 = .ok (.ireturn, 1) := by decide +kernel
theorem dX12_opens_19 : decode cX12_opens 19 = .ok (.aload_n 0, 1) := by decide +kernel
theorem dX12_opens_20 : decode cX12_opens 20 = .ok (.dup, 1) := by decide +kernel
theorem dX12_opens_21 : decode cX12_opens 21 = .ok (.getfield 164, 3) := by decide +kernel
theorem dX12_opens_24 : decode cX12_opens 24 = .ok (.iconst 1, 1) := by decide +kernel
theorem dX12_opens_25 : decode cX12_opens 25 = .ok (.iadd, 1) := by decide +kernel
theorem dX12_opens_26 : decode cX12_opens 26 = .ok (.putfield 164, 3) := by decide +kernel
theorem dX12_opens_29 : decode cX12_opens 29 = .ok (.aload_n 0, 1) := by decide +kernel
theorem dX12_opens_30 : decode cX12_opens 30 = .ok (.dup, 1) := by decide +kernel
theorem dX12_opens_31 : decode cX12_opens 31 = .ok (.getfield 157, 3) := by decide +kernel
theorem dX12_opens_34 : decode cX12_opens 34 = .ok (.iconst 1, 1) := by decide +kernel
theorem dX12_opens_35 : decode cX12_opens 35 = .ok (.iadd, 1) := by decide +kernel
theorem dX12_opens_36 : decode cX12_opens 36 = .ok (.putfield 157, 3) := by decide +kernel
theorem dX12_opens_39 : decode cX12_opens 39 = .ok (.iconst 1, 1) := by decide +kernel
theorem dX12_opens_40 : decode cX12_opens 40 = .ok (.ireturn, 1) := by decide +kernel
theorem dX12_closes_0 : decode cX12_closes 0 = .ok (.aload_n 0, 1) := by decide +kernel
theorem dX12_closes_1 : decode cX12_closes 1 = .ok (.iload_n 1, 1) := by decide +kernel
theorem dX12_closes_2 : decode cX12_closes 2 = .ok (.invokevirtual 167, 3) := by decide +kernel
theorem dX12_closes_5 : decode cX12_closes 5 = .ok (.istore_n 2, 1) := by decide +kernel
theorem dX12_closes_6 : decode cX12_closes 6 = .ok (.aload_n 0, 1) := by decide +kernel
theorem dX12_closes_7 : decode cX12_closes 7 = .ok (.iload_n 2, 1) := by decide +kernel
theorem dX12_closes_8 : decode cX12_closes 8 = .ok (.ifCond .eq 12, 3) := by decide +kernel
theorem dX12_closes_11 : decode cX12_closes 11 = .ok (.aload_n 0, 1) := by decide +kernel
theorem dX12_closes_12 : decode cX12_closes 12 = .ok (.getfield 164, 3) := by decide +kernel
theorem dX12_closes_15 : decode cX12_closes 15 = .ok (.iconst 1, 1) := by decide +kernel
theorem dX12_closes_16 : decode cX12_closes 16 = .ok (.isub, 1) := by decide +kernel
theorem dX12_closes_17 : decode cX12_closes 17 = .ok (.goto 7, 3) := by decide +kernel
theorem dX12_closes_20 : decode cX12_closes 20 = .ok (.aload_n 0, 1) := by decide +kernel
theorem dX12_closes_21 : decode cX12_closes 21 = .ok (.getfield 164, 3) := by decide +kernel
theorem dX12_closes_24 : decode cX12_closes 24 = .ok (.putfield 164, 3) := by decide +kernel
theorem dX12_closes_27 : decode cX12_closes 27 = .ok (.iload_n 2, 1) := by decide +kernel
theorem dX12_closes_28 : decode cX12_closes 28 = .ok (.ireturn, 1) := by decide +kernel
theorem dX12_isName_0 : decode cX12_isName 0 = .ok (.iload_n 0, 1) := by decide +kernel
theorem dX12_isName_1 : decode cX12_isName 1 = .ok (.bipush 97, 2) := by decide +kernel
theorem dX12_isName_3 : decode cX12_isName 3 = .ok (.if_icmp .lt 13, 3) := by decide +kernel
theorem dX12_isName_6 : decode cX12_isName 6 = .ok (.iload_n 0, 1) := by decide +kernel
theorem dX12_isName_7 : decode cX12_isName 7 = .ok (.bipush 104, 2) := by decide +kernel
theorem dX12_isName_9 : decode cX12_isName 9 = .ok (.if_icmp .gt 7, 3) := by decide +kernel
theorem dX12_isName_12 : decode cX12_isName 12 = .ok (.iconst 1, 1) := by decide +kernel
theorem dX12_isName_13 : decode cX12_isName 13 = .ok (.goto 4, 3) := by decide +kernel
theorem dX12_isName_16 : decode cX12_isName 16 = .ok (.iconst 0, 1) := by decide +kernel
theorem dX12_isName_17 : decode cX12_isName 17 = .ok (.ireturn, 1) := by decide +kernel
theorem dX12_isDigit_0 : decode cX12_isDigit 0 = .ok (.iload_n 0, 1) := by decide +kernel
theorem dX12_isDigit_1 : decode cX12_isDigit 1 = .ok (.bipush 48, 2) := by decide +kernel
theorem dX12_isDigit_3 : decode cX12_isDigit 3 = .ok (.if_icmp .lt 13, 3) := by decide +kernel
theorem dX12_isDigit_6 : decode cX12_isDigit 6 = .ok (.iload_n 0, 1) := by decide +kernel
theorem dX12_isDigit_7 : decode cX12_isDigit 7 = .ok (.bipush 57, 2) := by decide +kernel
theorem dX12_isDigit_9 : decode cX12_isDigit 9 = .ok (.if_icmp .gt 7, 3) := by decide +kernel
theorem dX12_isDigit_12 : decode cX12_isDigit 12 = .ok (.iconst 1, 1) := by decide +kernel
theorem dX12_isDigit_13 : decode cX12_isDigit 13 = .ok (.goto 4, 3) := by decide +kernel
theorem dX12_isDigit_16 : decode cX12_isDigit 16 = .ok (.iconst 0, 1) := by decide +kernel
theorem dX12_isDigit_17 : decode cX12_isDigit 17 = .ok (.ireturn, 1) := by decide +kernel
theorem dX12_part_0 : decode cX12_part 0 = .ok (.aload_n 0, 1) := by decide +kernel
theorem dX12_part_1 : decode cX12_part 1 = .ok (.getfield 171, 3) := by decide +kernel
theorem dX12_part_4 : decode cX12_part 4 = .ok (.istore_n 3, 1) := by decide +kernel
theorem dX12_part_5 : decode cX12_part 5 = .ok (.aload_n 0, 1) := by decide +kernel
theorem dX12_part_6 : decode cX12_part 6 = .ok (.dup, 1) := by decide +kernel
theorem dX12_part_7 : decode cX12_part 7 = .ok (.getfield 171, 3) := by decide +kernel
theorem dX12_part_10 : decode cX12_part 10 = .ok (.iconst 1, 1) := by decide +kernel
theorem dX12_part_11 : decode cX12_part 11 = .ok (.iadd, 1) := by decide +kernel
theorem dX12_part_12 : decode cX12_part 12 = .ok (.putfield 171, 3) := by decide +kernel
theorem dX12_part_15 : decode cX12_part 15 = .ok (.aload_n 0, 1) := by decide +kernel
theorem dX12_part_16 : decode cX12_part 16 = .ok (.getfield 43, 3) := by decide +kernel
theorem dX12_part_19 : decode cX12_part 19 = .ok (.iload_n 3, 1) := by decide +kernel
theorem dX12_part_20 : decode cX12_part 20 = .ok (.iload_n 1, 1) := by decide +kernel
theorem dX12_part_21 : decode cX12_part 21 = .ok (.iastore, 1) := by decide +kernel
theorem dX12_part_22 : decode cX12_part 22 = .ok (.aload_n 0, 1) := by decide +kernel
theorem dX12_part_23 : decode cX12_part 23 = .ok (.getfield 46, 3) := by decide +kernel
theorem dX12_part_26 : decode cX12_part 26 = .ok (.iload_n 3, 1) := by decide +kernel
theorem dX12_part_27 : decode cX12_part 27 = .ok (.iconst 0, 1) := by decide +kernel
theorem dX12_part_28 : decode cX12_part 28 = .ok (.iastore, 1) := by decide +kernel
theorem dX12_part_29 : decode cX12_part 29 = .ok (.aload_n 0, 1) := by decide +kernel
theorem dX12_part_30 : decode cX12_part 30 = .ok (.getfield 49, 3) := by decide +kernel
theorem dX12_part_33 : decode cX12_part 33 = .ok (.iload_n 3, 1) := by decide +kernel
theorem dX12_part_34 : decode cX12_part 34 = .ok (.iload_n 2, 1) := by decide +kernel
theorem dX12_part_35 : decode cX12_part 35 = .ok (.iastore, 1) := by decide +kernel
theorem dX12_part_36 : decode cX12_part 36 = .ok (.aload_n 0, 1) := by decide +kernel
theorem dX12_part_37 : decode cX12_part 37 = .ok (.getfield 52, 3) := by decide +kernel
theorem dX12_part_40 : decode cX12_part 40 = .ok (.iload_n 3, 1) := by decide +kernel
theorem dX12_part_41 : decode cX12_part 41 = .ok (.iconst (-1), 1) := by decide +kernel
theorem dX12_part_42 : decode cX12_part 42 = .ok (.iastore, 1) := by decide +kernel
theorem dX12_part_43 : decode cX12_part 43 = .ok (.aload_n 0, 1) := by decide +kernel
theorem dX12_part_44 : decode cX12_part 44 = .ok (.getfield 55, 3) := by decide +kernel
theorem dX12_part_47 : decode cX12_part 47 = .ok (.iload_n 3, 1) := by decide +kernel
theorem dX12_part_48 : decode cX12_part 48 = .ok (.iconst (-1), 1) := by decide +kernel
theorem dX12_part_49 : decode cX12_part 49 = .ok (.iastore, 1) := by decide +kernel
theorem dX12_part_50 : decode cX12_part 50 = .ok (.aload_n 0, 1) := by decide +kernel
theorem dX12_part_51 : decode cX12_part 51 = .ok (.getfield 58, 3) := by decide +kernel
theorem dX12_part_54 : decode cX12_part 54 = .ok (.iload_n 3, 1) := by decide +kernel
theorem dX12_part_55 : decode cX12_part 55 = .ok (.iconst (-1), 1) := by decide +kernel
theorem dX12_part_56 : decode cX12_part 56 = .ok (.iastore, 1) := by decide +kernel
theorem dX12_part_57 : decode cX12_part 57 = .ok (.aload_n 0, 1) := by decide +kernel
theorem dX12_part_58 : decode cX12_part 58 = .ok (.getfield 61, 3) := by decide +kernel
theorem dX12_part_61 : decode cX12_part 61 = .ok (.iload_n 3, 1) := by decide +kernel
theorem dX12_part_62 : decode cX12_part 62 = .ok (.iconst 0, 1) := by decide +kernel
theorem dX12_part_63 : decode cX12_part 63 = .ok (.iastore, 1) := by decide +kernel
theorem dX12_part_64 : decode cX12_part 64 = .ok (.aload_n 0, 1) := by decide +kernel
theorem dX12_part_65 : decode cX12_part 65 = .ok (.getfield 64, 3) := by decide +kernel
theorem dX12_part_68 : decode cX12_part 68 = .ok (.iload_n 3, 1) := by decide +kernel
theorem dX12_part_69 : decode cX12_part 69 = .ok (.aload_n 0, 1) := by decide +kernel
theorem dX12_part_70 : decode cX12_part 70 = .ok (.getfield 171, 3) := by decide +kernel
theorem dX12_part_73 : decode cX12_part 73 = .ok (.iastore, 1) := by decide +kernel
theorem dX12_part_74 : decode cX12_part 74 = .ok (.iload_n 2, 1) := by decide +kernel
theorem dX12_part_75 : decode cX12_part 75 = .ok (.ifCond .lt 51, 3) := by decide +kernel
theorem dX12_part_78 : decode cX12_part 78 = .ok (.aload_n 0, 1) := by decide +kernel
theorem dX12_part_79 : decode cX12_part 79 = .ok (.getfield 52, 3) := by decide +kernel
theorem dX12_part_82 : decode cX12_part 82 = .ok (.iload_n 2, 1) := by decide +kernel
theorem dX12_part_83 : decode cX12_part 83 = .ok (.iaload, 1) := by decide +kernel
theorem dX12_part_84 : decode cX12_part 84 = .ok (.ifCond .ge 13, 3) := by decide +kernel
theorem dX12_part_87 : decode cX12_part 87 = .ok (.aload_n 0, 1) := by decide +kernel
theorem dX12_part_88 : decode cX12_part 88 = .ok (.getfield 52, 3) := by decide +kernel
theorem dX12_part_91 : decode cX12_part 91 = .ok (.iload_n 2, 1) := by decide +kernel
theorem dX12_part_92 : decode cX12_part 92 = .ok (.iload_n 3, 1) := by decide +kernel
theorem dX12_part_93 : decode cX12_part 93 = .ok (.iastore, 1) := by decide +kernel
theorem dX12_part_94 : decode cX12_part 94 = .ok (.goto 15, 3) := by decide +kernel
theorem dX12_part_97 : decode cX12_part 97 = .ok (.aload_n 0, 1) := by decide +kernel
theorem dX12_part_98 : decode cX12_part 98 = .ok (.getfield 58, 3) := by decide +kernel
theorem dX12_part_101 : decode cX12_part 101 = .ok (.aload_n 0, 1) := by decide +kernel
theorem dX12_part_102 : decode cX12_part 102 = .ok (.getfield 55, 3) := by decide +kernel
theorem dX12_part_105 : decode cX12_part 105 = .ok (.iload_n 2, 1) := by decide +kernel
theorem dX12_part_106 : decode cX12_part 106 = .ok (.iaload, 1) := by decide +kernel
theorem dX12_part_107 : decode cX12_part 107 = .ok (.iload_n 3, 1) := by decide +kernel
theorem dX12_part_108 : decode cX12_part 108 = .ok (.iastore, 1) := by decide +kernel
theorem dX12_part_109 : decode cX12_part 109 = .ok (.aload_n 0, 1) := by decide +kernel
theorem dX12_part_110 : decode cX12_part 110 = .ok (.getfield 55, 3) := by decide +kernel
theorem dX12_part_113 : decode cX12_part 113 = .ok (.iload_n 2, 1) := by decide +kernel
theorem dX12_part_114 : decode cX12_part 114 = .ok (.iload_n 3, 1) := by decide +kernel
theorem dX12_part_115 : decode cX12_part 115 = .ok (.iastore, 1) := by decide +kernel
theorem dX12_part_116 : decode cX12_part 116 = .ok (.aload_n 0, 1) := by decide +kernel
theorem dX12_part_117 : decode cX12_part 117 = .ok (.getfield 61, 3) := by decide +kernel
theorem dX12_part_120 : decode cX12_part 120 = .ok (.iload_n 2, 1) := by decide +kernel
theorem dX12_part_121 : decode cX12_part 121 = .ok (.dup2, 1) := by decide +kernel
theorem dX12_part_122 : decode cX12_part 122 = .ok (.iaload, 1) := by decide +kernel
theorem dX12_part_123 : decode cX12_part 123 = .ok (.iconst 1, 1) := by decide +kernel
theorem dX12_part_124 : decode cX12_part 124 = .ok (.iadd, 1) := by decide +kernel
theorem dX12_part_125 : decode cX12_part 125 = .ok (.iastore, 1) := by decide +kernel
theorem dX12_part_126 : decode cX12_part 126 = .ok (.iload_n 3, 1) := by decide +kernel
theorem dX12_part_127 : decode cX12_part 127 = .ok (.ireturn, 1) := by decide +kernel
theorem dX12_operation_0 : decode cX12_operation 0 = .ok (.iload_n 0, 1) := by decide +kernel
theorem dX12_operation_1 : decode cX12_operation 1 = .ok (.bipush 43, 2) := by decide +kernel
theorem dX12_operation_3 : decode cX12_operation 3 = .ok (.if_icmp .ne 7, 3) := by decide +kernel
theorem dX12_operation_6 : decode cX12_operation 6 = .ok (.iconst 3, 1) := by decide +kernel
theorem dX12_operation_7 : decode cX12_operation 7 = .ok (.goto 35, 3) := by decide +kernel
theorem dX12_operation_10 : decode cX12_operation 10 = .ok (.iload_n 0, 1) := by decide +kernel
theorem dX12_operation_11 : decode cX12_operation 11 = .ok (.bipush 45, 2) := by decide +kernel
theorem dX12_operation_13 : decode cX12_operation 13 = .ok (.if_icmp .ne 7, 3) := by decide +kernel
theorem dX12_operation_16 : decode cX12_operation 16 = .ok (.iconst 4, 1) := by decide +kernel
theorem dX12_operation_17 : decode cX12_operation 17 = .ok (.goto 25, 3) := by decide +kernel
theorem dX12_operation_20 : decode cX12_operation 20 = .ok (.iload_n 0, 1) := by decide +kernel
theorem dX12_operation_21 : decode cX12_operation 21 = .ok (.bipush 42, 2) := by decide +kernel
theorem dX12_operation_23 : decode cX12_operation 23 = .ok (.if_icmp .ne 7, 3) := by decide +kernel
theorem dX12_operation_26 : decode cX12_operation 26 = .ok (.iconst 5, 1) := by decide +kernel
theorem dX12_operation_27 : decode cX12_operation 27 = .ok (.goto 15, 3) := by decide +kernel
theorem dX12_operation_30 : decode cX12_operation 30 = .ok (.iload_n 0, 1) := by decide +kernel
theorem dX12_operation_31 : decode cX12_operation 31 = .ok (.bipush 60, 2) := by decide +kernel
theorem dX12_operation_33 : decode cX12_operation 33 = .ok (.if_icmp .ne 8, 3) := by decide +kernel
theorem dX12_operation_36 : decode cX12_operation 36 = .ok (.bipush 6, 2) := by decide +kernel
theorem dX12_operation_38 : decode cX12_operation 38 = .ok (.goto 4, 3) := by decide +kernel
theorem dX12_operation_41 : decode cX12_operation 41 = .ok (.iconst 0, 1) := by decide +kernel
theorem dX12_operation_42 : decode cX12_operation 42 = .ok (.ireturn, 1) := by decide +kernel
theorem dX12_begin_0 : decode cX12_begin 0 = .ok (.aload_n 0, 1) := by decide +kernel
theorem dX12_begin_1 : decode cX12_begin 1 = .ok (.invokevirtual 160, 3) := by decide +kernel
theorem dX12_begin_4 : decode cX12_begin 4 = .ok (.istore_n 2, 1) := by decide +kernel
theorem dX12_begin_5 : decode cX12_begin 5 = .ok (.iload_n 2, 1) := by decide +kernel
theorem dX12_begin_6 : decode cX12_begin 6 = .ok (.bipush 40, 2) := by decide +kernel
theorem dX12_begin_8 : decode cX12_begin 8 = .ok (.if_icmp .ne 23, 3) := by decide +kernel
theorem dX12_begin_11 : decode cX12_begin 11 = .ok (.aload_n 0, 1) := by decide +kernel
theorem dX12_begin_12 : decode cX12_begin 12 = .ok (.bipush 40, 2) := by decide +kernel
theorem dX12_begin_14 : decode cX12_begin 14 = .ok (.invokevirtual 174, 3) := by decide +kernel
theorem dX12_begin_17 : decode cX12_begin 17 = .ok (.ifCond .ne 5, 3) := by decide +kernel
theorem dX12_begin_20 : decode cX12_begin 20 = .ok (.iconst (-1), 1) := by decide +kernel
theorem dX12_begin_21 : decode cX12_begin 21 = .ok (.ireturn, 1) := by decide +kernel
theorem dX12_begin_22 : decode cX12_begin 22 = .ok (.aload_n 0, 1) := by decide +kernel
theorem dX12_begin_23 : decode cX12_begin 23 = .ok (.iconst 2, 1) := by decide +kernel
theorem dX12_begin_24 : decode cX12_begin 24 = .ok (.iload_n 1, 1) := by decide +kernel
theorem dX12_begin_25 : decode cX12_begin 25 = .ok (.invokevirtual 177, 3) := by decide +kernel
theorem dX12_begin_28 : decode cX12_begin 28 = .ok (.istore_n 3, 1) := by decide +kernel
theorem dX12_begin_29 : decode cX12_begin 29 = .ok (.iconst 1, 1) := by decide +kernel
theorem dX12_begin_30 : decode cX12_begin 30 = .ok (.ireturn, 1) := by decide +kernel
theorem dX12_begin_31 : decode cX12_begin 31 = .ok (.iload_n 2, 1) := by decide +kernel
theorem dX12_begin_32 : decode cX12_begin 32 = .ok (.invokestatic 180, 3) := by decide +kernel
theorem dX12_begin_35 : decode cX12_begin 35 = .ok (.ifCond .ne 12, 3) := by decide +kernel
theorem dX12_begin_38 : decode cX12_begin 38 = .ok (.iload_n 2, 1) := by decide +kernel
theorem dX12_begin_39 : decode cX12_begin 39 = .ok (.invokestatic 183, 3) := by decide +kernel
theorem dX12_begin_42 : decode cX12_begin 42 = .ok (.ifCond .ne 5, 3) := by decide +kernel
theorem dX12_begin_45 : decode cX12_begin 45 = .ok (.iconst (-1), 1) := by decide +kernel
theorem dX12_begin_46 : decode cX12_begin 46 = .ok (.ireturn, 1) := by decide +kernel
theorem dX12_begin_47 : decode cX12_begin 47 = .ok (.aload_n 0, 1) := by decide +kernel
theorem dX12_begin_48 : decode cX12_begin 48 = .ok (.iload_n 2, 1) := by decide +kernel
theorem dX12_begin_49 : decode cX12_begin 49 = .ok (.invokestatic 180, 3) := by decide +kernel
theorem dX12_begin_52 : decode cX12_begin 52 = .ok (.ifCond .eq 7, 3) := by decide +kernel
theorem dX12_begin_55 : decode cX12_begin 55 = .ok (.iconst 1, 1) := by decide +kernel
theorem dX12_begin_56 : decode cX12_begin 56 = .ok (.goto 4, 3) := by decide +kernel
theorem dX12_begin_59 : decode cX12_begin 59 = .ok (.iconst 0, 1) := by decide +kernel
theorem dX12_begin_60 : decode cX12_begin 60 = .ok (.iload_n 1, 1) := by decide +kernel
theorem dX12_begin_61 : decode cX12_begin 61 = .ok (.invokevirtual 177, 3) := by decide +kernel
theorem dX12_begin_64 : decode cX12_begin 64 = .ok (.istore_n 3, 1) := by decide +kernel
theorem dX12_begin_65 : decode cX12_begin 65 = .ok (.aload_n 0, 1) := by decide +kernel
theorem dX12_begin_66 : decode cX12_begin 66 = .ok (.getfield 46, 3) := by decide +kernel
theorem dX12_begin_69 : decode cX12_begin 69 = .ok (.iload_n 3, 1) := by decide +kernel
theorem dX12_begin_70 : decode cX12_begin 70 = .ok (.iload_n 2, 1) := by decide +kernel
theorem dX12_begin_71 : decode cX12_begin 71 = .ok (.invokestatic 180, 3) := by decide +kernel
theorem dX12_begin_74 : decode cX12_begin 74 = .ok (.ifCond .eq 10, 3) := by decide +kernel
theorem dX12_begin_77 : decode cX12_begin 77 = .ok (.iload_n 2, 1) := by decide +kernel
theorem dX12_begin_78 : decode cX12_begin 78 = .ok (.bipush 97, 2) := by decide +kernel
theorem dX12_begin_80 : decode cX12_begin 80 = .ok (.isub, 1) := by decide +kernel
theorem dX12_begin_81 : decode cX12_begin 81 = .ok (.goto 4, 3) := by decide +kernel
theorem dX12_begin_84 : decode cX12_begin 84 = .ok (.iconst 0, 1) := by decide +kernel
theorem dX12_begin_85 : decode cX12_begin 85 = .ok (.iastore, 1) := by decide +kernel
theorem dX12_begin_86 : decode cX12_begin 86 = .ok (.iconst 0, 1) := by decide +kernel
theorem dX12_begin_87 : decode cX12_begin 87 = .ok (.istore 4, 2) := by decide +kernel
theorem dX12_begin_89 : decode cX12_begin 89 = .ok (.iload 4, 2) := by decide +kernel
theorem dX12_begin_91 : decode cX12_begin 91 = .ok (.iconst 3, 1) := by decide +kernel
theorem dX12_begin_92 : decode cX12_begin 92 = .ok (.if_icmp .ge 61, 3) := by decide +kernel
theorem dX12_begin_95 : decode cX12_begin 95 = .ok (.aload_n 0, 1) := by decide +kernel
theorem dX12_begin_96 : decode cX12_begin 96 = .ok (.getfield 43, 3) := by decide +kernel
theorem dX12_begin_99 : decode cX12_begin 99 = .ok (.iload_n 3, 1) := by decide +kernel
theorem dX12_begin_100 : decode cX12_begin 100 = .ok (.iaload, 1) := by decide +kernel
theorem dX12_begin_101 : decode cX12_begin 101 = .ok (.ifCond .ne 52, 3) := by decide +kernel
theorem dX12_begin_104 : decode cX12_begin 104 = .ok (.aload_n 0, 1) := by decide +kernel
theorem dX12_begin_105 : decode cX12_begin 105 = .ok (.invokevirtual 160, 3) := by decide +kernel
theorem dX12_begin_108 : decode cX12_begin 108 = .ok (.invokestatic 183, 3) := by decide +kernel
theorem dX12_begin_111 : decode cX12_begin 111 = .ok (.ifCond .eq 42, 3) := by decide +kernel
theorem dX12_begin_114 : decode cX12_begin 114 = .ok (.aload_n 0, 1) := by decide +kernel
theorem dX12_begin_115 : decode cX12_begin 115 = .ok (.getfield 46, 3) := by decide +kernel
theorem dX12_begin_118 : decode cX12_begin 118 = .ok (.iload_n 3, 1) := by decide +kernel
theorem dX12_begin_119 : decode cX12_begin 119 = .ok (.bipush 10, 2) := by decide +kernel
theorem dX12_begin_121 : decode cX12_begin 121 = .ok (.aload_n 0, 1) := by decide +kernel
theorem dX12_begin_122 : decode cX12_begin 122 = .ok (.getfield 46, 3) := by decide +kernel
theorem dX12_begin_125 : decode cX12_begin 125 = .ok (.iload_n 3, 1) := by decide +kernel
theorem dX12_begin_126 : decode cX12_begin 126 = .ok (.iaload, 1) := by decide +kernel
theorem dX12_begin_127 : decode cX12_begin 127 = .ok (.imul, 1) := by decide +kernel
theorem dX12_begin_128 : decode cX12_begin 128 = .ok (.aload_n 0, 1) := by decide +kernel
theorem dX12_begin_129 : decode cX12_begin 129 = .ok (.invokevirtual 160, 3) := by decide +kernel
theorem dX12_begin_132 : decode cX12_begin 132 = .ok (.iadd, 1) := by decide +kernel
theorem dX12_begin_133 : decode cX12_begin 133 = .ok (.bipush 48, 2) := by decide +kernel
theorem dX12_begin_135 : decode cX12_begin 135 = .ok (.isub, 1) := by decide +kernel
theorem dX12_begin_136 : decode cX12_begin 136 = .ok (.iastore, 1) := by decide +kernel
theorem dX12_begin_137 : decode cX12_begin 137 = .ok (.aload_n 0, 1) := by decide +kernel
theorem dX12_begin_138 : decode cX12_begin 138 = .ok (.dup, 1) := by decide +kernel
theorem dX12_begin_139 : decode cX12_begin 139 = .ok (.getfield 157, 3) := by decide +kernel
theorem dX12_begin_142 : decode cX12_begin 142 = .ok (.iconst 1, 1) := by decide +kernel
theorem dX12_begin_143 : decode cX12_begin 143 = .ok (.iadd, 1) := by decide +kernel
theorem dX12_begin_144 : decode cX12_begin 144 = .ok (.putfield 157, 3) := by decide +kernel
theorem dX12_begin_147 : decode cX12_begin 147 = .ok (.iinc 4 1, 3) := by decide +kernel
theorem dX12_begin_150 : decode cX12_begin 150 = .ok (.goto (-61), 3) := by decide +kernel
theorem dX12_begin_153 : decode cX12_begin 153 = .ok (.aload_n 0, 1) := by decide +kernel
theorem dX12_begin_154 : decode cX12_begin 154 = .ok (.aload_n 0, 1) := by decide +kernel
theorem dX12_begin_155 : decode cX12_begin 155 = .ok (.getfield 43, 3) := by decide +kernel
theorem dX12_begin_158 : decode cX12_begin 158 = .ok (.iload_n 3, 1) := by decide +kernel
theorem dX12_begin_159 : decode cX12_begin 159 = .ok (.iaload, 1) := by decide +kernel
theorem dX12_begin_160 : decode cX12_begin 160 = .ok (.iconst 1, 1) := by decide +kernel
theorem dX12_begin_161 : decode cX12_begin 161 = .ok (.if_icmp .ne 12, 3) := by decide +kernel
theorem dX12_begin_164 : decode cX12_begin 164 = .ok (.aload_n 0, 1) := by decide +kernel
theorem dX12_begin_165 : decode cX12_begin 165 = .ok (.getfield 157, 3) := by decide +kernel
theorem dX12_begin_168 : decode cX12_begin 168 = .ok (.iconst 1, 1) := by decide +kernel
theorem dX12_begin_169 : decode cX12_begin 169 = .ok (.iadd, 1) := by decide +kernel
theorem dX12_begin_170 : decode cX12_begin 170 = .ok (.goto 7, 3) := by decide +kernel
theorem dX12_begin_173 : decode cX12_begin 173 = .ok (.aload_n 0, 1) := by decide +kernel
theorem dX12_begin_174 : decode cX12_begin 174 = .ok (.getfield 157, 3) := by decide +kernel
theorem dX12_begin_177 : decode cX12_begin 177 = .ok (.putfield 157, 3) := by decide +kernel
theorem dX12_begin_180 : decode cX12_begin 180 = .ok (.iconst 0, 1) := by decide +kernel
theorem dX12_begin_181 : decode cX12_begin 181 = .ok (.ireturn, 1) := by decide +kernel
theorem dX12_expression_0 : decode cX12_expression 0 = .ok (.iload_n 1, 1) := by decide +kernel
theorem dX12_expression_1 : decode cX12_expression 1 = .ok (.istore_n 2, 1) := by decide +kernel
theorem dX12_expression_2 : decode cX12_expression 2 = .ok (.iconst 0, 1) := by decide +kernel
theorem dX12_expression_3 : decode cX12_expression 3 = .ok (.istore_n 3, 1) := by decide +kernel
theorem dX12_expression_4 : decode cX12_expression 4 = .ok (.iload_n 3, 1) := by decide +kernel
theorem dX12_expression_5 : decode cX12_expression 5 = .ok (.bipush 100, 2) := by decide +kernel
theorem dX12_expression_7 : decode cX12_expression 7 = .ok (.if_icmp .ge 134, 3) := by decide +kernel
theorem dX12_expression_10 : decode cX12_expression 10 = .ok (.aload_n 0, 1) := by decide +kernel
theorem dX12_expression_11 : decode cX12_expression 11 = .ok (.iload_n 2, 1) := by decide +kernel
theorem dX12_expression_12 : decode cX12_expression 12 = .ok (.invokevirtual 186, 3) := by decide +kernel
theorem dX12_expression_15 : decode cX12_expression 15 = .ok (.istore 4, 2) := by decide +kernel
theorem dX12_expression_17 : decode cX12_expression 17 = .ok (.iload 4, 2) := by decide +kernel
theorem dX12_expression_19 : decode cX12_expression 19 = .ok (.ifCond .ge 5, 3) := by decide +kernel
theorem dX12_expression_22 : decode cX12_expression 22 = .ok (.iconst 0, 1) := by decide +kernel
theorem dX12_expression_23 : decode cX12_expression 23 = .ok (.ireturn, 1) := by decide +kernel
theorem dX12_expression_24 : decode cX12_expression 24 = .ok (.iload 4, 2) := by decide +kernel
theorem dX12_expression_26 : decode cX12_expression 26 = .ok (.iconst 1, 1) := by decide +kernel
theorem dX12_expression_27 : decode cX12_expression 27 = .ok (.if_icmp .ne 10, 3) := by decide +kernel
theorem dX12_expression_30 : decode cX12_expression 30 = .ok (.aload_n 0, 1) := by decide +kernel
theorem dX12_expression_31 : decode cX12_expression 31 = .ok (.getfield 171, 3) := by decide +kernel
theorem dX12_expression_34 : decode cX12_expression 34 = .ok (.iconst 1, 1) := by decide +kernel
theorem dX12_expression_35 : decode cX12_expression 35 = .ok (.isub, 1) := by decide +kernel
theorem dX12_expression_36 : decode cX12_expression 36 = .ok (.istore_n 2, 1) := by decide +kernel
theorem dX12_expression_37 : decode cX12_expression 37 = .ok (.iload 4, 2) := by decide +kernel
theorem dX12_expression_39 : decode cX12_expression 39 = .ok (.ifCond .ne 96, 3) := by decide +kernel
theorem dX12_expression_42 : decode cX12_expression 42 = .ok (.iload_n 2, 1) := by decide +kernel
theorem dX12_expression_43 : decode cX12_expression 43 = .ok (.iload_n 1, 1) := by decide +kernel
theorem dX12_expression_44 : decode cX12_expression 44 = .ok (.if_icmp .ne 20, 3) := by decide +kernel
theorem dX12_expression_47 : decode cX12_expression 47 = .ok (.aload_n 0, 1) := by decide +kernel
theorem dX12_expression_48 : decode cX12_expression 48 = .ok (.getfield 64, 3) := by decide +kernel
theorem dX12_expression_51 : decode cX12_expression 51 = .ok (.aload_n 0, 1) := by decide +kernel
theorem dX12_expression_52 : decode cX12_expression 52 = .ok (.getfield 52, 3) := by decide +kernel
theorem dX12_expression_55 : decode cX12_expression 55 = .ok (.iload_n 1, 1) := by decide +kernel
theorem dX12_expression_56 : decode cX12_expression 56 = .ok (.iaload, 1) := by decide +kernel
theorem dX12_expression_57 : decode cX12_expression 57 = .ok (.aload_n 0, 1) := by decide +kernel
theorem dX12_expression_58 : decode cX12_expression 58 = .ok (.getfield 171, 3) := by decide +kernel
theorem dX12_expression_61 : decode cX12_expression 61 = .ok (.iastore, 1) := by decide +kernel
theorem dX12_expression_62 : decode cX12_expression 62 = .ok (.iconst 1, 1) := by decide +kernel
theorem dX12_expression_63 : decode cX12_expression 63 = .ok (.ireturn, 1) := by decide +kernel
theorem dX12_expression_64 : decode cX12_expression 64 = .ok (.aload_n 0, 1) := by decide +kernel
theorem dX12_expression_65 : decode cX12_expression 65 = .ok (.getfield 61, 3) := by decide +kernel
theorem dX12_expression_68 : decode cX12_expression 68 = .ok (.iload_n 2, 1) := by decide +kernel
theorem dX12_expression_69 : decode cX12_expression 69 = .ok (.iaload, 1) := by decide +kernel
theorem dX12_expression_70 : decode cX12_expression 70 = .ok (.iconst 1, 1) := by decide +kernel
theorem dX12_expression_71 : decode cX12_expression 71 = .ok (.if_icmp .ne 43, 3) := by decide +kernel
theorem dX12_expression_74 : decode cX12_expression 74 = .ok (.aload_n 0, 1) := by decide +kernel
theorem dX12_expression_75 : decode cX12_expression 75 = .ok (.getfield 46, 3) := by decide +kernel
theorem dX12_expression_78 : decode cX12_expression 78 = .ok (.iload_n 2, 1) := by decide +kernel
theorem dX12_expression_79 : decode cX12_expression 79 = .ok (.aload_n 0, 1) := by decide +kernel
theorem dX12_expression_80 : decode cX12_expression 80 = .ok (.invokevirtual 160, 3) := by decide +kernel
theorem dX12_expression_83 : decode cX12_expression 83 = .ok (.invokestatic 190, 3) := by decide +kernel
theorem dX12_expression_86 : decode cX12_expression 86 = .ok (.iastore, 1) := by decide +kernel
theorem dX12_expression_87 : decode cX12_expression 87 = .ok (.aload_n 0, 1) := by decide +kernel
theorem dX12_expression_88 : decode cX12_expression 88 = .ok (.getfield 46, 3) := by decide +kernel
theorem dX12_expression_91 : decode cX12_expression 91 = .ok (.iload_n 2, 1) := by decide +kernel
theorem dX12_expression_92 : decode cX12_expression 92 = .ok (.iaload, 1) := by decide +kernel
theorem dX12_expression_93 : decode cX12_expression 93 = .ok (.ifCond .ne 5, 3) := by decide +kernel
theorem dX12_expression_96 : decode cX12_expression 96 = .ok (.iconst 0, 1) := by decide +kernel
theorem dX12_expression_97 : decode cX12_expression 97 = .ok (.ireturn, 1) := by decide +kernel
theorem dX12_expression_98 : decode cX12_expression 98 = .ok (.aload_n 0, 1) := by decide +kernel
theorem dX12_expression_99 : decode cX12_expression 99 = .ok (.dup, 1) := by decide +kernel
theorem dX12_expression_100 : decode cX12_expression 100 = .ok (.getfield 157, 3) := by decide +kernel
theorem dX12_expression_103 : decode cX12_expression 103 = .ok (.iconst 1, 1) := by decide +kernel
theorem dX12_expression_104 : decode cX12_expression 104 = .ok (.iadd, 1) := by decide +kernel
theorem dX12_expression_105 : decode cX12_expression 105 = .ok (.putfield 157, 3) := by decide +kernel
theorem dX12_expression_108 : decode cX12_expression 108 = .ok (.iconst 1, 1) := by decide +kernel
theorem dX12_expression_109 : decode cX12_expression 109 = .ok (.istore 4, 2) := by decide +kernel
theorem dX12_expression_111 : decode cX12_expression 111 = .ok (.goto (-74), 3) := by decide +kernel
theorem dX12_expression_114 : decode cX12_expression 114 = .ok (.aload_n 0, 1) := by decide +kernel
theorem dX12_expression_115 : decode cX12_expression 115 = .ok (.bipush 41, 2) := by decide +kernel
theorem dX12_expression_117 : decode cX12_expression 117 = .ok (.invokevirtual 194, 3) := by decide +kernel
theorem dX12_expression_120 : decode cX12_expression 120 = .ok (.ifCond .ne 5, 3) := by decide +kernel
theorem dX12_expression_123 : decode cX12_expression 123 = .ok (.iconst 0, 1) := by decide +kernel
theorem dX12_expression_124 : decode cX12_expression 124 = .ok (.ireturn, 1) := by decide +kernel
theorem dX12_expression_125 : decode cX12_expression 125 = .ok (.aload_n 0, 1) := by decide +kernel
theorem dX12_expression_126 : decode cX12_expression 126 = .ok (.getfield 49, 3) := by decide +kernel
theorem dX12_expression_129 : decode cX12_expression 129 = .ok (.iload_n 2, 1) := by decide +kernel
theorem dX12_expression_130 : decode cX12_expression 130 = .ok (.iaload, 1) := by decide +kernel
theorem dX12_expression_131 : decode cX12_expression 131 = .ok (.istore_n 2, 1) := by decide +kernel
theorem dX12_expression_132 : decode cX12_expression 132 = .ok (.goto (-95), 3) := by decide +kernel
theorem dX12_expression_135 : decode cX12_expression 135 = .ok (.iinc 3 1, 3) := by decide +kernel
theorem dX12_expression_138 : decode cX12_expression 138 = .ok (.goto (-134), 3) := by decide +kernel
theorem dX12_expression_141 : decode cX12_expression 141 = .ok (.iconst 0, 1) := by decide +kernel
theorem dX12_expression_142 : decode cX12_expression 142 = .ok (.ireturn, 1) := by decide +kernel
theorem dX12_read_0 : decode cX12_read 0 = .ok (.aload_n 0, 1) := by decide +kernel
theorem dX12_read_1 : decode cX12_read 1 = .ok (.iconst 0, 1) := by decide +kernel
theorem dX12_read_2 : decode cX12_read 2 = .ok (.putfield 157, 3) := by decide +kernel
theorem dX12_read_5 : decode cX12_read 5 = .ok (.aload_n 0, 1) := by decide +kernel
theorem dX12_read_6 : decode cX12_read 6 = .ok (.iconst 0, 1) := by decide +kernel
theorem dX12_read_7 : decode cX12_read 7 = .ok (.putfield 164, 3) := by decide +kernel
theorem dX12_read_10 : decode cX12_read 10 = .ok (.aload_n 0, 1) := by decide +kernel
theorem dX12_read_11 : decode cX12_read 11 = .ok (.iconst 0, 1) := by decide +kernel
theorem dX12_read_12 : decode cX12_read 12 = .ok (.putfield 171, 3) := by decide +kernel
theorem dX12_read_15 : decode cX12_read 15 = .ok (.aload_n 0, 1) := by decide +kernel
theorem dX12_read_16 : decode cX12_read 16 = .ok (.bipush 6, 2) := by decide +kernel
theorem dX12_read_18 : decode cX12_read 18 = .ok (.iconst (-1), 1) := by decide +kernel
theorem dX12_read_19 : decode cX12_read 19 = .ok (.invokevirtual 177, 3) := by decide +kernel
theorem dX12_read_22 : decode cX12_read 22 = .ok (.istore_n 1, 1) := by decide +kernel
theorem dX12_read_23 : decode cX12_read 23 = .ok (.aload_n 0, 1) := by decide +kernel
theorem dX12_read_24 : decode cX12_read 24 = .ok (.getfield 157, 3) := by decide +kernel
theorem dX12_read_27 : decode cX12_read 27 = .ok (.aload_n 0, 1) := by decide +kernel
theorem dX12_read_28 : decode cX12_read 28 = .ok (.getfield 154, 3) := by decide +kernel
theorem dX12_read_31 : decode cX12_read 31 = .ok (.if_icmp .ge 232, 3) := by decide +kernel
theorem dX12_read_34 : decode cX12_read 34 = .ok (.aload_n 0, 1) := by decide +kernel
theorem dX12_read_35 : decode cX12_read 35 = .ok (.invokevirtual 160, 3) := by decide +kernel
theorem dX12_read_38 : decode cX12_read 38 = .ok (.istore_n 2, 1) := by decide +kernel
theorem dX12_read_39 : decode cX12_read 39 = .ok (.iload_n 2, 1) := by decide +kernel
theorem dX12_read_40 : decode cX12_read 40 = .ok (.invokestatic 180, 3) := by decide +kernel
theorem dX12_read_43 : decode cX12_read 43 = .ok (.ifCond .eq 61, 3) := by decide +kernel
theorem dX12_read_46 : decode cX12_read 46 = .ok (.aload_n 0, 1) := by decide +kernel
theorem dX12_read_47 : decode cX12_read 47 = .ok (.iconst 3, 1) := by decide +kernel
theorem dX12_read_48 : decode cX12_read 48 = .ok (.iload_n 1, 1) := by decide +kernel
theorem dX12_read_49 : decode cX12_read 49 = .ok (.invokevirtual 177, 3) := by decide +kernel
theorem dX12_read_52 : decode cX12_read 52 = .ok (.istore_n 3, 1) := by decide +kernel
theorem dX12_read_53 : decode cX12_read 53 = .ok (.aload_n 0, 1) := by decide +kernel
theorem dX12_read_54 : decode cX12_read 54 = .ok (.getfield 46, 3) := by decide +kernel
theorem dX12_read_57 : decode cX12_read 57 = .ok (.iload_n 3, 1) := by decide +kernel
theorem dX12_read_58 : decode cX12_read 58 = .ok (.iload_n 2, 1) := by decide +kernel
theorem dX12_read_59 : decode cX12_read 59 = .ok (.bipush 97, 2) := by decide +kernel
theorem dX12_read_61 : decode cX12_read 61 = .ok (.isub, 1) := by decide +kernel
theorem dX12_read_62 : decode cX12_read 62 = .ok (.iastore, 1) := by decide +kernel
theorem dX12_read_63 : decode cX12_read 63 = .ok (.aload_n 0, 1) := by decide +kernel
theorem dX12_read_64 : decode cX12_read 64 = .ok (.dup, 1) := by decide +kernel
theorem dX12_read_65 : decode cX12_read 65 = .ok (.getfield 157, 3) := by decide +kernel
theorem dX12_read_68 : decode cX12_read 68 = .ok (.iconst 1, 1) := by decide +kernel
theorem dX12_read_69 : decode cX12_read 69 = .ok (.iadd, 1) := by decide +kernel
theorem dX12_read_70 : decode cX12_read 70 = .ok (.putfield 157, 3) := by decide +kernel
theorem dX12_read_73 : decode cX12_read 73 = .ok (.aload_n 0, 1) := by decide +kernel
theorem dX12_read_74 : decode cX12_read 74 = .ok (.bipush 61, 2) := by decide +kernel
theorem dX12_read_76 : decode cX12_read 76 = .ok (.invokevirtual 167, 3) := by decide +kernel
theorem dX12_read_79 : decode cX12_read 79 = .ok (.ifCond .eq 20, 3) := by decide +kernel
theorem dX12_read_82 : decode cX12_read 82 = .ok (.aload_n 0, 1) := by decide +kernel
theorem dX12_read_83 : decode cX12_read 83 = .ok (.iload_n 3, 1) := by decide +kernel
theorem dX12_read_84 : decode cX12_read 84 = .ok (.invokevirtual 197, 3) := by decide +kernel
theorem dX12_read_87 : decode cX12_read 87 = .ok (.ifCond .eq 12, 3) := by decide +kernel
theorem dX12_read_90 : decode cX12_read 90 = .ok (.aload_n 0, 1) := by decide +kernel
theorem dX12_read_91 : decode cX12_read 91 = .ok (.bipush 59, 2) := by decide +kernel
theorem dX12_read_93 : decode cX12_read 93 = .ok (.invokevirtual 167, 3) := by decide +kernel
theorem dX12_read_96 : decode cX12_read 96 = .ok (.ifCond .ne 5, 3) := by decide +kernel
theorem dX12_read_99 : decode cX12_read 99 = .ok (.iconst 0, 1) := by decide +kernel
theorem dX12_read_100 : decode cX12_read 100 = .ok (.ireturn, 1) := by decide +kernel
theorem dX12_read_101 : decode cX12_read 101 = .ok (.goto 159, 3) := by decide +kernel
theorem dX12_read_104 : decode cX12_read 104 = .ok (.iload_n 2, 1) := by decide +kernel
theorem dX12_read_105 : decode cX12_read 105 = .ok (.bipush 63, 2) := by decide +kernel
theorem dX12_read_107 : decode cX12_read 107 = .ok (.if_icmp .eq 9, 3) := by decide +kernel
theorem dX12_read_110 : decode cX12_read 110 = .ok (.iload_n 2, 1) := by decide +kernel
theorem dX12_read_111 : decode cX12_read 111 = .ok (.bipush 42, 2) := by decide +kernel
theorem dX12_read_113 : decode cX12_read 113 = .ok (.if_icmp .ne 60, 3) := by decide +kernel
theorem dX12_read_116 : decode cX12_read 116 = .ok (.aload_n 0, 1) := by decide +kernel
theorem dX12_read_117 : decode cX12_read 117 = .ok (.iload_n 2, 1) := by decide +kernel
theorem dX12_read_118 : decode cX12_read 118 = .ok (.bipush 63, 2) := by decide +kernel
theorem dX12_read_120 : decode cX12_read 120 = .ok (.if_icmp .ne 7, 3) := by decide +kernel
theorem dX12_read_123 : decode cX12_read 123 = .ok (.iconst 4, 1) := by decide +kernel
theorem dX12_read_124 : decode cX12_read 124 = .ok (.goto 4, 3) := by decide +kernel
theorem dX12_read_127 : decode cX12_read 127 = .ok (.iconst 5, 1) := by decide +kernel
theorem dX12_read_128 : decode cX12_read 128 = .ok (.iload_n 1, 1) := by decide +kernel
theorem dX12_read_129 : decode cX12_read 129 = .ok (.invokevirtual 177, 3) := by decide +kernel
theorem dX12_read_132 : decode cX12_read 132 = .ok (.istore_n 3, 1) := by decide +kernel
theorem dX12_read_133 : decode cX12_read 133 = .ok (.aload_n 0, 1) := by decide +kernel
theorem dX12_read_134 : decode cX12_read 134 = .ok (.dup, 1) := by decide +kernel
theorem dX12_read_135 : decode cX12_read 135 = .ok (.getfield 157, 3) := by decide +kernel
theorem dX12_read_138 : decode cX12_read 138 = .ok (.iconst 1, 1) := by decide +kernel
theorem dX12_read_139 : decode cX12_read 139 = .ok (.iadd, 1) := by decide +kernel
theorem dX12_read_140 : decode cX12_read 140 = .ok (.putfield 157, 3) := by decide +kernel
theorem dX12_read_143 : decode cX12_read 143 = .ok (.aload_n 0, 1) := by decide +kernel
theorem dX12_read_144 : decode cX12_read 144 = .ok (.iload_n 3, 1) := by decide +kernel
theorem dX12_read_145 : decode cX12_read 145 = .ok (.invokevirtual 197, 3) := by decide +kernel
theorem dX12_read_148 : decode cX12_read 148 = .ok (.ifCond .eq 12, 3) := by decide +kernel
theorem dX12_read_151 : decode cX12_read 151 = .ok (.aload_n 0, 1) := by decide +kernel
theorem dX12_read_152 : decode cX12_read 152 = .ok (.bipush 123, 2) := by decide +kernel
theorem dX12_read_154 : decode cX12_read 154 = .ok (.invokevirtual 174, 3) := by decide +kernel
theorem dX12_read_157 : decode cX12_read 157 = .ok (.ifCond .ne 5, 3) := by decide +kernel
theorem dX12_read_160 : decode cX12_read 160 = .ok (.iconst 0, 1) := by decide +kernel
theorem dX12_read_161 : decode cX12_read 161 = .ok (.ireturn, 1) := by decide +kernel
theorem dX12_read_162 : decode cX12_read 162 = .ok (.aload_n 0, 1) := by decide +kernel
theorem dX12_read_163 : decode cX12_read 163 = .ok (.bipush 6, 2) := by decide +kernel
theorem dX12_read_165 : decode cX12_read 165 = .ok (.iload_n 3, 1) := by decide +kernel
theorem dX12_read_166 : decode cX12_read 166 = .ok (.invokevirtual 177, 3) := by decide +kernel
theorem dX12_read_169 : decode cX12_read 169 = .ok (.istore_n 1, 1) := by decide +kernel
theorem dX12_read_170 : decode cX12_read 170 = .ok (.goto 90, 3) := by decide +kernel
theorem dX12_read_173 : decode cX12_read 173 = .ok (.iload_n 2, 1) := by decide +kernel
theorem dX12_read_174 : decode cX12_read 174 = .ok (.bipush 125, 2) := by decide +kernel
theorem dX12_read_176 : decode cX12_read 176 = .ok (.if_icmp .ne 82, 3) := by decide +kernel
theorem dX12_read_179 : decode cX12_read 179 = .ok (.iload_n 1, 1) := by decide +kernel
theorem dX12_read_180 : decode cX12_read 180 = .ok (.ifCond .eq 78, 3) := by decide +kernel
theorem dX12_read_183 : decode cX12_read 183 = .ok (.aload_n 0, 1) := by decide +kernel
theorem dX12_read_184 : decode cX12_read 184 = .ok (.bipush 125, 2) := by decide +kernel
theorem dX12_read_186 : decode cX12_read 186 = .ok (.invokevirtual 194, 3) := by decide +kernel
theorem dX12_read_189 : decode cX12_read 189 = .ok (.istore_n 3, 1) := by decide +kernel
theorem dX12_read_190 : decode cX12_read 190 = .ok (.aload_n 0, 1) := by decide +kernel
theorem dX12_read_191 : decode cX12_read 191 = .ok (.getfield 49, 3) := by decide +kernel
theorem dX12_read_194 : decode cX12_read 194 = .ok (.iload_n 1, 1) := by decide +kernel
theorem dX12_read_195 : decode cX12_read 195 = .ok (.iaload, 1) := by decide +kernel
theorem dX12_read_196 : decode cX12_read 196 = .ok (.istore 4, 2) := by decide +kernel
theorem dX12_read_198 : decode cX12_read 198 = .ok (.iload_n 3, 1) := by decide +kernel
theorem dX12_read_199 : decode cX12_read 199 = .ok (.ifCond .eq 48, 3) := by decide +kernel
theorem dX12_read_202 : decode cX12_read 202 = .ok (.aload_n 0, 1) := by decide +kernel
theorem dX12_read_203 : decode cX12_read 203 = .ok (.getfield 43, 3) := by decide +kernel
theorem dX12_read_206 : decode cX12_read 206 = .ok (.iload 4, 2) := by decide +kernel
theorem dX12_read_208 : decode cX12_read 208 = .ok (.iaload, 1) := by decide +kernel
theorem dX12_read_209 : decode cX12_read 209 = .ok (.iconst 4, 1) := by decide +kernel
theorem dX12_read_210 : decode cX12_read 210 = .ok (.if_icmp .ne 37, 3) := by decide +kernel
theorem dX12_read_213 : decode cX12_read 213 = .ok (.aload_n 0, 1) := by decide +kernel
theorem dX12_read_214 : decode cX12_read 214 = .ok (.getfield 61, 3) := by decide +kernel
theorem dX12_read_217 : decode cX12_read 217 = .ok (.iload 4, 2) := by decide +kernel
theorem dX12_read_219 : decode cX12_read 219 = .ok (.iaload, 1) := by decide +kernel
theorem dX12_read_220 : decode cX12_read 220 = .ok (.iconst 2, 1) := by decide +kernel
theorem dX12_read_221 : decode cX12_read 221 = .ok (.if_icmp .ne 26, 3) := by decide +kernel
theorem dX12_read_224 : decode cX12_read 224 = .ok (.aload_n 0, 1) := by decide +kernel
theorem dX12_read_225 : decode cX12_read 225 = .ok (.bipush 123, 2) := by decide +kernel
theorem dX12_read_227 : decode cX12_read 227 = .ok (.invokevirtual 174, 3) := by decide +kernel
theorem dX12_read_230 : decode cX12_read 230 = .ok (.ifCond .ne 5, 3) := by decide +kernel
theorem dX12_read_233 : decode cX12_read 233 = .ok (.iconst 0, 1) := by decide +kernel
theorem dX12_read_234 : decode cX12_read 234 = .ok (.ireturn, 1) := by decide +kernel
theorem dX12_read_235 : decode cX12_read 235 = .ok (.aload_n 0, 1) := by decide +kernel
theorem dX12_read_236 : decode cX12_read 236 = .ok (.bipush 6, 2) := by decide +kernel
theorem dX12_read_238 : decode cX12_read 238 = .ok (.iload 4, 2) := by decide +kernel
theorem dX12_read_240 : decode cX12_read 240 = .ok (.invokevirtual 177, 3) := by decide +kernel
theorem dX12_read_243 : decode cX12_read 243 = .ok (.istore_n 1, 1) := by decide +kernel
theorem dX12_read_244 : decode cX12_read 244 = .ok (.goto 11, 3) := by decide +kernel
theorem dX12_read_247 : decode cX12_read 247 = .ok (.aload_n 0, 1) := by decide +kernel
theorem dX12_read_248 : decode cX12_read 248 = .ok (.getfield 49, 3) := by decide +kernel
theorem dX12_read_251 : decode cX12_read 251 = .ok (.iload 4, 2) := by decide +kernel
theorem dX12_read_253 : decode cX12_read 253 = .ok (.iaload, 1) := by decide +kernel
theorem dX12_read_254 : decode cX12_read 254 = .ok (.istore_n 1, 1) := by decide +kernel
theorem dX12_read_255 : decode cX12_read 255 = .ok (.goto 5, 3) := by decide +kernel
theorem dX12_read_258 : decode cX12_read 258 = .ok (.iconst 0, 1) := by decide +kernel
theorem dX12_read_259 : decode cX12_read 259 = .ok (.ireturn, 1) := by decide +kernel
theorem dX12_read_260 : decode cX12_read 260 = .ok (.goto (-237), 3) := by decide +kernel
theorem dX12_read_263 : decode cX12_read 263 = .ok (.iload_n 1, 1) := by decide +kernel
theorem dX12_read_264 : decode cX12_read 264 = .ok (.ifCond .ne 7, 3) := by decide +kernel
theorem dX12_read_267 : decode cX12_read 267 = .ok (.iconst 1, 1) := by decide +kernel
theorem dX12_read_268 : decode cX12_read 268 = .ok (.goto 4, 3) := by decide +kernel
theorem dX12_read_271 : decode cX12_read 271 = .ok (.iconst 0, 1) := by decide +kernel
theorem dX12_read_272 : decode cX12_read 272 = .ok (.ireturn, 1) := by decide +kernel
theorem dX12_measure_0 : decode cX12_measure 0 = .ok (.aload_n 0, 1) := by decide +kernel
theorem dX12_measure_1 : decode cX12_measure 1 = .ok (.getfield 171, 3) := by decide +kernel
theorem dX12_measure_4 : decode cX12_measure 4 = .ok (.iconst 1, 1) := by decide +kernel
theorem dX12_measure_5 : decode cX12_measure 5 = .ok (.isub, 1) := by decide +kernel
theorem dX12_measure_6 : decode cX12_measure 6 = .ok (.istore_n 1, 1) := by decide +kernel
theorem dX12_measure_7 : decode cX12_measure 7 = .ok (.iload_n 1, 1) := by decide +kernel
theorem dX12_measure_8 : decode cX12_measure 8 = .ok (.ifCond .lt 97, 3) := by decide +kernel
theorem dX12_measure_11 : decode cX12_measure 11 = .ok (.aload_n 0, 1) := by decide +kernel
theorem dX12_measure_12 : decode cX12_measure 12 = .ok (.getfield 43, 3) := by decide +kernel
theorem dX12_measure_15 : decode cX12_measure 15 = .ok (.iload_n 1, 1) := by decide +kernel
theorem dX12_measure_16 : decode cX12_measure 16 = .ok (.iaload, 1) := by decide +kernel
theorem dX12_measure_17 : decode cX12_measure 17 = .ok (.iconst 2, 1) := by decide +kernel
theorem dX12_measure_18 : decode cX12_measure 18 = .ok (.if_icmp .lt 23, 3) := by decide +kernel
theorem dX12_measure_21 : decode cX12_measure 21 = .ok (.aload_n 0, 1) := by decide +kernel
theorem dX12_measure_22 : decode cX12_measure 22 = .ok (.getfield 43, 3) := by decide +kernel
theorem dX12_measure_25 : decode cX12_measure 25 = .ok (.iload_n 1, 1) := by decide +kernel
theorem dX12_measure_26 : decode cX12_measure 26 = .ok (.iaload, 1) := by decide +kernel
theorem dX12_measure_27 : decode cX12_measure 27 = .ok (.iconst 2, 1) := by decide +kernel
theorem dX12_measure_28 : decode cX12_measure 28 = .ok (.if_icmp .eq 13, 3) := by decide +kernel
theorem dX12_measure_31 : decode cX12_measure 31 = .ok (.aload_n 0, 1) := by decide +kernel
theorem dX12_measure_32 : decode cX12_measure 32 = .ok (.getfield 43, 3) := by decide +kernel
theorem dX12_measure_35 : decode cX12_measure 35 = .ok (.iload_n 1, 1) := by decide +kernel
theorem dX12_measure_36 : decode cX12_measure 36 = .ok (.iaload, 1) := by decide +kernel
theorem dX12_measure_37 : decode cX12_measure 37 = .ok (.iconst 3, 1) := by decide +kernel
theorem dX12_measure_38 : decode cX12_measure 38 = .ok (.if_icmp .ne 7, 3) := by decide +kernel
theorem dX12_measure_41 : decode cX12_measure 41 = .ok (.iconst 1, 1) := by decide +kernel
theorem dX12_measure_42 : decode cX12_measure 42 = .ok (.goto 19, 3) := by decide +kernel
theorem dX12_measure_45 : decode cX12_measure 45 = .ok (.aload_n 0, 1) := by decide +kernel
theorem dX12_measure_46 : decode cX12_measure 46 = .ok (.getfield 43, 3) := by decide +kernel
theorem dX12_measure_49 : decode cX12_measure 49 = .ok (.iload_n 1, 1) := by decide +kernel
theorem dX12_measure_50 : decode cX12_measure 50 = .ok (.iaload, 1) := by decide +kernel
theorem dX12_measure_51 : decode cX12_measure 51 = .ok (.bipush 6, 2) := by decide +kernel
theorem dX12_measure_53 : decode cX12_measure 53 = .ok (.if_icmp .ne 7, 3) := by decide +kernel
theorem dX12_measure_56 : decode cX12_measure 56 = .ok (.iconst 0, 1) := by decide +kernel
theorem dX12_measure_57 : decode cX12_measure 57 = .ok (.goto 4, 3) := by decide +kernel
theorem dX12_measure_60 : decode cX12_measure 60 = .ok (.iconst 2, 1) := by decide +kernel
theorem dX12_measure_61 : decode cX12_measure 61 = .ok (.istore_n 2, 1) := by decide +kernel
theorem dX12_measure_62 : decode cX12_measure 62 = .ok (.aload_n 0, 1) := by decide +kernel
theorem dX12_measure_63 : decode cX12_measure 63 = .ok (.getfield 52, 3) := by decide +kernel
theorem dX12_measure_66 : decode cX12_measure 66 = .ok (.iload_n 1, 1) := by decide +kernel
theorem dX12_measure_67 : decode cX12_measure 67 = .ok (.iaload, 1) := by decide +kernel
theorem dX12_measure_68 : decode cX12_measure 68 = .ok (.istore_n 3, 1) := by decide +kernel
theorem dX12_measure_69 : decode cX12_measure 69 = .ok (.iload_n 3, 1) := by decide +kernel
theorem dX12_measure_70 : decode cX12_measure 70 = .ok (.ifCond .lt 22, 3) := by decide +kernel
theorem dX12_measure_73 : decode cX12_measure 73 = .ok (.iload_n 2, 1) := by decide +kernel
theorem dX12_measure_74 : decode cX12_measure 74 = .ok (.aload_n 0, 1) := by decide +kernel
theorem dX12_measure_75 : decode cX12_measure 75 = .ok (.getfield 67, 3) := by decide +kernel
theorem dX12_measure_78 : decode cX12_measure 78 = .ok (.iload_n 3, 1) := by decide +kernel
theorem dX12_measure_79 : decode cX12_measure 79 = .ok (.iaload, 1) := by decide +kernel
theorem dX12_measure_80 : decode cX12_measure 80 = .ok (.iadd, 1) := by decide +kernel
theorem dX12_measure_81 : decode cX12_measure 81 = .ok (.istore_n 2, 1) := by decide +kernel
theorem dX12_measure_82 : decode cX12_measure 82 = .ok (.aload_n 0, 1) := by decide +kernel
theorem dX12_measure_83 : decode cX12_measure 83 = .ok (.getfield 58, 3) := by decide +kernel
theorem dX12_measure_86 : decode cX12_measure 86 = .ok (.iload_n 3, 1) := by decide +kernel
theorem dX12_measure_87 : decode cX12_measure 87 = .ok (.iaload, 1) := by decide +kernel
theorem dX12_measure_88 : decode cX12_measure 88 = .ok (.istore_n 3, 1) := by decide +kernel
theorem dX12_measure_89 : decode cX12_measure 89 = .ok (.goto (-20), 3) := by decide +kernel
theorem dX12_measure_92 : decode cX12_measure 92 = .ok (.aload_n 0, 1) := by decide +kernel
theorem dX12_measure_93 : decode cX12_measure 93 = .ok (.getfield 67, 3) := by decide +kernel
theorem dX12_measure_96 : decode cX12_measure 96 = .ok (.iload_n 1, 1) := by decide +kernel
theorem dX12_measure_97 : decode cX12_measure 97 = .ok (.iload_n 2, 1) := by decide +kernel
theorem dX12_measure_98 : decode cX12_measure 98 = .ok (.iastore, 1) := by decide +kernel
theorem dX12_measure_99 : decode cX12_measure 99 = .ok (.iinc 1 (-1), 3) := by decide +kernel
theorem dX12_measure_102 : decode cX12_measure 102 = .ok (.goto (-95), 3) := by decide +kernel
theorem dX12_measure_105 : decode cX12_measure 105 = .ok (.return_, 1) := by decide +kernel
theorem dX12_say_0 : decode cX12_say 0 = .ok (.aload_n 0, 1) := by decide +kernel
theorem dX12_say_1 : decode cX12_say 1 = .ok (.getfield 85, 3) := by decide +kernel
theorem dX12_say_4 : decode cX12_say 4 = .ok (.iload_n 1, 1) := by decide +kernel
theorem dX12_say_5 : decode cX12_say 5 = .ok (.iload_n 2, 1) := by decide +kernel
theorem dX12_say_6 : decode cX12_say 6 = .ok (.iastore, 1) := by decide +kernel
theorem dX12_say_7 : decode cX12_say 7 = .ok (.aload_n 0, 1) := by decide +kernel
theorem dX12_say_8 : decode cX12_say 8 = .ok (.getfield 88, 3) := by decide +kernel
theorem dX12_say_11 : decode cX12_say 11 = .ok (.iload_n 1, 1) := by decide +kernel
theorem dX12_say_12 : decode cX12_say 12 = .ok (.iload_n 3, 1) := by decide +kernel
theorem dX12_say_13 : decode cX12_say 13 = .ok (.iastore, 1) := by decide +kernel
theorem dX12_say_14 : decode cX12_say 14 = .ok (.return_, 1) := by decide +kernel
theorem dX12_lay_0 : decode cX12_lay 0 = .ok (.aload_n 0, 1) := by decide +kernel
theorem dX12_lay_1 : decode cX12_lay 1 = .ok (.getfield 70, 3) := by decide +kernel
theorem dX12_lay_4 : decode cX12_lay 4 = .ok (.iconst 0, 1) := by decide +kernel
theorem dX12_lay_5 : decode cX12_lay 5 = .ok (.iconst 0, 1) := by decide +kernel
theorem dX12_lay_6 : decode cX12_lay 6 = .ok (.iastore, 1) := by decide +kernel
theorem dX12_lay_7 : decode cX12_lay 7 = .ok (.aload_n 0, 1) := by decide +kernel
theorem dX12_lay_8 : decode cX12_lay 8 = .ok (.aload_n 0, 1) := by decide +kernel
theorem dX12_lay_9 : decode cX12_lay 9 = .ok (.getfield 67, 3) := by decide +kernel
theorem dX12_lay_12 : decode cX12_lay 12 = .ok (.iconst 0, 1) := by decide +kernel
theorem dX12_lay_13 : decode cX12_lay 13 = .ok (.iaload, 1) := by decide +kernel
theorem dX12_lay_14 : decode cX12_lay 14 = .ok (.iconst 1, 1) := by decide +kernel
theorem dX12_lay_15 : decode cX12_lay 15 = .ok (.iadd, 1) := by decide +kernel
theorem dX12_lay_16 : decode cX12_lay 16 = .ok (.putfield 200, 3) := by decide +kernel
theorem dX12_lay_19 : decode cX12_lay 19 = .ok (.aload_n 0, 1) := by decide +kernel
theorem dX12_lay_20 : decode cX12_lay 20 = .ok (.aload_n 0, 1) := by decide +kernel
theorem dX12_lay_21 : decode cX12_lay 21 = .ok (.getfield 67, 3) := by decide +kernel
theorem dX12_lay_24 : decode cX12_lay 24 = .ok (.iconst 0, 1) := by decide +kernel
theorem dX12_lay_25 : decode cX12_lay 25 = .ok (.iaload, 1) := by decide +kernel
theorem dX12_lay_26 : decode cX12_lay 26 = .ok (.bipush 9, 2) := by decide +kernel
theorem dX12_lay_28 : decode cX12_lay 28 = .ok (.iconst 0, 1) := by decide +kernel
theorem dX12_lay_29 : decode cX12_lay 29 = .ok (.invokevirtual 203, 3) := by decide +kernel
theorem dX12_lay_32 : decode cX12_lay 32 = .ok (.iconst 0, 1) := by decide +kernel
theorem dX12_lay_33 : decode cX12_lay 33 = .ok (.istore_n 1, 1) := by decide +kernel
theorem dX12_lay_34 : decode cX12_lay 34 = .ok (.iload_n 1, 1) := by decide +kernel
theorem dX12_lay_35 : decode cX12_lay 35 = .ok (.aload_n 0, 1) := by decide +kernel
theorem dX12_lay_36 : decode cX12_lay 36 = .ok (.getfield 171, 3) := by decide +kernel
theorem dX12_lay_39 : decode cX12_lay 39 = .ok (.if_icmp .ge 341, 3) := by decide +kernel
theorem dX12_lay_42 : decode cX12_lay 42 = .ok (.aload_n 0, 1) := by decide +kernel
theorem dX12_lay_43 : decode cX12_lay 43 = .ok (.getfield 70, 3) := by decide +kernel
theorem dX12_lay_46 : decode cX12_lay 46 = .ok (.iload_n 1, 1) := by decide +kernel
theorem dX12_lay_47 : decode cX12_lay 47 = .ok (.iaload, 1) := by decide +kernel
theorem dX12_lay_48 : decode cX12_lay 48 = .ok (.istore_n 2, 1) := by decide +kernel
theorem dX12_lay_49 : decode cX12_lay 49 = .ok (.iconst 0, 1) := by decide +kernel
theorem dX12_lay_50 : decode cX12_lay 50 = .ok (.istore_n 3, 1) := by decide +kernel
theorem dX12_lay_51 : decode cX12_lay 51 = .ok (.aload_n 0, 1) := by decide +kernel
theorem dX12_lay_52 : decode cX12_lay 52 = .ok (.getfield 52, 3) := by decide +kernel
theorem dX12_lay_55 : decode cX12_lay 55 = .ok (.iload_n 1, 1) := by decide +kernel
theorem dX12_lay_56 : decode cX12_lay 56 = .ok (.iaload, 1) := by decide +kernel
theorem dX12_lay_57 : decode cX12_lay 57 = .ok (.istore 4, 2) := by decide +kernel
theorem dX12_lay_59 : decode cX12_lay 59 = .ok (.iload 4, 2) := by decide +kernel
theorem dX12_lay_61 : decode cX12_lay 61 = .ok (.ifCond .lt 73, 3) := by decide +kernel
theorem dX12_lay_64 : decode cX12_lay 64 = .ok (.aload_n 0, 1) := by decide +kernel
theorem dX12_lay_65 : decode cX12_lay 65 = .ok (.getfield 70, 3) := by decide +kernel
theorem dX12_lay_68 : decode cX12_lay 68 = .ok (.iload 4, 2) := by decide +kernel
theorem dX12_lay_70 : decode cX12_lay 70 = .ok (.iload_n 2, 1) := by decide +kernel
theorem dX12_lay_71 : decode cX12_lay 71 = .ok (.iastore, 1) := by decide +kernel
theorem dX12_lay_72 : decode cX12_lay 72 = .ok (.iload_n 2, 1) := by decide +kernel
theorem dX12_lay_73 : decode cX12_lay 73 = .ok (.aload_n 0, 1) := by decide +kernel
theorem dX12_lay_74 : decode cX12_lay 74 = .ok (.getfield 67, 3) := by decide +kernel
theorem dX12_lay_77 : decode cX12_lay 77 = .ok (.iload 4, 2) := by decide +kernel
theorem dX12_lay_79 : decode cX12_lay 79 = .ok (.iaload, 1) := by decide +kernel
theorem dX12_lay_80 : decode cX12_lay 80 = .ok (.iadd, 1) := by decide +kernel
theorem dX12_lay_81 : decode cX12_lay 81 = .ok (.istore_n 2, 1) := by decide +kernel
theorem dX12_lay_82 : decode cX12_lay 82 = .ok (.aload_n 0, 1) := by decide +kernel
theorem dX12_lay_83 : decode cX12_lay 83 = .ok (.getfield 43, 3) := by decide +kernel
theorem dX12_lay_86 : decode cX12_lay 86 = .ok (.iload_n 1, 1) := by decide +kernel
theorem dX12_lay_87 : decode cX12_lay 87 = .ok (.iaload, 1) := by decide +kernel
theorem dX12_lay_88 : decode cX12_lay 88 = .ok (.iconst 4, 1) := by decide +kernel
theorem dX12_lay_89 : decode cX12_lay 89 = .ok (.if_icmp .ne 8, 3) := by decide +kernel
theorem dX12_lay_92 : decode cX12_lay 92 = .ok (.iload_n 3, 1) := by decide +kernel
theorem dX12_lay_93 : decode cX12_lay 93 = .ok (.iconst 2, 1) := by decide +kernel
theorem dX12_lay_94 : decode cX12_lay 94 = .ok (.if_icmp .lt 17, 3) := by decide +kernel
theorem dX12_lay_97 : decode cX12_lay 97 = .ok (.aload_n 0, 1) := by decide +kernel
theorem dX12_lay_98 : decode cX12_lay 98 = .ok (.getfield 43, 3) := by decide +kernel
theorem dX12_lay_101 : decode cX12_lay 101 = .ok (.iload_n 1, 1) := by decide +kernel
theorem dX12_lay_102 : decode cX12_lay 102 = .ok (.iaload, 1) := by decide +kernel
theorem dX12_lay_103 : decode cX12_lay 103 = .ok (.iconst 5, 1) := by decide +kernel
theorem dX12_lay_104 : decode cX12_lay 104 = .ok (.if_icmp .ne 13, 3) := by decide +kernel
theorem dX12_lay_107 : decode cX12_lay 107 = .ok (.iload_n 3, 1) := by decide +kernel
theorem dX12_lay_108 : decode cX12_lay 108 = .ok (.ifCond .ne 9, 3) := by decide +kernel
theorem dX12_lay_111 : decode cX12_lay 111 = .ok (.iload_n 2, 1) := by decide +kernel
theorem dX12_lay_112 : decode cX12_lay 112 = .ok (.iconst 1, 1) := by decide +kernel
theorem dX12_lay_113 : decode cX12_lay 113 = .ok (.iadd, 1) := by decide +kernel
theorem dX12_lay_114 : decode cX12_lay 114 = .ok (.goto 4, 3) := by decide +kernel
theorem dX12_lay_117 : decode cX12_lay 117 = .ok (.iload_n 2, 1) := by decide +kernel
theorem dX12_lay_118 : decode cX12_lay 118 = .ok (.istore_n 2, 1) := by decide +kernel
theorem dX12_lay_119 : decode cX12_lay 119 = .ok (.iinc 3 1, 3) := by decide +kernel
theorem dX12_lay_122 : decode cX12_lay 122 = .ok (.aload_n 0, 1) := by decide +kernel
theorem dX12_lay_123 : decode cX12_lay 123 = .ok (.getfield 58, 3) := by decide +kernel
theorem dX12_lay_126 : decode cX12_lay 126 = .ok (.iload 4, 2) := by decide +kernel
theorem dX12_lay_128 : decode cX12_lay 128 = .ok (.iaload, 1) := by decide +kernel
theorem dX12_lay_129 : decode cX12_lay 129 = .ok (.istore 4, 2) := by decide +kernel
theorem dX12_lay_131 : decode cX12_lay 131 = .ok (.goto (-72), 3) := by decide +kernel
theorem dX12_lay_134 : decode cX12_lay 134 = .ok (.aload_n 0, 1) := by decide +kernel
theorem dX12_lay_135 : decode cX12_lay 135 = .ok (.getfield 70, 3) := by decide +kernel
theorem dX12_lay_138 : decode cX12_lay 138 = .ok (.iload_n 1, 1) := by decide +kernel
theorem dX12_lay_139 : decode cX12_lay 139 = .ok (.iaload, 1) := by decide +kernel
theorem dX12_lay_140 : decode cX12_lay 140 = .ok (.aload_n 0, 1) := by decide +kernel
theorem dX12_lay_141 : decode cX12_lay 141 = .ok (.getfield 67, 3) := by decide +kernel
theorem dX12_lay_144 : decode cX12_lay 144 = .ok (.iload_n 1, 1) := by decide +kernel
theorem dX12_lay_145 : decode cX12_lay 145 = .ok (.iaload, 1) := by decide +kernel
theorem dX12_lay_146 : decode cX12_lay 146 = .ok (.iadd, 1) := by decide +kernel
theorem dX12_lay_147 : decode cX12_lay 147 = .ok (.istore 4, 2) := by decide +kernel
theorem dX12_lay_149 : decode cX12_lay 149 = .ok (.aload_n 0, 1) := by decide +kernel
theorem dX12_lay_150 : decode cX12_lay 150 = .ok (.getfield 52, 3) := by decide +kernel
theorem dX12_lay_153 : decode cX12_lay 153 = .ok (.iload_n 1, 1) := by decide +kernel
theorem dX12_lay_154 : decode cX12_lay 154 = .ok (.iaload, 1) := by decide +kernel
theorem dX12_lay_155 : decode cX12_lay 155 = .ok (.istore 5, 2) := by decide +kernel
theorem dX12_lay_157 : decode cX12_lay 157 = .ok (.aload_n 0, 1) := by decide +kernel
theorem dX12_lay_158 : decode cX12_lay 158 = .ok (.getfield 43, 3) := by decide +kernel
theorem dX12_lay_161 : decode cX12_lay 161 = .ok (.iload_n 1, 1) := by decide +kernel
theorem dX12_lay_162 : decode cX12_lay 162 = .ok (.iaload, 1) := by decide +kernel
theorem dX12_lay_163 : decode cX12_lay 163 = .ok (.ifCond .eq 13, 3) := by decide +kernel
theorem dX12_lay_166 : decode cX12_lay 166 = .ok (.aload_n 0, 1) := by decide +kernel
theorem dX12_lay_167 : decode cX12_lay 167 = .ok (.getfield 43, 3) := by decide +kernel
theorem dX12_lay_170 : decode cX12_lay 170 = .ok (.iload_n 1, 1) := by decide +kernel
theorem dX12_lay_171 : decode cX12_lay 171 = .ok (.iaload, 1) := by decide +kernel
theorem dX12_lay_172 : decode cX12_lay 172 = .ok (.iconst 1, 1) := by decide +kernel
theorem dX12_lay_173 : decode cX12_lay 173 = .ok (.if_icmp .ne 26, 3) := by decide +kernel
theorem dX12_lay_176 : decode cX12_lay 176 = .ok (.aload_n 0, 1) := by decide +kernel
theorem dX12_lay_177 : decode cX12_lay 177 = .ok (.iload 4, 2) := by decide +kernel
theorem dX12_lay_179 : decode cX12_lay 179 = .ok (.iconst 1, 1) := by decide +kernel
theorem dX12_lay_180 : decode cX12_lay 180 = .ok (.isub, 1) := by decide +kernel
theorem dX12_lay_181 : decode cX12_lay 181 = .ok (.aload_n 0, 1) := by decide +kernel
theorem dX12_lay_182 : decode cX12_lay 182 = .ok (.getfield 43, 3) := by decide +kernel
theorem dX12_lay_185 : decode cX12_lay 185 = .ok (.iload_n 1, 1) := by decide +kernel
theorem dX12_lay_186 : decode cX12_lay 186 = .ok (.iaload, 1) := by decide +kernel
theorem dX12_lay_187 : decode cX12_lay 187 = .ok (.aload_n 0, 1) := by decide +kernel
theorem dX12_lay_188 : decode cX12_lay 188 = .ok (.getfield 46, 3) := by decide +kernel
theorem dX12_lay_191 : decode cX12_lay 191 = .ok (.iload_n 1, 1) := by decide +kernel
theorem dX12_lay_192 : decode cX12_lay 192 = .ok (.iaload, 1) := by decide +kernel
theorem dX12_lay_193 : decode cX12_lay 193 = .ok (.invokevirtual 203, 3) := by decide +kernel
theorem dX12_lay_196 : decode cX12_lay 196 = .ok (.goto 178, 3) := by decide +kernel
theorem dX12_lay_199 : decode cX12_lay 199 = .ok (.aload_n 0, 1) := by decide +kernel
theorem dX12_lay_200 : decode cX12_lay 200 = .ok (.getfield 43, 3) := by decide +kernel
theorem dX12_lay_203 : decode cX12_lay 203 = .ok (.iload_n 1, 1) := by decide +kernel
theorem dX12_lay_204 : decode cX12_lay 204 = .ok (.iaload, 1) := by decide +kernel
theorem dX12_lay_205 : decode cX12_lay 205 = .ok (.iconst 2, 1) := by decide +kernel
theorem dX12_lay_206 : decode cX12_lay 206 = .ok (.if_icmp .ne 21, 3) := by decide +kernel
theorem dX12_lay_209 : decode cX12_lay 209 = .ok (.aload_n 0, 1) := by decide +kernel
theorem dX12_lay_210 : decode cX12_lay 210 = .ok (.iload 4, 2) := by decide +kernel
theorem dX12_lay_212 : decode cX12_lay 212 = .ok (.iconst 1, 1) := by decide +kernel
theorem dX12_lay_213 : decode cX12_lay 213 = .ok (.isub, 1) := by decide +kernel
theorem dX12_lay_214 : decode cX12_lay 214 = .ok (.aload_n 0, 1) := by decide +kernel
theorem dX12_lay_215 : decode cX12_lay 215 = .ok (.getfield 46, 3) := by decide +kernel
theorem dX12_lay_218 : decode cX12_lay 218 = .ok (.iload_n 1, 1) := by decide +kernel
theorem dX12_lay_219 : decode cX12_lay 219 = .ok (.iaload, 1) := by decide +kernel
theorem dX12_lay_220 : decode cX12_lay 220 = .ok (.iconst 0, 1) := by decide +kernel
theorem dX12_lay_221 : decode cX12_lay 221 = .ok (.invokevirtual 203, 3) := by decide +kernel
theorem dX12_lay_224 : decode cX12_lay 224 = .ok (.goto 150, 3) := by decide +kernel
theorem dX12_lay_227 : decode cX12_lay 227 = .ok (.aload_n 0, 1) := by decide +kernel
theorem dX12_lay_228 : decode cX12_lay 228 = .ok (.getfield 43, 3) := by decide +kernel
theorem dX12_lay_231 : decode cX12_lay 231 = .ok (.iload_n 1, 1) := by decide +kernel
theorem dX12_lay_232 : decode cX12_lay 232 = .ok (.iaload, 1) := by decide +kernel
theorem dX12_lay_233 : decode cX12_lay 233 = .ok (.iconst 3, 1) := by decide +kernel
theorem dX12_lay_234 : decode cX12_lay 234 = .ok (.if_icmp .ne 21, 3) := by decide +kernel
theorem dX12_lay_237 : decode cX12_lay 237 = .ok (.aload_n 0, 1) := by decide +kernel
theorem dX12_lay_238 : decode cX12_lay 238 = .ok (.iload 4, 2) := by decide +kernel
theorem dX12_lay_240 : decode cX12_lay 240 = .ok (.iconst 1, 1) := by decide +kernel
theorem dX12_lay_241 : decode cX12_lay 241 = .ok (.isub, 1) := by decide +kernel
theorem dX12_lay_242 : decode cX12_lay 242 = .ok (.iconst 2, 1) := by decide +kernel
theorem dX12_lay_243 : decode cX12_lay 243 = .ok (.aload_n 0, 1) := by decide +kernel
theorem dX12_lay_244 : decode cX12_lay 244 = .ok (.getfield 46, 3) := by decide +kernel
theorem dX12_lay_247 : decode cX12_lay 247 = .ok (.iload_n 1, 1) := by decide +kernel
theorem dX12_lay_248 : decode cX12_lay 248 = .ok (.iaload, 1) := by decide +kernel
theorem dX12_lay_249 : decode cX12_lay 249 = .ok (.invokevirtual 203, 3) := by decide +kernel
theorem dX12_lay_252 : decode cX12_lay 252 = .ok (.goto 122, 3) := by decide +kernel
theorem dX12_lay_255 : decode cX12_lay 255 = .ok (.aload_n 0, 1) := by decide +kernel
theorem dX12_lay_256 : decode cX12_lay 256 = .ok (.getfield 43, 3) := by decide +kernel
theorem dX12_lay_259 : decode cX12_lay 259 = .ok (.iload_n 1, 1) := by decide +kernel
theorem dX12_lay_260 : decode cX12_lay 260 = .ok (.iaload, 1) := by decide +kernel
theorem dX12_lay_261 : decode cX12_lay 261 = .ok (.iconst 4, 1) := by decide +kernel
theorem dX12_lay_262 : decode cX12_lay 262 = .ok (.if_icmp .ne 64, 3) := by decide +kernel
theorem dX12_lay_265 : decode cX12_lay 265 = .ok (.aload_n 0, 1) := by decide +kernel
theorem dX12_lay_266 : decode cX12_lay 266 = .ok (.getfield 58, 3) := by decide +kernel
theorem dX12_lay_269 : decode cX12_lay 269 = .ok (.aload_n 0, 1) := by decide +kernel
theorem dX12_lay_270 : decode cX12_lay 270 = .ok (.getfield 58, 3) := by decide +kernel
theorem dX12_lay_273 : decode cX12_lay 273 = .ok (.iload 5, 2) := by decide +kernel
theorem dX12_lay_275 : decode cX12_lay 275 = .ok (.iaload, 1) := by decide +kernel
theorem dX12_lay_276 : decode cX12_lay 276 = .ok (.iaload, 1) := by decide +kernel
theorem dX12_lay_277 : decode cX12_lay 277 = .ok (.istore 6, 2) := by decide +kernel
theorem dX12_lay_279 : decode cX12_lay 279 = .ok (.aload_n 0, 1) := by decide +kernel
theorem dX12_lay_280 : decode cX12_lay 280 = .ok (.aload_n 0, 1) := by decide +kernel
theorem dX12_lay_281 : decode cX12_lay 281 = .ok (.getfield 70, 3) := by decide +kernel
theorem dX12_lay_284 : decode cX12_lay 284 = .ok (.aload_n 0, 1) := by decide +kernel
theorem dX12_lay_285 : decode cX12_lay 285 = .ok (.getfield 58, 3) := by decide +kernel
theorem dX12_lay_288 : decode cX12_lay 288 = .ok (.iload 5, 2) := by decide +kernel
theorem dX12_lay_290 : decode cX12_lay 290 = .ok (.iaload, 1) := by decide +kernel
theorem dX12_lay_291 : decode cX12_lay 291 = .ok (.iaload, 1) := by decide +kernel
theorem dX12_lay_292 : decode cX12_lay 292 = .ok (.iconst 1, 1) := by decide +kernel
theorem dX12_lay_293 : decode cX12_lay 293 = .ok (.isub, 1) := by decide +kernel
theorem dX12_lay_294 : decode cX12_lay 294 = .ok (.bipush 7, 2) := by decide +kernel
theorem dX12_lay_296 : decode cX12_lay 296 = .ok (.aload_n 0, 1) := by decide +kernel
theorem dX12_lay_297 : decode cX12_lay 297 = .ok (.getfield 70, 3) := by decide +kernel
theorem dX12_lay_300 : decode cX12_lay 300 = .ok (.iload 6, 2) := by decide +kernel
theorem dX12_lay_302 : decode cX12_lay 302 = .ok (.iaload, 1) := by decide +kernel
theorem dX12_lay_303 : decode cX12_lay 303 = .ok (.invokevirtual 203, 3) := by decide +kernel
theorem dX12_lay_306 : decode cX12_lay 306 = .ok (.aload_n 0, 1) := by decide +kernel
theorem dX12_lay_307 : decode cX12_lay 307 = .ok (.aload_n 0, 1) := by decide +kernel
theorem dX12_lay_308 : decode cX12_lay 308 = .ok (.getfield 70, 3) := by decide +kernel
theorem dX12_lay_311 : decode cX12_lay 311 = .ok (.iload 6, 2) := by decide +kernel
theorem dX12_lay_313 : decode cX12_lay 313 = .ok (.iaload, 1) := by decide +kernel
theorem dX12_lay_314 : decode cX12_lay 314 = .ok (.iconst 1, 1) := by decide +kernel
theorem dX12_lay_315 : decode cX12_lay 315 = .ok (.isub, 1) := by decide +kernel
theorem dX12_lay_316 : decode cX12_lay 316 = .ok (.bipush 8, 2) := by decide +kernel
theorem dX12_lay_318 : decode cX12_lay 318 = .ok (.iload 4, 2) := by decide +kernel
theorem dX12_lay_320 : decode cX12_lay 320 = .ok (.invokevirtual 203, 3) := by decide +kernel
theorem dX12_lay_323 : decode cX12_lay 323 = .ok (.goto 51, 3) := by decide +kernel
theorem dX12_lay_326 : decode cX12_lay 326 = .ok (.aload_n 0, 1) := by decide +kernel
theorem dX12_lay_327 : decode cX12_lay 327 = .ok (.getfield 43, 3) := by decide +kernel
theorem dX12_lay_330 : decode cX12_lay 330 = .ok (.iload_n 1, 1) := by decide +kernel
theorem dX12_lay_331 : decode cX12_lay 331 = .ok (.iaload, 1) := by decide +kernel
theorem dX12_lay_332 : decode cX12_lay 332 = .ok (.iconst 5, 1) := by decide +kernel
theorem dX12_lay_333 : decode cX12_lay 333 = .ok (.if_icmp .ne 41, 3) := by decide +kernel
theorem dX12_lay_336 : decode cX12_lay 336 = .ok (.aload_n 0, 1) := by decide +kernel
theorem dX12_lay_337 : decode cX12_lay 337 = .ok (.aload_n 0, 1) := by decide +kernel
theorem dX12_lay_338 : decode cX12_lay 338 = .ok (.getfield 70, 3) := by decide +kernel
theorem dX12_lay_341 : decode cX12_lay 341 = .ok (.aload_n 0, 1) := by decide +kernel
theorem dX12_lay_342 : decode cX12_lay 342 = .ok (.getfield 58, 3) := by decide +kernel
theorem dX12_lay_345 : decode cX12_lay 345 = .ok (.iload 5, 2) := by decide +kernel
theorem dX12_lay_347 : decode cX12_lay 347 = .ok (.iaload, 1) := by decide +kernel
theorem dX12_lay_348 : decode cX12_lay 348 = .ok (.iaload, 1) := by decide +kernel
theorem dX12_lay_349 : decode cX12_lay 349 = .ok (.iconst 1, 1) := by decide +kernel
theorem dX12_lay_350 : decode cX12_lay 350 = .ok (.isub, 1) := by decide +kernel
theorem dX12_lay_351 : decode cX12_lay 351 = .ok (.bipush 7, 2) := by decide +kernel
theorem dX12_lay_353 : decode cX12_lay 353 = .ok (.iload 4, 2) := by decide +kernel
theorem dX12_lay_355 : decode cX12_lay 355 = .ok (.invokevirtual 203, 3) := by decide +kernel
theorem dX12_lay_358 : decode cX12_lay 358 = .ok (.aload_n 0, 1) := by decide +kernel
theorem dX12_lay_359 : decode cX12_lay 359 = .ok (.iload 4, 2) := by decide +kernel
theorem dX12_lay_361 : decode cX12_lay 361 = .ok (.iconst 1, 1) := by decide +kernel
theorem dX12_lay_362 : decode cX12_lay 362 = .ok (.isub, 1) := by decide +kernel
theorem dX12_lay_363 : decode cX12_lay 363 = .ok (.bipush 8, 2) := by decide +kernel
theorem dX12_lay_365 : decode cX12_lay 365 = .ok (.aload_n 0, 1) := by decide +kernel
theorem dX12_lay_366 : decode cX12_lay 366 = .ok (.getfield 70, 3) := by decide +kernel
theorem dX12_lay_369 : decode cX12_lay 369 = .ok (.iload_n 1, 1) := by decide +kernel
theorem dX12_lay_370 : decode cX12_lay 370 = .ok (.iaload, 1) := by decide +kernel
theorem dX12_lay_371 : decode cX12_lay 371 = .ok (.invokevirtual 203, 3) := by decide +kernel
theorem dX12_lay_374 : decode cX12_lay 374 = .ok (.iinc 1 1, 3) := by decide +kernel
theorem dX12_lay_377 : decode cX12_lay 377 = .ok (.goto (-343), 3) := by decide +kernel
theorem dX12_lay_380 : decode cX12_lay 380 = .ok (.return_, 1) := by decide +kernel
theorem dX12_labelOf_0 : decode cX12_labelOf 0 = .ok (.aload_n 0, 1) := by decide +kernel
theorem dX12_labelOf_1 : decode cX12_labelOf 1 = .ok (.getfield 52, 3) := by decide +kernel
theorem dX12_labelOf_4 : decode cX12_labelOf 4 = .ok (.iload_n 1, 1) := by decide +kernel
theorem dX12_labelOf_5 : decode cX12_labelOf 5 = .ok (.iaload, 1) := by decide +kernel
theorem dX12_labelOf_6 : decode cX12_labelOf 6 = .ok (.istore_n 2, 1) := by decide +kernel
theorem dX12_labelOf_7 : decode cX12_labelOf 7 = .ok (.aload_n 0, 1) := by decide +kernel
theorem dX12_labelOf_8 : decode cX12_labelOf 8 = .ok (.getfield 142, 3) := by decide +kernel
theorem dX12_labelOf_11 : decode cX12_labelOf 11 = .ok (.istore_n 3, 1) := by decide +kernel
theorem dX12_labelOf_12 : decode cX12_labelOf 12 = .ok (.iload_n 2, 1) := by decide +kernel
theorem dX12_labelOf_13 : decode cX12_labelOf 13 = .ok (.istore 4, 2) := by decide +kernel
theorem dX12_labelOf_15 : decode cX12_labelOf 15 = .ok (.iload 4, 2) := by decide +kernel
theorem dX12_labelOf_17 : decode cX12_labelOf 17 = .ok (.aload_n 0, 1) := by decide +kernel
theorem dX12_labelOf_18 : decode cX12_labelOf 18 = .ok (.getfield 64, 3) := by decide +kernel
theorem dX12_labelOf_21 : decode cX12_labelOf 21 = .ok (.iload_n 2, 1) := by decide +kernel
theorem dX12_labelOf_22 : decode cX12_labelOf 22 = .ok (.iaload, 1) := by decide +kernel
theorem dX12_labelOf_23 : decode cX12_labelOf 23 = .ok (.if_icmp .ge 42, 3) := by decide +kernel
end
section
theorem dX12_labelOf_26 : decode cX12_labelOf 26 = .ok (.aload_n 0, 1) := by decide +kernel
theorem dX12_labelOf_27 : decode cX12_labelOf 27 = .ok (.getfield 43, 3) := by decide +kernel
theorem dX12_labelOf_30 : decode cX12_labelOf 30 = .ok (.iload 4, 2) := by decide +kernel
theorem dX12_labelOf_32 : decode cX12_labelOf 32 = .ok (.iaload, 1) := by decide +kernel
theorem dX12_labelOf_33 : decode cX12_labelOf 33 = .ok (.iconst 1, 1) := by decide +kernel
theorem dX12_labelOf_34 : decode cX12_labelOf 34 = .ok (.if_icmp .ne 23, 3) := by decide +kernel
theorem dX12_labelOf_37 : decode cX12_labelOf 37 = .ok (.aload_n 0, 1) := by decide +kernel
theorem dX12_labelOf_38 : decode cX12_labelOf 38 = .ok (.iload_n 3, 1) := by decide +kernel
theorem dX12_labelOf_39 : decode cX12_labelOf 39 = .ok (.aload_n 0, 1) := by decide +kernel
theorem dX12_labelOf_40 : decode cX12_labelOf 40 = .ok (.getfield 82, 3) := by decide +kernel
theorem dX12_labelOf_43 : decode cX12_labelOf 43 = .ok (.aload_n 0, 1) := by decide +kernel
theorem dX12_labelOf_44 : decode cX12_labelOf 44 = .ok (.getfield 46, 3) := by decide +kernel
theorem dX12_labelOf_47 : decode cX12_labelOf 47 = .ok (.iload 4, 2) := by decide +kernel
theorem dX12_labelOf_49 : decode cX12_labelOf 49 = .ok (.iaload, 1) := by decide +kernel
theorem dX12_labelOf_50 : decode cX12_labelOf 50 = .ok (.iaload, 1) := by decide +kernel
theorem dX12_labelOf_51 : decode cX12_labelOf 51 = .ok (.invokevirtual 148, 3) := by decide +kernel
theorem dX12_labelOf_54 : decode cX12_labelOf 54 = .ok (.goto 4, 3) := by decide +kernel
theorem dX12_labelOf_57 : decode cX12_labelOf 57 = .ok (.iload_n 3, 1) := by decide +kernel
theorem dX12_labelOf_58 : decode cX12_labelOf 58 = .ok (.istore_n 3, 1) := by decide +kernel
theorem dX12_labelOf_59 : decode cX12_labelOf 59 = .ok (.iinc 4 1, 3) := by decide +kernel
theorem dX12_labelOf_62 : decode cX12_labelOf 62 = .ok (.goto (-47), 3) := by decide +kernel
theorem dX12_labelOf_65 : decode cX12_labelOf 65 = .ok (.iload_n 3, 1) := by decide +kernel
theorem dX12_labelOf_66 : decode cX12_labelOf 66 = .ok (.ireturn, 1) := by decide +kernel
theorem dX12_setIn_0 : decode cX12_setIn 0 = .ok (.aload_n 0, 1) := by decide +kernel
theorem dX12_setIn_1 : decode cX12_setIn 1 = .ok (.aload_n 0, 1) := by decide +kernel
theorem dX12_setIn_2 : decode cX12_setIn 2 = .ok (.getfield 207, 3) := by decide +kernel
theorem dX12_setIn_5 : decode cX12_setIn 5 = .ok (.ifCond .ne 13, 3) := by decide +kernel
theorem dX12_setIn_8 : decode cX12_setIn 8 = .ok (.aload_n 0, 1) := by decide +kernel
theorem dX12_setIn_9 : decode cX12_setIn 9 = .ok (.getfield 79, 3) := by decide +kernel
theorem dX12_setIn_12 : decode cX12_setIn 12 = .ok (.iload_n 1, 1) := by decide +kernel
theorem dX12_setIn_13 : decode cX12_setIn 13 = .ok (.iaload, 1) := by decide +kernel
theorem dX12_setIn_14 : decode cX12_setIn 14 = .ok (.iload_n 2, 1) := by decide +kernel
theorem dX12_setIn_15 : decode cX12_setIn 15 = .ok (.if_icmp .eq 7, 3) := by decide +kernel
theorem dX12_setIn_18 : decode cX12_setIn 18 = .ok (.iconst 1, 1) := by decide +kernel
theorem dX12_setIn_19 : decode cX12_setIn 19 = .ok (.goto 4, 3) := by decide +kernel
theorem dX12_setIn_22 : decode cX12_setIn 22 = .ok (.iconst 0, 1) := by decide +kernel
theorem dX12_setIn_23 : decode cX12_setIn 23 = .ok (.putfield 207, 3) := by decide +kernel
theorem dX12_setIn_26 : decode cX12_setIn 26 = .ok (.aload_n 0, 1) := by decide +kernel
theorem dX12_setIn_27 : decode cX12_setIn 27 = .ok (.getfield 79, 3) := by decide +kernel
theorem dX12_setIn_30 : decode cX12_setIn 30 = .ok (.iload_n 1, 1) := by decide +kernel
theorem dX12_setIn_31 : decode cX12_setIn 31 = .ok (.iload_n 2, 1) := by decide +kernel
theorem dX12_setIn_32 : decode cX12_setIn 32 = .ok (.iastore, 1) := by decide +kernel
theorem dX12_setIn_33 : decode cX12_setIn 33 = .ok (.iconst 0, 1) := by decide +kernel
theorem dX12_setIn_34 : decode cX12_setIn 34 = .ok (.istore_n 3, 1) := by decide +kernel
theorem dX12_setIn_35 : decode cX12_setIn 35 = .ok (.iload_n 3, 1) := by decide +kernel
theorem dX12_setIn_36 : decode cX12_setIn 36 = .ok (.bipush 8, 2) := by decide +kernel
theorem dX12_setIn_38 : decode cX12_setIn 38 = .ok (.if_icmp .ge 62, 3) := by decide +kernel
theorem dX12_setIn_41 : decode cX12_setIn 41 = .ok (.aload_n 0, 1) := by decide +kernel
theorem dX12_setIn_42 : decode cX12_setIn 42 = .ok (.aload_n 0, 1) := by decide +kernel
theorem dX12_setIn_43 : decode cX12_setIn 43 = .ok (.getfield 207, 3) := by decide +kernel
theorem dX12_setIn_46 : decode cX12_setIn 46 = .ok (.ifCond .ne 23, 3) := by decide +kernel
theorem dX12_setIn_49 : decode cX12_setIn 49 = .ok (.aload_n 0, 1) := by decide +kernel
theorem dX12_setIn_50 : decode cX12_setIn 50 = .ok (.getfield 73, 3) := by decide +kernel
theorem dX12_setIn_53 : decode cX12_setIn 53 = .ok (.bipush 8, 2) := by decide +kernel
theorem dX12_setIn_55 : decode cX12_setIn 55 = .ok (.iload_n 1, 1) := by decide +kernel
theorem dX12_setIn_56 : decode cX12_setIn 56 = .ok (.imul, 1) := by decide +kernel
theorem dX12_setIn_57 : decode cX12_setIn 57 = .ok (.iload_n 3, 1) := by decide +kernel
theorem dX12_setIn_58 : decode cX12_setIn 58 = .ok (.iadd, 1) := by decide +kernel
theorem dX12_setIn_59 : decode cX12_setIn 59 = .ok (.iaload, 1) := by decide +kernel
theorem dX12_setIn_60 : decode cX12_setIn 60 = .ok (.aload_n 0, 1) := by decide +kernel
theorem dX12_setIn_61 : decode cX12_setIn 61 = .ok (.getfield 82, 3) := by decide +kernel
theorem dX12_setIn_64 : decode cX12_setIn 64 = .ok (.iload_n 3, 1) := by decide +kernel
theorem dX12_setIn_65 : decode cX12_setIn 65 = .ok (.iaload, 1) := by decide +kernel
theorem dX12_setIn_66 : decode cX12_setIn 66 = .ok (.if_icmp .eq 7, 3) := by decide +kernel
theorem dX12_setIn_69 : decode cX12_setIn 69 = .ok (.iconst 1, 1) := by decide +kernel
theorem dX12_setIn_70 : decode cX12_setIn 70 = .ok (.goto 4, 3) := by decide +kernel
theorem dX12_setIn_73 : decode cX12_setIn 73 = .ok (.iconst 0, 1) := by decide +kernel
theorem dX12_setIn_74 : decode cX12_setIn 74 = .ok (.putfield 207, 3) := by decide +kernel
theorem dX12_setIn_77 : decode cX12_setIn 77 = .ok (.aload_n 0, 1) := by decide +kernel
theorem dX12_setIn_78 : decode cX12_setIn 78 = .ok (.getfield 73, 3) := by decide +kernel
theorem dX12_setIn_81 : decode cX12_setIn 81 = .ok (.bipush 8, 2) := by decide +kernel
theorem dX12_setIn_83 : decode cX12_setIn 83 = .ok (.iload_n 1, 1) := by decide +kernel
theorem dX12_setIn_84 : decode cX12_setIn 84 = .ok (.imul, 1) := by decide +kernel
theorem dX12_setIn_85 : decode cX12_setIn 85 = .ok (.iload_n 3, 1) := by decide +kernel
theorem dX12_setIn_86 : decode cX12_setIn 86 = .ok (.iadd, 1) := by decide +kernel
theorem dX12_setIn_87 : decode cX12_setIn 87 = .ok (.aload_n 0, 1) := by decide +kernel
theorem dX12_setIn_88 : decode cX12_setIn 88 = .ok (.getfield 82, 3) := by decide +kernel
theorem dX12_setIn_91 : decode cX12_setIn 91 = .ok (.iload_n 3, 1) := by decide +kernel
theorem dX12_setIn_92 : decode cX12_setIn 92 = .ok (.iaload, 1) := by decide +kernel
theorem dX12_setIn_93 : decode cX12_setIn 93 = .ok (.iastore, 1) := by decide +kernel
theorem dX12_setIn_94 : decode cX12_setIn 94 = .ok (.iinc 3 1, 3) := by decide +kernel
theorem dX12_setIn_97 : decode cX12_setIn 97 = .ok (.goto (-62), 3) := by decide +kernel
theorem dX12_setIn_100 : decode cX12_setIn 100 = .ok (.return_, 1) := by decide +kernel
theorem dX12_setOut_0 : decode cX12_setOut 0 = .ok (.iconst 0, 1) := by decide +kernel
theorem dX12_setOut_1 : decode cX12_setOut 1 = .ok (.istore_n 2, 1) := by decide +kernel
theorem dX12_setOut_2 : decode cX12_setOut 2 = .ok (.iload_n 2, 1) := by decide +kernel
theorem dX12_setOut_3 : decode cX12_setOut 3 = .ok (.bipush 8, 2) := by decide +kernel
theorem dX12_setOut_5 : decode cX12_setOut 5 = .ok (.if_icmp .ge 62, 3) := by decide +kernel
theorem dX12_setOut_8 : decode cX12_setOut 8 = .ok (.aload_n 0, 1) := by decide +kernel
theorem dX12_setOut_9 : decode cX12_setOut 9 = .ok (.aload_n 0, 1) := by decide +kernel
theorem dX12_setOut_10 : decode cX12_setOut 10 = .ok (.getfield 207, 3) := by decide +kernel
theorem dX12_setOut_13 : decode cX12_setOut 13 = .ok (.ifCond .ne 23, 3) := by decide +kernel
theorem dX12_setOut_16 : decode cX12_setOut 16 = .ok (.aload_n 0, 1) := by decide +kernel
theorem dX12_setOut_17 : decode cX12_setOut 17 = .ok (.getfield 76, 3) := by decide +kernel
theorem dX12_setOut_20 : decode cX12_setOut 20 = .ok (.bipush 8, 2) := by decide +kernel
theorem dX12_setOut_22 : decode cX12_setOut 22 = .ok (.iload_n 1, 1) := by decide +kernel
theorem dX12_setOut_23 : decode cX12_setOut 23 = .ok (.imul, 1) := by decide +kernel
theorem dX12_setOut_24 : decode cX12_setOut 24 = .ok (.iload_n 2, 1) := by decide +kernel
theorem dX12_setOut_25 : decode cX12_setOut 25 = .ok (.iadd, 1) := by decide +kernel
theorem dX12_setOut_26 : decode cX12_setOut 26 = .ok (.iaload, 1) := by decide +kernel
theorem dX12_setOut_27 : decode cX12_setOut 27 = .ok (.aload_n 0, 1) := by decide +kernel
theorem dX12_setOut_28 : decode cX12_setOut 28 = .ok (.getfield 82, 3) := by decide +kernel
theorem dX12_setOut_31 : decode cX12_setOut 31 = .ok (.iload_n 2, 1) := by decide +kernel
theorem dX12_setOut_32 : decode cX12_setOut 32 = .ok (.iaload, 1) := by decide +kernel
theorem dX12_setOut_33 : decode cX12_setOut 33 = .ok (.if_icmp .eq 7, 3) := by decide +kernel
theorem dX12_setOut_36 : decode cX12_setOut 36 = .ok (.iconst 1, 1) := by decide +kernel
theorem dX12_setOut_37 : decode cX12_setOut 37 = .ok (.goto 4, 3) := by decide +kernel
theorem dX12_setOut_40 : decode cX12_setOut 40 = .ok (.iconst 0, 1) := by decide +kernel
theorem dX12_setOut_41 : decode cX12_setOut 41 = .ok (.putfield 207, 3) := by decide +kernel
theorem dX12_setOut_44 : decode cX12_setOut 44 = .ok (.aload_n 0, 1) := by decide +kernel
theorem dX12_setOut_45 : decode cX12_setOut 45 = .ok (.getfield 76, 3) := by decide +kernel
theorem dX12_setOut_48 : decode cX12_setOut 48 = .ok (.bipush 8, 2) := by decide +kernel
theorem dX12_setOut_50 : decode cX12_setOut 50 = .ok (.iload_n 1, 1) := by decide +kernel
theorem dX12_setOut_51 : decode cX12_setOut 51 = .ok (.imul, 1) := by decide +kernel
theorem dX12_setOut_52 : decode cX12_setOut 52 = .ok (.iload_n 2, 1) := by decide +kernel
theorem dX12_setOut_53 : decode cX12_setOut 53 = .ok (.iadd, 1) := by decide +kernel
theorem dX12_setOut_54 : decode cX12_setOut 54 = .ok (.aload_n 0, 1) := by decide +kernel
theorem dX12_setOut_55 : decode cX12_setOut 55 = .ok (.getfield 82, 3) := by decide +kernel
theorem dX12_setOut_58 : decode cX12_setOut 58 = .ok (.iload_n 2, 1) := by decide +kernel
theorem dX12_setOut_59 : decode cX12_setOut 59 = .ok (.iaload, 1) := by decide +kernel
theorem dX12_setOut_60 : decode cX12_setOut 60 = .ok (.iastore, 1) := by decide +kernel
theorem dX12_setOut_61 : decode cX12_setOut 61 = .ok (.iinc 2 1, 3) := by decide +kernel
theorem dX12_setOut_64 : decode cX12_setOut 64 = .ok (.goto (-62), 3) := by decide +kernel
theorem dX12_setOut_67 : decode cX12_setOut 67 = .ok (.return_, 1) := by decide +kernel
theorem dX12_take_0 : decode cX12_take 0 = .ok (.iconst 0, 1) := by decide +kernel
theorem dX12_take_1 : decode cX12_take 1 = .ok (.istore_n 3, 1) := by decide +kernel
theorem dX12_take_2 : decode cX12_take 2 = .ok (.iload_n 3, 1) := by decide +kernel
theorem dX12_take_3 : decode cX12_take 3 = .ok (.bipush 8, 2) := by decide +kernel
theorem dX12_take_5 : decode cX12_take 5 = .ok (.if_icmp .ge 23, 3) := by decide +kernel
theorem dX12_take_8 : decode cX12_take 8 = .ok (.aload_n 0, 1) := by decide +kernel
theorem dX12_take_9 : decode cX12_take 9 = .ok (.getfield 82, 3) := by decide +kernel
theorem dX12_take_12 : decode cX12_take 12 = .ok (.iload_n 3, 1) := by decide +kernel
theorem dX12_take_13 : decode cX12_take 13 = .ok (.aload_n 1, 1) := by decide +kernel
theorem dX12_take_14 : decode cX12_take 14 = .ok (.bipush 8, 2) := by decide +kernel
theorem dX12_take_16 : decode cX12_take 16 = .ok (.iload_n 2, 1) := by decide +kernel
theorem dX12_take_17 : decode cX12_take 17 = .ok (.imul, 1) := by decide +kernel
theorem dX12_take_18 : decode cX12_take 18 = .ok (.iload_n 3, 1) := by decide +kernel
theorem dX12_take_19 : decode cX12_take 19 = .ok (.iadd, 1) := by decide +kernel
theorem dX12_take_20 : decode cX12_take 20 = .ok (.iaload, 1) := by decide +kernel
theorem dX12_take_21 : decode cX12_take 21 = .ok (.iastore, 1) := by decide +kernel
theorem dX12_take_22 : decode cX12_take 22 = .ok (.iinc 3 1, 3) := by decide +kernel
theorem dX12_take_25 : decode cX12_take 25 = .ok (.goto (-23), 3) := by decide +kernel
theorem dX12_take_28 : decode cX12_take 28 = .ok (.return_, 1) := by decide +kernel
theorem dX12_joinOut_0 : decode cX12_joinOut 0 = .ok (.iconst 0, 1) := by decide +kernel
theorem dX12_joinOut_1 : decode cX12_joinOut 1 = .ok (.istore_n 2, 1) := by decide +kernel
theorem dX12_joinOut_2 : decode cX12_joinOut 2 = .ok (.iload_n 2, 1) := by decide +kernel
theorem dX12_joinOut_3 : decode cX12_joinOut 3 = .ok (.bipush 8, 2) := by decide +kernel
theorem dX12_joinOut_5 : decode cX12_joinOut 5 = .ok (.if_icmp .ge 36, 3) := by decide +kernel
theorem dX12_joinOut_8 : decode cX12_joinOut 8 = .ok (.aload_n 0, 1) := by decide +kernel
theorem dX12_joinOut_9 : decode cX12_joinOut 9 = .ok (.getfield 82, 3) := by decide +kernel
theorem dX12_joinOut_12 : decode cX12_joinOut 12 = .ok (.iload_n 2, 1) := by decide +kernel
theorem dX12_joinOut_13 : decode cX12_joinOut 13 = .ok (.aload_n 0, 1) := by decide +kernel
theorem dX12_joinOut_14 : decode cX12_joinOut 14 = .ok (.aload_n 0, 1) := by decide +kernel
theorem dX12_joinOut_15 : decode cX12_joinOut 15 = .ok (.getfield 82, 3) := by decide +kernel
theorem dX12_joinOut_18 : decode cX12_joinOut 18 = .ok (.iload_n 2, 1) := by decide +kernel
theorem dX12_joinOut_19 : decode cX12_joinOut 19 = .ok (.iaload, 1) := by decide +kernel
theorem dX12_joinOut_20 : decode cX12_joinOut 20 = .ok (.aload_n 0, 1) := by decide +kernel
theorem dX12_joinOut_21 : decode cX12_joinOut 21 = .ok (.getfield 76, 3) := by decide +kernel
theorem dX12_joinOut_24 : decode cX12_joinOut 24 = .ok (.bipush 8, 2) := by decide +kernel
theorem dX12_joinOut_26 : decode cX12_joinOut 26 = .ok (.iload_n 1, 1) := by decide +kernel
theorem dX12_joinOut_27 : decode cX12_joinOut 27 = .ok (.imul, 1) := by decide +kernel
theorem dX12_joinOut_28 : decode cX12_joinOut 28 = .ok (.iload_n 2, 1) := by decide +kernel
theorem dX12_joinOut_29 : decode cX12_joinOut 29 = .ok (.iadd, 1) := by decide +kernel
theorem dX12_joinOut_30 : decode cX12_joinOut 30 = .ok (.iaload, 1) := by decide +kernel
theorem dX12_joinOut_31 : decode cX12_joinOut 31 = .ok (.invokevirtual 148, 3) := by decide +kernel
theorem dX12_joinOut_34 : decode cX12_joinOut 34 = .ok (.iastore, 1) := by decide +kernel
theorem dX12_joinOut_35 : decode cX12_joinOut 35 = .ok (.iinc 2 1, 3) := by decide +kernel
theorem dX12_joinOut_38 : decode cX12_joinOut 38 = .ok (.goto (-36), 3) := by decide +kernel
theorem dX12_joinOut_41 : decode cX12_joinOut 41 = .ok (.return_, 1) := by decide +kernel
theorem dX12_statement_0 : decode cX12_statement 0 = .ok (.aload_n 0, 1) := by decide +kernel
theorem dX12_statement_1 : decode cX12_statement 1 = .ok (.aload_n 0, 1) := by decide +kernel
theorem dX12_statement_2 : decode cX12_statement 2 = .ok (.getfield 73, 3) := by decide +kernel
theorem dX12_statement_5 : decode cX12_statement 5 = .ok (.iload_n 1, 1) := by decide +kernel
theorem dX12_statement_6 : decode cX12_statement 6 = .ok (.invokevirtual 211, 3) := by decide +kernel
theorem dX12_statement_9 : decode cX12_statement 9 = .ok (.aload_n 0, 1) := by decide +kernel
theorem dX12_statement_10 : decode cX12_statement 10 = .ok (.getfield 43, 3) := by decide +kernel
theorem dX12_statement_13 : decode cX12_statement 13 = .ok (.iload_n 1, 1) := by decide +kernel
theorem dX12_statement_14 : decode cX12_statement 14 = .ok (.iaload, 1) := by decide +kernel
theorem dX12_statement_15 : decode cX12_statement 15 = .ok (.iconst 3, 1) := by decide +kernel
theorem dX12_statement_16 : decode cX12_statement 16 = .ok (.if_icmp .ne 34, 3) := by decide +kernel
theorem dX12_statement_19 : decode cX12_statement 19 = .ok (.aload_n 0, 1) := by decide +kernel
theorem dX12_statement_20 : decode cX12_statement 20 = .ok (.aload_n 0, 1) := by decide +kernel
theorem dX12_statement_21 : decode cX12_statement 21 = .ok (.getfield 79, 3) := by decide +kernel
theorem dX12_statement_24 : decode cX12_statement 24 = .ok (.iload_n 1, 1) := by decide +kernel
theorem dX12_statement_25 : decode cX12_statement 25 = .ok (.iaload, 1) := by decide +kernel
theorem dX12_statement_26 : decode cX12_statement 26 = .ok (.aload_n 0, 1) := by decide +kernel
theorem dX12_statement_27 : decode cX12_statement 27 = .ok (.iload_n 1, 1) := by decide +kernel
theorem dX12_statement_28 : decode cX12_statement 28 = .ok (.invokevirtual 215, 3) := by decide +kernel
theorem dX12_statement_31 : decode cX12_statement 31 = .ok (.invokevirtual 148, 3) := by decide +kernel
theorem dX12_statement_34 : decode cX12_statement 34 = .ok (.istore_n 2, 1) := by decide +kernel
theorem dX12_statement_35 : decode cX12_statement 35 = .ok (.aload_n 0, 1) := by decide +kernel
theorem dX12_statement_36 : decode cX12_statement 36 = .ok (.getfield 82, 3) := by decide +kernel
theorem dX12_statement_39 : decode cX12_statement 39 = .ok (.aload_n 0, 1) := by decide +kernel
theorem dX12_statement_40 : decode cX12_statement 40 = .ok (.getfield 46, 3) := by decide +kernel
theorem dX12_statement_43 : decode cX12_statement 43 = .ok (.iload_n 1, 1) := by decide +kernel
theorem dX12_statement_44 : decode cX12_statement 44 = .ok (.iaload, 1) := by decide +kernel
theorem dX12_statement_45 : decode cX12_statement 45 = .ok (.iload_n 2, 1) := by decide +kernel
theorem dX12_statement_46 : decode cX12_statement 46 = .ok (.iastore, 1) := by decide +kernel
theorem dX12_statement_47 : decode cX12_statement 47 = .ok (.goto 105, 3) := by decide +kernel
theorem dX12_statement_50 : decode cX12_statement 50 = .ok (.aload_n 0, 1) := by decide +kernel
theorem dX12_statement_51 : decode cX12_statement 51 = .ok (.getfield 58, 3) := by decide +kernel
theorem dX12_statement_54 : decode cX12_statement 54 = .ok (.aload_n 0, 1) := by decide +kernel
theorem dX12_statement_55 : decode cX12_statement 55 = .ok (.getfield 52, 3) := by decide +kernel
theorem dX12_statement_58 : decode cX12_statement 58 = .ok (.iload_n 1, 1) := by decide +kernel
theorem dX12_statement_59 : decode cX12_statement 59 = .ok (.iaload, 1) := by decide +kernel
theorem dX12_statement_60 : decode cX12_statement 60 = .ok (.iaload, 1) := by decide +kernel
theorem dX12_statement_61 : decode cX12_statement 61 = .ok (.istore_n 2, 1) := by decide +kernel
theorem dX12_statement_62 : decode cX12_statement 62 = .ok (.aload_n 0, 1) := by decide +kernel
theorem dX12_statement_63 : decode cX12_statement 63 = .ok (.getfield 43, 3) := by decide +kernel
theorem dX12_statement_66 : decode cX12_statement 66 = .ok (.iload_n 1, 1) := by decide +kernel
theorem dX12_statement_67 : decode cX12_statement 67 = .ok (.iaload, 1) := by decide +kernel
theorem dX12_statement_68 : decode cX12_statement 68 = .ok (.iconst 5, 1) := by decide +kernel
theorem dX12_statement_69 : decode cX12_statement 69 = .ok (.if_icmp .ne 31, 3) := by decide +kernel
theorem dX12_statement_72 : decode cX12_statement 72 = .ok (.aload_n 0, 1) := by decide +kernel
theorem dX12_statement_73 : decode cX12_statement 73 = .ok (.iload_n 2, 1) := by decide +kernel
theorem dX12_statement_74 : decode cX12_statement 74 = .ok (.invokevirtual 218, 3) := by decide +kernel
theorem dX12_statement_77 : decode cX12_statement 77 = .ok (.aload_n 0, 1) := by decide +kernel
theorem dX12_statement_78 : decode cX12_statement 78 = .ok (.iload_n 2, 1) := by decide +kernel
theorem dX12_statement_79 : decode cX12_statement 79 = .ok (.aload_n 0, 1) := by decide +kernel
theorem dX12_statement_80 : decode cX12_statement 80 = .ok (.aload_n 0, 1) := by decide +kernel
theorem dX12_statement_81 : decode cX12_statement 81 = .ok (.getfield 79, 3) := by decide +kernel
theorem dX12_statement_84 : decode cX12_statement 84 = .ok (.iload_n 1, 1) := by decide +kernel
theorem dX12_statement_85 : decode cX12_statement 85 = .ok (.iaload, 1) := by decide +kernel
theorem dX12_statement_86 : decode cX12_statement 86 = .ok (.aload_n 0, 1) := by decide +kernel
theorem dX12_statement_87 : decode cX12_statement 87 = .ok (.iload_n 1, 1) := by decide +kernel
theorem dX12_statement_88 : decode cX12_statement 88 = .ok (.invokevirtual 215, 3) := by decide +kernel
theorem dX12_statement_91 : decode cX12_statement 91 = .ok (.invokevirtual 148, 3) := by decide +kernel
theorem dX12_statement_94 : decode cX12_statement 94 = .ok (.invokevirtual 222, 3) := by decide +kernel
theorem dX12_statement_97 : decode cX12_statement 97 = .ok (.goto 55, 3) := by decide +kernel
theorem dX12_statement_100 : decode cX12_statement 100 = .ok (.aload_n 0, 1) := by decide +kernel
theorem dX12_statement_101 : decode cX12_statement 101 = .ok (.getfield 58, 3) := by decide +kernel
theorem dX12_statement_104 : decode cX12_statement 104 = .ok (.iload_n 2, 1) := by decide +kernel
theorem dX12_statement_105 : decode cX12_statement 105 = .ok (.iaload, 1) := by decide +kernel
theorem dX12_statement_106 : decode cX12_statement 106 = .ok (.istore_n 3, 1) := by decide +kernel
theorem dX12_statement_107 : decode cX12_statement 107 = .ok (.aload_n 0, 1) := by decide +kernel
theorem dX12_statement_108 : decode cX12_statement 108 = .ok (.aload_n 0, 1) := by decide +kernel
theorem dX12_statement_109 : decode cX12_statement 109 = .ok (.getfield 79, 3) := by decide +kernel
theorem dX12_statement_112 : decode cX12_statement 112 = .ok (.iload_n 1, 1) := by decide +kernel
theorem dX12_statement_113 : decode cX12_statement 113 = .ok (.iaload, 1) := by decide +kernel
theorem dX12_statement_114 : decode cX12_statement 114 = .ok (.aload_n 0, 1) := by decide +kernel
theorem dX12_statement_115 : decode cX12_statement 115 = .ok (.iload_n 1, 1) := by decide +kernel
theorem dX12_statement_116 : decode cX12_statement 116 = .ok (.invokevirtual 215, 3) := by decide +kernel
theorem dX12_statement_119 : decode cX12_statement 119 = .ok (.invokevirtual 148, 3) := by decide +kernel
theorem dX12_statement_122 : decode cX12_statement 122 = .ok (.istore 4, 2) := by decide +kernel
theorem dX12_statement_124 : decode cX12_statement 124 = .ok (.aload_n 0, 1) := by decide +kernel
theorem dX12_statement_125 : decode cX12_statement 125 = .ok (.iload_n 2, 1) := by decide +kernel
theorem dX12_statement_126 : decode cX12_statement 126 = .ok (.iload 4, 2) := by decide +kernel
theorem dX12_statement_128 : decode cX12_statement 128 = .ok (.invokevirtual 222, 3) := by decide +kernel
theorem dX12_statement_131 : decode cX12_statement 131 = .ok (.aload_n 0, 1) := by decide +kernel
theorem dX12_statement_132 : decode cX12_statement 132 = .ok (.iload_n 3, 1) := by decide +kernel
theorem dX12_statement_133 : decode cX12_statement 133 = .ok (.iload 4, 2) := by decide +kernel
theorem dX12_statement_135 : decode cX12_statement 135 = .ok (.invokevirtual 222, 3) := by decide +kernel
theorem dX12_statement_138 : decode cX12_statement 138 = .ok (.aload_n 0, 1) := by decide +kernel
theorem dX12_statement_139 : decode cX12_statement 139 = .ok (.aload_n 0, 1) := by decide +kernel
theorem dX12_statement_140 : decode cX12_statement 140 = .ok (.getfield 76, 3) := by decide +kernel
theorem dX12_statement_143 : decode cX12_statement 143 = .ok (.iload_n 2, 1) := by decide +kernel
theorem dX12_statement_144 : decode cX12_statement 144 = .ok (.invokevirtual 211, 3) := by decide +kernel
theorem dX12_statement_147 : decode cX12_statement 147 = .ok (.aload_n 0, 1) := by decide +kernel
theorem dX12_statement_148 : decode cX12_statement 148 = .ok (.iload_n 3, 1) := by decide +kernel
theorem dX12_statement_149 : decode cX12_statement 149 = .ok (.invokevirtual 218, 3) := by decide +kernel
theorem dX12_statement_152 : decode cX12_statement 152 = .ok (.aload_n 0, 1) := by decide +kernel
theorem dX12_statement_153 : decode cX12_statement 153 = .ok (.iload_n 1, 1) := by decide +kernel
theorem dX12_statement_154 : decode cX12_statement 154 = .ok (.invokevirtual 226, 3) := by decide +kernel
theorem dX12_statement_157 : decode cX12_statement 157 = .ok (.return_, 1) := by decide +kernel
theorem dX12_row_0 : decode cX12_row 0 = .ok (.aload_n 0, 1) := by decide +kernel
theorem dX12_row_1 : decode cX12_row 1 = .ok (.aload_n 0, 1) := by decide +kernel
theorem dX12_row_2 : decode cX12_row 2 = .ok (.getfield 73, 3) := by decide +kernel
theorem dX12_row_5 : decode cX12_row 5 = .ok (.iload_n 1, 1) := by decide +kernel
theorem dX12_row_6 : decode cX12_row 6 = .ok (.invokevirtual 211, 3) := by decide +kernel
theorem dX12_row_9 : decode cX12_row 9 = .ok (.aload_n 0, 1) := by decide +kernel
theorem dX12_row_10 : decode cX12_row 10 = .ok (.getfield 52, 3) := by decide +kernel
theorem dX12_row_13 : decode cX12_row 13 = .ok (.iload_n 1, 1) := by decide +kernel
theorem dX12_row_14 : decode cX12_row 14 = .ok (.iaload, 1) := by decide +kernel
theorem dX12_row_15 : decode cX12_row 15 = .ok (.istore_n 2, 1) := by decide +kernel
theorem dX12_row_16 : decode cX12_row 16 = .ok (.iload_n 2, 1) := by decide +kernel
theorem dX12_row_17 : decode cX12_row 17 = .ok (.ifCond .lt 38, 3) := by decide +kernel
theorem dX12_row_20 : decode cX12_row 20 = .ok (.aload_n 0, 1) := by decide +kernel
theorem dX12_row_21 : decode cX12_row 21 = .ok (.iload_n 2, 1) := by decide +kernel
theorem dX12_row_22 : decode cX12_row 22 = .ok (.aload_n 0, 1) := by decide +kernel
theorem dX12_row_23 : decode cX12_row 23 = .ok (.getfield 79, 3) := by decide +kernel
theorem dX12_row_26 : decode cX12_row 26 = .ok (.iload_n 1, 1) := by decide +kernel
theorem dX12_row_27 : decode cX12_row 27 = .ok (.iaload, 1) := by decide +kernel
theorem dX12_row_28 : decode cX12_row 28 = .ok (.invokevirtual 222, 3) := by decide +kernel
theorem dX12_row_31 : decode cX12_row 31 = .ok (.aload_n 0, 1) := by decide +kernel
theorem dX12_row_32 : decode cX12_row 32 = .ok (.iload_n 2, 1) := by decide +kernel
theorem dX12_row_33 : decode cX12_row 33 = .ok (.invokevirtual 229, 3) := by decide +kernel
theorem dX12_row_36 : decode cX12_row 36 = .ok (.aload_n 0, 1) := by decide +kernel
theorem dX12_row_37 : decode cX12_row 37 = .ok (.aload_n 0, 1) := by decide +kernel
theorem dX12_row_38 : decode cX12_row 38 = .ok (.getfield 76, 3) := by decide +kernel
theorem dX12_row_41 : decode cX12_row 41 = .ok (.iload_n 2, 1) := by decide +kernel
theorem dX12_row_42 : decode cX12_row 42 = .ok (.invokevirtual 211, 3) := by decide +kernel
theorem dX12_row_45 : decode cX12_row 45 = .ok (.aload_n 0, 1) := by decide +kernel
theorem dX12_row_46 : decode cX12_row 46 = .ok (.getfield 58, 3) := by decide +kernel
theorem dX12_row_49 : decode cX12_row 49 = .ok (.iload_n 2, 1) := by decide +kernel
theorem dX12_row_50 : decode cX12_row 50 = .ok (.iaload, 1) := by decide +kernel
theorem dX12_row_51 : decode cX12_row 51 = .ok (.istore_n 2, 1) := by decide +kernel
theorem dX12_row_52 : decode cX12_row 52 = .ok (.goto (-36), 3) := by decide +kernel
theorem dX12_row_55 : decode cX12_row 55 = .ok (.aload_n 0, 1) := by decide +kernel
theorem dX12_row_56 : decode cX12_row 56 = .ok (.iload_n 1, 1) := by decide +kernel
theorem dX12_row_57 : decode cX12_row 57 = .ok (.invokevirtual 226, 3) := by decide +kernel
theorem dX12_row_60 : decode cX12_row 60 = .ok (.return_, 1) := by decide +kernel
theorem dX12_labelProgram_0 : decode cX12_labelProgram 0 = .ok (.iconst 0, 1) := by decide +kernel
theorem dX12_labelProgram_1 : decode cX12_labelProgram 1 = .ok (.istore_n 1, 1) := by decide +kernel
theorem dX12_labelProgram_2 : decode cX12_labelProgram 2 = .ok (.iload_n 1, 1) := by decide +kernel
theorem dX12_labelProgram_3 : decode cX12_labelProgram 3 = .ok (.bipush 8, 2) := by decide +kernel
theorem dX12_labelProgram_5 : decode cX12_labelProgram 5 = .ok (.aload_n 0, 1) := by decide +kernel
theorem dX12_labelProgram_6 : decode cX12_labelProgram 6 = .ok (.getfield 171, 3) := by decide +kernel
theorem dX12_labelProgram_9 : decode cX12_labelProgram 9 = .ok (.imul, 1) := by decide +kernel
theorem dX12_labelProgram_10 : decode cX12_labelProgram 10 = .ok (.if_icmp .ge 29, 3) := by decide +kernel
theorem dX12_labelProgram_13 : decode cX12_labelProgram 13 = .ok (.aload_n 0, 1) := by decide +kernel
theorem dX12_labelProgram_14 : decode cX12_labelProgram 14 = .ok (.getfield 73, 3) := by decide +kernel
theorem dX12_labelProgram_17 : decode cX12_labelProgram 17 = .ok (.iload_n 1, 1) := by decide +kernel
theorem dX12_labelProgram_18 : decode cX12_labelProgram 18 = .ok (.aload_n 0, 1) := by decide +kernel
theorem dX12_labelProgram_19 : decode cX12_labelProgram 19 = .ok (.getfield 142, 3) := by decide +kernel
theorem dX12_labelProgram_22 : decode cX12_labelProgram 22 = .ok (.iastore, 1) := by decide +kernel
theorem dX12_labelProgram_23 : decode cX12_labelProgram 23 = .ok (.aload_n 0, 1) := by decide +kernel
theorem dX12_labelProgram_24 : decode cX12_labelProgram 24 = .ok (.getfield 76, 3) := by decide +kernel
theorem dX12_labelProgram_27 : decode cX12_labelProgram 27 = .ok (.iload_n 1, 1) := by decide +kernel
theorem dX12_labelProgram_28 : decode cX12_labelProgram 28 = .ok (.aload_n 0, 1) := by decide +kernel
theorem dX12_labelProgram_29 : decode cX12_labelProgram 29 = .ok (.getfield 142, 3) := by decide +kernel
theorem dX12_labelProgram_32 : decode cX12_labelProgram 32 = .ok (.iastore, 1) := by decide +kernel
theorem dX12_labelProgram_33 : decode cX12_labelProgram 33 = .ok (.iinc 1 1, 3) := by decide +kernel
theorem dX12_labelProgram_36 : decode cX12_labelProgram 36 = .ok (.goto (-34), 3) := by decide +kernel
theorem dX12_labelProgram_39 : decode cX12_labelProgram 39 = .ok (.iconst 0, 1) := by decide +kernel
theorem dX12_labelProgram_40 : decode cX12_labelProgram 40 = .ok (.istore_n 1, 1) := by decide +kernel
theorem dX12_labelProgram_41 : decode cX12_labelProgram 41 = .ok (.iload_n 1, 1) := by decide +kernel
theorem dX12_labelProgram_42 : decode cX12_labelProgram 42 = .ok (.aload_n 0, 1) := by decide +kernel
theorem dX12_labelProgram_43 : decode cX12_labelProgram 43 = .ok (.getfield 171, 3) := by decide +kernel
theorem dX12_labelProgram_46 : decode cX12_labelProgram 46 = .ok (.if_icmp .ge 19, 3) := by decide +kernel
theorem dX12_labelProgram_49 : decode cX12_labelProgram 49 = .ok (.aload_n 0, 1) := by decide +kernel
theorem dX12_labelProgram_50 : decode cX12_labelProgram 50 = .ok (.getfield 79, 3) := by decide +kernel
theorem dX12_labelProgram_53 : decode cX12_labelProgram 53 = .ok (.iload_n 1, 1) := by decide +kernel
theorem dX12_labelProgram_54 : decode cX12_labelProgram 54 = .ok (.aload_n 0, 1) := by decide +kernel
theorem dX12_labelProgram_55 : decode cX12_labelProgram 55 = .ok (.getfield 142, 3) := by decide +kernel
theorem dX12_labelProgram_58 : decode cX12_labelProgram 58 = .ok (.iastore, 1) := by decide +kernel
theorem dX12_labelProgram_59 : decode cX12_labelProgram 59 = .ok (.iinc 1 1, 3) := by decide +kernel
theorem dX12_labelProgram_62 : decode cX12_labelProgram 62 = .ok (.goto (-21), 3) := by decide +kernel
theorem dX12_labelProgram_65 : decode cX12_labelProgram 65 = .ok (.aload_n 0, 1) := by decide +kernel
theorem dX12_labelProgram_66 : decode cX12_labelProgram 66 = .ok (.iconst 1, 1) := by decide +kernel
theorem dX12_labelProgram_67 : decode cX12_labelProgram 67 = .ok (.putfield 207, 3) := by decide +kernel
theorem dX12_labelProgram_70 : decode cX12_labelProgram 70 = .ok (.iconst 0, 1) := by decide +kernel
theorem dX12_labelProgram_71 : decode cX12_labelProgram 71 = .ok (.istore_n 1, 1) := by decide +kernel
theorem dX12_labelProgram_72 : decode cX12_labelProgram 72 = .ok (.iload_n 1, 1) := by decide +kernel
theorem dX12_labelProgram_73 : decode cX12_labelProgram 73 = .ok (.sipush 10000, 3) := by decide +kernel
theorem dX12_labelProgram_76 : decode cX12_labelProgram 76 = .ok (.if_icmp .ge 88, 3) := by decide +kernel
theorem dX12_labelProgram_79 : decode cX12_labelProgram 79 = .ok (.aload_n 0, 1) := by decide +kernel
theorem dX12_labelProgram_80 : decode cX12_labelProgram 80 = .ok (.getfield 207, 3) := by decide +kernel
theorem dX12_labelProgram_83 : decode cX12_labelProgram 83 = .ok (.ifCond .eq 81, 3) := by decide +kernel
theorem dX12_labelProgram_86 : decode cX12_labelProgram 86 = .ok (.aload_n 0, 1) := by decide +kernel
theorem dX12_labelProgram_87 : decode cX12_labelProgram 87 = .ok (.iconst 0, 1) := by decide +kernel
theorem dX12_labelProgram_88 : decode cX12_labelProgram 88 = .ok (.putfield 207, 3) := by decide +kernel
theorem dX12_labelProgram_91 : decode cX12_labelProgram 91 = .ok (.iconst 0, 1) := by decide +kernel
theorem dX12_labelProgram_92 : decode cX12_labelProgram 92 = .ok (.istore_n 2, 1) := by decide +kernel
theorem dX12_labelProgram_93 : decode cX12_labelProgram 93 = .ok (.iload_n 2, 1) := by decide +kernel
theorem dX12_labelProgram_94 : decode cX12_labelProgram 94 = .ok (.bipush 8, 2) := by decide +kernel
theorem dX12_labelProgram_96 : decode cX12_labelProgram 96 = .ok (.if_icmp .ge 21, 3) := by decide +kernel
theorem dX12_labelProgram_99 : decode cX12_labelProgram 99 = .ok (.aload_n 0, 1) := by decide +kernel
theorem dX12_labelProgram_100 : decode cX12_labelProgram 100 = .ok (.getfield 82, 3) := by decide +kernel
theorem dX12_labelProgram_103 : decode cX12_labelProgram 103 = .ok (.iload_n 2, 1) := by decide +kernel
theorem dX12_labelProgram_104 : decode cX12_labelProgram 104 = .ok (.aload_n 0, 1) := by decide +kernel
theorem dX12_labelProgram_105 : decode cX12_labelProgram 105 = .ok (.getfield 21, 3) := by decide +kernel
theorem dX12_labelProgram_108 : decode cX12_labelProgram 108 = .ok (.iload_n 2, 1) := by decide +kernel
theorem dX12_labelProgram_109 : decode cX12_labelProgram 109 = .ok (.iaload, 1) := by decide +kernel
theorem dX12_labelProgram_110 : decode cX12_labelProgram 110 = .ok (.iastore, 1) := by decide +kernel
theorem dX12_labelProgram_111 : decode cX12_labelProgram 111 = .ok (.iinc 2 1, 3) := by decide +kernel
theorem dX12_labelProgram_114 : decode cX12_labelProgram 114 = .ok (.goto (-21), 3) := by decide +kernel
theorem dX12_labelProgram_117 : decode cX12_labelProgram 117 = .ok (.aload_n 0, 1) := by decide +kernel
theorem dX12_labelProgram_118 : decode cX12_labelProgram 118 = .ok (.iconst 0, 1) := by decide +kernel
theorem dX12_labelProgram_119 : decode cX12_labelProgram 119 = .ok (.aload_n 0, 1) := by decide +kernel
theorem dX12_labelProgram_120 : decode cX12_labelProgram 120 = .ok (.getfield 142, 3) := by decide +kernel
theorem dX12_labelProgram_123 : decode cX12_labelProgram 123 = .ok (.invokevirtual 222, 3) := by decide +kernel
theorem dX12_labelProgram_126 : decode cX12_labelProgram 126 = .ok (.iconst 0, 1) := by decide +kernel
theorem dX12_labelProgram_127 : decode cX12_labelProgram 127 = .ok (.istore_n 2, 1) := by decide +kernel
theorem dX12_labelProgram_128 : decode cX12_labelProgram 128 = .ok (.iload_n 2, 1) := by decide +kernel
theorem dX12_labelProgram_129 : decode cX12_labelProgram 129 = .ok (.aload_n 0, 1) := by decide +kernel
theorem dX12_labelProgram_130 : decode cX12_labelProgram 130 = .ok (.getfield 171, 3) := by decide +kernel
theorem dX12_labelProgram_133 : decode cX12_labelProgram 133 = .ok (.if_icmp .ge 25, 3) := by decide +kernel
theorem dX12_labelProgram_136 : decode cX12_labelProgram 136 = .ok (.aload_n 0, 1) := by decide +kernel
theorem dX12_labelProgram_137 : decode cX12_labelProgram 137 = .ok (.getfield 43, 3) := by decide +kernel
theorem dX12_labelProgram_140 : decode cX12_labelProgram 140 = .ok (.iload_n 2, 1) := by decide +kernel
theorem dX12_labelProgram_141 : decode cX12_labelProgram 141 = .ok (.iaload, 1) := by decide +kernel
theorem dX12_labelProgram_142 : decode cX12_labelProgram 142 = .ok (.bipush 6, 2) := by decide +kernel
theorem dX12_labelProgram_144 : decode cX12_labelProgram 144 = .ok (.if_icmp .ne 8, 3) := by decide +kernel
theorem dX12_labelProgram_147 : decode cX12_labelProgram 147 = .ok (.aload_n 0, 1) := by decide +kernel
theorem dX12_labelProgram_148 : decode cX12_labelProgram 148 = .ok (.iload_n 2, 1) := by decide +kernel
theorem dX12_labelProgram_149 : decode cX12_labelProgram 149 = .ok (.invokevirtual 232, 3) := by decide +kernel
theorem dX12_labelProgram_152 : decode cX12_labelProgram 152 = .ok (.iinc 2 1, 3) := by decide +kernel
theorem dX12_labelProgram_155 : decode cX12_labelProgram 155 = .ok (.goto (-27), 3) := by decide +kernel
theorem dX12_labelProgram_158 : decode cX12_labelProgram 158 = .ok (.iinc 1 1, 3) := by decide +kernel
theorem dX12_labelProgram_161 : decode cX12_labelProgram 161 = .ok (.goto (-89), 3) := by decide +kernel
theorem dX12_labelProgram_164 : decode cX12_labelProgram 164 = .ok (.return_, 1) := by decide +kernel
theorem dX12_compile_0 : decode cX12_compile 0 = .ok (.aload_n 0, 1) := by decide +kernel
theorem dX12_compile_1 : decode cX12_compile 1 = .ok (.invokevirtual 235, 3) := by decide +kernel
theorem dX12_compile_4 : decode cX12_compile 4 = .ok (.istore_n 1, 1) := by decide +kernel
theorem dX12_compile_5 : decode cX12_compile 5 = .ok (.aload_n 0, 1) := by decide +kernel
theorem dX12_compile_6 : decode cX12_compile 6 = .ok (.iconst 0, 1) := by decide +kernel
theorem dX12_compile_7 : decode cX12_compile 7 = .ok (.putfield 154, 3) := by decide +kernel
theorem dX12_compile_10 : decode cX12_compile 10 = .ok (.aload_n 0, 1) := by decide +kernel
theorem dX12_compile_11 : decode cX12_compile 11 = .ok (.iload_n 1, 1) := by decide +kernel
theorem dX12_compile_12 : decode cX12_compile 12 = .ok (.ifCond .eq 7, 3) := by decide +kernel
theorem dX12_compile_15 : decode cX12_compile 15 = .ok (.iconst (-1), 1) := by decide +kernel
theorem dX12_compile_16 : decode cX12_compile 16 = .ok (.goto 7, 3) := by decide +kernel
theorem dX12_compile_19 : decode cX12_compile 19 = .ok (.aload_n 0, 1) := by decide +kernel
theorem dX12_compile_20 : decode cX12_compile 20 = .ok (.getfield 157, 3) := by decide +kernel
theorem dX12_compile_23 : decode cX12_compile 23 = .ok (.putfield 40, 3) := by decide +kernel
theorem dX12_compile_26 : decode cX12_compile 26 = .ok (.aload_n 0, 1) := by decide +kernel
theorem dX12_compile_27 : decode cX12_compile 27 = .ok (.iload_n 1, 1) := by decide +kernel
theorem dX12_compile_28 : decode cX12_compile 28 = .ok (.ifCond .eq 7, 3) := by decide +kernel
theorem dX12_compile_31 : decode cX12_compile 31 = .ok (.iconst 0, 1) := by decide +kernel
theorem dX12_compile_32 : decode cX12_compile 32 = .ok (.goto 4, 3) := by decide +kernel
theorem dX12_compile_35 : decode cX12_compile 35 = .ok (.iconst 1, 1) := by decide +kernel
theorem dX12_compile_36 : decode cX12_compile 36 = .ok (.putfield 124, 3) := by decide +kernel
theorem dX12_compile_39 : decode cX12_compile 39 = .ok (.iload_n 1, 1) := by decide +kernel
theorem dX12_compile_40 : decode cX12_compile 40 = .ok (.ifCond .ne 5, 3) := by decide +kernel
theorem dX12_compile_43 : decode cX12_compile 43 = .ok (.iconst 0, 1) := by decide +kernel
theorem dX12_compile_44 : decode cX12_compile 44 = .ok (.ireturn, 1) := by decide +kernel
theorem dX12_compile_45 : decode cX12_compile 45 = .ok (.aload_n 0, 1) := by decide +kernel
theorem dX12_compile_46 : decode cX12_compile 46 = .ok (.invokevirtual 239, 3) := by decide +kernel
theorem dX12_compile_49 : decode cX12_compile 49 = .ok (.aload_n 0, 1) := by decide +kernel
theorem dX12_compile_50 : decode cX12_compile 50 = .ok (.invokevirtual 242, 3) := by decide +kernel
theorem dX12_compile_53 : decode cX12_compile 53 = .ok (.aload_n 0, 1) := by decide +kernel
theorem dX12_compile_54 : decode cX12_compile 54 = .ok (.invokevirtual 245, 3) := by decide +kernel
theorem dX12_compile_57 : decode cX12_compile 57 = .ok (.aload_n 0, 1) := by decide +kernel
theorem dX12_compile_58 : decode cX12_compile 58 = .ok (.iconst 1, 1) := by decide +kernel
theorem dX12_compile_59 : decode cX12_compile 59 = .ok (.putfield 248, 3) := by decide +kernel
theorem dX12_compile_62 : decode cX12_compile 62 = .ok (.iconst 1, 1) := by decide +kernel
theorem dX12_compile_63 : decode cX12_compile 63 = .ok (.istore_n 2, 1) := by decide +kernel
theorem dX12_compile_64 : decode cX12_compile 64 = .ok (.iconst 0, 1) := by decide +kernel
theorem dX12_compile_65 : decode cX12_compile 65 = .ok (.istore_n 3, 1) := by decide +kernel
theorem dX12_compile_66 : decode cX12_compile 66 = .ok (.iload_n 3, 1) := by decide +kernel
theorem dX12_compile_67 : decode cX12_compile 67 = .ok (.bipush 8, 2) := by decide +kernel
theorem dX12_compile_69 : decode cX12_compile 69 = .ok (.if_icmp .ge 55, 3) := by decide +kernel
theorem dX12_compile_72 : decode cX12_compile 72 = .ok (.aload_n 0, 1) := by decide +kernel
theorem dX12_compile_73 : decode cX12_compile 73 = .ok (.getfield 91, 3) := by decide +kernel
theorem dX12_compile_76 : decode cX12_compile 76 = .ok (.iload_n 3, 1) := by decide +kernel
theorem dX12_compile_77 : decode cX12_compile 77 = .ok (.aload_n 0, 1) := by decide +kernel
theorem dX12_compile_78 : decode cX12_compile 78 = .ok (.getfield 76, 3) := by decide +kernel
theorem dX12_compile_81 : decode cX12_compile 81 = .ok (.iload_n 3, 1) := by decide +kernel
theorem dX12_compile_82 : decode cX12_compile 82 = .ok (.iaload, 1) := by decide +kernel
theorem dX12_compile_83 : decode cX12_compile 83 = .ok (.iastore, 1) := by decide +kernel
theorem dX12_compile_84 : decode cX12_compile 84 = .ok (.iload_n 2, 1) := by decide +kernel
theorem dX12_compile_85 : decode cX12_compile 85 = .ok (.ifCond .eq 31, 3) := by decide +kernel
theorem dX12_compile_88 : decode cX12_compile 88 = .ok (.aload_n 0, 1) := by decide +kernel
theorem dX12_compile_89 : decode cX12_compile 89 = .ok (.getfield 13, 3) := by decide +kernel
theorem dX12_compile_92 : decode cX12_compile 92 = .ok (.bipush 6, 2) := by decide +kernel
theorem dX12_compile_94 : decode cX12_compile 94 = .ok (.aload_n 0, 1) := by decide +kernel
theorem dX12_compile_95 : decode cX12_compile 95 = .ok (.getfield 91, 3) := by decide +kernel
theorem dX12_compile_98 : decode cX12_compile 98 = .ok (.iload_n 3, 1) := by decide +kernel
theorem dX12_compile_99 : decode cX12_compile 99 = .ok (.iaload, 1) := by decide +kernel
theorem dX12_compile_100 : decode cX12_compile 100 = .ok (.imul, 1) := by decide +kernel
theorem dX12_compile_101 : decode cX12_compile 101 = .ok (.aload_n 0, 1) := by decide +kernel
theorem dX12_compile_102 : decode cX12_compile 102 = .ok (.getfield 24, 3) := by decide +kernel
theorem dX12_compile_105 : decode cX12_compile 105 = .ok (.iload_n 3, 1) := by decide +kernel
theorem dX12_compile_106 : decode cX12_compile 106 = .ok (.iaload, 1) := by decide +kernel
theorem dX12_compile_107 : decode cX12_compile 107 = .ok (.iadd, 1) := by decide +kernel
theorem dX12_compile_108 : decode cX12_compile 108 = .ok (.baload, 1) := by decide +kernel
theorem dX12_compile_109 : decode cX12_compile 109 = .ok (.ifCond .eq 7, 3) := by decide +kernel
theorem dX12_compile_112 : decode cX12_compile 112 = .ok (.iconst 1, 1) := by decide +kernel
theorem dX12_compile_113 : decode cX12_compile 113 = .ok (.goto 4, 3) := by decide +kernel
theorem dX12_compile_116 : decode cX12_compile 116 = .ok (.iconst 0, 1) := by decide +kernel
theorem dX12_compile_117 : decode cX12_compile 117 = .ok (.istore_n 2, 1) := by decide +kernel
theorem dX12_compile_118 : decode cX12_compile 118 = .ok (.iinc 3 1, 3) := by decide +kernel
theorem dX12_compile_121 : decode cX12_compile 121 = .ok (.goto (-55), 3) := by decide +kernel
theorem dX12_compile_124 : decode cX12_compile 124 = .ok (.aload_n 0, 1) := by decide +kernel
theorem dX12_compile_125 : decode cX12_compile 125 = .ok (.iload_n 2, 1) := by decide +kernel
theorem dX12_compile_126 : decode cX12_compile 126 = .ok (.ifCond .eq 7, 3) := by decide +kernel
theorem dX12_compile_129 : decode cX12_compile 129 = .ok (.iconst 0, 1) := by decide +kernel
theorem dX12_compile_130 : decode cX12_compile 130 = .ok (.goto 4, 3) := by decide +kernel
theorem dX12_compile_133 : decode cX12_compile 133 = .ok (.iconst 2, 1) := by decide +kernel
theorem dX12_compile_134 : decode cX12_compile 134 = .ok (.putfield 124, 3) := by decide +kernel
theorem dX12_compile_137 : decode cX12_compile 137 = .ok (.iload_n 2, 1) := by decide +kernel
theorem dX12_compile_138 : decode cX12_compile 138 = .ok (.ifCond .ne 5, 3) := by decide +kernel
theorem dX12_compile_141 : decode cX12_compile 141 = .ok (.iconst 0, 1) := by decide +kernel
theorem dX12_compile_142 : decode cX12_compile 142 = .ok (.ireturn, 1) := by decide +kernel
theorem dX12_compile_143 : decode cX12_compile 143 = .ok (.aload_n 0, 1) := by decide +kernel
theorem dX12_compile_144 : decode cX12_compile 144 = .ok (.aload_n 0, 1) := by decide +kernel
theorem dX12_compile_145 : decode cX12_compile 145 = .ok (.getfield 200, 3) := by decide +kernel
theorem dX12_compile_148 : decode cX12_compile 148 = .ok (.putfield 251, 3) := by decide +kernel
theorem dX12_compile_151 : decode cX12_compile 151 = .ok (.iconst 0, 1) := by decide +kernel
theorem dX12_compile_152 : decode cX12_compile 152 = .ok (.istore_n 3, 1) := by decide +kernel
theorem dX12_compile_153 : decode cX12_compile 153 = .ok (.iload_n 3, 1) := by decide +kernel
theorem dX12_compile_154 : decode cX12_compile 154 = .ok (.aload_n 0, 1) := by decide +kernel
theorem dX12_compile_155 : decode cX12_compile 155 = .ok (.getfield 251, 3) := by decide +kernel
theorem dX12_compile_158 : decode cX12_compile 158 = .ok (.if_icmp .ge 33, 3) := by decide +kernel
theorem dX12_compile_161 : decode cX12_compile 161 = .ok (.aload_n 0, 1) := by decide +kernel
theorem dX12_compile_162 : decode cX12_compile 162 = .ok (.getfield 94, 3) := by decide +kernel
theorem dX12_compile_165 : decode cX12_compile 165 = .ok (.iload_n 3, 1) := by decide +kernel
theorem dX12_compile_166 : decode cX12_compile 166 = .ok (.aload_n 0, 1) := by decide +kernel
theorem dX12_compile_167 : decode cX12_compile 167 = .ok (.getfield 85, 3) := by decide +kernel
theorem dX12_compile_170 : decode cX12_compile 170 = .ok (.iload_n 3, 1) := by decide +kernel
theorem dX12_compile_171 : decode cX12_compile 171 = .ok (.iaload, 1) := by decide +kernel
theorem dX12_compile_172 : decode cX12_compile 172 = .ok (.iastore, 1) := by decide +kernel
theorem dX12_compile_173 : decode cX12_compile 173 = .ok (.aload_n 0, 1) := by decide +kernel
theorem dX12_compile_174 : decode cX12_compile 174 = .ok (.getfield 97, 3) := by decide +kernel
theorem dX12_compile_177 : decode cX12_compile 177 = .ok (.iload_n 3, 1) := by decide +kernel
theorem dX12_compile_178 : decode cX12_compile 178 = .ok (.aload_n 0, 1) := by decide +kernel
theorem dX12_compile_179 : decode cX12_compile 179 = .ok (.getfield 88, 3) := by decide +kernel
theorem dX12_compile_182 : decode cX12_compile 182 = .ok (.iload_n 3, 1) := by decide +kernel
theorem dX12_compile_183 : decode cX12_compile 183 = .ok (.iaload, 1) := by decide +kernel
theorem dX12_compile_184 : decode cX12_compile 184 = .ok (.iastore, 1) := by decide +kernel
theorem dX12_compile_185 : decode cX12_compile 185 = .ok (.iinc 3 1, 3) := by decide +kernel
theorem dX12_compile_188 : decode cX12_compile 188 = .ok (.goto (-35), 3) := by decide +kernel
theorem dX12_compile_191 : decode cX12_compile 191 = .ok (.aload_n 0, 1) := by decide +kernel
theorem dX12_compile_192 : decode cX12_compile 192 = .ok (.iconst 1, 1) := by decide +kernel
theorem dX12_compile_193 : decode cX12_compile 193 = .ok (.putfield 254, 3) := by decide +kernel
theorem dX12_compile_196 : decode cX12_compile 196 = .ok (.aload_n 0, 1) := by decide +kernel
theorem dX12_compile_197 : decode cX12_compile 197 = .ok (.iconst 0, 1) := by decide +kernel
theorem dX12_compile_198 : decode cX12_compile 198 = .ok (.putfield 257, 3) := by decide +kernel
theorem dX12_compile_201 : decode cX12_compile 201 = .ok (.aload_n 0, 1) := by decide +kernel
theorem dX12_compile_202 : decode cX12_compile 202 = .ok (.getfield 251, 3) := by decide +kernel
theorem dX12_compile_205 : decode cX12_compile 205 = .ok (.ireturn, 1) := by decide +kernel
theorem dX12_position_0 : decode cX12_position 0 = .ok (.aload_n 0, 1) := by decide +kernel
theorem dX12_position_1 : decode cX12_position 1 = .ok (.iconst 0, 1) := by decide +kernel
theorem dX12_position_2 : decode cX12_position 2 = .ok (.putfield 124, 3) := by decide +kernel
theorem dX12_position_5 : decode cX12_position 5 = .ok (.aload_n 0, 1) := by decide +kernel
theorem dX12_position_6 : decode cX12_position 6 = .ok (.getfield 40, 3) := by decide +kernel
theorem dX12_position_9 : decode cX12_position 9 = .ok (.ireturn, 1) := by decide +kernel
theorem dX12_exit_0 : decode cX12_exit 0 = .ok (.aload_n 0, 1) := by decide +kernel
theorem dX12_exit_1 : decode cX12_exit 1 = .ok (.iconst 0, 1) := by decide +kernel
theorem dX12_exit_2 : decode cX12_exit 2 = .ok (.putfield 124, 3) := by decide +kernel
theorem dX12_exit_5 : decode cX12_exit 5 = .ok (.aload_n 0, 1) := by decide +kernel
theorem dX12_exit_6 : decode cX12_exit 6 = .ok (.getfield 248, 3) := by decide +kernel
theorem dX12_exit_9 : decode cX12_exit 9 = .ok (.ifCond .eq 22, 3) := by decide +kernel
theorem dX12_exit_12 : decode cX12_exit 12 = .ok (.iload_n 1, 1) := by decide +kernel
theorem dX12_exit_13 : decode cX12_exit 13 = .ok (.ifCond .lt 18, 3) := by decide +kernel
theorem dX12_exit_16 : decode cX12_exit 16 = .ok (.iload_n 1, 1) := by decide +kernel
theorem dX12_exit_17 : decode cX12_exit 17 = .ok (.bipush 8, 2) := by decide +kernel
theorem dX12_exit_19 : decode cX12_exit 19 = .ok (.if_icmp .ge 12, 3) := by decide +kernel
theorem dX12_exit_22 : decode cX12_exit 22 = .ok (.aload_n 0, 1) := by decide +kernel
theorem dX12_exit_23 : decode cX12_exit 23 = .ok (.getfield 91, 3) := by decide +kernel
theorem dX12_exit_26 : decode cX12_exit 26 = .ok (.iload_n 1, 1) := by decide +kernel
theorem dX12_exit_27 : decode cX12_exit 27 = .ok (.iaload, 1) := by decide +kernel
theorem dX12_exit_28 : decode cX12_exit 28 = .ok (.goto 4, 3) := by decide +kernel
theorem dX12_exit_31 : decode cX12_exit 31 = .ok (.iconst (-1), 1) := by decide +kernel
theorem dX12_exit_32 : decode cX12_exit 32 = .ok (.ireturn, 1) := by decide +kernel
theorem dX12_code_0 : decode cX12_code 0 = .ok (.aload_n 0, 1) := by decide +kernel
theorem dX12_code_1 : decode cX12_code 1 = .ok (.iconst 0, 1) := by decide +kernel
theorem dX12_code_2 : decode cX12_code 2 = .ok (.putfield 124, 3) := by decide +kernel
theorem dX12_code_5 : decode cX12_code 5 = .ok (.iload_n 1, 1) := by decide +kernel
theorem dX12_code_6 : decode cX12_code 6 = .ok (.iconst (-1), 1) := by decide +kernel
theorem dX12_code_7 : decode cX12_code 7 = .ok (.if_icmp .ne 8, 3) := by decide +kernel
theorem dX12_code_10 : decode cX12_code 10 = .ok (.aload_n 0, 1) := by decide +kernel
theorem dX12_code_11 : decode cX12_code 11 = .ok (.getfield 251, 3) := by decide +kernel
theorem dX12_code_14 : decode cX12_code 14 = .ok (.ireturn, 1) := by decide +kernel
theorem dX12_code_15 : decode cX12_code 15 = .ok (.iload_n 1, 1) := by decide +kernel
theorem dX12_code_16 : decode cX12_code 16 = .ok (.ifCond .lt 20, 3) := by decide +kernel
theorem dX12_code_19 : decode cX12_code 19 = .ok (.iload_n 1, 1) := by decide +kernel
theorem dX12_code_20 : decode cX12_code 20 = .ok (.aload_n 0, 1) := by decide +kernel
theorem dX12_code_21 : decode cX12_code 21 = .ok (.getfield 251, 3) := by decide +kernel
theorem dX12_code_24 : decode cX12_code 24 = .ok (.if_icmp .ge 12, 3) := by decide +kernel
theorem dX12_code_27 : decode cX12_code 27 = .ok (.iload_n 2, 1) := by decide +kernel
theorem dX12_code_28 : decode cX12_code 28 = .ok (.ifCond .lt 8, 3) := by decide +kernel
theorem dX12_code_31 : decode cX12_code 31 = .ok (.iload_n 2, 1) := by decide +kernel
theorem dX12_code_32 : decode cX12_code 32 = .ok (.iconst 1, 1) := by decide +kernel
theorem dX12_code_33 : decode cX12_code 33 = .ok (.if_icmp .le 5, 3) := by decide +kernel
theorem dX12_code_36 : decode cX12_code 36 = .ok (.iconst (-1), 1) := by decide +kernel
theorem dX12_code_37 : decode cX12_code 37 = .ok (.ireturn, 1) := by decide +kernel
theorem dX12_code_38 : decode cX12_code 38 = .ok (.iload_n 2, 1) := by decide +kernel
theorem dX12_code_39 : decode cX12_code 39 = .ok (.ifCond .ne 12, 3) := by decide +kernel
theorem dX12_code_42 : decode cX12_code 42 = .ok (.aload_n 0, 1) := by decide +kernel
theorem dX12_code_43 : decode cX12_code 43 = .ok (.getfield 94, 3) := by decide +kernel
theorem dX12_code_46 : decode cX12_code 46 = .ok (.iload_n 1, 1) := by decide +kernel
theorem dX12_code_47 : decode cX12_code 47 = .ok (.iaload, 1) := by decide +kernel
theorem dX12_code_48 : decode cX12_code 48 = .ok (.goto 9, 3) := by decide +kernel
theorem dX12_code_51 : decode cX12_code 51 = .ok (.aload_n 0, 1) := by decide +kernel
theorem dX12_code_52 : decode cX12_code 52 = .ok (.getfield 97, 3) := by decide +kernel
theorem dX12_code_55 : decode cX12_code 55 = .ok (.iload_n 1, 1) := by decide +kernel
theorem dX12_code_56 : decode cX12_code 56 = .ok (.iaload, 1) := by decide +kernel
theorem dX12_code_57 : decode cX12_code 57 = .ok (.ireturn, 1) := by decide +kernel
theorem dX12_empty_0 : decode cX12_empty 0 = .ok (.aload_n 0, 1) := by decide +kernel
theorem dX12_empty_1 : decode cX12_empty 1 = .ok (.iconst 0, 1) := by decide +kernel
theorem dX12_empty_2 : decode cX12_empty 2 = .ok (.putfield 124, 3) := by decide +kernel
theorem dX12_empty_5 : decode cX12_empty 5 = .ok (.aload_n 0, 1) := by decide +kernel
theorem dX12_empty_6 : decode cX12_empty 6 = .ok (.iconst 0, 1) := by decide +kernel
theorem dX12_empty_7 : decode cX12_empty 7 = .ok (.putfield 251, 3) := by decide +kernel
theorem dX12_empty_10 : decode cX12_empty 10 = .ok (.aload_n 0, 1) := by decide +kernel
theorem dX12_empty_11 : decode cX12_empty 11 = .ok (.iconst 0, 1) := by decide +kernel
theorem dX12_empty_12 : decode cX12_empty 12 = .ok (.putfield 254, 3) := by decide +kernel
theorem dX12_empty_15 : decode cX12_empty 15 = .ok (.aload_n 0, 1) := by decide +kernel
theorem dX12_empty_16 : decode cX12_empty 16 = .ok (.iconst 0, 1) := by decide +kernel
theorem dX12_empty_17 : decode cX12_empty 17 = .ok (.putfield 257, 3) := by decide +kernel
theorem dX12_empty_20 : decode cX12_empty 20 = .ok (.return_, 1) := by decide +kernel
theorem dX12_put_0 : decode cX12_put 0 = .ok (.aload_n 0, 1) := by decide +kernel
theorem dX12_put_1 : decode cX12_put 1 = .ok (.iconst 0, 1) := by decide +kernel
theorem dX12_put_2 : decode cX12_put 2 = .ok (.putfield 124, 3) := by decide +kernel
theorem dX12_put_5 : decode cX12_put 5 = .ok (.aload_n 0, 1) := by decide +kernel
theorem dX12_put_6 : decode cX12_put 6 = .ok (.getfield 251, 3) := by decide +kernel
theorem dX12_put_9 : decode cX12_put 9 = .ok (.bipush 100, 2) := by decide +kernel
theorem dX12_put_11 : decode cX12_put 11 = .ok (.if_icmp .ne 5, 3) := by decide +kernel
theorem dX12_put_14 : decode cX12_put 14 = .ok (.iconst 0, 1) := by decide +kernel
theorem dX12_put_15 : decode cX12_put 15 = .ok (.ireturn, 1) := by decide +kernel
theorem dX12_put_16 : decode cX12_put 16 = .ok (.aload_n 0, 1) := by decide +kernel
theorem dX12_put_17 : decode cX12_put 17 = .ok (.getfield 94, 3) := by decide +kernel
theorem dX12_put_20 : decode cX12_put 20 = .ok (.aload_n 0, 1) := by decide +kernel
theorem dX12_put_21 : decode cX12_put 21 = .ok (.getfield 251, 3) := by decide +kernel
theorem dX12_put_24 : decode cX12_put 24 = .ok (.iload_n 1, 1) := by decide +kernel
theorem dX12_put_25 : decode cX12_put 25 = .ok (.iastore, 1) := by decide +kernel
theorem dX12_put_26 : decode cX12_put 26 = .ok (.aload_n 0, 1) := by decide +kernel
theorem dX12_put_27 : decode cX12_put 27 = .ok (.getfield 97, 3) := by decide +kernel
theorem dX12_put_30 : decode cX12_put 30 = .ok (.aload_n 0, 1) := by decide +kernel
theorem dX12_put_31 : decode cX12_put 31 = .ok (.getfield 251, 3) := by decide +kernel
theorem dX12_put_34 : decode cX12_put 34 = .ok (.iload_n 2, 1) := by decide +kernel
theorem dX12_put_35 : decode cX12_put 35 = .ok (.iastore, 1) := by decide +kernel
theorem dX12_put_36 : decode cX12_put 36 = .ok (.aload_n 0, 1) := by decide +kernel
theorem dX12_put_37 : decode cX12_put 37 = .ok (.dup, 1) := by decide +kernel
theorem dX12_put_38 : decode cX12_put 38 = .ok (.getfield 251, 3) := by decide +kernel
theorem dX12_put_41 : decode cX12_put 41 = .ok (.iconst 1, 1) := by decide +kernel
theorem dX12_put_42 : decode cX12_put 42 = .ok (.iadd, 1) := by decide +kernel
theorem dX12_put_43 : decode cX12_put 43 = .ok (.putfield 251, 3) := by decide +kernel
theorem dX12_put_46 : decode cX12_put 46 = .ok (.aload_n 0, 1) := by decide +kernel
theorem dX12_put_47 : decode cX12_put 47 = .ok (.iconst 0, 1) := by decide +kernel
theorem dX12_put_48 : decode cX12_put 48 = .ok (.putfield 254, 3) := by decide +kernel
theorem dX12_put_51 : decode cX12_put 51 = .ok (.aload_n 0, 1) := by decide +kernel
theorem dX12_put_52 : decode cX12_put 52 = .ok (.iconst 0, 1) := by decide +kernel
theorem dX12_put_53 : decode cX12_put 53 = .ok (.putfield 257, 3) := by decide +kernel
theorem dX12_put_56 : decode cX12_put 56 = .ok (.iconst 1, 1) := by decide +kernel
theorem dX12_put_57 : decode cX12_put 57 = .ok (.ireturn, 1) := by decide +kernel
theorem dX12_plain_0 : decode cX12_plain 0 = .ok (.aload_n 0, 1) := by decide +kernel
theorem dX12_plain_1 : decode cX12_plain 1 = .ok (.getfield 251, 3) := by decide +kernel
theorem dX12_plain_4 : decode cX12_plain 4 = .ok (.ifCond .le 7, 3) := by decide +kernel
theorem dX12_plain_7 : decode cX12_plain 7 = .ok (.iconst 1, 1) := by decide +kernel
theorem dX12_plain_8 : decode cX12_plain 8 = .ok (.goto 4, 3) := by decide +kernel
theorem dX12_plain_11 : decode cX12_plain 11 = .ok (.iconst 0, 1) := by decide +kernel
theorem dX12_plain_12 : decode cX12_plain 12 = .ok (.istore_n 1, 1) := by decide +kernel
theorem dX12_plain_13 : decode cX12_plain 13 = .ok (.iconst 0, 1) := by decide +kernel
theorem dX12_plain_14 : decode cX12_plain 14 = .ok (.istore_n 2, 1) := by decide +kernel
theorem dX12_plain_15 : decode cX12_plain 15 = .ok (.iload_n 2, 1) := by decide +kernel
theorem dX12_plain_16 : decode cX12_plain 16 = .ok (.aload_n 0, 1) := by decide +kernel
theorem dX12_plain_17 : decode cX12_plain 17 = .ok (.getfield 251, 3) := by decide +kernel
theorem dX12_plain_20 : decode cX12_plain 20 = .ok (.if_icmp .ge 92, 3) := by decide +kernel
theorem dX12_plain_23 : decode cX12_plain 23 = .ok (.aload_n 0, 1) := by decide +kernel
theorem dX12_plain_24 : decode cX12_plain 24 = .ok (.getfield 94, 3) := by decide +kernel
theorem dX12_plain_27 : decode cX12_plain 27 = .ok (.iload_n 2, 1) := by decide +kernel
theorem dX12_plain_28 : decode cX12_plain 28 = .ok (.iaload, 1) := by decide +kernel
theorem dX12_plain_29 : decode cX12_plain 29 = .ok (.istore_n 3, 1) := by decide +kernel
theorem dX12_plain_30 : decode cX12_plain 30 = .ok (.aload_n 0, 1) := by decide +kernel
theorem dX12_plain_31 : decode cX12_plain 31 = .ok (.getfield 97, 3) := by decide +kernel
theorem dX12_plain_34 : decode cX12_plain 34 = .ok (.iload_n 2, 1) := by decide +kernel
theorem dX12_plain_35 : decode cX12_plain 35 = .ok (.iaload, 1) := by decide +kernel
theorem dX12_plain_36 : decode cX12_plain 36 = .ok (.istore 4, 2) := by decide +kernel
theorem dX12_plain_38 : decode cX12_plain 38 = .ok (.iload_n 1, 1) := by decide +kernel
theorem dX12_plain_39 : decode cX12_plain 39 = .ok (.ifCond .eq 65, 3) := by decide +kernel
theorem dX12_plain_42 : decode cX12_plain 42 = .ok (.iload_n 3, 1) := by decide +kernel
theorem dX12_plain_43 : decode cX12_plain 43 = .ok (.ifCond .lt 61, 3) := by decide +kernel
theorem dX12_plain_46 : decode cX12_plain 46 = .ok (.iload_n 3, 1) := by decide +kernel
theorem dX12_plain_47 : decode cX12_plain 47 = .ok (.bipush 9, 2) := by decide +kernel
theorem dX12_plain_49 : decode cX12_plain 49 = .ok (.if_icmp .gt 55, 3) := by decide +kernel
theorem dX12_plain_52 : decode cX12_plain 52 = .ok (.iload_n 3, 1) := by decide +kernel
theorem dX12_plain_53 : decode cX12_plain 53 = .ok (.iconst 1, 1) := by decide +kernel
theorem dX12_plain_54 : decode cX12_plain 54 = .ok (.if_icmp .eq 8, 3) := by decide +kernel
theorem dX12_plain_57 : decode cX12_plain 57 = .ok (.iload_n 3, 1) := by decide +kernel
theorem dX12_plain_58 : decode cX12_plain 58 = .ok (.iconst 2, 1) := by decide +kernel
theorem dX12_plain_59 : decode cX12_plain 59 = .ok (.if_icmp .ne 15, 3) := by decide +kernel
theorem dX12_plain_62 : decode cX12_plain 62 = .ok (.iload 4, 2) := by decide +kernel
theorem dX12_plain_64 : decode cX12_plain 64 = .ok (.ifCond .lt 40, 3) := by decide +kernel
theorem dX12_plain_67 : decode cX12_plain 67 = .ok (.iload 4, 2) := by decide +kernel
theorem dX12_plain_69 : decode cX12_plain 69 = .ok (.bipush 8, 2) := by decide +kernel
theorem dX12_plain_71 : decode cX12_plain 71 = .ok (.if_icmp .ge 33, 3) := by decide +kernel
theorem dX12_plain_74 : decode cX12_plain 74 = .ok (.iload_n 3, 1) := by decide +kernel
theorem dX12_plain_75 : decode cX12_plain 75 = .ok (.bipush 7, 2) := by decide +kernel
theorem dX12_plain_77 : decode cX12_plain 77 = .ok (.if_icmp .eq 9, 3) := by decide +kernel
theorem dX12_plain_80 : decode cX12_plain 80 = .ok (.iload_n 3, 1) := by decide +kernel
theorem dX12_plain_81 : decode cX12_plain 81 = .ok (.bipush 8, 2) := by decide +kernel
theorem dX12_plain_83 : decode cX12_plain 83 = .ok (.if_icmp .ne 17, 3) := by decide +kernel
theorem dX12_plain_86 : decode cX12_plain 86 = .ok (.iload 4, 2) := by decide +kernel
theorem dX12_plain_88 : decode cX12_plain 88 = .ok (.ifCond .lt 16, 3) := by decide +kernel
theorem dX12_plain_91 : decode cX12_plain 91 = .ok (.iload 4, 2) := by decide +kernel
theorem dX12_plain_93 : decode cX12_plain 93 = .ok (.aload_n 0, 1) := by decide +kernel
theorem dX12_plain_94 : decode cX12_plain 94 = .ok (.getfield 251, 3) := by decide +kernel
theorem dX12_plain_97 : decode cX12_plain 97 = .ok (.if_icmp .ge 7, 3) := by decide +kernel
theorem dX12_plain_100 : decode cX12_plain 100 = .ok (.iconst 1, 1) := by decide +kernel
theorem dX12_plain_101 : decode cX12_plain 101 = .ok (.goto 4, 3) := by decide +kernel
theorem dX12_plain_104 : decode cX12_plain 104 = .ok (.iconst 0, 1) := by decide +kernel
theorem dX12_plain_105 : decode cX12_plain 105 = .ok (.istore_n 1, 1) := by decide +kernel
theorem dX12_plain_106 : decode cX12_plain 106 = .ok (.iinc 2 1, 3) := by decide +kernel
theorem dX12_plain_109 : decode cX12_plain 109 = .ok (.goto (-94), 3) := by decide +kernel
theorem dX12_plain_112 : decode cX12_plain 112 = .ok (.iload_n 1, 1) := by decide +kernel
theorem dX12_plain_113 : decode cX12_plain 113 = .ok (.ireturn, 1) := by decide +kernel
theorem dX12_takenBy_0 : decode cX12_takenBy 0 = .ok (.iload_n 0, 1) := by decide +kernel
theorem dX12_takenBy_1 : decode cX12_takenBy 1 = .ok (.iconst 2, 1) := by decide +kernel
theorem dX12_takenBy_2 : decode cX12_takenBy 2 = .ok (.if_icmp .eq 9, 3) := by decide +kernel
theorem dX12_takenBy_5 : decode cX12_takenBy 5 = .ok (.iload_n 0, 1) := by decide +kernel
theorem dX12_takenBy_6 : decode cX12_takenBy 6 = .ok (.bipush 7, 2) := by decide +kernel
theorem dX12_takenBy_8 : decode cX12_takenBy 8 = .ok (.if_icmp .ne 7, 3) := by decide +kernel
theorem dX12_takenBy_11 : decode cX12_takenBy 11 = .ok (.iconst 1, 1) := by decide +kernel
theorem dX12_takenBy_12 : decode cX12_takenBy 12 = .ok (.goto 19, 3) := by decide +kernel
theorem dX12_takenBy_15 : decode cX12_takenBy 15 = .ok (.iload_n 0, 1) := by decide +kernel
theorem dX12_takenBy_16 : decode cX12_takenBy 16 = .ok (.iconst 2, 1) := by decide +kernel
theorem dX12_takenBy_17 : decode cX12_takenBy 17 = .ok (.if_icmp .le 13, 3) := by decide +kernel
theorem dX12_takenBy_20 : decode cX12_takenBy 20 = .ok (.iload_n 0, 1) := by decide +kernel
theorem dX12_takenBy_21 : decode cX12_takenBy 21 = .ok (.bipush 7, 2) := by decide +kernel
theorem dX12_takenBy_23 : decode cX12_takenBy 23 = .ok (.if_icmp .ge 7, 3) := by decide +kernel
theorem dX12_takenBy_26 : decode cX12_takenBy 26 = .ok (.iconst 2, 1) := by decide +kernel
theorem dX12_takenBy_27 : decode cX12_takenBy 27 = .ok (.goto 4, 3) := by decide +kernel
theorem dX12_takenBy_30 : decode cX12_takenBy 30 = .ok (.iconst 0, 1) := by decide +kernel
theorem dX12_takenBy_31 : decode cX12_takenBy 31 = .ok (.ireturn, 1) := by decide +kernel
theorem dX12_givenBy_0 : decode cX12_givenBy 0 = .ok (.iload_n 0, 1) := by decide +kernel
theorem dX12_givenBy_1 : decode cX12_givenBy 1 = .ok (.iconst 2, 1) := by decide +kernel
theorem dX12_givenBy_2 : decode cX12_givenBy 2 = .ok (.if_icmp .lt 14, 3) := by decide +kernel
theorem dX12_givenBy_5 : decode cX12_givenBy 5 = .ok (.iload_n 0, 1) := by decide +kernel
theorem dX12_givenBy_6 : decode cX12_givenBy 6 = .ok (.iconst 2, 1) := by decide +kernel
theorem dX12_givenBy_7 : decode cX12_givenBy 7 = .ok (.if_icmp .le 13, 3) := by decide +kernel
theorem dX12_givenBy_10 : decode cX12_givenBy 10 = .ok (.iload_n 0, 1) := by decide +kernel
theorem dX12_givenBy_11 : decode cX12_givenBy 11 = .ok (.bipush 7, 2) := by decide +kernel
theorem dX12_givenBy_13 : decode cX12_givenBy 13 = .ok (.if_icmp .ge 7, 3) := by decide +kernel
theorem dX12_givenBy_16 : decode cX12_givenBy 16 = .ok (.iconst 1, 1) := by decide +kernel
theorem dX12_givenBy_17 : decode cX12_givenBy 17 = .ok (.goto 4, 3) := by decide +kernel
theorem dX12_givenBy_20 : decode cX12_givenBy 20 = .ok (.iconst 0, 1) := by decide +kernel
theorem dX12_givenBy_21 : decode cX12_givenBy 21 = .ok (.ireturn, 1) := by decide +kernel
theorem dX12_nextOf_0 : decode cX12_nextOf 0 = .ok (.aload_n 0, 1) := by decide +kernel
theorem dX12_nextOf_1 : decode cX12_nextOf 1 = .ok (.getfield 94, 3) := by decide +kernel
theorem dX12_nextOf_4 : decode cX12_nextOf 4 = .ok (.iload_n 1, 1) := by decide +kernel
theorem dX12_nextOf_5 : decode cX12_nextOf 5 = .ok (.iaload, 1) := by decide +kernel
theorem dX12_nextOf_6 : decode cX12_nextOf 6 = .ok (.istore_n 3, 1) := by decide +kernel
theorem dX12_nextOf_7 : decode cX12_nextOf 7 = .ok (.iload_n 2, 1) := by decide +kernel
theorem dX12_nextOf_8 : decode cX12_nextOf 8 = .ok (.ifCond .ne 32, 3) := by decide +kernel
theorem dX12_nextOf_11 : decode cX12_nextOf 11 = .ok (.iload_n 3, 1) := by decide +kernel
theorem dX12_nextOf_12 : decode cX12_nextOf 12 = .ok (.bipush 9, 2) := by decide +kernel
theorem dX12_nextOf_14 : decode cX12_nextOf 14 = .ok (.if_icmp .ne 7, 3) := by decide +kernel
theorem dX12_nextOf_17 : decode cX12_nextOf 17 = .ok (.iconst (-1), 1) := by decide +kernel
theorem dX12_nextOf_18 : decode cX12_nextOf 18 = .ok (.goto 21, 3) := by decide +kernel
theorem dX12_nextOf_21 : decode cX12_nextOf 21 = .ok (.iload_n 3, 1) := by decide +kernel
theorem dX12_nextOf_22 : decode cX12_nextOf 22 = .ok (.bipush 8, 2) := by decide +kernel
theorem dX12_nextOf_24 : decode cX12_nextOf 24 = .ok (.if_icmp .ne 12, 3) := by decide +kernel
theorem dX12_nextOf_27 : decode cX12_nextOf 27 = .ok (.aload_n 0, 1) := by decide +kernel
theorem dX12_nextOf_28 : decode cX12_nextOf 28 = .ok (.getfield 97, 3) := by decide +kernel
theorem dX12_nextOf_31 : decode cX12_nextOf 31 = .ok (.iload_n 1, 1) := by decide +kernel
theorem dX12_nextOf_32 : decode cX12_nextOf 32 = .ok (.iaload, 1) := by decide +kernel
theorem dX12_nextOf_33 : decode cX12_nextOf 33 = .ok (.goto 6, 3) := by decide +kernel
theorem dX12_nextOf_36 : decode cX12_nextOf 36 = .ok (.iload_n 1, 1) := by decide +kernel
theorem dX12_nextOf_37 : decode cX12_nextOf 37 = .ok (.iconst 1, 1) := by decide +kernel
theorem dX12_nextOf_38 : decode cX12_nextOf 38 = .ok (.iadd, 1) := by decide +kernel
theorem dX12_nextOf_39 : decode cX12_nextOf 39 = .ok (.ireturn, 1) := by decide +kernel
theorem dX12_nextOf_40 : decode cX12_nextOf 40 = .ok (.iload_n 3, 1) := by decide +kernel
theorem dX12_nextOf_41 : decode cX12_nextOf 41 = .ok (.bipush 7, 2) := by decide +kernel
theorem dX12_nextOf_43 : decode cX12_nextOf 43 = .ok (.if_icmp .ne 12, 3) := by decide +kernel
theorem dX12_nextOf_46 : decode cX12_nextOf 46 = .ok (.aload_n 0, 1) := by decide +kernel
theorem dX12_nextOf_47 : decode cX12_nextOf 47 = .ok (.getfield 97, 3) := by decide +kernel
theorem dX12_nextOf_50 : decode cX12_nextOf 50 = .ok (.iload_n 1, 1) := by decide +kernel
theorem dX12_nextOf_51 : decode cX12_nextOf 51 = .ok (.iaload, 1) := by decide +kernel
theorem dX12_nextOf_52 : decode cX12_nextOf 52 = .ok (.goto 4, 3) := by decide +kernel
theorem dX12_nextOf_55 : decode cX12_nextOf 55 = .ok (.iconst (-1), 1) := by decide +kernel
theorem dX12_nextOf_56 : decode cX12_nextOf 56 = .ok (.ireturn, 1) := by decide +kernel
theorem dX12_heights_0 : decode cX12_heights 0 = .ok (.iconst 0, 1) := by decide +kernel
theorem dX12_heights_1 : decode cX12_heights 1 = .ok (.istore_n 1, 1) := by decide +kernel
theorem dX12_heights_2 : decode cX12_heights 2 = .ok (.iload_n 1, 1) := by decide +kernel
theorem dX12_heights_3 : decode cX12_heights 3 = .ok (.aload_n 0, 1) := by decide +kernel
theorem dX12_heights_4 : decode cX12_heights 4 = .ok (.getfield 251, 3) := by decide +kernel
theorem dX12_heights_7 : decode cX12_heights 7 = .ok (.if_icmp .ge 16, 3) := by decide +kernel
theorem dX12_heights_10 : decode cX12_heights 10 = .ok (.aload_n 0, 1) := by decide +kernel
theorem dX12_heights_11 : decode cX12_heights 11 = .ok (.getfield 100, 3) := by decide +kernel
theorem dX12_heights_14 : decode cX12_heights 14 = .ok (.iload_n 1, 1) := by decide +kernel
theorem dX12_heights_15 : decode cX12_heights 15 = .ok (.iconst (-1), 1) := by decide +kernel
theorem dX12_heights_16 : decode cX12_heights 16 = .ok (.iastore, 1) := by decide +kernel
theorem dX12_heights_17 : decode cX12_heights 17 = .ok (.iinc 1 1, 3) := by decide +kernel
theorem dX12_heights_20 : decode cX12_heights 20 = .ok (.goto (-18), 3) := by decide +kernel
theorem dX12_heights_23 : decode cX12_heights 23 = .ok (.aload_n 0, 1) := by decide +kernel
theorem dX12_heights_24 : decode cX12_heights 24 = .ok (.getfield 100, 3) := by decide +kernel
theorem dX12_heights_27 : decode cX12_heights 27 = .ok (.iconst 0, 1) := by decide +kernel
theorem dX12_heights_28 : decode cX12_heights 28 = .ok (.iconst 0, 1) := by decide +kernel
theorem dX12_heights_29 : decode cX12_heights 29 = .ok (.iastore, 1) := by decide +kernel
theorem dX12_heights_30 : decode cX12_heights 30 = .ok (.aload_n 0, 1) := by decide +kernel
theorem dX12_heights_31 : decode cX12_heights 31 = .ok (.getfield 106, 3) := by decide +kernel
theorem dX12_heights_34 : decode cX12_heights 34 = .ok (.iconst 0, 1) := by decide +kernel
theorem dX12_heights_35 : decode cX12_heights 35 = .ok (.iconst 0, 1) := by decide +kernel
theorem dX12_heights_36 : decode cX12_heights 36 = .ok (.iastore, 1) := by decide +kernel
theorem dX12_heights_37 : decode cX12_heights 37 = .ok (.iconst 1, 1) := by decide +kernel
theorem dX12_heights_38 : decode cX12_heights 38 = .ok (.istore_n 1, 1) := by decide +kernel
theorem dX12_heights_39 : decode cX12_heights 39 = .ok (.iload_n 1, 1) := by decide +kernel
theorem dX12_heights_40 : decode cX12_heights 40 = .ok (.ifCond .le 177, 3) := by decide +kernel
theorem dX12_heights_43 : decode cX12_heights 43 = .ok (.iinc 1 (-1), 3) := by decide +kernel
theorem dX12_heights_46 : decode cX12_heights 46 = .ok (.aload_n 0, 1) := by decide +kernel
theorem dX12_heights_47 : decode cX12_heights 47 = .ok (.getfield 106, 3) := by decide +kernel
theorem dX12_heights_50 : decode cX12_heights 50 = .ok (.iload_n 1, 1) := by decide +kernel
theorem dX12_heights_51 : decode cX12_heights 51 = .ok (.iaload, 1) := by decide +kernel
theorem dX12_heights_52 : decode cX12_heights 52 = .ok (.istore_n 2, 1) := by decide +kernel
theorem dX12_heights_53 : decode cX12_heights 53 = .ok (.aload_n 0, 1) := by decide +kernel
theorem dX12_heights_54 : decode cX12_heights 54 = .ok (.getfield 100, 3) := by decide +kernel
theorem dX12_heights_57 : decode cX12_heights 57 = .ok (.iload_n 2, 1) := by decide +kernel
theorem dX12_heights_58 : decode cX12_heights 58 = .ok (.iaload, 1) := by decide +kernel
theorem dX12_heights_59 : decode cX12_heights 59 = .ok (.aload_n 0, 1) := by decide +kernel
theorem dX12_heights_60 : decode cX12_heights 60 = .ok (.getfield 94, 3) := by decide +kernel
theorem dX12_heights_63 : decode cX12_heights 63 = .ok (.iload_n 2, 1) := by decide +kernel
theorem dX12_heights_64 : decode cX12_heights 64 = .ok (.iaload, 1) := by decide +kernel
theorem dX12_heights_65 : decode cX12_heights 65 = .ok (.invokestatic 260, 3) := by decide +kernel
theorem dX12_heights_68 : decode cX12_heights 68 = .ok (.isub, 1) := by decide +kernel
theorem dX12_heights_69 : decode cX12_heights 69 = .ok (.istore_n 3, 1) := by decide +kernel
theorem dX12_heights_70 : decode cX12_heights 70 = .ok (.iload_n 3, 1) := by decide +kernel
theorem dX12_heights_71 : decode cX12_heights 71 = .ok (.ifCond .lt 34, 3) := by decide +kernel
theorem dX12_heights_74 : decode cX12_heights 74 = .ok (.iload_n 3, 1) := by decide +kernel
theorem dX12_heights_75 : decode cX12_heights 75 = .ok (.aload_n 0, 1) := by decide +kernel
theorem dX12_heights_76 : decode cX12_heights 76 = .ok (.getfield 94, 3) := by decide +kernel
theorem dX12_heights_79 : decode cX12_heights 79 = .ok (.iload_n 2, 1) := by decide +kernel
theorem dX12_heights_80 : decode cX12_heights 80 = .ok (.iaload, 1) := by decide +kernel
theorem dX12_heights_81 : decode cX12_heights 81 = .ok (.invokestatic 263, 3) := by decide +kernel
theorem dX12_heights_84 : decode cX12_heights 84 = .ok (.iadd, 1) := by decide +kernel
theorem dX12_heights_85 : decode cX12_heights 85 = .ok (.bipush 8, 2) := by decide +kernel
theorem dX12_heights_87 : decode cX12_heights 87 = .ok (.if_icmp .gt 18, 3) := by decide +kernel
theorem dX12_heights_90 : decode cX12_heights 90 = .ok (.aload_n 0, 1) := by decide +kernel
theorem dX12_heights_91 : decode cX12_heights 91 = .ok (.getfield 94, 3) := by decide +kernel
theorem dX12_heights_94 : decode cX12_heights 94 = .ok (.iload_n 2, 1) := by decide +kernel
theorem dX12_heights_95 : decode cX12_heights 95 = .ok (.iaload, 1) := by decide +kernel
theorem dX12_heights_96 : decode cX12_heights 96 = .ok (.bipush 9, 2) := by decide +kernel
theorem dX12_heights_98 : decode cX12_heights 98 = .ok (.if_icmp .ne 9, 3) := by decide +kernel
theorem dX12_heights_101 : decode cX12_heights 101 = .ok (.iload_n 3, 1) := by decide +kernel
theorem dX12_heights_102 : decode cX12_heights 102 = .ok (.ifCond .le 5, 3) := by decide +kernel
theorem dX12_heights_105 : decode cX12_heights 105 = .ok (.iconst 0, 1) := by decide +kernel
theorem dX12_heights_106 : decode cX12_heights 106 = .ok (.ireturn, 1) := by decide +kernel
theorem dX12_heights_107 : decode cX12_heights 107 = .ok (.iload_n 3, 1) := by decide +kernel
theorem dX12_heights_108 : decode cX12_heights 108 = .ok (.aload_n 0, 1) := by decide +kernel
theorem dX12_heights_109 : decode cX12_heights 109 = .ok (.getfield 94, 3) := by decide +kernel
theorem dX12_heights_112 : decode cX12_heights 112 = .ok (.iload_n 2, 1) := by decide +kernel
theorem dX12_heights_113 : decode cX12_heights 113 = .ok (.iaload, 1) := by decide +kernel
theorem dX12_heights_114 : decode cX12_heights 114 = .ok (.invokestatic 263, 3) := by decide +kernel
theorem dX12_heights_117 : decode cX12_heights 117 = .ok (.iadd, 1) := by decide +kernel
theorem dX12_heights_118 : decode cX12_heights 118 = .ok (.istore_n 3, 1) := by decide +kernel
theorem dX12_heights_119 : decode cX12_heights 119 = .ok (.iconst 0, 1) := by decide +kernel
theorem dX12_heights_120 : decode cX12_heights 120 = .ok (.istore 4, 2) := by decide +kernel
theorem dX12_heights_122 : decode cX12_heights 122 = .ok (.iload 4, 2) := by decide +kernel
theorem dX12_heights_124 : decode cX12_heights 124 = .ok (.iconst 2, 1) := by decide +kernel
theorem dX12_heights_125 : decode cX12_heights 125 = .ok (.if_icmp .ge 89, 3) := by decide +kernel
theorem dX12_heights_128 : decode cX12_heights 128 = .ok (.aload_n 0, 1) := by decide +kernel
theorem dX12_heights_129 : decode cX12_heights 129 = .ok (.iload_n 2, 1) := by decide +kernel
theorem dX12_heights_130 : decode cX12_heights 130 = .ok (.iload 4, 2) := by decide +kernel
theorem dX12_heights_132 : decode cX12_heights 132 = .ok (.invokevirtual 266, 3) := by decide +kernel
theorem dX12_heights_135 : decode cX12_heights 135 = .ok (.istore 5, 2) := by decide +kernel
theorem dX12_heights_137 : decode cX12_heights 137 = .ok (.iload 5, 2) := by decide +kernel
theorem dX12_heights_139 : decode cX12_heights 139 = .ok (.aload_n 0, 1) := by decide +kernel
theorem dX12_heights_140 : decode cX12_heights 140 = .ok (.getfield 251, 3) := by decide +kernel
theorem dX12_heights_143 : decode cX12_heights 143 = .ok (.if_icmp .ge 29, 3) := by decide +kernel
theorem dX12_heights_146 : decode cX12_heights 146 = .ok (.iload 5, 2) := by decide +kernel
theorem dX12_heights_148 : decode cX12_heights 148 = .ok (.ifCond .lt 26, 3) := by decide +kernel
theorem dX12_heights_151 : decode cX12_heights 151 = .ok (.aload_n 0, 1) := by decide +kernel
theorem dX12_heights_152 : decode cX12_heights 152 = .ok (.getfield 100, 3) := by decide +kernel
theorem dX12_heights_155 : decode cX12_heights 155 = .ok (.iload 5, 2) := by decide +kernel
theorem dX12_heights_157 : decode cX12_heights 157 = .ok (.iaload, 1) := by decide +kernel
theorem dX12_heights_158 : decode cX12_heights 158 = .ok (.ifCond .lt 16, 3) := by decide +kernel
theorem dX12_heights_161 : decode cX12_heights 161 = .ok (.aload_n 0, 1) := by decide +kernel
theorem dX12_heights_162 : decode cX12_heights 162 = .ok (.getfield 100, 3) := by decide +kernel
theorem dX12_heights_165 : decode cX12_heights 165 = .ok (.iload 5, 2) := by decide +kernel
theorem dX12_heights_167 : decode cX12_heights 167 = .ok (.iaload, 1) := by decide +kernel
theorem dX12_heights_168 : decode cX12_heights 168 = .ok (.iload_n 3, 1) := by decide +kernel
theorem dX12_heights_169 : decode cX12_heights 169 = .ok (.if_icmp .eq 5, 3) := by decide +kernel
theorem dX12_heights_172 : decode cX12_heights 172 = .ok (.iconst 0, 1) := by decide +kernel
theorem dX12_heights_173 : decode cX12_heights 173 = .ok (.ireturn, 1) := by decide +kernel
theorem dX12_heights_174 : decode cX12_heights 174 = .ok (.iload 5, 2) := by decide +kernel
theorem dX12_heights_176 : decode cX12_heights 176 = .ok (.ifCond .lt 32, 3) := by decide +kernel
theorem dX12_heights_179 : decode cX12_heights 179 = .ok (.aload_n 0, 1) := by decide +kernel
theorem dX12_heights_180 : decode cX12_heights 180 = .ok (.getfield 100, 3) := by decide +kernel
theorem dX12_heights_183 : decode cX12_heights 183 = .ok (.iload 5, 2) := by decide +kernel
theorem dX12_heights_185 : decode cX12_heights 185 = .ok (.iaload, 1) := by decide +kernel
theorem dX12_heights_186 : decode cX12_heights 186 = .ok (.ifCond .ge 22, 3) := by decide +kernel
theorem dX12_heights_189 : decode cX12_heights 189 = .ok (.aload_n 0, 1) := by decide +kernel
theorem dX12_heights_190 : decode cX12_heights 190 = .ok (.getfield 100, 3) := by decide +kernel
theorem dX12_heights_193 : decode cX12_heights 193 = .ok (.iload 5, 2) := by decide +kernel
theorem dX12_heights_195 : decode cX12_heights 195 = .ok (.iload_n 3, 1) := by decide +kernel
theorem dX12_heights_196 : decode cX12_heights 196 = .ok (.iastore, 1) := by decide +kernel
theorem dX12_heights_197 : decode cX12_heights 197 = .ok (.aload_n 0, 1) := by decide +kernel
theorem dX12_heights_198 : decode cX12_heights 198 = .ok (.getfield 106, 3) := by decide +kernel
theorem dX12_heights_201 : decode cX12_heights 201 = .ok (.iload_n 1, 1) := by decide +kernel
theorem dX12_heights_202 : decode cX12_heights 202 = .ok (.iload 5, 2) := by decide +kernel
theorem dX12_heights_204 : decode cX12_heights 204 = .ok (.iastore, 1) := by decide +kernel
theorem dX12_heights_205 : decode cX12_heights 205 = .ok (.iinc 1 1, 3) := by decide +kernel
theorem dX12_heights_208 : decode cX12_heights 208 = .ok (.iinc 4 1, 3) := by decide +kernel
theorem dX12_heights_211 : decode cX12_heights 211 = .ok (.goto (-89), 3) := by decide +kernel
theorem dX12_heights_214 : decode cX12_heights 214 = .ok (.goto (-175), 3) := by decide +kernel
theorem dX12_heights_217 : decode cX12_heights 217 = .ok (.iconst 1, 1) := by decide +kernel
theorem dX12_heights_218 : decode cX12_heights 218 = .ok (.ireturn, 1) := by decide +kernel
theorem dX12_comesToEnd_0 : decode cX12_comesToEnd 0 = .ok (.iconst 0, 1) := by decide +kernel
theorem dX12_comesToEnd_1 : decode cX12_comesToEnd 1 = .ok (.istore_n 3, 1) := by decide +kernel
theorem dX12_comesToEnd_2 : decode cX12_comesToEnd 2 = .ok (.iload_n 3, 1) := by decide +kernel
theorem dX12_comesToEnd_3 : decode cX12_comesToEnd 3 = .ok (.aload_n 0, 1) := by decide +kernel
theorem dX12_comesToEnd_4 : decode cX12_comesToEnd 4 = .ok (.getfield 251, 3) := by decide +kernel
theorem dX12_comesToEnd_7 : decode cX12_comesToEnd 7 = .ok (.if_icmp .ge 25, 3) := by decide +kernel
theorem dX12_comesToEnd_10 : decode cX12_comesToEnd 10 = .ok (.aload_n 0, 1) := by decide +kernel
theorem dX12_comesToEnd_11 : decode cX12_comesToEnd 11 = .ok (.getfield 103, 3) := by decide +kernel
theorem dX12_comesToEnd_14 : decode cX12_comesToEnd 14 = .ok (.iload_n 3, 1) := by decide +kernel
theorem dX12_comesToEnd_15 : decode cX12_comesToEnd 15 = .ok (.iload_n 3, 1) := by decide +kernel
theorem dX12_comesToEnd_16 : decode cX12_comesToEnd 16 = .ok (.iload_n 2, 1) := by decide +kernel
theorem dX12_comesToEnd_17 : decode cX12_comesToEnd 17 = .ok (.if_icmp .ne 7, 3) := by decide +kernel
theorem dX12_comesToEnd_20 : decode cX12_comesToEnd 20 = .ok (.iconst 1, 1) := by decide +kernel
theorem dX12_comesToEnd_21 : decode cX12_comesToEnd 21 = .ok (.goto 4, 3) := by decide +kernel
theorem dX12_comesToEnd_24 : decode cX12_comesToEnd 24 = .ok (.iconst 0, 1) := by decide +kernel
theorem dX12_comesToEnd_25 : decode cX12_comesToEnd 25 = .ok (.bastore, 1) := by decide +kernel
theorem dX12_comesToEnd_26 : decode cX12_comesToEnd 26 = .ok (.iinc 3 1, 3) := by decide +kernel
theorem dX12_comesToEnd_29 : decode cX12_comesToEnd 29 = .ok (.goto (-27), 3) := by decide +kernel
theorem dX12_comesToEnd_32 : decode cX12_comesToEnd 32 = .ok (.aload_n 0, 1) := by decide +kernel
theorem dX12_comesToEnd_33 : decode cX12_comesToEnd 33 = .ok (.getfield 103, 3) := by decide +kernel
theorem dX12_comesToEnd_36 : decode cX12_comesToEnd 36 = .ok (.iload_n 1, 1) := by decide +kernel
theorem dX12_comesToEnd_37 : decode cX12_comesToEnd 37 = .ok (.baload, 1) := by decide +kernel
theorem dX12_comesToEnd_38 : decode cX12_comesToEnd 38 = .ok (.ifCond .eq 5, 3) := by decide +kernel
theorem dX12_comesToEnd_41 : decode cX12_comesToEnd 41 = .ok (.iconst 0, 1) := by decide +kernel
theorem dX12_comesToEnd_42 : decode cX12_comesToEnd 42 = .ok (.ireturn, 1) := by decide +kernel
theorem dX12_comesToEnd_43 : decode cX12_comesToEnd 43 = .ok (.aload_n 0, 1) := by decide +kernel
theorem dX12_comesToEnd_44 : decode cX12_comesToEnd 44 = .ok (.getfield 103, 3) := by decide +kernel
theorem dX12_comesToEnd_47 : decode cX12_comesToEnd 47 = .ok (.iload_n 1, 1) := by decide +kernel
theorem dX12_comesToEnd_48 : decode cX12_comesToEnd 48 = .ok (.iconst 1, 1) := by decide +kernel
theorem dX12_comesToEnd_49 : decode cX12_comesToEnd 49 = .ok (.bastore, 1) := by decide +kernel
theorem dX12_comesToEnd_50 : decode cX12_comesToEnd 50 = .ok (.aload_n 0, 1) := by decide +kernel
theorem dX12_comesToEnd_51 : decode cX12_comesToEnd 51 = .ok (.getfield 106, 3) := by decide +kernel
theorem dX12_comesToEnd_54 : decode cX12_comesToEnd 54 = .ok (.iconst 0, 1) := by decide +kernel
theorem dX12_comesToEnd_55 : decode cX12_comesToEnd 55 = .ok (.iload_n 1, 1) := by decide +kernel
theorem dX12_comesToEnd_56 : decode cX12_comesToEnd 56 = .ok (.iastore, 1) := by decide +kernel
theorem dX12_comesToEnd_57 : decode cX12_comesToEnd 57 = .ok (.iconst 1, 1) := by decide +kernel
theorem dX12_comesToEnd_58 : decode cX12_comesToEnd 58 = .ok (.istore_n 3, 1) := by decide +kernel
theorem dX12_comesToEnd_59 : decode cX12_comesToEnd 59 = .ok (.iload_n 3, 1) := by decide +kernel
theorem dX12_comesToEnd_60 : decode cX12_comesToEnd 60 = .ok (.ifCond .le 90, 3) := by decide +kernel
theorem dX12_comesToEnd_63 : decode cX12_comesToEnd 63 = .ok (.iinc 3 (-1), 3) := by decide +kernel
theorem dX12_comesToEnd_66 : decode cX12_comesToEnd 66 = .ok (.aload_n 0, 1) := by decide +kernel
theorem dX12_comesToEnd_67 : decode cX12_comesToEnd 67 = .ok (.getfield 106, 3) := by decide +kernel
theorem dX12_comesToEnd_70 : decode cX12_comesToEnd 70 = .ok (.iload_n 3, 1) := by decide +kernel
theorem dX12_comesToEnd_71 : decode cX12_comesToEnd 71 = .ok (.iaload, 1) := by decide +kernel
theorem dX12_comesToEnd_72 : decode cX12_comesToEnd 72 = .ok (.istore 4, 2) := by decide +kernel
theorem dX12_comesToEnd_74 : decode cX12_comesToEnd 74 = .ok (.aload_n 0, 1) := by decide +kernel
theorem dX12_comesToEnd_75 : decode cX12_comesToEnd 75 = .ok (.getfield 94, 3) := by decide +kernel
theorem dX12_comesToEnd_78 : decode cX12_comesToEnd 78 = .ok (.iload 4, 2) := by decide +kernel
theorem dX12_comesToEnd_80 : decode cX12_comesToEnd 80 = .ok (.iaload, 1) := by decide +kernel
theorem dX12_comesToEnd_81 : decode cX12_comesToEnd 81 = .ok (.bipush 9, 2) := by decide +kernel
theorem dX12_comesToEnd_83 : decode cX12_comesToEnd 83 = .ok (.if_icmp .ne 5, 3) := by decide +kernel
theorem dX12_comesToEnd_86 : decode cX12_comesToEnd 86 = .ok (.iconst 1, 1) := by decide +kernel
theorem dX12_comesToEnd_87 : decode cX12_comesToEnd 87 = .ok (.ireturn, 1) := by decide +kernel
theorem dX12_comesToEnd_88 : decode cX12_comesToEnd 88 = .ok (.iconst 0, 1) := by decide +kernel
theorem dX12_comesToEnd_89 : decode cX12_comesToEnd 89 = .ok (.istore 5, 2) := by decide +kernel
theorem dX12_comesToEnd_91 : decode cX12_comesToEnd 91 = .ok (.iload 5, 2) := by decide +kernel
theorem dX12_comesToEnd_93 : decode cX12_comesToEnd 93 = .ok (.iconst 2, 1) := by decide +kernel
theorem dX12_comesToEnd_94 : decode cX12_comesToEnd 94 = .ok (.if_icmp .ge 53, 3) := by decide +kernel
theorem dX12_comesToEnd_97 : decode cX12_comesToEnd 97 = .ok (.aload_n 0, 1) := by decide +kernel
theorem dX12_comesToEnd_98 : decode cX12_comesToEnd 98 = .ok (.iload 4, 2) := by decide +kernel
theorem dX12_comesToEnd_100 : decode cX12_comesToEnd 100 = .ok (.iload 5, 2) := by decide +kernel
theorem dX12_comesToEnd_102 : decode cX12_comesToEnd 102 = .ok (.invokevirtual 266, 3) := by decide +kernel
theorem dX12_comesToEnd_105 : decode cX12_comesToEnd 105 = .ok (.istore 6, 2) := by decide +kernel
theorem dX12_comesToEnd_107 : decode cX12_comesToEnd 107 = .ok (.iload 6, 2) := by decide +kernel
theorem dX12_comesToEnd_109 : decode cX12_comesToEnd 109 = .ok (.ifCond .lt 32, 3) := by decide +kernel
theorem dX12_comesToEnd_112 : decode cX12_comesToEnd 112 = .ok (.aload_n 0, 1) := by decide +kernel
theorem dX12_comesToEnd_113 : decode cX12_comesToEnd 113 = .ok (.getfield 103, 3) := by decide +kernel
theorem dX12_comesToEnd_116 : decode cX12_comesToEnd 116 = .ok (.iload 6, 2) := by decide +kernel
theorem dX12_comesToEnd_118 : decode cX12_comesToEnd 118 = .ok (.baload, 1) := by decide +kernel
theorem dX12_comesToEnd_119 : decode cX12_comesToEnd 119 = .ok (.ifCond .ne 22, 3) := by decide +kernel
theorem dX12_comesToEnd_122 : decode cX12_comesToEnd 122 = .ok (.aload_n 0, 1) := by decide +kernel
theorem dX12_comesToEnd_123 : decode cX12_comesToEnd 123 = .ok (.getfield 103, 3) := by decide +kernel
theorem dX12_comesToEnd_126 : decode cX12_comesToEnd 126 = .ok (.iload 6, 2) := by decide +kernel
theorem dX12_comesToEnd_128 : decode cX12_comesToEnd 128 = .ok (.iconst 1, 1) := by decide +kernel
theorem dX12_comesToEnd_129 : decode cX12_comesToEnd 129 = .ok (.bastore, 1) := by decide +kernel
theorem dX12_comesToEnd_130 : decode cX12_comesToEnd 130 = .ok (.aload_n 0, 1) := by decide +kernel
theorem dX12_comesToEnd_131 : decode cX12_comesToEnd 131 = .ok (.getfield 106, 3) := by decide +kernel
theorem dX12_comesToEnd_134 : decode cX12_comesToEnd 134 = .ok (.iload_n 3, 1) := by decide +kernel
theorem dX12_comesToEnd_135 : decode cX12_comesToEnd 135 = .ok (.iload 6, 2) := by decide +kernel
theorem dX12_comesToEnd_137 : decode cX12_comesToEnd 137 = .ok (.iastore, 1) := by decide +kernel
theorem dX12_comesToEnd_138 : decode cX12_comesToEnd 138 = .ok (.iinc 3 1, 3) := by decide +kernel
theorem dX12_comesToEnd_141 : decode cX12_comesToEnd 141 = .ok (.iinc 5 1, 3) := by decide +kernel
theorem dX12_comesToEnd_144 : decode cX12_comesToEnd 144 = .ok (.goto (-53), 3) := by decide +kernel
theorem dX12_comesToEnd_147 : decode cX12_comesToEnd 147 = .ok (.goto (-88), 3) := by decide +kernel
theorem dX12_comesToEnd_150 : decode cX12_comesToEnd 150 = .ok (.iconst 0, 1) := by decide +kernel
theorem dX12_comesToEnd_151 : decode cX12_comesToEnd 151 = .ok (.ireturn, 1) := by decide +kernel
theorem dX12_shape_0 : decode cX12_shape 0 = .ok (.aload_n 0, 1) := by decide +kernel
theorem dX12_shape_1 : decode cX12_shape 1 = .ok (.invokevirtual 269, 3) := by decide +kernel
theorem dX12_shape_4 : decode cX12_shape 4 = .ok (.ifCond .eq 10, 3) := by decide +kernel
theorem dX12_shape_7 : decode cX12_shape 7 = .ok (.aload_n 0, 1) := by decide +kernel
theorem dX12_shape_8 : decode cX12_shape 8 = .ok (.invokevirtual 272, 3) := by decide +kernel
theorem dX12_shape_11 : decode cX12_shape 11 = .ok (.ifCond .ne 5, 3) := by decide +kernel
theorem dX12_shape_14 : decode cX12_shape 14 = .ok (.iconst 0, 1) := by decide +kernel
theorem dX12_shape_15 : decode cX12_shape 15 = .ok (.ireturn, 1) := by decide +kernel
theorem dX12_shape_16 : decode cX12_shape 16 = .ok (.iconst 1, 1) := by decide +kernel
theorem dX12_shape_17 : decode cX12_shape 17 = .ok (.istore_n 1, 1) := by decide +kernel
theorem dX12_shape_18 : decode cX12_shape 18 = .ok (.iconst 0, 1) := by decide +kernel
theorem dX12_shape_19 : decode cX12_shape 19 = .ok (.istore_n 2, 1) := by decide +kernel
theorem dX12_shape_20 : decode cX12_shape 20 = .ok (.iload_n 2, 1) := by decide +kernel
theorem dX12_shape_21 : decode cX12_shape 21 = .ok (.aload_n 0, 1) := by decide +kernel
theorem dX12_shape_22 : decode cX12_shape 22 = .ok (.getfield 251, 3) := by decide +kernel
theorem dX12_shape_25 : decode cX12_shape 25 = .ok (.if_icmp .ge 37, 3) := by decide +kernel
theorem dX12_shape_28 : decode cX12_shape 28 = .ok (.iload_n 1, 1) := by decide +kernel
theorem dX12_shape_29 : decode cX12_shape 29 = .ok (.ifCond .eq 25, 3) := by decide +kernel
theorem dX12_shape_32 : decode cX12_shape 32 = .ok (.aload_n 0, 1) := by decide +kernel
theorem dX12_shape_33 : decode cX12_shape 33 = .ok (.getfield 100, 3) := by decide +kernel
theorem dX12_shape_36 : decode cX12_shape 36 = .ok (.iload_n 2, 1) := by decide +kernel
theorem dX12_shape_37 : decode cX12_shape 37 = .ok (.iaload, 1) := by decide +kernel
theorem dX12_shape_38 : decode cX12_shape 38 = .ok (.ifCond .lt 12, 3) := by decide +kernel
theorem dX12_shape_41 : decode cX12_shape 41 = .ok (.aload_n 0, 1) := by decide +kernel
theorem dX12_shape_42 : decode cX12_shape 42 = .ok (.iload_n 2, 1) := by decide +kernel
theorem dX12_shape_43 : decode cX12_shape 43 = .ok (.iconst (-1), 1) := by decide +kernel
theorem dX12_shape_44 : decode cX12_shape 44 = .ok (.invokevirtual 275, 3) := by decide +kernel
theorem dX12_shape_47 : decode cX12_shape 47 = .ok (.ifCond .eq 7, 3) := by decide +kernel
theorem dX12_shape_50 : decode cX12_shape 50 = .ok (.iconst 1, 1) := by decide +kernel
theorem dX12_shape_51 : decode cX12_shape 51 = .ok (.goto 4, 3) := by decide +kernel
theorem dX12_shape_54 : decode cX12_shape 54 = .ok (.iconst 0, 1) := by decide +kernel
theorem dX12_shape_55 : decode cX12_shape 55 = .ok (.istore_n 1, 1) := by decide +kernel
theorem dX12_shape_56 : decode cX12_shape 56 = .ok (.iinc 2 1, 3) := by decide +kernel
theorem dX12_shape_59 : decode cX12_shape 59 = .ok (.goto (-39), 3) := by decide +kernel
theorem dX12_shape_62 : decode cX12_shape 62 = .ok (.iload_n 1, 1) := by decide +kernel
theorem dX12_shape_63 : decode cX12_shape 63 = .ok (.ireturn, 1) := by decide +kernel
theorem dX12_findRegion_0 : decode cX12_findRegion 0 = .ok (.iconst 0, 1) := by decide +kernel
theorem dX12_findRegion_1 : decode cX12_findRegion 1 = .ok (.istore_n 2, 1) := by decide +kernel
theorem dX12_findRegion_2 : decode cX12_findRegion 2 = .ok (.iload_n 2, 1) := by decide +kernel
theorem dX12_findRegion_3 : decode cX12_findRegion 3 = .ok (.aload_n 0, 1) := by decide +kernel
theorem dX12_findRegion_4 : decode cX12_findRegion 4 = .ok (.getfield 251, 3) := by decide +kernel
theorem dX12_findRegion_7 : decode cX12_findRegion 7 = .ok (.if_icmp .ge 55, 3) := by decide +kernel
theorem dX12_findRegion_10 : decode cX12_findRegion 10 = .ok (.aload_n 0, 1) := by decide +kernel
theorem dX12_findRegion_11 : decode cX12_findRegion 11 = .ok (.getfield 112, 3) := by decide +kernel
theorem dX12_findRegion_14 : decode cX12_findRegion 14 = .ok (.iload_n 2, 1) := by decide +kernel
theorem dX12_findRegion_15 : decode cX12_findRegion 15 = .ok (.iload_n 2, 1) := by decide +kernel
theorem dX12_findRegion_16 : decode cX12_findRegion 16 = .ok (.iload_n 1, 1) := by decide +kernel
theorem dX12_findRegion_17 : decode cX12_findRegion 17 = .ok (.if_icmp .eq 25, 3) := by decide +kernel
theorem dX12_findRegion_20 : decode cX12_findRegion 20 = .ok (.aload_n 0, 1) := by decide +kernel
theorem dX12_findRegion_21 : decode cX12_findRegion 21 = .ok (.getfield 100, 3) := by decide +kernel
theorem dX12_findRegion_24 : decode cX12_findRegion 24 = .ok (.iload_n 2, 1) := by decide +kernel
theorem dX12_findRegion_25 : decode cX12_findRegion 25 = .ok (.iaload, 1) := by decide +kernel
theorem dX12_findRegion_26 : decode cX12_findRegion 26 = .ok (.ifCond .lt 16, 3) := by decide +kernel
theorem dX12_findRegion_29 : decode cX12_findRegion 29 = .ok (.aload_n 0, 1) := by decide +kernel
theorem dX12_findRegion_30 : decode cX12_findRegion 30 = .ok (.iload_n 1, 1) := by decide +kernel
theorem dX12_findRegion_31 : decode cX12_findRegion 31 = .ok (.iload_n 2, 1) := by decide +kernel
theorem dX12_findRegion_32 : decode cX12_findRegion 32 = .ok (.invokevirtual 275, 3) := by decide +kernel
theorem dX12_findRegion_35 : decode cX12_findRegion 35 = .ok (.ifCond .ne 7, 3) := by decide +kernel
theorem dX12_findRegion_38 : decode cX12_findRegion 38 = .ok (.iconst 1, 1) := by decide +kernel
theorem dX12_findRegion_39 : decode cX12_findRegion 39 = .ok (.goto 4, 3) := by decide +kernel
theorem dX12_findRegion_42 : decode cX12_findRegion 42 = .ok (.iconst 0, 1) := by decide +kernel
theorem dX12_findRegion_43 : decode cX12_findRegion 43 = .ok (.bastore, 1) := by decide +kernel
theorem dX12_findRegion_44 : decode cX12_findRegion 44 = .ok (.aload_n 0, 1) := by decide +kernel
theorem dX12_findRegion_45 : decode cX12_findRegion 45 = .ok (.getfield 109, 3) := by decide +kernel
theorem dX12_findRegion_48 : decode cX12_findRegion 48 = .ok (.bipush 100, 2) := by decide +kernel
theorem dX12_findRegion_50 : decode cX12_findRegion 50 = .ok (.iload_n 1, 1) := by decide +kernel
theorem dX12_findRegion_51 : decode cX12_findRegion 51 = .ok (.imul, 1) := by decide +kernel
theorem dX12_findRegion_52 : decode cX12_findRegion 52 = .ok (.iload_n 2, 1) := by decide +kernel
theorem dX12_findRegion_53 : decode cX12_findRegion 53 = .ok (.iadd, 1) := by decide +kernel
theorem dX12_findRegion_54 : decode cX12_findRegion 54 = .ok (.iconst 0, 1) := by decide +kernel
theorem dX12_findRegion_55 : decode cX12_findRegion 55 = .ok (.bastore, 1) := by decide +kernel
theorem dX12_findRegion_56 : decode cX12_findRegion 56 = .ok (.iinc 2 1, 3) := by decide +kernel
theorem dX12_findRegion_59 : decode cX12_findRegion 59 = .ok (.goto (-57), 3) := by decide +kernel
theorem dX12_findRegion_62 : decode cX12_findRegion 62 = .ok (.aload_n 0, 1) := by decide +kernel
theorem dX12_findRegion_63 : decode cX12_findRegion 63 = .ok (.getfield 106, 3) := by decide +kernel
theorem dX12_findRegion_66 : decode cX12_findRegion 66 = .ok (.iconst 0, 1) := by decide +kernel
theorem dX12_findRegion_67 : decode cX12_findRegion 67 = .ok (.iload_n 1, 1) := by decide +kernel
theorem dX12_findRegion_68 : decode cX12_findRegion 68 = .ok (.iastore, 1) := by decide +kernel
theorem dX12_findRegion_69 : decode cX12_findRegion 69 = .ok (.iconst 1, 1) := by decide +kernel
theorem dX12_findRegion_70 : decode cX12_findRegion 70 = .ok (.istore_n 2, 1) := by decide +kernel
theorem dX12_findRegion_71 : decode cX12_findRegion 71 = .ok (.iload_n 2, 1) := by decide +kernel
theorem dX12_findRegion_72 : decode cX12_findRegion 72 = .ok (.ifCond .le 94, 3) := by decide +kernel
theorem dX12_findRegion_75 : decode cX12_findRegion 75 = .ok (.iinc 2 (-1), 3) := by decide +kernel
theorem dX12_findRegion_78 : decode cX12_findRegion 78 = .ok (.aload_n 0, 1) := by decide +kernel
theorem dX12_findRegion_79 : decode cX12_findRegion 79 = .ok (.getfield 106, 3) := by decide +kernel
theorem dX12_findRegion_82 : decode cX12_findRegion 82 = .ok (.iload_n 2, 1) := by decide +kernel
theorem dX12_findRegion_83 : decode cX12_findRegion 83 = .ok (.iaload, 1) := by decide +kernel
theorem dX12_findRegion_84 : decode cX12_findRegion 84 = .ok (.istore_n 3, 1) := by decide +kernel
theorem dX12_findRegion_85 : decode cX12_findRegion 85 = .ok (.iconst 0, 1) := by decide +kernel
theorem dX12_findRegion_86 : decode cX12_findRegion 86 = .ok (.istore 4, 2) := by decide +kernel
theorem dX12_findRegion_88 : decode cX12_findRegion 88 = .ok (.iload 4, 2) := by decide +kernel
theorem dX12_findRegion_90 : decode cX12_findRegion 90 = .ok (.iconst 2, 1) := by decide +kernel
theorem dX12_findRegion_91 : decode cX12_findRegion 91 = .ok (.if_icmp .ge 72, 3) := by decide +kernel
theorem dX12_findRegion_94 : decode cX12_findRegion 94 = .ok (.aload_n 0, 1) := by decide +kernel
theorem dX12_findRegion_95 : decode cX12_findRegion 95 = .ok (.iload_n 3, 1) := by decide +kernel
theorem dX12_findRegion_96 : decode cX12_findRegion 96 = .ok (.iload 4, 2) := by decide +kernel
theorem dX12_findRegion_98 : decode cX12_findRegion 98 = .ok (.invokevirtual 266, 3) := by decide +kernel
theorem dX12_findRegion_101 : decode cX12_findRegion 101 = .ok (.istore 5, 2) := by decide +kernel
theorem dX12_findRegion_103 : decode cX12_findRegion 103 = .ok (.iload 5, 2) := by decide +kernel
theorem dX12_findRegion_105 : decode cX12_findRegion 105 = .ok (.ifCond .lt 52, 3) := by decide +kernel
theorem dX12_findRegion_108 : decode cX12_findRegion 108 = .ok (.aload_n 0, 1) := by decide +kernel
theorem dX12_findRegion_109 : decode cX12_findRegion 109 = .ok (.getfield 112, 3) := by decide +kernel
theorem dX12_findRegion_112 : decode cX12_findRegion 112 = .ok (.iload 5, 2) := by decide +kernel
theorem dX12_findRegion_114 : decode cX12_findRegion 114 = .ok (.baload, 1) := by decide +kernel
theorem dX12_findRegion_115 : decode cX12_findRegion 115 = .ok (.ifCond .ne 42, 3) := by decide +kernel
theorem dX12_findRegion_118 : decode cX12_findRegion 118 = .ok (.aload_n 0, 1) := by decide +kernel
theorem dX12_findRegion_119 : decode cX12_findRegion 119 = .ok (.getfield 109, 3) := by decide +kernel
theorem dX12_findRegion_122 : decode cX12_findRegion 122 = .ok (.bipush 100, 2) := by decide +kernel
theorem dX12_findRegion_124 : decode cX12_findRegion 124 = .ok (.iload_n 1, 1) := by decide +kernel
theorem dX12_findRegion_125 : decode cX12_findRegion 125 = .ok (.imul, 1) := by decide +kernel
theorem dX12_findRegion_126 : decode cX12_findRegion 126 = .ok (.iload 5, 2) := by decide +kernel
theorem dX12_findRegion_128 : decode cX12_findRegion 128 = .ok (.iadd, 1) := by decide +kernel
theorem dX12_findRegion_129 : decode cX12_findRegion 129 = .ok (.baload, 1) := by decide +kernel
theorem dX12_findRegion_130 : decode cX12_findRegion 130 = .ok (.ifCond .ne 27, 3) := by decide +kernel
theorem dX12_findRegion_133 : decode cX12_findRegion 133 = .ok (.aload_n 0, 1) := by decide +kernel
theorem dX12_findRegion_134 : decode cX12_findRegion 134 = .ok (.getfield 109, 3) := by decide +kernel
theorem dX12_findRegion_137 : decode cX12_findRegion 137 = .ok (.bipush 100, 2) := by decide +kernel
theorem dX12_findRegion_139 : decode cX12_findRegion 139 = .ok (.iload_n 1, 1) := by decide +kernel
theorem dX12_findRegion_140 : decode cX12_findRegion 140 = .ok (.imul, 1) := by decide +kernel
theorem dX12_findRegion_141 : decode cX12_findRegion 141 = .ok (.iload 5, 2) := by decide +kernel
theorem dX12_findRegion_143 : decode cX12_findRegion 143 = .ok (.iadd, 1) := by decide +kernel
theorem dX12_findRegion_144 : decode cX12_findRegion 144 = .ok (.iconst 1, 1) := by decide +kernel
theorem dX12_findRegion_145 : decode cX12_findRegion 145 = .ok (.bastore, 1) := by decide +kernel
theorem dX12_findRegion_146 : decode cX12_findRegion 146 = .ok (.aload_n 0, 1) := by decide +kernel
theorem dX12_findRegion_147 : decode cX12_findRegion 147 = .ok (.getfield 106, 3) := by decide +kernel
theorem dX12_findRegion_150 : decode cX12_findRegion 150 = .ok (.iload_n 2, 1) := by decide +kernel
theorem dX12_findRegion_151 : decode cX12_findRegion 151 = .ok (.iload 5, 2) := by decide +kernel
theorem dX12_findRegion_153 : decode cX12_findRegion 153 = .ok (.iastore, 1) := by decide +kernel
theorem dX12_findRegion_154 : decode cX12_findRegion 154 = .ok (.iinc 2 1, 3) := by decide +kernel
theorem dX12_findRegion_157 : decode cX12_findRegion 157 = .ok (.iinc 4 1, 3) := by decide +kernel
theorem dX12_findRegion_160 : decode cX12_findRegion 160 = .ok (.goto (-72), 3) := by decide +kernel
theorem dX12_findRegion_163 : decode cX12_findRegion 163 = .ok (.goto (-92), 3) := by decide +kernel
theorem dX12_findRegion_166 : decode cX12_findRegion 166 = .ok (.return_, 1) := by decide +kernel
theorem dX12_come_0 : decode cX12_come 0 = .ok (.aload_n 0, 1) := by decide +kernel
theorem dX12_come_1 : decode cX12_come 1 = .ok (.aload_n 0, 1) := by decide +kernel
theorem dX12_come_2 : decode cX12_come 2 = .ok (.getfield 115, 3) := by decide +kernel
theorem dX12_come_5 : decode cX12_come 5 = .ok (.iload_n 1, 1) := by decide +kernel
theorem dX12_come_6 : decode cX12_come 6 = .ok (.iaload, 1) := by decide +kernel
theorem dX12_come_7 : decode cX12_come 7 = .ok (.iload_n 2, 1) := by decide +kernel
theorem dX12_come_8 : decode cX12_come 8 = .ok (.invokevirtual 148, 3) := by decide +kernel
theorem dX12_come_11 : decode cX12_come 11 = .ok (.istore_n 3, 1) := by decide +kernel
theorem dX12_come_12 : decode cX12_come 12 = .ok (.aload_n 0, 1) := by decide +kernel
theorem dX12_come_13 : decode cX12_come 13 = .ok (.aload_n 0, 1) := by decide +kernel
theorem dX12_come_14 : decode cX12_come 14 = .ok (.getfield 207, 3) := by decide +kernel
theorem dX12_come_17 : decode cX12_come 17 = .ok (.ifCond .ne 13, 3) := by decide +kernel
theorem dX12_come_20 : decode cX12_come 20 = .ok (.iload_n 3, 1) := by decide +kernel
theorem dX12_come_21 : decode cX12_come 21 = .ok (.aload_n 0, 1) := by decide +kernel
theorem dX12_come_22 : decode cX12_come 22 = .ok (.getfield 115, 3) := by decide +kernel
theorem dX12_come_25 : decode cX12_come 25 = .ok (.iload_n 1, 1) := by decide +kernel
theorem dX12_come_26 : decode cX12_come 26 = .ok (.iaload, 1) := by decide +kernel
theorem dX12_come_27 : decode cX12_come 27 = .ok (.if_icmp .eq 7, 3) := by decide +kernel
theorem dX12_come_30 : decode cX12_come 30 = .ok (.iconst 1, 1) := by decide +kernel
theorem dX12_come_31 : decode cX12_come 31 = .ok (.goto 4, 3) := by decide +kernel
theorem dX12_come_34 : decode cX12_come 34 = .ok (.iconst 0, 1) := by decide +kernel
theorem dX12_come_35 : decode cX12_come 35 = .ok (.putfield 207, 3) := by decide +kernel
theorem dX12_come_38 : decode cX12_come 38 = .ok (.aload_n 0, 1) := by decide +kernel
theorem dX12_come_39 : decode cX12_come 39 = .ok (.getfield 115, 3) := by decide +kernel
theorem dX12_come_42 : decode cX12_come 42 = .ok (.iload_n 1, 1) := by decide +kernel
theorem dX12_come_43 : decode cX12_come 43 = .ok (.iload_n 3, 1) := by decide +kernel
theorem dX12_come_44 : decode cX12_come 44 = .ok (.iastore, 1) := by decide +kernel
theorem dX12_come_45 : decode cX12_come 45 = .ok (.return_, 1) := by decide +kernel
theorem dX12_findContext_0 : decode cX12_findContext 0 = .ok (.aload_n 0, 1) := by decide +kernel
theorem dX12_findContext_1 : decode cX12_findContext 1 = .ok (.getfield 142, 3) := by decide +kernel
theorem dX12_findContext_4 : decode cX12_findContext 4 = .ok (.istore_n 2, 1) := by decide +kernel
theorem dX12_findContext_5 : decode cX12_findContext 5 = .ok (.iconst 0, 1) := by decide +kernel
theorem dX12_findContext_6 : decode cX12_findContext 6 = .ok (.istore_n 3, 1) := by decide +kernel
theorem dX12_findContext_7 : decode cX12_findContext 7 = .ok (.iload_n 3, 1) := by decide +kernel
theorem dX12_findContext_8 : decode cX12_findContext 8 = .ok (.aload_n 0, 1) := by decide +kernel
theorem dX12_findContext_9 : decode cX12_findContext 9 = .ok (.getfield 251, 3) := by decide +kernel
theorem dX12_findContext_12 : decode cX12_findContext 12 = .ok (.if_icmp .ge 68, 3) := by decide +kernel
theorem dX12_findContext_15 : decode cX12_findContext 15 = .ok (.aload_n 0, 1) := by decide +kernel
theorem dX12_findContext_16 : decode cX12_findContext 16 = .ok (.getfield 100, 3) := by decide +kernel
theorem dX12_findContext_19 : decode cX12_findContext 19 = .ok (.iload_n 3, 1) := by decide +kernel
theorem dX12_findContext_20 : decode cX12_findContext 20 = .ok (.iaload, 1) := by decide +kernel
theorem dX12_findContext_21 : decode cX12_findContext 21 = .ok (.ifCond .le 53, 3) := by decide +kernel
theorem dX12_findContext_24 : decode cX12_findContext 24 = .ok (.aload_n 0, 1) := by decide +kernel
theorem dX12_findContext_25 : decode cX12_findContext 25 = .ok (.getfield 94, 3) := by decide +kernel
theorem dX12_findContext_28 : decode cX12_findContext 28 = .ok (.iload_n 3, 1) := by decide +kernel
theorem dX12_findContext_29 : decode cX12_findContext 29 = .ok (.iaload, 1) := by decide +kernel
theorem dX12_findContext_30 : decode cX12_findContext 30 = .ok (.bipush 7, 2) := by decide +kernel
theorem dX12_findContext_32 : decode cX12_findContext 32 = .ok (.if_icmp .ne 42, 3) := by decide +kernel
theorem dX12_findContext_35 : decode cX12_findContext 35 = .ok (.aload_n 0, 1) := by decide +kernel
theorem dX12_findContext_36 : decode cX12_findContext 36 = .ok (.getfield 109, 3) := by decide +kernel
theorem dX12_findContext_39 : decode cX12_findContext 39 = .ok (.bipush 100, 2) := by decide +kernel
theorem dX12_findContext_41 : decode cX12_findContext 41 = .ok (.iload_n 3, 1) := by decide +kernel
theorem dX12_findContext_42 : decode cX12_findContext 42 = .ok (.imul, 1) := by decide +kernel
theorem dX12_findContext_43 : decode cX12_findContext 43 = .ok (.iload_n 1, 1) := by decide +kernel
theorem dX12_findContext_44 : decode cX12_findContext 44 = .ok (.iadd, 1) := by decide +kernel
theorem dX12_findContext_45 : decode cX12_findContext 45 = .ok (.baload, 1) := by decide +kernel
theorem dX12_findContext_46 : decode cX12_findContext 46 = .ok (.ifCond .eq 28, 3) := by decide +kernel
theorem dX12_findContext_49 : decode cX12_findContext 49 = .ok (.aload_n 0, 1) := by decide +kernel
theorem dX12_findContext_50 : decode cX12_findContext 50 = .ok (.iload_n 2, 1) := by decide +kernel
theorem dX12_findContext_51 : decode cX12_findContext 51 = .ok (.aload_n 0, 1) := by decide +kernel
theorem dX12_findContext_52 : decode cX12_findContext 52 = .ok (.getfield 115, 3) := by decide +kernel
theorem dX12_findContext_55 : decode cX12_findContext 55 = .ok (.bipush 16, 2) := by decide +kernel
theorem dX12_findContext_57 : decode cX12_findContext 57 = .ok (.iload_n 3, 1) := by decide +kernel
theorem dX12_findContext_58 : decode cX12_findContext 58 = .ok (.imul, 1) := by decide +kernel
theorem dX12_findContext_59 : decode cX12_findContext 59 = .ok (.bipush 7, 2) := by decide +kernel
theorem dX12_findContext_61 : decode cX12_findContext 61 = .ok (.iadd, 1) := by decide +kernel
theorem dX12_findContext_62 : decode cX12_findContext 62 = .ok (.aload_n 0, 1) := by decide +kernel
theorem dX12_findContext_63 : decode cX12_findContext 63 = .ok (.getfield 100, 3) := by decide +kernel
theorem dX12_findContext_66 : decode cX12_findContext 66 = .ok (.iload_n 3, 1) := by decide +kernel
theorem dX12_findContext_67 : decode cX12_findContext 67 = .ok (.iaload, 1) := by decide +kernel
theorem dX12_findContext_68 : decode cX12_findContext 68 = .ok (.iadd, 1) := by decide +kernel
theorem dX12_findContext_69 : decode cX12_findContext 69 = .ok (.iaload, 1) := by decide +kernel
theorem dX12_findContext_70 : decode cX12_findContext 70 = .ok (.invokevirtual 148, 3) := by decide +kernel
theorem dX12_findContext_73 : decode cX12_findContext 73 = .ok (.istore_n 2, 1) := by decide +kernel
theorem dX12_findContext_74 : decode cX12_findContext 74 = .ok (.iinc 3 1, 3) := by decide +kernel
theorem dX12_findContext_77 : decode cX12_findContext 77 = .ok (.goto (-70), 3) := by decide +kernel
theorem dX12_findContext_80 : decode cX12_findContext 80 = .ok (.aload_n 0, 1) := by decide +kernel
theorem dX12_findContext_81 : decode cX12_findContext 81 = .ok (.aload_n 0, 1) := by decide +kernel
theorem dX12_findContext_82 : decode cX12_findContext 82 = .ok (.getfield 207, 3) := by decide +kernel
theorem dX12_findContext_85 : decode cX12_findContext 85 = .ok (.ifCond .ne 13, 3) := by decide +kernel
theorem dX12_findContext_88 : decode cX12_findContext 88 = .ok (.iload_n 2, 1) := by decide +kernel
theorem dX12_findContext_89 : decode cX12_findContext 89 = .ok (.aload_n 0, 1) := by decide +kernel
theorem dX12_findContext_90 : decode cX12_findContext 90 = .ok (.getfield 118, 3) := by decide +kernel
theorem dX12_findContext_93 : decode cX12_findContext 93 = .ok (.iload_n 1, 1) := by decide +kernel
theorem dX12_findContext_94 : decode cX12_findContext 94 = .ok (.iaload, 1) := by decide +kernel
theorem dX12_findContext_95 : decode cX12_findContext 95 = .ok (.if_icmp .eq 7, 3) := by decide +kernel
theorem dX12_findContext_98 : decode cX12_findContext 98 = .ok (.iconst 1, 1) := by decide +kernel
theorem dX12_findContext_99 : decode cX12_findContext 99 = .ok (.goto 4, 3) := by decide +kernel
theorem dX12_findContext_102 : decode cX12_findContext 102 = .ok (.iconst 0, 1) := by decide +kernel
theorem dX12_findContext_103 : decode cX12_findContext 103 = .ok (.putfield 207, 3) := by decide +kernel
theorem dX12_findContext_106 : decode cX12_findContext 106 = .ok (.aload_n 0, 1) := by decide +kernel
theorem dX12_findContext_107 : decode cX12_findContext 107 = .ok (.getfield 118, 3) := by decide +kernel
theorem dX12_findContext_110 : decode cX12_findContext 110 = .ok (.iload_n 1, 1) := by decide +kernel
theorem dX12_findContext_111 : decode cX12_findContext 111 = .ok (.iload_n 2, 1) := by decide +kernel
theorem dX12_findContext_112 : decode cX12_findContext 112 = .ok (.iastore, 1) := by decide +kernel
theorem dX12_findContext_113 : decode cX12_findContext 113 = .ok (.return_, 1) := by decide +kernel
theorem dX12_leave_0 : decode cX12_leave 0 = .ok (.aload_n 0, 1) := by decide +kernel
theorem dX12_leave_1 : decode cX12_leave 1 = .ok (.getfield 94, 3) := by decide +kernel
theorem dX12_leave_4 : decode cX12_leave 4 = .ok (.iload_n 1, 1) := by decide +kernel
theorem dX12_leave_5 : decode cX12_leave 5 = .ok (.iaload, 1) := by decide +kernel
theorem dX12_leave_6 : decode cX12_leave 6 = .ok (.istore_n 2, 1) := by decide +kernel
theorem dX12_leave_7 : decode cX12_leave 7 = .ok (.aload_n 0, 1) := by decide +kernel
theorem dX12_leave_8 : decode cX12_leave 8 = .ok (.getfield 100, 3) := by decide +kernel
theorem dX12_leave_11 : decode cX12_leave 11 = .ok (.iload_n 1, 1) := by decide +kernel
theorem dX12_leave_12 : decode cX12_leave 12 = .ok (.iaload, 1) := by decide +kernel
theorem dX12_leave_13 : decode cX12_leave 13 = .ok (.istore_n 3, 1) := by decide +kernel
theorem dX12_leave_14 : decode cX12_leave 14 = .ok (.iload_n 3, 1) := by decide +kernel
theorem dX12_leave_15 : decode cX12_leave 15 = .ok (.iload_n 2, 1) := by decide +kernel
theorem dX12_leave_16 : decode cX12_leave 16 = .ok (.invokestatic 260, 3) := by decide +kernel
theorem dX12_leave_19 : decode cX12_leave 19 = .ok (.isub, 1) := by decide +kernel
theorem dX12_leave_20 : decode cX12_leave 20 = .ok (.istore 4, 2) := by decide +kernel
theorem dX12_leave_22 : decode cX12_leave 22 = .ok (.aload_n 0, 1) := by decide +kernel
theorem dX12_leave_23 : decode cX12_leave 23 = .ok (.getfield 118, 3) := by decide +kernel
theorem dX12_leave_26 : decode cX12_leave 26 = .ok (.iload_n 1, 1) := by decide +kernel
theorem dX12_leave_27 : decode cX12_leave 27 = .ok (.iaload, 1) := by decide +kernel
theorem dX12_leave_28 : decode cX12_leave 28 = .ok (.istore 5, 2) := by decide +kernel
theorem dX12_leave_30 : decode cX12_leave 30 = .ok (.iload_n 2, 1) := by decide +kernel
theorem dX12_leave_31 : decode cX12_leave 31 = .ok (.iconst 1, 1) := by decide +kernel
theorem dX12_leave_32 : decode cX12_leave 32 = .ok (.if_icmp .ne 28, 3) := by decide +kernel
theorem dX12_leave_35 : decode cX12_leave 35 = .ok (.aload_n 0, 1) := by decide +kernel
theorem dX12_leave_36 : decode cX12_leave 36 = .ok (.iload 5, 2) := by decide +kernel
theorem dX12_leave_38 : decode cX12_leave 38 = .ok (.aload_n 0, 1) := by decide +kernel
theorem dX12_leave_39 : decode cX12_leave 39 = .ok (.getfield 115, 3) := by decide +kernel
theorem dX12_leave_42 : decode cX12_leave 42 = .ok (.bipush 16, 2) := by decide +kernel
theorem dX12_leave_44 : decode cX12_leave 44 = .ok (.iload_n 1, 1) := by decide +kernel
theorem dX12_leave_45 : decode cX12_leave 45 = .ok (.imul, 1) := by decide +kernel
theorem dX12_leave_46 : decode cX12_leave 46 = .ok (.aload_n 0, 1) := by decide +kernel
theorem dX12_leave_47 : decode cX12_leave 47 = .ok (.getfield 97, 3) := by decide +kernel
theorem dX12_leave_50 : decode cX12_leave 50 = .ok (.iload_n 1, 1) := by decide +kernel
theorem dX12_leave_51 : decode cX12_leave 51 = .ok (.iaload, 1) := by decide +kernel
theorem dX12_leave_52 : decode cX12_leave 52 = .ok (.iadd, 1) := by decide +kernel
theorem dX12_leave_53 : decode cX12_leave 53 = .ok (.iaload, 1) := by decide +kernel
theorem dX12_leave_54 : decode cX12_leave 54 = .ok (.invokevirtual 148, 3) := by decide +kernel
theorem dX12_leave_57 : decode cX12_leave 57 = .ok (.goto 5, 3) := by decide +kernel
theorem dX12_leave_60 : decode cX12_leave 60 = .ok (.iload 5, 2) := by decide +kernel
theorem dX12_leave_62 : decode cX12_leave 62 = .ok (.istore 5, 2) := by decide +kernel
theorem dX12_leave_64 : decode cX12_leave 64 = .ok (.iload 4, 2) := by decide +kernel
theorem dX12_leave_66 : decode cX12_leave 66 = .ok (.istore 6, 2) := by decide +kernel
theorem dX12_leave_68 : decode cX12_leave 68 = .ok (.iload 6, 2) := by decide +kernel
theorem dX12_leave_70 : decode cX12_leave 70 = .ok (.iload_n 3, 1) := by decide +kernel
theorem dX12_leave_71 : decode cX12_leave 71 = .ok (.if_icmp .ge 32, 3) := by decide +kernel
theorem dX12_leave_74 : decode cX12_leave 74 = .ok (.aload_n 0, 1) := by decide +kernel
theorem dX12_leave_75 : decode cX12_leave 75 = .ok (.iload 5, 2) := by decide +kernel
theorem dX12_leave_77 : decode cX12_leave 77 = .ok (.aload_n 0, 1) := by decide +kernel
theorem dX12_leave_78 : decode cX12_leave 78 = .ok (.getfield 115, 3) := by decide +kernel
theorem dX12_leave_81 : decode cX12_leave 81 = .ok (.bipush 16, 2) := by decide +kernel
theorem dX12_leave_83 : decode cX12_leave 83 = .ok (.iload_n 1, 1) := by decide +kernel
theorem dX12_leave_84 : decode cX12_leave 84 = .ok (.imul, 1) := by decide +kernel
theorem dX12_leave_85 : decode cX12_leave 85 = .ok (.bipush 8, 2) := by decide +kernel
theorem dX12_leave_87 : decode cX12_leave 87 = .ok (.iadd, 1) := by decide +kernel
theorem dX12_leave_88 : decode cX12_leave 88 = .ok (.iload 6, 2) := by decide +kernel
theorem dX12_leave_90 : decode cX12_leave 90 = .ok (.iadd, 1) := by decide +kernel
theorem dX12_leave_91 : decode cX12_leave 91 = .ok (.iaload, 1) := by decide +kernel
theorem dX12_leave_92 : decode cX12_leave 92 = .ok (.invokevirtual 148, 3) := by decide +kernel
theorem dX12_leave_95 : decode cX12_leave 95 = .ok (.istore 5, 2) := by decide +kernel
theorem dX12_leave_97 : decode cX12_leave 97 = .ok (.iinc 6 1, 3) := by decide +kernel
theorem dX12_leave_100 : decode cX12_leave 100 = .ok (.goto (-32), 3) := by decide +kernel
theorem dX12_leave_103 : decode cX12_leave 103 = .ok (.iconst 0, 1) := by decide +kernel
theorem dX12_leave_104 : decode cX12_leave 104 = .ok (.istore 6, 2) := by decide +kernel
theorem dX12_leave_106 : decode cX12_leave 106 = .ok (.iload 6, 2) := by decide +kernel
theorem dX12_leave_108 : decode cX12_leave 108 = .ok (.iconst 2, 1) := by decide +kernel
theorem dX12_leave_109 : decode cX12_leave 109 = .ok (.if_icmp .ge 155, 3) := by decide +kernel
theorem dX12_leave_112 : decode cX12_leave 112 = .ok (.aload_n 0, 1) := by decide +kernel
theorem dX12_leave_113 : decode cX12_leave 113 = .ok (.iload_n 1, 1) := by decide +kernel
theorem dX12_leave_114 : decode cX12_leave 114 = .ok (.iload 6, 2) := by decide +kernel
theorem dX12_leave_116 : decode cX12_leave 116 = .ok (.invokevirtual 266, 3) := by decide +kernel
theorem dX12_leave_119 : decode cX12_leave 119 = .ok (.istore 7, 2) := by decide +kernel
theorem dX12_leave_121 : decode cX12_leave 121 = .ok (.iload 7, 2) := by decide +kernel
theorem dX12_leave_123 : decode cX12_leave 123 = .ok (.ifCond .lt 135, 3) := by decide +kernel
theorem dX12_leave_126 : decode cX12_leave 126 = .ok (.iconst 0, 1) := by decide +kernel
theorem dX12_leave_127 : decode cX12_leave 127 = .ok (.istore 8, 2) := by decide +kernel
theorem dX12_leave_129 : decode cX12_leave 129 = .ok (.iload 8, 2) := by decide +kernel
theorem dX12_leave_131 : decode cX12_leave 131 = .ok (.bipush 8, 2) := by decide +kernel
theorem dX12_leave_133 : decode cX12_leave 133 = .ok (.if_icmp .ge 54, 3) := by decide +kernel
theorem dX12_leave_136 : decode cX12_leave 136 = .ok (.aload_n 0, 1) := by decide +kernel
theorem dX12_leave_137 : decode cX12_leave 137 = .ok (.bipush 16, 2) := by decide +kernel
theorem dX12_leave_139 : decode cX12_leave 139 = .ok (.iload 7, 2) := by decide +kernel
theorem dX12_leave_141 : decode cX12_leave 141 = .ok (.imul, 1) := by decide +kernel
theorem dX12_leave_142 : decode cX12_leave 142 = .ok (.iload 8, 2) := by decide +kernel
theorem dX12_leave_144 : decode cX12_leave 144 = .ok (.iadd, 1) := by decide +kernel
theorem dX12_leave_145 : decode cX12_leave 145 = .ok (.iload_n 2, 1) := by decide +kernel
theorem dX12_leave_146 : decode cX12_leave 146 = .ok (.iconst 2, 1) := by decide +kernel
theorem dX12_leave_147 : decode cX12_leave 147 = .ok (.if_icmp .ne 19, 3) := by decide +kernel
theorem dX12_leave_150 : decode cX12_leave 150 = .ok (.aload_n 0, 1) := by decide +kernel
theorem dX12_leave_151 : decode cX12_leave 151 = .ok (.getfield 97, 3) := by decide +kernel
theorem dX12_leave_154 : decode cX12_leave 154 = .ok (.iload_n 1, 1) := by decide +kernel
theorem dX12_leave_155 : decode cX12_leave 155 = .ok (.iaload, 1) := by decide +kernel
theorem dX12_leave_156 : decode cX12_leave 156 = .ok (.iload 8, 2) := by decide +kernel
theorem dX12_leave_158 : decode cX12_leave 158 = .ok (.if_icmp .ne 8, 3) := by decide +kernel
theorem dX12_leave_161 : decode cX12_leave 161 = .ok (.iload 5, 2) := by decide +kernel
theorem dX12_leave_163 : decode cX12_leave 163 = .ok (.goto 15, 3) := by decide +kernel
theorem dX12_leave_166 : decode cX12_leave 166 = .ok (.aload_n 0, 1) := by decide +kernel
theorem dX12_leave_167 : decode cX12_leave 167 = .ok (.getfield 115, 3) := by decide +kernel
theorem dX12_leave_170 : decode cX12_leave 170 = .ok (.bipush 16, 2) := by decide +kernel
theorem dX12_leave_172 : decode cX12_leave 172 = .ok (.iload_n 1, 1) := by decide +kernel
theorem dX12_leave_173 : decode cX12_leave 173 = .ok (.imul, 1) := by decide +kernel
theorem dX12_leave_174 : decode cX12_leave 174 = .ok (.iload 8, 2) := by decide +kernel
theorem dX12_leave_176 : decode cX12_leave 176 = .ok (.iadd, 1) := by decide +kernel
theorem dX12_leave_177 : decode cX12_leave 177 = .ok (.iaload, 1) := by decide +kernel
theorem dX12_leave_178 : decode cX12_leave 178 = .ok (.invokevirtual 279, 3) := by decide +kernel
theorem dX12_leave_181 : decode cX12_leave 181 = .ok (.iinc 8 1, 3) := by decide +kernel
theorem dX12_leave_184 : decode cX12_leave 184 = .ok (.goto (-55), 3) := by decide +kernel
theorem dX12_leave_187 : decode cX12_leave 187 = .ok (.iconst 0, 1) := by decide +kernel
theorem dX12_leave_188 : decode cX12_leave 188 = .ok (.istore 8, 2) := by decide +kernel
theorem dX12_leave_190 : decode cX12_leave 190 = .ok (.iload 8, 2) := by decide +kernel
theorem dX12_leave_192 : decode cX12_leave 192 = .ok (.iload 4, 2) := by decide +kernel
theorem dX12_leave_194 : decode cX12_leave 194 = .ok (.if_icmp .ge 39, 3) := by decide +kernel
theorem dX12_leave_197 : decode cX12_leave 197 = .ok (.aload_n 0, 1) := by decide +kernel
theorem dX12_leave_198 : decode cX12_leave 198 = .ok (.bipush 16, 2) := by decide +kernel
theorem dX12_leave_200 : decode cX12_leave 200 = .ok (.iload 7, 2) := by decide +kernel
theorem dX12_leave_202 : decode cX12_leave 202 = .ok (.imul, 1) := by decide +kernel
theorem dX12_leave_203 : decode cX12_leave 203 = .ok (.bipush 8, 2) := by decide +kernel
theorem dX12_leave_205 : decode cX12_leave 205 = .ok (.iadd, 1) := by decide +kernel
end
section
theorem dX12_leave_206 : decode cX12_leave 206 = .ok (.iload 8, 2) := by decide +kernel
theorem dX12_leave_208 : decode cX12_leave 208 = .ok (.iadd, 1) := by decide +kernel
theorem dX12_leave_209 : decode cX12_leave 209 = .ok (.aload_n 0, 1) := by decide +kernel
theorem dX12_leave_210 : decode cX12_leave 210 = .ok (.getfield 115, 3) := by decide +kernel
theorem dX12_leave_213 : decode cX12_leave 213 = .ok (.bipush 16, 2) := by decide +kernel
theorem dX12_leave_215 : decode cX12_leave 215 = .ok (.iload_n 1, 1) := by decide +kernel
theorem dX12_leave_216 : decode cX12_leave 216 = .ok (.imul, 1) := by decide +kernel
theorem dX12_leave_217 : decode cX12_leave 217 = .ok (.bipush 8, 2) := by decide +kernel
theorem dX12_leave_219 : decode cX12_leave 219 = .ok (.iadd, 1) := by decide +kernel
theorem dX12_leave_220 : decode cX12_leave 220 = .ok (.iload 8, 2) := by decide +kernel
theorem dX12_leave_222 : decode cX12_leave 222 = .ok (.iadd, 1) := by decide +kernel
theorem dX12_leave_223 : decode cX12_leave 223 = .ok (.iaload, 1) := by decide +kernel
theorem dX12_leave_224 : decode cX12_leave 224 = .ok (.invokevirtual 279, 3) := by decide +kernel
theorem dX12_leave_227 : decode cX12_leave 227 = .ok (.iinc 8 1, 3) := by decide +kernel
theorem dX12_leave_230 : decode cX12_leave 230 = .ok (.goto (-40), 3) := by decide +kernel
theorem dX12_leave_233 : decode cX12_leave 233 = .ok (.iload_n 2, 1) := by decide +kernel
theorem dX12_leave_234 : decode cX12_leave 234 = .ok (.invokestatic 263, 3) := by decide +kernel
theorem dX12_leave_237 : decode cX12_leave 237 = .ok (.iconst 1, 1) := by decide +kernel
theorem dX12_leave_238 : decode cX12_leave 238 = .ok (.if_icmp .ne 20, 3) := by decide +kernel
theorem dX12_leave_241 : decode cX12_leave 241 = .ok (.aload_n 0, 1) := by decide +kernel
theorem dX12_leave_242 : decode cX12_leave 242 = .ok (.bipush 16, 2) := by decide +kernel
theorem dX12_leave_244 : decode cX12_leave 244 = .ok (.iload 7, 2) := by decide +kernel
theorem dX12_leave_246 : decode cX12_leave 246 = .ok (.imul, 1) := by decide +kernel
theorem dX12_leave_247 : decode cX12_leave 247 = .ok (.bipush 8, 2) := by decide +kernel
theorem dX12_leave_249 : decode cX12_leave 249 = .ok (.iadd, 1) := by decide +kernel
theorem dX12_leave_250 : decode cX12_leave 250 = .ok (.iload 4, 2) := by decide +kernel
theorem dX12_leave_252 : decode cX12_leave 252 = .ok (.iadd, 1) := by decide +kernel
theorem dX12_leave_253 : decode cX12_leave 253 = .ok (.iload 5, 2) := by decide +kernel
theorem dX12_leave_255 : decode cX12_leave 255 = .ok (.invokevirtual 279, 3) := by decide +kernel
theorem dX12_leave_258 : decode cX12_leave 258 = .ok (.iinc 6 1, 3) := by decide +kernel
theorem dX12_leave_261 : decode cX12_leave 261 = .ok (.goto (-155), 3) := by decide +kernel
theorem dX12_leave_264 : decode cX12_leave 264 = .ok (.return_, 1) := by decide +kernel
theorem dX12_labelCode_0 : decode cX12_labelCode 0 = .ok (.iconst 0, 1) := by decide +kernel
theorem dX12_labelCode_1 : decode cX12_labelCode 1 = .ok (.istore_n 1, 1) := by decide +kernel
theorem dX12_labelCode_2 : decode cX12_labelCode 2 = .ok (.iload_n 1, 1) := by decide +kernel
theorem dX12_labelCode_3 : decode cX12_labelCode 3 = .ok (.bipush 16, 2) := by decide +kernel
theorem dX12_labelCode_5 : decode cX12_labelCode 5 = .ok (.aload_n 0, 1) := by decide +kernel
theorem dX12_labelCode_6 : decode cX12_labelCode 6 = .ok (.getfield 251, 3) := by decide +kernel
theorem dX12_labelCode_9 : decode cX12_labelCode 9 = .ok (.imul, 1) := by decide +kernel
theorem dX12_labelCode_10 : decode cX12_labelCode 10 = .ok (.if_icmp .ge 19, 3) := by decide +kernel
theorem dX12_labelCode_13 : decode cX12_labelCode 13 = .ok (.aload_n 0, 1) := by decide +kernel
theorem dX12_labelCode_14 : decode cX12_labelCode 14 = .ok (.getfield 115, 3) := by decide +kernel
theorem dX12_labelCode_17 : decode cX12_labelCode 17 = .ok (.iload_n 1, 1) := by decide +kernel
theorem dX12_labelCode_18 : decode cX12_labelCode 18 = .ok (.aload_n 0, 1) := by decide +kernel
theorem dX12_labelCode_19 : decode cX12_labelCode 19 = .ok (.getfield 142, 3) := by decide +kernel
theorem dX12_labelCode_22 : decode cX12_labelCode 22 = .ok (.iastore, 1) := by decide +kernel
theorem dX12_labelCode_23 : decode cX12_labelCode 23 = .ok (.iinc 1 1, 3) := by decide +kernel
theorem dX12_labelCode_26 : decode cX12_labelCode 26 = .ok (.goto (-24), 3) := by decide +kernel
theorem dX12_labelCode_29 : decode cX12_labelCode 29 = .ok (.iconst 0, 1) := by decide +kernel
theorem dX12_labelCode_30 : decode cX12_labelCode 30 = .ok (.istore_n 1, 1) := by decide +kernel
theorem dX12_labelCode_31 : decode cX12_labelCode 31 = .ok (.iload_n 1, 1) := by decide +kernel
theorem dX12_labelCode_32 : decode cX12_labelCode 32 = .ok (.aload_n 0, 1) := by decide +kernel
theorem dX12_labelCode_33 : decode cX12_labelCode 33 = .ok (.getfield 251, 3) := by decide +kernel
theorem dX12_labelCode_36 : decode cX12_labelCode 36 = .ok (.if_icmp .ge 44, 3) := by decide +kernel
theorem dX12_labelCode_39 : decode cX12_labelCode 39 = .ok (.aload_n 0, 1) := by decide +kernel
theorem dX12_labelCode_40 : decode cX12_labelCode 40 = .ok (.getfield 118, 3) := by decide +kernel
theorem dX12_labelCode_43 : decode cX12_labelCode 43 = .ok (.iload_n 1, 1) := by decide +kernel
theorem dX12_labelCode_44 : decode cX12_labelCode 44 = .ok (.aload_n 0, 1) := by decide +kernel
theorem dX12_labelCode_45 : decode cX12_labelCode 45 = .ok (.getfield 142, 3) := by decide +kernel
theorem dX12_labelCode_48 : decode cX12_labelCode 48 = .ok (.iastore, 1) := by decide +kernel
theorem dX12_labelCode_49 : decode cX12_labelCode 49 = .ok (.aload_n 0, 1) := by decide +kernel
theorem dX12_labelCode_50 : decode cX12_labelCode 50 = .ok (.getfield 100, 3) := by decide +kernel
theorem dX12_labelCode_53 : decode cX12_labelCode 53 = .ok (.iload_n 1, 1) := by decide +kernel
theorem dX12_labelCode_54 : decode cX12_labelCode 54 = .ok (.iaload, 1) := by decide +kernel
theorem dX12_labelCode_55 : decode cX12_labelCode 55 = .ok (.ifCond .lt 19, 3) := by decide +kernel
theorem dX12_labelCode_58 : decode cX12_labelCode 58 = .ok (.aload_n 0, 1) := by decide +kernel
theorem dX12_labelCode_59 : decode cX12_labelCode 59 = .ok (.getfield 94, 3) := by decide +kernel
theorem dX12_labelCode_62 : decode cX12_labelCode 62 = .ok (.iload_n 1, 1) := by decide +kernel
theorem dX12_labelCode_63 : decode cX12_labelCode 63 = .ok (.iaload, 1) := by decide +kernel
theorem dX12_labelCode_64 : decode cX12_labelCode 64 = .ok (.bipush 7, 2) := by decide +kernel
theorem dX12_labelCode_66 : decode cX12_labelCode 66 = .ok (.if_icmp .ne 8, 3) := by decide +kernel
theorem dX12_labelCode_69 : decode cX12_labelCode 69 = .ok (.aload_n 0, 1) := by decide +kernel
theorem dX12_labelCode_70 : decode cX12_labelCode 70 = .ok (.iload_n 1, 1) := by decide +kernel
theorem dX12_labelCode_71 : decode cX12_labelCode 71 = .ok (.invokevirtual 282, 3) := by decide +kernel
theorem dX12_labelCode_74 : decode cX12_labelCode 74 = .ok (.iinc 1 1, 3) := by decide +kernel
theorem dX12_labelCode_77 : decode cX12_labelCode 77 = .ok (.goto (-46), 3) := by decide +kernel
theorem dX12_labelCode_80 : decode cX12_labelCode 80 = .ok (.aload_n 0, 1) := by decide +kernel
theorem dX12_labelCode_81 : decode cX12_labelCode 81 = .ok (.iconst 1, 1) := by decide +kernel
theorem dX12_labelCode_82 : decode cX12_labelCode 82 = .ok (.putfield 207, 3) := by decide +kernel
theorem dX12_labelCode_85 : decode cX12_labelCode 85 = .ok (.iconst 0, 1) := by decide +kernel
theorem dX12_labelCode_86 : decode cX12_labelCode 86 = .ok (.istore_n 1, 1) := by decide +kernel
theorem dX12_labelCode_87 : decode cX12_labelCode 87 = .ok (.iload_n 1, 1) := by decide +kernel
theorem dX12_labelCode_88 : decode cX12_labelCode 88 = .ok (.sipush 10000, 3) := by decide +kernel
theorem dX12_labelCode_91 : decode cX12_labelCode 91 = .ok (.if_icmp .ge 81, 3) := by decide +kernel
theorem dX12_labelCode_94 : decode cX12_labelCode 94 = .ok (.aload_n 0, 1) := by decide +kernel
theorem dX12_labelCode_95 : decode cX12_labelCode 95 = .ok (.getfield 207, 3) := by decide +kernel
theorem dX12_labelCode_98 : decode cX12_labelCode 98 = .ok (.ifCond .eq 74, 3) := by decide +kernel
theorem dX12_labelCode_101 : decode cX12_labelCode 101 = .ok (.aload_n 0, 1) := by decide +kernel
theorem dX12_labelCode_102 : decode cX12_labelCode 102 = .ok (.iconst 0, 1) := by decide +kernel
theorem dX12_labelCode_103 : decode cX12_labelCode 103 = .ok (.putfield 207, 3) := by decide +kernel
theorem dX12_labelCode_106 : decode cX12_labelCode 106 = .ok (.iconst 0, 1) := by decide +kernel
theorem dX12_labelCode_107 : decode cX12_labelCode 107 = .ok (.istore_n 2, 1) := by decide +kernel
theorem dX12_labelCode_108 : decode cX12_labelCode 108 = .ok (.iload_n 2, 1) := by decide +kernel
theorem dX12_labelCode_109 : decode cX12_labelCode 109 = .ok (.bipush 8, 2) := by decide +kernel
theorem dX12_labelCode_111 : decode cX12_labelCode 111 = .ok (.if_icmp .ge 20, 3) := by decide +kernel
theorem dX12_labelCode_114 : decode cX12_labelCode 114 = .ok (.aload_n 0, 1) := by decide +kernel
theorem dX12_labelCode_115 : decode cX12_labelCode 115 = .ok (.iload_n 2, 1) := by decide +kernel
theorem dX12_labelCode_116 : decode cX12_labelCode 116 = .ok (.aload_n 0, 1) := by decide +kernel
theorem dX12_labelCode_117 : decode cX12_labelCode 117 = .ok (.getfield 21, 3) := by decide +kernel
theorem dX12_labelCode_120 : decode cX12_labelCode 120 = .ok (.iload_n 2, 1) := by decide +kernel
theorem dX12_labelCode_121 : decode cX12_labelCode 121 = .ok (.iaload, 1) := by decide +kernel
theorem dX12_labelCode_122 : decode cX12_labelCode 122 = .ok (.invokevirtual 279, 3) := by decide +kernel
theorem dX12_labelCode_125 : decode cX12_labelCode 125 = .ok (.iinc 2 1, 3) := by decide +kernel
theorem dX12_labelCode_128 : decode cX12_labelCode 128 = .ok (.goto (-20), 3) := by decide +kernel
theorem dX12_labelCode_131 : decode cX12_labelCode 131 = .ok (.iconst 0, 1) := by decide +kernel
theorem dX12_labelCode_132 : decode cX12_labelCode 132 = .ok (.istore_n 2, 1) := by decide +kernel
theorem dX12_labelCode_133 : decode cX12_labelCode 133 = .ok (.iload_n 2, 1) := by decide +kernel
theorem dX12_labelCode_134 : decode cX12_labelCode 134 = .ok (.aload_n 0, 1) := by decide +kernel
theorem dX12_labelCode_135 : decode cX12_labelCode 135 = .ok (.getfield 251, 3) := by decide +kernel
theorem dX12_labelCode_138 : decode cX12_labelCode 138 = .ok (.if_icmp .ge 28, 3) := by decide +kernel
theorem dX12_labelCode_141 : decode cX12_labelCode 141 = .ok (.aload_n 0, 1) := by decide +kernel
theorem dX12_labelCode_142 : decode cX12_labelCode 142 = .ok (.getfield 100, 3) := by decide +kernel
theorem dX12_labelCode_145 : decode cX12_labelCode 145 = .ok (.iload_n 2, 1) := by decide +kernel
theorem dX12_labelCode_146 : decode cX12_labelCode 146 = .ok (.iaload, 1) := by decide +kernel
theorem dX12_labelCode_147 : decode cX12_labelCode 147 = .ok (.ifCond .lt 13, 3) := by decide +kernel
theorem dX12_labelCode_150 : decode cX12_labelCode 150 = .ok (.aload_n 0, 1) := by decide +kernel
theorem dX12_labelCode_151 : decode cX12_labelCode 151 = .ok (.iload_n 2, 1) := by decide +kernel
theorem dX12_labelCode_152 : decode cX12_labelCode 152 = .ok (.invokevirtual 285, 3) := by decide +kernel
theorem dX12_labelCode_155 : decode cX12_labelCode 155 = .ok (.aload_n 0, 1) := by decide +kernel
theorem dX12_labelCode_156 : decode cX12_labelCode 156 = .ok (.iload_n 2, 1) := by decide +kernel
theorem dX12_labelCode_157 : decode cX12_labelCode 157 = .ok (.invokevirtual 288, 3) := by decide +kernel
theorem dX12_labelCode_160 : decode cX12_labelCode 160 = .ok (.iinc 2 1, 3) := by decide +kernel
theorem dX12_labelCode_163 : decode cX12_labelCode 163 = .ok (.goto (-30), 3) := by decide +kernel
theorem dX12_labelCode_166 : decode cX12_labelCode 166 = .ok (.iinc 1 1, 3) := by decide +kernel
theorem dX12_labelCode_169 : decode cX12_labelCode 169 = .ok (.goto (-82), 3) := by decide +kernel
theorem dX12_labelCode_172 : decode cX12_labelCode 172 = .ok (.return_, 1) := by decide +kernel
theorem dX12_verify_0 : decode cX12_verify 0 = .ok (.aload_n 0, 1) := by decide +kernel
theorem dX12_verify_1 : decode cX12_verify 1 = .ok (.aload_n 0, 1) := by decide +kernel
theorem dX12_verify_2 : decode cX12_verify 2 = .ok (.invokevirtual 291, 3) := by decide +kernel
theorem dX12_verify_5 : decode cX12_verify 5 = .ok (.putfield 257, 3) := by decide +kernel
theorem dX12_verify_8 : decode cX12_verify 8 = .ok (.aload_n 0, 1) := by decide +kernel
theorem dX12_verify_9 : decode cX12_verify 9 = .ok (.iconst 0, 1) := by decide +kernel
theorem dX12_verify_10 : decode cX12_verify 10 = .ok (.putfield 254, 3) := by decide +kernel
theorem dX12_verify_13 : decode cX12_verify 13 = .ok (.aload_n 0, 1) := by decide +kernel
theorem dX12_verify_14 : decode cX12_verify 14 = .ok (.aload_n 0, 1) := by decide +kernel
theorem dX12_verify_15 : decode cX12_verify 15 = .ok (.getfield 257, 3) := by decide +kernel
theorem dX12_verify_18 : decode cX12_verify 18 = .ok (.ifCond .eq 7, 3) := by decide +kernel
theorem dX12_verify_21 : decode cX12_verify 21 = .ok (.iconst 0, 1) := by decide +kernel
theorem dX12_verify_22 : decode cX12_verify 22 = .ok (.goto 4, 3) := by decide +kernel
theorem dX12_verify_25 : decode cX12_verify 25 = .ok (.iconst 1, 1) := by decide +kernel
theorem dX12_verify_26 : decode cX12_verify 26 = .ok (.putfield 124, 3) := by decide +kernel
theorem dX12_verify_29 : decode cX12_verify 29 = .ok (.aload_n 0, 1) := by decide +kernel
theorem dX12_verify_30 : decode cX12_verify 30 = .ok (.getfield 257, 3) := by decide +kernel
theorem dX12_verify_33 : decode cX12_verify 33 = .ok (.ifCond .ne 5, 3) := by decide +kernel
theorem dX12_verify_36 : decode cX12_verify 36 = .ok (.iconst 0, 1) := by decide +kernel
theorem dX12_verify_37 : decode cX12_verify 37 = .ok (.ireturn, 1) := by decide +kernel
theorem dX12_verify_38 : decode cX12_verify 38 = .ok (.aload_n 0, 1) := by decide +kernel
theorem dX12_verify_39 : decode cX12_verify 39 = .ok (.invokevirtual 294, 3) := by decide +kernel
theorem dX12_verify_42 : decode cX12_verify 42 = .ok (.iconst 1, 1) := by decide +kernel
theorem dX12_verify_43 : decode cX12_verify 43 = .ok (.istore_n 1, 1) := by decide +kernel
theorem dX12_verify_44 : decode cX12_verify 44 = .ok (.iconst 0, 1) := by decide +kernel
theorem dX12_verify_45 : decode cX12_verify 45 = .ok (.istore_n 2, 1) := by decide +kernel
theorem dX12_verify_46 : decode cX12_verify 46 = .ok (.iconst 0, 1) := by decide +kernel
theorem dX12_verify_47 : decode cX12_verify 47 = .ok (.istore_n 3, 1) := by decide +kernel
theorem dX12_verify_48 : decode cX12_verify 48 = .ok (.iload_n 3, 1) := by decide +kernel
theorem dX12_verify_49 : decode cX12_verify 49 = .ok (.aload_n 0, 1) := by decide +kernel
theorem dX12_verify_50 : decode cX12_verify 50 = .ok (.getfield 251, 3) := by decide +kernel
theorem dX12_verify_53 : decode cX12_verify 53 = .ok (.if_icmp .ge 103, 3) := by decide +kernel
theorem dX12_verify_56 : decode cX12_verify 56 = .ok (.aload_n 0, 1) := by decide +kernel
theorem dX12_verify_57 : decode cX12_verify 57 = .ok (.getfield 100, 3) := by decide +kernel
theorem dX12_verify_60 : decode cX12_verify 60 = .ok (.iload_n 3, 1) := by decide +kernel
theorem dX12_verify_61 : decode cX12_verify 61 = .ok (.iaload, 1) := by decide +kernel
theorem dX12_verify_62 : decode cX12_verify 62 = .ok (.ifCond .lt 9, 3) := by decide +kernel
theorem dX12_verify_65 : decode cX12_verify 65 = .ok (.iload_n 2, 1) := by decide +kernel
theorem dX12_verify_66 : decode cX12_verify 66 = .ok (.iconst 1, 1) := by decide +kernel
theorem dX12_verify_67 : decode cX12_verify 67 = .ok (.iadd, 1) := by decide +kernel
theorem dX12_verify_68 : decode cX12_verify 68 = .ok (.goto 4, 3) := by decide +kernel
theorem dX12_verify_71 : decode cX12_verify 71 = .ok (.iload_n 2, 1) := by decide +kernel
theorem dX12_verify_72 : decode cX12_verify 72 = .ok (.istore_n 2, 1) := by decide +kernel
theorem dX12_verify_73 : decode cX12_verify 73 = .ok (.iconst 0, 1) := by decide +kernel
theorem dX12_verify_74 : decode cX12_verify 74 = .ok (.istore 4, 2) := by decide +kernel
theorem dX12_verify_76 : decode cX12_verify 76 = .ok (.iload 4, 2) := by decide +kernel
theorem dX12_verify_78 : decode cX12_verify 78 = .ok (.bipush 8, 2) := by decide +kernel
theorem dX12_verify_80 : decode cX12_verify 80 = .ok (.if_icmp .ge 70, 3) := by decide +kernel
theorem dX12_verify_83 : decode cX12_verify 83 = .ok (.iload_n 1, 1) := by decide +kernel
theorem dX12_verify_84 : decode cX12_verify 84 = .ok (.ifCond .eq 58, 3) := by decide +kernel
theorem dX12_verify_87 : decode cX12_verify 87 = .ok (.aload_n 0, 1) := by decide +kernel
theorem dX12_verify_88 : decode cX12_verify 88 = .ok (.getfield 100, 3) := by decide +kernel
theorem dX12_verify_91 : decode cX12_verify 91 = .ok (.iload_n 3, 1) := by decide +kernel
theorem dX12_verify_92 : decode cX12_verify 92 = .ok (.iaload, 1) := by decide +kernel
theorem dX12_verify_93 : decode cX12_verify 93 = .ok (.ifCond .lt 45, 3) := by decide +kernel
theorem dX12_verify_96 : decode cX12_verify 96 = .ok (.aload_n 0, 1) := by decide +kernel
theorem dX12_verify_97 : decode cX12_verify 97 = .ok (.getfield 94, 3) := by decide +kernel
theorem dX12_verify_100 : decode cX12_verify 100 = .ok (.iload_n 3, 1) := by decide +kernel
theorem dX12_verify_101 : decode cX12_verify 101 = .ok (.iaload, 1) := by decide +kernel
theorem dX12_verify_102 : decode cX12_verify 102 = .ok (.bipush 9, 2) := by decide +kernel
theorem dX12_verify_104 : decode cX12_verify 104 = .ok (.if_icmp .ne 34, 3) := by decide +kernel
theorem dX12_verify_107 : decode cX12_verify 107 = .ok (.aload_n 0, 1) := by decide +kernel
theorem dX12_verify_108 : decode cX12_verify 108 = .ok (.getfield 13, 3) := by decide +kernel
theorem dX12_verify_111 : decode cX12_verify 111 = .ok (.bipush 6, 2) := by decide +kernel
theorem dX12_verify_113 : decode cX12_verify 113 = .ok (.aload_n 0, 1) := by decide +kernel
theorem dX12_verify_114 : decode cX12_verify 114 = .ok (.getfield 115, 3) := by decide +kernel
theorem dX12_verify_117 : decode cX12_verify 117 = .ok (.bipush 16, 2) := by decide +kernel
theorem dX12_verify_119 : decode cX12_verify 119 = .ok (.iload_n 3, 1) := by decide +kernel
theorem dX12_verify_120 : decode cX12_verify 120 = .ok (.imul, 1) := by decide +kernel
theorem dX12_verify_121 : decode cX12_verify 121 = .ok (.iload 4, 2) := by decide +kernel
theorem dX12_verify_123 : decode cX12_verify 123 = .ok (.iadd, 1) := by decide +kernel
theorem dX12_verify_124 : decode cX12_verify 124 = .ok (.iaload, 1) := by decide +kernel
theorem dX12_verify_125 : decode cX12_verify 125 = .ok (.imul, 1) := by decide +kernel
theorem dX12_verify_126 : decode cX12_verify 126 = .ok (.aload_n 0, 1) := by decide +kernel
theorem dX12_verify_127 : decode cX12_verify 127 = .ok (.getfield 24, 3) := by decide +kernel
theorem dX12_verify_130 : decode cX12_verify 130 = .ok (.iload 4, 2) := by decide +kernel
theorem dX12_verify_132 : decode cX12_verify 132 = .ok (.iaload, 1) := by decide +kernel
theorem dX12_verify_133 : decode cX12_verify 133 = .ok (.iadd, 1) := by decide +kernel
theorem dX12_verify_134 : decode cX12_verify 134 = .ok (.baload, 1) := by decide +kernel
theorem dX12_verify_135 : decode cX12_verify 135 = .ok (.ifCond .eq 7, 3) := by decide +kernel
theorem dX12_verify_138 : decode cX12_verify 138 = .ok (.iconst 1, 1) := by decide +kernel
theorem dX12_verify_139 : decode cX12_verify 139 = .ok (.goto 4, 3) := by decide +kernel
theorem dX12_verify_142 : decode cX12_verify 142 = .ok (.iconst 0, 1) := by decide +kernel
theorem dX12_verify_143 : decode cX12_verify 143 = .ok (.istore_n 1, 1) := by decide +kernel
theorem dX12_verify_144 : decode cX12_verify 144 = .ok (.iinc 4 1, 3) := by decide +kernel
theorem dX12_verify_147 : decode cX12_verify 147 = .ok (.goto (-71), 3) := by decide +kernel
theorem dX12_verify_150 : decode cX12_verify 150 = .ok (.iinc 3 1, 3) := by decide +kernel
theorem dX12_verify_153 : decode cX12_verify 153 = .ok (.goto (-105), 3) := by decide +kernel
theorem dX12_verify_156 : decode cX12_verify 156 = .ok (.aload_n 0, 1) := by decide +kernel
theorem dX12_verify_157 : decode cX12_verify 157 = .ok (.iload_n 1, 1) := by decide +kernel
theorem dX12_verify_158 : decode cX12_verify 158 = .ok (.ifCond .eq 7, 3) := by decide +kernel
theorem dX12_verify_161 : decode cX12_verify 161 = .ok (.iconst 0, 1) := by decide +kernel
theorem dX12_verify_162 : decode cX12_verify 162 = .ok (.goto 4, 3) := by decide +kernel
theorem dX12_verify_165 : decode cX12_verify 165 = .ok (.iconst 2, 1) := by decide +kernel
theorem dX12_verify_166 : decode cX12_verify 166 = .ok (.putfield 124, 3) := by decide +kernel
theorem dX12_verify_169 : decode cX12_verify 169 = .ok (.aload_n 0, 1) := by decide +kernel
theorem dX12_verify_170 : decode cX12_verify 170 = .ok (.iload_n 1, 1) := by decide +kernel
theorem dX12_verify_171 : decode cX12_verify 171 = .ok (.putfield 254, 3) := by decide +kernel
theorem dX12_verify_174 : decode cX12_verify 174 = .ok (.iload_n 1, 1) := by decide +kernel
theorem dX12_verify_175 : decode cX12_verify 175 = .ok (.ifCond .eq 7, 3) := by decide +kernel
theorem dX12_verify_178 : decode cX12_verify 178 = .ok (.iload_n 2, 1) := by decide +kernel
theorem dX12_verify_179 : decode cX12_verify 179 = .ok (.goto 4, 3) := by decide +kernel
theorem dX12_verify_182 : decode cX12_verify 182 = .ok (.iconst 0, 1) := by decide +kernel
theorem dX12_verify_183 : decode cX12_verify 183 = .ok (.ireturn, 1) := by decide +kernel
theorem dX12_found_0 : decode cX12_found 0 = .ok (.aload_n 0, 1) := by decide +kernel
theorem dX12_found_1 : decode cX12_found 1 = .ok (.iconst 0, 1) := by decide +kernel
theorem dX12_found_2 : decode cX12_found 2 = .ok (.putfield 124, 3) := by decide +kernel
theorem dX12_found_5 : decode cX12_found 5 = .ok (.aload_n 0, 1) := by decide +kernel
theorem dX12_found_6 : decode cX12_found 6 = .ok (.getfield 257, 3) := by decide +kernel
theorem dX12_found_9 : decode cX12_found 9 = .ok (.ifCond .eq 41, 3) := by decide +kernel
theorem dX12_found_12 : decode cX12_found 12 = .ok (.iload_n 1, 1) := by decide +kernel
theorem dX12_found_13 : decode cX12_found 13 = .ok (.ifCond .lt 37, 3) := by decide +kernel
theorem dX12_found_16 : decode cX12_found 16 = .ok (.iload_n 1, 1) := by decide +kernel
theorem dX12_found_17 : decode cX12_found 17 = .ok (.aload_n 0, 1) := by decide +kernel
theorem dX12_found_18 : decode cX12_found 18 = .ok (.getfield 251, 3) := by decide +kernel
theorem dX12_found_21 : decode cX12_found 21 = .ok (.if_icmp .ge 29, 3) := by decide +kernel
theorem dX12_found_24 : decode cX12_found 24 = .ok (.aload_n 0, 1) := by decide +kernel
theorem dX12_found_25 : decode cX12_found 25 = .ok (.getfield 100, 3) := by decide +kernel
theorem dX12_found_28 : decode cX12_found 28 = .ok (.iload_n 1, 1) := by decide +kernel
theorem dX12_found_29 : decode cX12_found 29 = .ok (.iaload, 1) := by decide +kernel
theorem dX12_found_30 : decode cX12_found 30 = .ok (.ifCond .lt 20, 3) := by decide +kernel
theorem dX12_found_33 : decode cX12_found 33 = .ok (.iload_n 2, 1) := by decide +kernel
theorem dX12_found_34 : decode cX12_found 34 = .ok (.ifCond .lt 16, 3) := by decide +kernel
theorem dX12_found_37 : decode cX12_found 37 = .ok (.iload_n 2, 1) := by decide +kernel
theorem dX12_found_38 : decode cX12_found 38 = .ok (.bipush 8, 2) := by decide +kernel
theorem dX12_found_40 : decode cX12_found 40 = .ok (.aload_n 0, 1) := by decide +kernel
theorem dX12_found_41 : decode cX12_found 41 = .ok (.getfield 100, 3) := by decide +kernel
theorem dX12_found_44 : decode cX12_found 44 = .ok (.iload_n 1, 1) := by decide +kernel
theorem dX12_found_45 : decode cX12_found 45 = .ok (.iaload, 1) := by decide +kernel
theorem dX12_found_46 : decode cX12_found 46 = .ok (.iadd, 1) := by decide +kernel
theorem dX12_found_47 : decode cX12_found 47 = .ok (.if_icmp .le 5, 3) := by decide +kernel
theorem dX12_found_50 : decode cX12_found 50 = .ok (.iconst (-1), 1) := by decide +kernel
theorem dX12_found_51 : decode cX12_found 51 = .ok (.ireturn, 1) := by decide +kernel
theorem dX12_found_52 : decode cX12_found 52 = .ok (.iload_n 2, 1) := by decide +kernel
theorem dX12_found_53 : decode cX12_found 53 = .ok (.bipush 8, 2) := by decide +kernel
theorem dX12_found_55 : decode cX12_found 55 = .ok (.if_icmp .ge 17, 3) := by decide +kernel
theorem dX12_found_58 : decode cX12_found 58 = .ok (.aload_n 0, 1) := by decide +kernel
theorem dX12_found_59 : decode cX12_found 59 = .ok (.getfield 115, 3) := by decide +kernel
theorem dX12_found_62 : decode cX12_found 62 = .ok (.bipush 16, 2) := by decide +kernel
theorem dX12_found_64 : decode cX12_found 64 = .ok (.iload_n 1, 1) := by decide +kernel
theorem dX12_found_65 : decode cX12_found 65 = .ok (.imul, 1) := by decide +kernel
theorem dX12_found_66 : decode cX12_found 66 = .ok (.iload_n 2, 1) := by decide +kernel
theorem dX12_found_67 : decode cX12_found 67 = .ok (.iadd, 1) := by decide +kernel
theorem dX12_found_68 : decode cX12_found 68 = .ok (.iaload, 1) := by decide +kernel
theorem dX12_found_69 : decode cX12_found 69 = .ok (.goto 31, 3) := by decide +kernel
theorem dX12_found_72 : decode cX12_found 72 = .ok (.iload_n 2, 1) := by decide +kernel
theorem dX12_found_73 : decode cX12_found 73 = .ok (.bipush 8, 2) := by decide +kernel
theorem dX12_found_75 : decode cX12_found 75 = .ok (.if_icmp .ne 12, 3) := by decide +kernel
theorem dX12_found_78 : decode cX12_found 78 = .ok (.aload_n 0, 1) := by decide +kernel
theorem dX12_found_79 : decode cX12_found 79 = .ok (.getfield 118, 3) := by decide +kernel
theorem dX12_found_82 : decode cX12_found 82 = .ok (.iload_n 1, 1) := by decide +kernel
theorem dX12_found_83 : decode cX12_found 83 = .ok (.iaload, 1) := by decide +kernel
theorem dX12_found_84 : decode cX12_found 84 = .ok (.goto 16, 3) := by decide +kernel
theorem dX12_found_87 : decode cX12_found 87 = .ok (.aload_n 0, 1) := by decide +kernel
theorem dX12_found_88 : decode cX12_found 88 = .ok (.getfield 115, 3) := by decide +kernel
theorem dX12_found_91 : decode cX12_found 91 = .ok (.bipush 16, 2) := by decide +kernel
theorem dX12_found_93 : decode cX12_found 93 = .ok (.iload_n 1, 1) := by decide +kernel
theorem dX12_found_94 : decode cX12_found 94 = .ok (.imul, 1) := by decide +kernel
theorem dX12_found_95 : decode cX12_found 95 = .ok (.iload_n 2, 1) := by decide +kernel
theorem dX12_found_96 : decode cX12_found 96 = .ok (.iadd, 1) := by decide +kernel
theorem dX12_found_97 : decode cX12_found 97 = .ok (.iconst 1, 1) := by decide +kernel
theorem dX12_found_98 : decode cX12_found 98 = .ok (.isub, 1) := by decide +kernel
theorem dX12_found_99 : decode cX12_found 99 = .ok (.iaload, 1) := by decide +kernel
theorem dX12_found_100 : decode cX12_found 100 = .ok (.ireturn, 1) := by decide +kernel
theorem dX12_set_0 : decode cX12_set 0 = .ok (.aload_n 0, 1) := by decide +kernel
theorem dX12_set_1 : decode cX12_set 1 = .ok (.iconst 0, 1) := by decide +kernel
theorem dX12_set_2 : decode cX12_set 2 = .ok (.putfield 124, 3) := by decide +kernel
theorem dX12_set_5 : decode cX12_set 5 = .ok (.iload_n 1, 1) := by decide +kernel
theorem dX12_set_6 : decode cX12_set 6 = .ok (.ifCond .lt 9, 3) := by decide +kernel
theorem dX12_set_9 : decode cX12_set 9 = .ok (.iload_n 1, 1) := by decide +kernel
theorem dX12_set_10 : decode cX12_set 10 = .ok (.bipush 7, 2) := by decide +kernel
theorem dX12_set_12 : decode cX12_set 12 = .ok (.if_icmp .le 5, 3) := by decide +kernel
theorem dX12_set_15 : decode cX12_set 15 = .ok (.iconst 0, 1) := by decide +kernel
theorem dX12_set_16 : decode cX12_set 16 = .ok (.ireturn, 1) := by decide +kernel
theorem dX12_set_17 : decode cX12_set 17 = .ok (.aload_n 0, 1) := by decide +kernel
theorem dX12_set_18 : decode cX12_set 18 = .ok (.getfield 27, 3) := by decide +kernel
theorem dX12_set_21 : decode cX12_set 21 = .ok (.iload_n 1, 1) := by decide +kernel
theorem dX12_set_22 : decode cX12_set 22 = .ok (.iload_n 2, 1) := by decide +kernel
theorem dX12_set_23 : decode cX12_set 23 = .ok (.iastore, 1) := by decide +kernel
theorem dX12_set_24 : decode cX12_set 24 = .ok (.iconst 1, 1) := by decide +kernel
theorem dX12_set_25 : decode cX12_set 25 = .ok (.ireturn, 1) := by decide +kernel
theorem dX12_get_0 : decode cX12_get 0 = .ok (.aload_n 0, 1) := by decide +kernel
theorem dX12_get_1 : decode cX12_get 1 = .ok (.iconst 0, 1) := by decide +kernel
theorem dX12_get_2 : decode cX12_get 2 = .ok (.putfield 124, 3) := by decide +kernel
theorem dX12_get_5 : decode cX12_get 5 = .ok (.iload_n 1, 1) := by decide +kernel
theorem dX12_get_6 : decode cX12_get 6 = .ok (.ifCond .lt 18, 3) := by decide +kernel
theorem dX12_get_9 : decode cX12_get 9 = .ok (.iload_n 1, 1) := by decide +kernel
theorem dX12_get_10 : decode cX12_get 10 = .ok (.bipush 8, 2) := by decide +kernel
theorem dX12_get_12 : decode cX12_get 12 = .ok (.if_icmp .ge 12, 3) := by decide +kernel
theorem dX12_get_15 : decode cX12_get 15 = .ok (.aload_n 0, 1) := by decide +kernel
theorem dX12_get_16 : decode cX12_get 16 = .ok (.getfield 27, 3) := by decide +kernel
theorem dX12_get_19 : decode cX12_get 19 = .ok (.iload_n 1, 1) := by decide +kernel
theorem dX12_get_20 : decode cX12_get 20 = .ok (.iaload, 1) := by decide +kernel
theorem dX12_get_21 : decode cX12_get 21 = .ok (.goto 4, 3) := by decide +kernel
theorem dX12_get_24 : decode cX12_get 24 = .ok (.iconst 0, 1) := by decide +kernel
theorem dX12_get_25 : decode cX12_get 25 = .ok (.ireturn, 1) := by decide +kernel
theorem dX12_worked_0 : decode cX12_worked 0 = .ok (.iload_n 0, 1) := by decide +kernel
theorem dX12_worked_1 : decode cX12_worked 1 = .ok (.iconst 3, 1) := by decide +kernel
theorem dX12_worked_2 : decode cX12_worked 2 = .ok (.if_icmp .ne 9, 3) := by decide +kernel
theorem dX12_worked_5 : decode cX12_worked 5 = .ok (.iload_n 1, 1) := by decide +kernel
theorem dX12_worked_6 : decode cX12_worked 6 = .ok (.iload_n 2, 1) := by decide +kernel
theorem dX12_worked_7 : decode cX12_worked 7 = .ok (.iadd, 1) := by decide +kernel
theorem dX12_worked_8 : decode cX12_worked 8 = .ok (.goto 35, 3) := by decide +kernel
theorem dX12_worked_11 : decode cX12_worked 11 = .ok (.iload_n 0, 1) := by decide +kernel
theorem dX12_worked_12 : decode cX12_worked 12 = .ok (.iconst 4, 1) := by decide +kernel
theorem dX12_worked_13 : decode cX12_worked 13 = .ok (.if_icmp .ne 9, 3) := by decide +kernel
theorem dX12_worked_16 : decode cX12_worked 16 = .ok (.iload_n 1, 1) := by decide +kernel
theorem dX12_worked_17 : decode cX12_worked 17 = .ok (.iload_n 2, 1) := by decide +kernel
theorem dX12_worked_18 : decode cX12_worked 18 = .ok (.isub, 1) := by decide +kernel
theorem dX12_worked_19 : decode cX12_worked 19 = .ok (.goto 24, 3) := by decide +kernel
theorem dX12_worked_22 : decode cX12_worked 22 = .ok (.iload_n 0, 1) := by decide +kernel
theorem dX12_worked_23 : decode cX12_worked 23 = .ok (.iconst 5, 1) := by decide +kernel
theorem dX12_worked_24 : decode cX12_worked 24 = .ok (.if_icmp .ne 9, 3) := by decide +kernel
theorem dX12_worked_27 : decode cX12_worked 27 = .ok (.iload_n 1, 1) := by decide +kernel
theorem dX12_worked_28 : decode cX12_worked 28 = .ok (.iload_n 2, 1) := by decide +kernel
theorem dX12_worked_29 : decode cX12_worked 29 = .ok (.imul, 1) := by decide +kernel
theorem dX12_worked_30 : decode cX12_worked 30 = .ok (.goto 13, 3) := by decide +kernel
theorem dX12_worked_33 : decode cX12_worked 33 = .ok (.iload_n 1, 1) := by decide +kernel
theorem dX12_worked_34 : decode cX12_worked 34 = .ok (.iload_n 2, 1) := by decide +kernel
theorem dX12_worked_35 : decode cX12_worked 35 = .ok (.if_icmp .ge 7, 3) := by decide +kernel
theorem dX12_worked_38 : decode cX12_worked 38 = .ok (.iconst 1, 1) := by decide +kernel
theorem dX12_worked_39 : decode cX12_worked 39 = .ok (.goto 4, 3) := by decide +kernel
theorem dX12_worked_42 : decode cX12_worked 42 = .ok (.iconst 0, 1) := by decide +kernel
theorem dX12_worked_43 : decode cX12_worked 43 = .ok (.ireturn, 1) := by decide +kernel
theorem dX12_goOver_0 : decode cX12_goOver 0 = .ok (.iconst 0, 1) := by decide +kernel
theorem dX12_goOver_1 : decode cX12_goOver 1 = .ok (.istore 5, 2) := by decide +kernel
theorem dX12_goOver_3 : decode cX12_goOver 3 = .ok (.iload 5, 2) := by decide +kernel
theorem dX12_goOver_5 : decode cX12_goOver 5 = .ok (.bipush 8, 2) := by decide +kernel
theorem dX12_goOver_7 : decode cX12_goOver 7 = .ok (.if_icmp .ge 23, 3) := by decide +kernel
theorem dX12_goOver_10 : decode cX12_goOver 10 = .ok (.aload_n 0, 1) := by decide +kernel
theorem dX12_goOver_11 : decode cX12_goOver 11 = .ok (.getfield 30, 3) := by decide +kernel
theorem dX12_goOver_14 : decode cX12_goOver 14 = .ok (.iload 5, 2) := by decide +kernel
theorem dX12_goOver_16 : decode cX12_goOver 16 = .ok (.aload_n 0, 1) := by decide +kernel
theorem dX12_goOver_17 : decode cX12_goOver 17 = .ok (.getfield 27, 3) := by decide +kernel
theorem dX12_goOver_20 : decode cX12_goOver 20 = .ok (.iload 5, 2) := by decide +kernel
theorem dX12_goOver_22 : decode cX12_goOver 22 = .ok (.iaload, 1) := by decide +kernel
theorem dX12_goOver_23 : decode cX12_goOver 23 = .ok (.iastore, 1) := by decide +kernel
theorem dX12_goOver_24 : decode cX12_goOver 24 = .ok (.iinc 5 1, 3) := by decide +kernel
theorem dX12_goOver_27 : decode cX12_goOver 27 = .ok (.goto (-24), 3) := by decide +kernel
theorem dX12_goOver_30 : decode cX12_goOver 30 = .ok (.iconst 0, 1) := by decide +kernel
theorem dX12_goOver_31 : decode cX12_goOver 31 = .ok (.istore 5, 2) := by decide +kernel
theorem dX12_goOver_33 : decode cX12_goOver 33 = .ok (.iconst 0, 1) := by decide +kernel
theorem dX12_goOver_34 : decode cX12_goOver 34 = .ok (.istore 6, 2) := by decide +kernel
theorem dX12_goOver_36 : decode cX12_goOver 36 = .ok (.aload_n 0, 1) := by decide +kernel
theorem dX12_goOver_37 : decode cX12_goOver 37 = .ok (.iconst 0, 1) := by decide +kernel
theorem dX12_goOver_38 : decode cX12_goOver 38 = .ok (.putfield 297, 3) := by decide +kernel
theorem dX12_goOver_41 : decode cX12_goOver 41 = .ok (.iconst 1, 1) := by decide +kernel
theorem dX12_goOver_42 : decode cX12_goOver 42 = .ok (.istore 7, 2) := by decide +kernel
theorem dX12_goOver_44 : decode cX12_goOver 44 = .ok (.iload 7, 2) := by decide +kernel
theorem dX12_goOver_46 : decode cX12_goOver 46 = .ok (.iload_n 3, 1) := by decide +kernel
theorem dX12_goOver_47 : decode cX12_goOver 47 = .ok (.if_icmp .gt 197, 3) := by decide +kernel
theorem dX12_goOver_50 : decode cX12_goOver 50 = .ok (.aload_n 1, 1) := by decide +kernel
theorem dX12_goOver_51 : decode cX12_goOver 51 = .ok (.iload 5, 2) := by decide +kernel
theorem dX12_goOver_53 : decode cX12_goOver 53 = .ok (.iaload, 1) := by decide +kernel
theorem dX12_goOver_54 : decode cX12_goOver 54 = .ok (.istore 8, 2) := by decide +kernel
theorem dX12_goOver_56 : decode cX12_goOver 56 = .ok (.aload_n 2, 1) := by decide +kernel
theorem dX12_goOver_57 : decode cX12_goOver 57 = .ok (.iload 5, 2) := by decide +kernel
theorem dX12_goOver_59 : decode cX12_goOver 59 = .ok (.iaload, 1) := by decide +kernel
theorem dX12_goOver_60 : decode cX12_goOver 60 = .ok (.istore 9, 2) := by decide +kernel
theorem dX12_goOver_62 : decode cX12_goOver 62 = .ok (.iinc 5 1, 3) := by decide +kernel
theorem dX12_goOver_65 : decode cX12_goOver 65 = .ok (.iload 8, 2) := by decide +kernel
theorem dX12_goOver_67 : decode cX12_goOver 67 = .ok (.bipush 9, 2) := by decide +kernel
theorem dX12_goOver_69 : decode cX12_goOver 69 = .ok (.if_icmp .ne 6, 3) := by decide +kernel
theorem dX12_goOver_72 : decode cX12_goOver 72 = .ok (.iload 7, 2) := by decide +kernel
theorem dX12_goOver_74 : decode cX12_goOver 74 = .ok (.ireturn, 1) := by decide +kernel
theorem dX12_goOver_75 : decode cX12_goOver 75 = .ok (.iload 8, 2) := by decide +kernel
theorem dX12_goOver_77 : decode cX12_goOver 77 = .ok (.iconst 2, 1) := by decide +kernel
theorem dX12_goOver_78 : decode cX12_goOver 78 = .ok (.if_icmp .ge 33, 3) := by decide +kernel
theorem dX12_goOver_81 : decode cX12_goOver 81 = .ok (.aload_n 0, 1) := by decide +kernel
theorem dX12_goOver_82 : decode cX12_goOver 82 = .ok (.getfield 121, 3) := by decide +kernel
theorem dX12_goOver_85 : decode cX12_goOver 85 = .ok (.iload 6, 2) := by decide +kernel
theorem dX12_goOver_87 : decode cX12_goOver 87 = .ok (.iload 8, 2) := by decide +kernel
theorem dX12_goOver_89 : decode cX12_goOver 89 = .ok (.ifCond .ne 8, 3) := by decide +kernel
theorem dX12_goOver_92 : decode cX12_goOver 92 = .ok (.iload 9, 2) := by decide +kernel
theorem dX12_goOver_94 : decode cX12_goOver 94 = .ok (.goto 10, 3) := by decide +kernel
theorem dX12_goOver_97 : decode cX12_goOver 97 = .ok (.aload_n 0, 1) := by decide +kernel
theorem dX12_goOver_98 : decode cX12_goOver 98 = .ok (.getfield 27, 3) := by decide +kernel
theorem dX12_goOver_101 : decode cX12_goOver 101 = .ok (.iload 9, 2) := by decide +kernel
theorem dX12_goOver_103 : decode cX12_goOver 103 = .ok (.iaload, 1) := by decide +kernel
theorem dX12_goOver_104 : decode cX12_goOver 104 = .ok (.iastore, 1) := by decide +kernel
theorem dX12_goOver_105 : decode cX12_goOver 105 = .ok (.iinc 6 1, 3) := by decide +kernel
theorem dX12_goOver_108 : decode cX12_goOver 108 = .ok (.goto 118, 3) := by decide +kernel
theorem dX12_goOver_111 : decode cX12_goOver 111 = .ok (.iload 8, 2) := by decide +kernel
theorem dX12_goOver_113 : decode cX12_goOver 113 = .ok (.iconst 2, 1) := by decide +kernel
theorem dX12_goOver_114 : decode cX12_goOver 114 = .ok (.if_icmp .ne 23, 3) := by decide +kernel
theorem dX12_goOver_117 : decode cX12_goOver 117 = .ok (.iinc 6 (-1), 3) := by decide +kernel
theorem dX12_goOver_120 : decode cX12_goOver 120 = .ok (.aload_n 0, 1) := by decide +kernel
theorem dX12_goOver_121 : decode cX12_goOver 121 = .ok (.getfield 27, 3) := by decide +kernel
theorem dX12_goOver_124 : decode cX12_goOver 124 = .ok (.iload 9, 2) := by decide +kernel
theorem dX12_goOver_126 : decode cX12_goOver 126 = .ok (.aload_n 0, 1) := by decide +kernel
theorem dX12_goOver_127 : decode cX12_goOver 127 = .ok (.getfield 121, 3) := by decide +kernel
theorem dX12_goOver_130 : decode cX12_goOver 130 = .ok (.iload 6, 2) := by decide +kernel
theorem dX12_goOver_132 : decode cX12_goOver 132 = .ok (.iaload, 1) := by decide +kernel
theorem dX12_goOver_133 : decode cX12_goOver 133 = .ok (.iastore, 1) := by decide +kernel
theorem dX12_goOver_134 : decode cX12_goOver 134 = .ok (.goto 92, 3) := by decide +kernel
theorem dX12_goOver_137 : decode cX12_goOver 137 = .ok (.iload 8, 2) := by decide +kernel
theorem dX12_goOver_139 : decode cX12_goOver 139 = .ok (.bipush 7, 2) := by decide +kernel
theorem dX12_goOver_141 : decode cX12_goOver 141 = .ok (.if_icmp .ge 39, 3) := by decide +kernel
theorem dX12_goOver_144 : decode cX12_goOver 144 = .ok (.iinc 6 (-1), 3) := by decide +kernel
theorem dX12_goOver_147 : decode cX12_goOver 147 = .ok (.aload_n 0, 1) := by decide +kernel
theorem dX12_goOver_148 : decode cX12_goOver 148 = .ok (.getfield 121, 3) := by decide +kernel
theorem dX12_goOver_151 : decode cX12_goOver 151 = .ok (.iload 6, 2) := by decide +kernel
theorem dX12_goOver_153 : decode cX12_goOver 153 = .ok (.iconst 1, 1) := by decide +kernel
theorem dX12_goOver_154 : decode cX12_goOver 154 = .ok (.isub, 1) := by decide +kernel
theorem dX12_goOver_155 : decode cX12_goOver 155 = .ok (.iload 8, 2) := by decide +kernel
theorem dX12_goOver_157 : decode cX12_goOver 157 = .ok (.aload_n 0, 1) := by decide +kernel
theorem dX12_goOver_158 : decode cX12_goOver 158 = .ok (.getfield 121, 3) := by decide +kernel
theorem dX12_goOver_161 : decode cX12_goOver 161 = .ok (.iload 6, 2) := by decide +kernel
theorem dX12_goOver_163 : decode cX12_goOver 163 = .ok (.iconst 1, 1) := by decide +kernel
theorem dX12_goOver_164 : decode cX12_goOver 164 = .ok (.isub, 1) := by decide +kernel
theorem dX12_goOver_165 : decode cX12_goOver 165 = .ok (.iaload, 1) := by decide +kernel
theorem dX12_goOver_166 : decode cX12_goOver 166 = .ok (.aload_n 0, 1) := by decide +kernel
theorem dX12_goOver_167 : decode cX12_goOver 167 = .ok (.getfield 121, 3) := by decide +kernel
theorem dX12_goOver_170 : decode cX12_goOver 170 = .ok (.iload 6, 2) := by decide +kernel
theorem dX12_goOver_172 : decode cX12_goOver 172 = .ok (.iaload, 1) := by decide +kernel
theorem dX12_goOver_173 : decode cX12_goOver 173 = .ok (.invokestatic 300, 3) := by decide +kernel
theorem dX12_goOver_176 : decode cX12_goOver 176 = .ok (.iastore, 1) := by decide +kernel
theorem dX12_goOver_177 : decode cX12_goOver 177 = .ok (.goto 49, 3) := by decide +kernel
theorem dX12_goOver_180 : decode cX12_goOver 180 = .ok (.iload 8, 2) := by decide +kernel
theorem dX12_goOver_182 : decode cX12_goOver 182 = .ok (.bipush 7, 2) := by decide +kernel
theorem dX12_goOver_184 : decode cX12_goOver 184 = .ok (.if_icmp .ne 38, 3) := by decide +kernel
theorem dX12_goOver_187 : decode cX12_goOver 187 = .ok (.iinc 6 (-1), 3) := by decide +kernel
theorem dX12_goOver_190 : decode cX12_goOver 190 = .ok (.aload_n 0, 1) := by decide +kernel
theorem dX12_goOver_191 : decode cX12_goOver 191 = .ok (.dup, 1) := by decide +kernel
theorem dX12_goOver_192 : decode cX12_goOver 192 = .ok (.getfield 297, 3) := by decide +kernel
theorem dX12_goOver_195 : decode cX12_goOver 195 = .ok (.iconst 1, 1) := by decide +kernel
theorem dX12_goOver_196 : decode cX12_goOver 196 = .ok (.iadd, 1) := by decide +kernel
theorem dX12_goOver_197 : decode cX12_goOver 197 = .ok (.putfield 297, 3) := by decide +kernel
theorem dX12_goOver_200 : decode cX12_goOver 200 = .ok (.aload_n 0, 1) := by decide +kernel
theorem dX12_goOver_201 : decode cX12_goOver 201 = .ok (.getfield 121, 3) := by decide +kernel
theorem dX12_goOver_204 : decode cX12_goOver 204 = .ok (.iload 6, 2) := by decide +kernel
theorem dX12_goOver_206 : decode cX12_goOver 206 = .ok (.iaload, 1) := by decide +kernel
theorem dX12_goOver_207 : decode cX12_goOver 207 = .ok (.ifCond .ne 8, 3) := by decide +kernel
theorem dX12_goOver_210 : decode cX12_goOver 210 = .ok (.iload 9, 2) := by decide +kernel
theorem dX12_goOver_212 : decode cX12_goOver 212 = .ok (.goto 5, 3) := by decide +kernel
theorem dX12_goOver_215 : decode cX12_goOver 215 = .ok (.iload 5, 2) := by decide +kernel
theorem dX12_goOver_217 : decode cX12_goOver 217 = .ok (.istore 5, 2) := by decide +kernel
theorem dX12_goOver_219 : decode cX12_goOver 219 = .ok (.goto 7, 3) := by decide +kernel
theorem dX12_goOver_222 : decode cX12_goOver 222 = .ok (.iload 9, 2) := by decide +kernel
theorem dX12_goOver_224 : decode cX12_goOver 224 = .ok (.istore 5, 2) := by decide +kernel
theorem dX12_goOver_226 : decode cX12_goOver 226 = .ok (.aload_n 0, 1) := by decide +kernel
theorem dX12_goOver_227 : decode cX12_goOver 227 = .ok (.getfield 297, 3) := by decide +kernel
theorem dX12_goOver_230 : decode cX12_goOver 230 = .ok (.iload 4, 2) := by decide +kernel
theorem dX12_goOver_232 : decode cX12_goOver 232 = .ok (.if_icmp .le 6, 3) := by decide +kernel
theorem dX12_goOver_235 : decode cX12_goOver 235 = .ok (.iload_n 3, 1) := by decide +kernel
theorem dX12_goOver_236 : decode cX12_goOver 236 = .ok (.istore 7, 2) := by decide +kernel
theorem dX12_goOver_238 : decode cX12_goOver 238 = .ok (.iinc 7 1, 3) := by decide +kernel
theorem dX12_goOver_241 : decode cX12_goOver 241 = .ok (.goto (-197), 3) := by decide +kernel
theorem dX12_goOver_244 : decode cX12_goOver 244 = .ok (.iconst 0, 1) := by decide +kernel
theorem dX12_goOver_245 : decode cX12_goOver 245 = .ok (.istore 7, 2) := by decide +kernel
theorem dX12_goOver_247 : decode cX12_goOver 247 = .ok (.iload 7, 2) := by decide +kernel
theorem dX12_goOver_249 : decode cX12_goOver 249 = .ok (.bipush 8, 2) := by decide +kernel
theorem dX12_goOver_251 : decode cX12_goOver 251 = .ok (.if_icmp .ge 23, 3) := by decide +kernel
theorem dX12_goOver_254 : decode cX12_goOver 254 = .ok (.aload_n 0, 1) := by decide +kernel
theorem dX12_goOver_255 : decode cX12_goOver 255 = .ok (.getfield 27, 3) := by decide +kernel
theorem dX12_goOver_258 : decode cX12_goOver 258 = .ok (.iload 7, 2) := by decide +kernel
theorem dX12_goOver_260 : decode cX12_goOver 260 = .ok (.aload_n 0, 1) := by decide +kernel
theorem dX12_goOver_261 : decode cX12_goOver 261 = .ok (.getfield 30, 3) := by decide +kernel
theorem dX12_goOver_264 : decode cX12_goOver 264 = .ok (.iload 7, 2) := by decide +kernel
theorem dX12_goOver_266 : decode cX12_goOver 266 = .ok (.iaload, 1) := by decide +kernel
theorem dX12_goOver_267 : decode cX12_goOver 267 = .ok (.iastore, 1) := by decide +kernel
theorem dX12_goOver_268 : decode cX12_goOver 268 = .ok (.iinc 7 1, 3) := by decide +kernel
theorem dX12_goOver_271 : decode cX12_goOver 271 = .ok (.goto (-24), 3) := by decide +kernel
theorem dX12_goOver_274 : decode cX12_goOver 274 = .ok (.iconst (-1), 1) := by decide +kernel
theorem dX12_goOver_275 : decode cX12_goOver 275 = .ok (.ireturn, 1) := by decide +kernel
theorem dX12_run_0 : decode cX12_run 0 = .ok (.aload_n 0, 1) := by decide +kernel
theorem dX12_run_1 : decode cX12_run 1 = .ok (.iload_n 1, 1) := by decide +kernel
theorem dX12_run_2 : decode cX12_run 2 = .ok (.ifCond .lt 10, 3) := by decide +kernel
theorem dX12_run_5 : decode cX12_run 5 = .ok (.iload_n 1, 1) := by decide +kernel
theorem dX12_run_6 : decode cX12_run 6 = .ok (.sipush 2000, 3) := by decide +kernel
theorem dX12_run_9 : decode cX12_run 9 = .ok (.if_icmp .le 7, 3) := by decide +kernel
theorem dX12_run_12 : decode cX12_run 12 = .ok (.iconst 1, 1) := by decide +kernel
theorem dX12_run_13 : decode cX12_run 13 = .ok (.goto 15, 3) := by decide +kernel
theorem dX12_run_16 : decode cX12_run 16 = .ok (.aload_n 0, 1) := by decide +kernel
theorem dX12_run_17 : decode cX12_run 17 = .ok (.getfield 254, 3) := by decide +kernel
theorem dX12_run_20 : decode cX12_run 20 = .ok (.ifCond .ne 7, 3) := by decide +kernel
theorem dX12_run_23 : decode cX12_run 23 = .ok (.iconst 2, 1) := by decide +kernel
theorem dX12_run_24 : decode cX12_run 24 = .ok (.goto 4, 3) := by decide +kernel
theorem dX12_run_27 : decode cX12_run 27 = .ok (.iconst 0, 1) := by decide +kernel
theorem dX12_run_28 : decode cX12_run 28 = .ok (.putfield 124, 3) := by decide +kernel
theorem dX12_run_31 : decode cX12_run 31 = .ok (.aload_n 0, 1) := by decide +kernel
theorem dX12_run_32 : decode cX12_run 32 = .ok (.getfield 124, 3) := by decide +kernel
theorem dX12_run_35 : decode cX12_run 35 = .ok (.ifCond .le 7, 3) := by decide +kernel
theorem dX12_run_38 : decode cX12_run 38 = .ok (.iconst 0, 1) := by decide +kernel
theorem dX12_run_39 : decode cX12_run 39 = .ok (.goto 19, 3) := by decide +kernel
theorem dX12_run_42 : decode cX12_run 42 = .ok (.aload_n 0, 1) := by decide +kernel
theorem dX12_run_43 : decode cX12_run 43 = .ok (.aload_n 0, 1) := by decide +kernel
theorem dX12_run_44 : decode cX12_run 44 = .ok (.getfield 94, 3) := by decide +kernel
theorem dX12_run_47 : decode cX12_run 47 = .ok (.aload_n 0, 1) := by decide +kernel
theorem dX12_run_48 : decode cX12_run 48 = .ok (.getfield 97, 3) := by decide +kernel
theorem dX12_run_51 : decode cX12_run 51 = .ok (.iload_n 1, 1) := by decide +kernel
theorem dX12_run_52 : decode cX12_run 52 = .ok (.sipush 5000, 3) := by decide +kernel
theorem dX12_run_55 : decode cX12_run 55 = .ok (.invokevirtual 304, 3) := by decide +kernel
theorem dX12_run_58 : decode cX12_run 58 = .ok (.ireturn, 1) := by decide +kernel
theorem dX12_follow_0 : decode cX12_follow 0 = .ok (.aload_n 0, 1) := by decide +kernel
theorem dX12_follow_1 : decode cX12_follow 1 = .ok (.iconst 0, 1) := by decide +kernel
theorem dX12_follow_2 : decode cX12_follow 2 = .ok (.putfield 124, 3) := by decide +kernel
theorem dX12_follow_5 : decode cX12_follow 5 = .ok (.aload_n 0, 1) := by decide +kernel
theorem dX12_follow_6 : decode cX12_follow 6 = .ok (.getfield 248, 3) := by decide +kernel
theorem dX12_follow_9 : decode cX12_follow 9 = .ok (.ifCond .eq 14, 3) := by decide +kernel
theorem dX12_follow_12 : decode cX12_follow 12 = .ok (.iload_n 1, 1) := by decide +kernel
theorem dX12_follow_13 : decode cX12_follow 13 = .ok (.ifCond .lt 10, 3) := by decide +kernel
theorem dX12_follow_16 : decode cX12_follow 16 = .ok (.iload_n 1, 1) := by decide +kernel
theorem dX12_follow_17 : decode cX12_follow 17 = .ok (.sipush 500, 3) := by decide +kernel
theorem dX12_follow_20 : decode cX12_follow 20 = .ok (.if_icmp .le 5, 3) := by decide +kernel
theorem dX12_follow_23 : decode cX12_follow 23 = .ok (.iconst (-1), 1) := by decide +kernel
theorem dX12_follow_24 : decode cX12_follow 24 = .ok (.ireturn, 1) := by decide +kernel
theorem dX12_follow_25 : decode cX12_follow 25 = .ok (.aload_n 0, 1) := by decide +kernel
theorem dX12_follow_26 : decode cX12_follow 26 = .ok (.aload_n 0, 1) := by decide +kernel
theorem dX12_follow_27 : decode cX12_follow 27 = .ok (.getfield 85, 3) := by decide +kernel
theorem dX12_follow_30 : decode cX12_follow 30 = .ok (.aload_n 0, 1) := by decide +kernel
theorem dX12_follow_31 : decode cX12_follow 31 = .ok (.getfield 88, 3) := by decide +kernel
theorem dX12_follow_34 : decode cX12_follow 34 = .ok (.ldc_w 308, 3) := by decide +kernel
theorem dX12_follow_37 : decode cX12_follow 37 = .ok (.iload_n 1, 1) := by decide +kernel
theorem dX12_follow_38 : decode cX12_follow 38 = .ok (.invokevirtual 304, 3) := by decide +kernel
theorem dX12_follow_41 : decode cX12_follow 41 = .ok (.istore_n 2, 1) := by decide +kernel
theorem dX12_follow_42 : decode cX12_follow 42 = .ok (.iload_n 2, 1) := by decide +kernel
theorem dX12_follow_43 : decode cX12_follow 43 = .ok (.ifCond .ge 7, 3) := by decide +kernel
theorem dX12_follow_46 : decode cX12_follow 46 = .ok (.iconst (-1), 1) := by decide +kernel
theorem dX12_follow_47 : decode cX12_follow 47 = .ok (.goto 7, 3) := by decide +kernel
theorem dX12_follow_50 : decode cX12_follow 50 = .ok (.aload_n 0, 1) := by decide +kernel
theorem dX12_follow_51 : decode cX12_follow 51 = .ok (.getfield 297, 3) := by decide +kernel
theorem dX12_follow_54 : decode cX12_follow 54 = .ok (.ireturn, 1) := by decide +kernel
theorem dL_levels_0 : decode cL_levels 0 = .ok (.aload 4, 2) := by decide +kernel
theorem dL_levels_2 : decode cL_levels 2 = .ok (.iconst 0, 1) := by decide +kernel
theorem dL_levels_3 : decode cL_levels 3 = .ok (.aload_n 0, 1) := by decide +kernel
theorem dL_levels_4 : decode cL_levels 4 = .ok (.iload_n 1, 1) := by decide +kernel
theorem dL_levels_5 : decode cL_levels 5 = .ok (.lload_n 2, 1) := by decide +kernel
theorem dL_levels_6 : decode cL_levels 6 = .ok (.invokevirtual 7, 3) := by decide +kernel
theorem dL_levels_9 : decode cL_levels 9 = .ok (.ifCond .eq 7, 3) := by decide +kernel
theorem dL_levels_12 : decode cL_levels 12 = .ok (.lconst 1, 1) := by decide +kernel
theorem dL_levels_13 : decode cL_levels 13 = .ok (.goto 4, 3) := by decide +kernel
theorem dL_levels_16 : decode cL_levels 16 = .ok (.lconst 0, 1) := by decide +kernel
theorem dL_levels_17 : decode cL_levels 17 = .ok (.lastore, 1) := by decide +kernel
theorem dL_levels_18 : decode cL_levels 18 = .ok (.goto 11, 3) := by decide +kernel
theorem dL_levels_21 : decode cL_levels 21 = .ok (.astore 5, 2) := by decide +kernel
theorem dL_levels_23 : decode cL_levels 23 = .ok (.iconst 1, 1) := by decide +kernel
theorem dL_levels_24 : decode cL_levels 24 = .ok (.ireturn, 1) := by decide +kernel
theorem dL_levels_25 : decode cL_levels 25 = .ok (.astore 5, 2) := by decide +kernel
theorem dL_levels_27 : decode cL_levels 27 = .ok (.iconst 2, 1) := by decide +kernel
theorem dL_levels_28 : decode cL_levels 28 = .ok (.ireturn, 1) := by decide +kernel
theorem dL_levels_29 : decode cL_levels 29 = .ok (.iconst 0, 1) := by decide +kernel
theorem dL_levels_30 : decode cL_levels 30 = .ok (.ireturn, 1) := by decide +kernel
theorem dL_compile_0 : decode cL_compile 0 = .ok (.aload_n 1, 1) := by decide +kernel
theorem dL_compile_1 : decode cL_compile 1 = .ok (.iconst 0, 1) := by decide +kernel
theorem dL_compile_2 : decode cL_compile 2 = .ok (.aload_n 0, 1) := by decide +kernel
theorem dL_compile_3 : decode cL_compile 3 = .ok (.invokevirtual 17, 3) := by decide +kernel
theorem dL_compile_6 : decode cL_compile 6 = .ok (.i2l, 1) := by decide +kernel
theorem dL_compile_7 : decode cL_compile 7 = .ok (.lastore, 1) := by decide +kernel
theorem dL_compile_8 : decode cL_compile 8 = .ok (.goto 9, 3) := by decide +kernel
theorem dL_compile_11 : decode cL_compile 11 = .ok (.astore_n 2, 1) := by decide +kernel
theorem dL_compile_12 : decode cL_compile 12 = .ok (.iconst 1, 1) := by decide +kernel
theorem dL_compile_13 : decode cL_compile 13 = .ok (.ireturn, 1) := by decide +kernel
theorem dL_compile_14 : decode cL_compile 14 = .ok (.astore_n 2, 1) := by decide +kernel
theorem dL_compile_15 : decode cL_compile 15 = .ok (.iconst 2, 1) := by decide +kernel
theorem dL_compile_16 : decode cL_compile 16 = .ok (.ireturn, 1) := by decide +kernel
theorem dL_compile_17 : decode cL_compile 17 = .ok (.iconst 0, 1) := by decide +kernel
theorem dL_compile_18 : decode cL_compile 18 = .ok (.ireturn, 1) := by decide +kernel
theorem dL_verify_0 : decode cL_verify 0 = .ok (.aload_n 1, 1) := by decide +kernel
theorem dL_verify_1 : decode cL_verify 1 = .ok (.iconst 0, 1) := by decide +kernel
theorem dL_verify_2 : decode cL_verify 2 = .ok (.aload_n 0, 1) := by decide +kernel
theorem dL_verify_3 : decode cL_verify 3 = .ok (.invokevirtual 21, 3) := by decide +kernel
theorem dL_verify_6 : decode cL_verify 6 = .ok (.i2l, 1) := by decide +kernel
theorem dL_verify_7 : decode cL_verify 7 = .ok (.lastore, 1) := by decide +kernel
theorem dL_verify_8 : decode cL_verify 8 = .ok (.goto 9, 3) := by decide +kernel
theorem dL_verify_11 : decode cL_verify 11 = .ok (.astore_n 2, 1) := by decide +kernel
theorem dL_verify_12 : decode cL_verify 12 = .ok (.iconst 1, 1) := by decide +kernel
theorem dL_verify_13 : decode cL_verify 13 = .ok (.ireturn, 1) := by decide +kernel
theorem dL_verify_14 : decode cL_verify 14 = .ok (.astore_n 2, 1) := by decide +kernel
theorem dL_verify_15 : decode cL_verify 15 = .ok (.iconst 2, 1) := by decide +kernel
theorem dL_verify_16 : decode cL_verify 16 = .ok (.ireturn, 1) := by decide +kernel
theorem dL_verify_17 : decode cL_verify 17 = .ok (.iconst 0, 1) := by decide +kernel
theorem dL_verify_18 : decode cL_verify 18 = .ok (.ireturn, 1) := by decide +kernel
theorem dL_run_0 : decode cL_run 0 = .ok (.aload_n 2, 1) := by decide +kernel
theorem dL_run_1 : decode cL_run 1 = .ok (.iconst 0, 1) := by decide +kernel
theorem dL_run_2 : decode cL_run 2 = .ok (.aload_n 0, 1) := by decide +kernel
theorem dL_run_3 : decode cL_run 3 = .ok (.iload_n 1, 1) := by decide +kernel
theorem dL_run_4 : decode cL_run 4 = .ok (.invokevirtual 24, 3) := by decide +kernel
theorem dL_run_7 : decode cL_run 7 = .ok (.i2l, 1) := by decide +kernel
theorem dL_run_8 : decode cL_run 8 = .ok (.lastore, 1) := by decide +kernel
theorem dL_run_9 : decode cL_run 9 = .ok (.goto 9, 3) := by decide +kernel
theorem dL_run_12 : decode cL_run 12 = .ok (.astore_n 3, 1) := by decide +kernel
theorem dL_run_13 : decode cL_run 13 = .ok (.iconst 1, 1) := by decide +kernel
theorem dL_run_14 : decode cL_run 14 = .ok (.ireturn, 1) := by decide +kernel
theorem dL_run_15 : decode cL_run 15 = .ok (.astore_n 3, 1) := by decide +kernel
theorem dL_run_16 : decode cL_run 16 = .ok (.iconst 2, 1) := by decide +kernel
theorem dL_run_17 : decode cL_run 17 = .ok (.ireturn, 1) := by decide +kernel
theorem dL_run_18 : decode cL_run 18 = .ok (.iconst 0, 1) := by decide +kernel
theorem dL_run_19 : decode cL_run 19 = .ok (.ireturn, 1) := by decide +kernel
theorem dL_law_0 : decode cL_law 0 = .ok (.new 8, 3) := by decide +kernel
theorem dL_law_3 : decode cL_law 3 = .ok (.dup, 1) := by decide +kernel
theorem dL_law_4 : decode cL_law 4 = .ok (.invokespecial 28, 3) := by decide +kernel
theorem dL_law_7 : decode cL_law 7 = .ok (.astore_n 1, 1) := by decide +kernel
theorem dL_law_8 : decode cL_law 8 = .ok (.new 29, 3) := by decide +kernel
theorem dL_law_11 : decode cL_law 11 = .ok (.dup, 1) := by decide +kernel
theorem dL_law_12 : decode cL_law 12 = .ok (.invokespecial 31, 3) := by decide +kernel
theorem dL_law_15 : decode cL_law 15 = .ok (.astore_n 2, 1) := by decide +kernel
theorem dL_law_16 : decode cL_law 16 = .ok (.iconst 1, 1) := by decide +kernel
theorem dL_law_17 : decode cL_law 17 = .ok (.newarray .long, 2) := by decide +kernel
theorem dL_law_19 : decode cL_law 19 = .ok (.astore_n 3, 1) := by decide +kernel
theorem dL_law_20 : decode cL_law 20 = .ok (.iconst 0, 1) := by decide +kernel
theorem dL_law_21 : decode cL_law 21 = .ok (.istore 4, 2) := by decide +kernel
theorem dL_law_23 : decode cL_law 23 = .ok (.iload 4, 2) := by decide +kernel
theorem dL_law_25 : decode cL_law 25 = .ok (.aload_n 0, 1) := by decide +kernel
theorem dL_law_26 : decode cL_law 26 = .ok (.arraylength, 1) := by decide +kernel
theorem dL_law_27 : decode cL_law 27 = .ok (.iconst 4, 1) := by decide +kernel
theorem dL_law_28 : decode cL_law 28 = .ok (.isub, 1) := by decide +kernel
theorem dL_law_29 : decode cL_law 29 = .ok (.if_icmp .gt 734, 3) := by decide +kernel
theorem dL_law_32 : decode cL_law 32 = .ok (.aload_n 0, 1) := by decide +kernel
theorem dL_law_33 : decode cL_law 33 = .ok (.iload 4, 2) := by decide +kernel
theorem dL_law_35 : decode cL_law 35 = .ok (.iaload, 1) := by decide +kernel
theorem dL_law_36 : decode cL_law 36 = .ok (.bipush 15, 2) := by decide +kernel
theorem dL_law_38 : decode cL_law 38 = .ok (.iand, 1) := by decide +kernel
theorem dL_law_39 : decode cL_law 39 = .ok (.tableswitch 718 0 15 #[77, 184, 221, 270, 327, 371, 384, 409, 446, 457, 494, 538, 575, 612, 637, 693], 77) := by decide +kernel
theorem dL_law_116 : decode cL_law 116 = .ok (.aload_n 1, 1) := by decide +kernel
theorem dL_law_117 : decode cL_law 117 = .ok (.aload_n 0, 1) := by decide +kernel
theorem dL_law_118 : decode cL_law 118 = .ok (.iload 4, 2) := by decide +kernel
theorem dL_law_120 : decode cL_law 120 = .ok (.iconst 1, 1) := by decide +kernel
theorem dL_law_121 : decode cL_law 121 = .ok (.iadd, 1) := by decide +kernel
theorem dL_law_122 : decode cL_law 122 = .ok (.iaload, 1) := by decide +kernel
theorem dL_law_123 : decode cL_law 123 = .ok (.aload_n 0, 1) := by decide +kernel
theorem dL_law_124 : decode cL_law 124 = .ok (.iload 4, 2) := by decide +kernel
theorem dL_law_126 : decode cL_law 126 = .ok (.iconst 2, 1) := by decide +kernel
theorem dL_law_127 : decode cL_law 127 = .ok (.iadd, 1) := by decide +kernel
theorem dL_law_128 : decode cL_law 128 = .ok (.iaload, 1) := by decide +kernel
theorem dL_law_129 : decode cL_law 129 = .ok (.i2l, 1) := by decide +kernel
theorem dL_law_130 : decode cL_law 130 = .ok (.bipush 32, 2) := by decide +kernel
theorem dL_law_132 : decode cL_law 132 = .ok (.lshl, 1) := by decide +kernel
theorem dL_law_133 : decode cL_law 133 = .ok (.aload_n 0, 1) := by decide +kernel
theorem dL_law_134 : decode cL_law 134 = .ok (.iload 4, 2) := by decide +kernel
theorem dL_law_136 : decode cL_law 136 = .ok (.iconst 3, 1) := by decide +kernel
theorem dL_law_137 : decode cL_law 137 = .ok (.iadd, 1) := by decide +kernel
theorem dL_law_138 : decode cL_law 138 = .ok (.iaload, 1) := by decide +kernel
theorem dL_law_139 : decode cL_law 139 = .ok (.i2l, 1) := by decide +kernel
theorem dL_law_140 : decode cL_law 140 = .ok (.ldc2_w 32, 3) := by decide +kernel
theorem dL_law_143 : decode cL_law 143 = .ok (.land, 1) := by decide +kernel
theorem dL_law_144 : decode cL_law 144 = .ok (.lor, 1) := by decide +kernel
theorem dL_law_145 : decode cL_law 145 = .ok (.aload_n 3, 1) := by decide +kernel
theorem dL_law_146 : decode cL_law 146 = .ok (.invokestatic 34, 3) := by decide +kernel
theorem dL_law_149 : decode cL_law 149 = .ok (.istore 5, 2) := by decide +kernel
theorem dL_law_151 : decode cL_law 151 = .ok (.aload_n 2, 1) := by decide +kernel
theorem dL_law_152 : decode cL_law 152 = .ok (.aload_n 0, 1) := by decide +kernel
theorem dL_law_153 : decode cL_law 153 = .ok (.iload 4, 2) := by decide +kernel
theorem dL_law_155 : decode cL_law 155 = .ok (.iconst 1, 1) := by decide +kernel
theorem dL_law_156 : decode cL_law 156 = .ok (.iadd, 1) := by decide +kernel
theorem dL_law_157 : decode cL_law 157 = .ok (.iaload, 1) := by decide +kernel
theorem dL_law_158 : decode cL_law 158 = .ok (.aload_n 0, 1) := by decide +kernel
theorem dL_law_159 : decode cL_law 159 = .ok (.iload 4, 2) := by decide +kernel
theorem dL_law_161 : decode cL_law 161 = .ok (.iconst 2, 1) := by decide +kernel
theorem dL_law_162 : decode cL_law 162 = .ok (.iadd, 1) := by decide +kernel
theorem dL_law_163 : decode cL_law 163 = .ok (.iaload, 1) := by decide +kernel
theorem dL_law_164 : decode cL_law 164 = .ok (.i2l, 1) := by decide +kernel
theorem dL_law_165 : decode cL_law 165 = .ok (.bipush 32, 2) := by decide +kernel
theorem dL_law_167 : decode cL_law 167 = .ok (.lshl, 1) := by decide +kernel
theorem dL_law_168 : decode cL_law 168 = .ok (.aload_n 0, 1) := by decide +kernel
theorem dL_law_169 : decode cL_law 169 = .ok (.iload 4, 2) := by decide +kernel
theorem dL_law_171 : decode cL_law 171 = .ok (.iconst 3, 1) := by decide +kernel
theorem dL_law_172 : decode cL_law 172 = .ok (.iadd, 1) := by decide +kernel
theorem dL_law_173 : decode cL_law 173 = .ok (.iaload, 1) := by decide +kernel
theorem dL_law_174 : decode cL_law 174 = .ok (.i2l, 1) := by decide +kernel
theorem dL_law_175 : decode cL_law 175 = .ok (.ldc2_w 32, 3) := by decide +kernel
theorem dL_law_178 : decode cL_law 178 = .ok (.land, 1) := by decide +kernel
theorem dL_law_179 : decode cL_law 179 = .ok (.lor, 1) := by decide +kernel
theorem dL_law_180 : decode cL_law 180 = .ok (.invokevirtual 39, 3) := by decide +kernel
theorem dL_law_183 : decode cL_law 183 = .ok (.istore 6, 2) := by decide +kernel
theorem dL_law_185 : decode cL_law 185 = .ok (.aload_n 2, 1) := by decide +kernel
theorem dL_law_186 : decode cL_law 186 = .ok (.invokevirtual 40, 3) := by decide +kernel
theorem dL_law_189 : decode cL_law 189 = .ok (.iload 5, 2) := by decide +kernel
theorem dL_law_191 : decode cL_law 191 = .ok (.if_icmp .eq 5, 3) := by decide +kernel
theorem dL_law_194 : decode cL_law 194 = .ok (.iconst 0, 1) := by decide +kernel
theorem dL_law_195 : decode cL_law 195 = .ok (.ireturn, 1) := by decide +kernel
theorem dL_law_196 : decode cL_law 196 = .ok (.iload 5, 2) := by decide +kernel
theorem dL_law_198 : decode cL_law 198 = .ok (.ifCond .ne 22, 3) := by decide +kernel
theorem dL_law_201 : decode cL_law 201 = .ok (.aload_n 3, 1) := by decide +kernel
theorem dL_law_202 : decode cL_law 202 = .ok (.iconst 0, 1) := by decide +kernel
theorem dL_law_203 : decode cL_law 203 = .ok (.laload, 1) := by decide +kernel
theorem dL_law_204 : decode cL_law 204 = .ok (.iload 6, 2) := by decide +kernel
theorem dL_law_206 : decode cL_law 206 = .ok (.ifCond .eq 7, 3) := by decide +kernel
theorem dL_law_209 : decode cL_law 209 = .ok (.lconst 1, 1) := by decide +kernel
theorem dL_law_210 : decode cL_law 210 = .ok (.goto 4, 3) := by decide +kernel
theorem dL_law_213 : decode cL_law 213 = .ok (.lconst 0, 1) := by decide +kernel
theorem dL_law_214 : decode cL_law 214 = .ok (.lcmp, 1) := by decide +kernel
theorem dL_law_215 : decode cL_law 215 = .ok (.ifCond .eq 5, 3) := by decide +kernel
theorem dL_law_218 : decode cL_law 218 = .ok (.iconst 0, 1) := by decide +kernel
theorem dL_law_219 : decode cL_law 219 = .ok (.ireturn, 1) := by decide +kernel
theorem dL_law_220 : decode cL_law 220 = .ok (.goto 537, 3) := by decide +kernel
theorem dL_law_223 : decode cL_law 223 = .ok (.aload_n 1, 1) := by decide +kernel
theorem dL_law_224 : decode cL_law 224 = .ok (.aload_n 0, 1) := by decide +kernel
theorem dL_law_225 : decode cL_law 225 = .ok (.iload 4, 2) := by decide +kernel
theorem dL_law_227 : decode cL_law 227 = .ok (.iconst 1, 1) := by decide +kernel
theorem dL_law_228 : decode cL_law 228 = .ok (.iadd, 1) := by decide +kernel
theorem dL_law_229 : decode cL_law 229 = .ok (.iaload, 1) := by decide +kernel
theorem dL_law_230 : decode cL_law 230 = .ok (.aload_n 0, 1) := by decide +kernel
theorem dL_law_231 : decode cL_law 231 = .ok (.iload 4, 2) := by decide +kernel
theorem dL_law_233 : decode cL_law 233 = .ok (.iconst 2, 1) := by decide +kernel
theorem dL_law_234 : decode cL_law 234 = .ok (.iadd, 1) := by decide +kernel
theorem dL_law_235 : decode cL_law 235 = .ok (.iaload, 1) := by decide +kernel
theorem dL_law_236 : decode cL_law 236 = .ok (.invokevirtual 43, 3) := by decide +kernel
theorem dL_law_239 : decode cL_law 239 = .ok (.aload_n 2, 1) := by decide +kernel
theorem dL_law_240 : decode cL_law 240 = .ok (.aload_n 0, 1) := by decide +kernel
theorem dL_law_241 : decode cL_law 241 = .ok (.iload 4, 2) := by decide +kernel
theorem dL_law_243 : decode cL_law 243 = .ok (.iconst 1, 1) := by decide +kernel
theorem dL_law_244 : decode cL_law 244 = .ok (.iadd, 1) := by decide +kernel
theorem dL_law_245 : decode cL_law 245 = .ok (.iaload, 1) := by decide +kernel
theorem dL_law_246 : decode cL_law 246 = .ok (.aload_n 0, 1) := by decide +kernel
theorem dL_law_247 : decode cL_law 247 = .ok (.iload 4, 2) := by decide +kernel
theorem dL_law_249 : decode cL_law 249 = .ok (.iconst 2, 1) := by decide +kernel
theorem dL_law_250 : decode cL_law 250 = .ok (.iadd, 1) := by decide +kernel
theorem dL_law_251 : decode cL_law 251 = .ok (.iaload, 1) := by decide +kernel
theorem dL_law_252 : decode cL_law 252 = .ok (.invokevirtual 47, 3) := by decide +kernel
theorem dL_law_255 : decode cL_law 255 = .ok (.if_icmp .eq 502, 3) := by decide +kernel
theorem dL_law_258 : decode cL_law 258 = .ok (.iconst 0, 1) := by decide +kernel
theorem dL_law_259 : decode cL_law 259 = .ok (.ireturn, 1) := by decide +kernel
theorem dL_law_260 : decode cL_law 260 = .ok (.aload_n 1, 1) := by decide +kernel
theorem dL_law_261 : decode cL_law 261 = .ok (.aload_n 0, 1) := by decide +kernel
theorem dL_law_262 : decode cL_law 262 = .ok (.iload 4, 2) := by decide +kernel
theorem dL_law_264 : decode cL_law 264 = .ok (.iconst 1, 1) := by decide +kernel
theorem dL_law_265 : decode cL_law 265 = .ok (.iadd, 1) := by decide +kernel
theorem dL_law_266 : decode cL_law 266 = .ok (.iaload, 1) := by decide +kernel
theorem dL_law_267 : decode cL_law 267 = .ok (.aload_n 0, 1) := by decide +kernel
theorem dL_law_268 : decode cL_law 268 = .ok (.iload 4, 2) := by decide +kernel
theorem dL_law_270 : decode cL_law 270 = .ok (.iconst 2, 1) := by decide +kernel
theorem dL_law_271 : decode cL_law 271 = .ok (.iadd, 1) := by decide +kernel
theorem dL_law_272 : decode cL_law 272 = .ok (.iaload, 1) := by decide +kernel
theorem dL_law_273 : decode cL_law 273 = .ok (.aload_n 0, 1) := by decide +kernel
theorem dL_law_274 : decode cL_law 274 = .ok (.iload 4, 2) := by decide +kernel
theorem dL_law_276 : decode cL_law 276 = .ok (.iconst 3, 1) := by decide +kernel
theorem dL_law_277 : decode cL_law 277 = .ok (.iadd, 1) := by decide +kernel
theorem dL_law_278 : decode cL_law 278 = .ok (.iaload, 1) := by decide +kernel
theorem dL_law_279 : decode cL_law 279 = .ok (.invokevirtual 48, 3) := by decide +kernel
theorem dL_law_282 : decode cL_law 282 = .ok (.aload_n 2, 1) := by decide +kernel
theorem dL_law_283 : decode cL_law 283 = .ok (.aload_n 0, 1) := by decide +kernel
theorem dL_law_284 : decode cL_law 284 = .ok (.iload 4, 2) := by decide +kernel
theorem dL_law_286 : decode cL_law 286 = .ok (.iconst 1, 1) := by decide +kernel
theorem dL_law_287 : decode cL_law 287 = .ok (.iadd, 1) := by decide +kernel
theorem dL_law_288 : decode cL_law 288 = .ok (.iaload, 1) := by decide +kernel
theorem dL_law_289 : decode cL_law 289 = .ok (.aload_n 0, 1) := by decide +kernel
theorem dL_law_290 : decode cL_law 290 = .ok (.iload 4, 2) := by decide +kernel
theorem dL_law_292 : decode cL_law 292 = .ok (.iconst 2, 1) := by decide +kernel
theorem dL_law_293 : decode cL_law 293 = .ok (.iadd, 1) := by decide +kernel
theorem dL_law_294 : decode cL_law 294 = .ok (.iaload, 1) := by decide +kernel
theorem dL_law_295 : decode cL_law 295 = .ok (.aload_n 0, 1) := by decide +kernel
theorem dL_law_296 : decode cL_law 296 = .ok (.iload 4, 2) := by decide +kernel
theorem dL_law_298 : decode cL_law 298 = .ok (.iconst 3, 1) := by decide +kernel
theorem dL_law_299 : decode cL_law 299 = .ok (.iadd, 1) := by decide +kernel
theorem dL_law_300 : decode cL_law 300 = .ok (.iaload, 1) := by decide +kernel
theorem dL_law_301 : decode cL_law 301 = .ok (.invokevirtual 52, 3) := by decide +kernel
theorem dL_law_304 : decode cL_law 304 = .ok (.if_icmp .eq 453, 3) := by decide +kernel
theorem dL_law_307 : decode cL_law 307 = .ok (.iconst 0, 1) := by decide +kernel
theorem dL_law_308 : decode cL_law 308 = .ok (.ireturn, 1) := by decide +kernel
theorem dL_law_309 : decode cL_law 309 = .ok (.aload_n 1, 1) := by decide +kernel
theorem dL_law_310 : decode cL_law 310 = .ok (.aload_n 0, 1) := by decide +kernel
theorem dL_law_311 : decode cL_law 311 = .ok (.iload 4, 2) := by decide +kernel
theorem dL_law_313 : decode cL_law 313 = .ok (.iconst 1, 1) := by decide +kernel
theorem dL_law_314 : decode cL_law 314 = .ok (.iadd, 1) := by decide +kernel
theorem dL_law_315 : decode cL_law 315 = .ok (.iaload, 1) := by decide +kernel
theorem dL_law_316 : decode cL_law 316 = .ok (.i2l, 1) := by decide +kernel
theorem dL_law_317 : decode cL_law 317 = .ok (.bipush 32, 2) := by decide +kernel
theorem dL_law_319 : decode cL_law 319 = .ok (.lshl, 1) := by decide +kernel
theorem dL_law_320 : decode cL_law 320 = .ok (.aload_n 0, 1) := by decide +kernel
theorem dL_law_321 : decode cL_law 321 = .ok (.iload 4, 2) := by decide +kernel
theorem dL_law_323 : decode cL_law 323 = .ok (.iconst 2, 1) := by decide +kernel
theorem dL_law_324 : decode cL_law 324 = .ok (.iadd, 1) := by decide +kernel
theorem dL_law_325 : decode cL_law 325 = .ok (.iaload, 1) := by decide +kernel
theorem dL_law_326 : decode cL_law 326 = .ok (.i2l, 1) := by decide +kernel
theorem dL_law_327 : decode cL_law 327 = .ok (.ldc2_w 32, 3) := by decide +kernel
theorem dL_law_330 : decode cL_law 330 = .ok (.land, 1) := by decide +kernel
theorem dL_law_331 : decode cL_law 331 = .ok (.lor, 1) := by decide +kernel
theorem dL_law_332 : decode cL_law 332 = .ok (.invokevirtual 53, 3) := by decide +kernel
theorem dL_law_335 : decode cL_law 335 = .ok (.aload_n 2, 1) := by decide +kernel
theorem dL_law_336 : decode cL_law 336 = .ok (.aload_n 0, 1) := by decide +kernel
theorem dL_law_337 : decode cL_law 337 = .ok (.iload 4, 2) := by decide +kernel
theorem dL_law_339 : decode cL_law 339 = .ok (.iconst 1, 1) := by decide +kernel
theorem dL_law_340 : decode cL_law 340 = .ok (.iadd, 1) := by decide +kernel
theorem dL_law_341 : decode cL_law 341 = .ok (.iaload, 1) := by decide +kernel
theorem dL_law_342 : decode cL_law 342 = .ok (.i2l, 1) := by decide +kernel
theorem dL_law_343 : decode cL_law 343 = .ok (.bipush 32, 2) := by decide +kernel
theorem dL_law_345 : decode cL_law 345 = .ok (.lshl, 1) := by decide +kernel
theorem dL_law_346 : decode cL_law 346 = .ok (.aload_n 0, 1) := by decide +kernel
theorem dL_law_347 : decode cL_law 347 = .ok (.iload 4, 2) := by decide +kernel
theorem dL_law_349 : decode cL_law 349 = .ok (.iconst 2, 1) := by decide +kernel
theorem dL_law_350 : decode cL_law 350 = .ok (.iadd, 1) := by decide +kernel
theorem dL_law_351 : decode cL_law 351 = .ok (.iaload, 1) := by decide +kernel
theorem dL_law_352 : decode cL_law 352 = .ok (.i2l, 1) := by decide +kernel
theorem dL_law_353 : decode cL_law 353 = .ok (.ldc2_w 32, 3) := by decide +kernel
theorem dL_law_356 : decode cL_law 356 = .ok (.land, 1) := by decide +kernel
theorem dL_law_357 : decode cL_law 357 = .ok (.lor, 1) := by decide +kernel
theorem dL_law_358 : decode cL_law 358 = .ok (.invokevirtual 57, 3) := by decide +kernel
theorem dL_law_361 : decode cL_law 361 = .ok (.if_icmp .eq 396, 3) := by decide +kernel
theorem dL_law_364 : decode cL_law 364 = .ok (.iconst 0, 1) := by decide +kernel
theorem dL_law_365 : decode cL_law 365 = .ok (.ireturn, 1) := by decide +kernel
theorem dL_law_366 : decode cL_law 366 = .ok (.aload_n 1, 1) := by decide +kernel
theorem dL_law_367 : decode cL_law 367 = .ok (.aload_n 3, 1) := by decide +kernel
theorem dL_law_368 : decode cL_law 368 = .ok (.invokestatic 58, 3) := by decide +kernel
theorem dL_law_371 : decode cL_law 371 = .ok (.istore 5, 2) := by decide +kernel
theorem dL_law_373 : decode cL_law 373 = .ok (.aload_n 2, 1) := by decide +kernel
theorem dL_law_374 : decode cL_law 374 = .ok (.invokevirtual 61, 3) := by decide +kernel
theorem dL_law_377 : decode cL_law 377 = .ok (.istore 6, 2) := by decide +kernel
theorem dL_law_379 : decode cL_law 379 = .ok (.aload_n 2, 1) := by decide +kernel
theorem dL_law_380 : decode cL_law 380 = .ok (.invokevirtual 40, 3) := by decide +kernel
theorem dL_law_383 : decode cL_law 383 = .ok (.iload 5, 2) := by decide +kernel
theorem dL_law_385 : decode cL_law 385 = .ok (.if_icmp .eq 5, 3) := by decide +kernel
theorem dL_law_388 : decode cL_law 388 = .ok (.iconst 0, 1) := by decide +kernel
theorem dL_law_389 : decode cL_law 389 = .ok (.ireturn, 1) := by decide +kernel
theorem dL_law_390 : decode cL_law 390 = .ok (.iload 5, 2) := by decide +kernel
theorem dL_law_392 : decode cL_law 392 = .ok (.ifCond .ne 15, 3) := by decide +kernel
theorem dL_law_395 : decode cL_law 395 = .ok (.aload_n 3, 1) := by decide +kernel
theorem dL_law_396 : decode cL_law 396 = .ok (.iconst 0, 1) := by decide +kernel
theorem dL_law_397 : decode cL_law 397 = .ok (.laload, 1) := by decide +kernel
theorem dL_law_398 : decode cL_law 398 = .ok (.iload 6, 2) := by decide +kernel
theorem dL_law_400 : decode cL_law 400 = .ok (.i2l, 1) := by decide +kernel
theorem dL_law_401 : decode cL_law 401 = .ok (.lcmp, 1) := by decide +kernel
theorem dL_law_402 : decode cL_law 402 = .ok (.ifCond .eq 5, 3) := by decide +kernel
theorem dL_law_405 : decode cL_law 405 = .ok (.iconst 0, 1) := by decide +kernel
theorem dL_law_406 : decode cL_law 406 = .ok (.ireturn, 1) := by decide +kernel
theorem dL_law_407 : decode cL_law 407 = .ok (.goto 350, 3) := by decide +kernel
theorem dL_law_410 : decode cL_law 410 = .ok (.aload_n 1, 1) := by decide +kernel
theorem dL_law_411 : decode cL_law 411 = .ok (.invokevirtual 62, 3) := by decide +kernel
theorem dL_law_414 : decode cL_law 414 = .ok (.aload_n 2, 1) := by decide +kernel
theorem dL_law_415 : decode cL_law 415 = .ok (.invokevirtual 65, 3) := by decide +kernel
theorem dL_law_418 : decode cL_law 418 = .ok (.if_icmp .eq 339, 3) := by decide +kernel
theorem dL_law_421 : decode cL_law 421 = .ok (.iconst 0, 1) := by decide +kernel
theorem dL_law_422 : decode cL_law 422 = .ok (.ireturn, 1) := by decide +kernel
theorem dL_law_423 : decode cL_law 423 = .ok (.aload_n 1, 1) := by decide +kernel
theorem dL_law_424 : decode cL_law 424 = .ok (.aload_n 0, 1) := by decide +kernel
theorem dL_law_425 : decode cL_law 425 = .ok (.iload 4, 2) := by decide +kernel
theorem dL_law_427 : decode cL_law 427 = .ok (.iconst 1, 1) := by decide +kernel
theorem dL_law_428 : decode cL_law 428 = .ok (.iadd, 1) := by decide +kernel
theorem dL_law_429 : decode cL_law 429 = .ok (.iaload, 1) := by decide +kernel
theorem dL_law_430 : decode cL_law 430 = .ok (.invokevirtual 66, 3) := by decide +kernel
theorem dL_law_433 : decode cL_law 433 = .ok (.aload_n 2, 1) := by decide +kernel
theorem dL_law_434 : decode cL_law 434 = .ok (.aload_n 0, 1) := by decide +kernel
theorem dL_law_435 : decode cL_law 435 = .ok (.iload 4, 2) := by decide +kernel
theorem dL_law_437 : decode cL_law 437 = .ok (.iconst 1, 1) := by decide +kernel
theorem dL_law_438 : decode cL_law 438 = .ok (.iadd, 1) := by decide +kernel
theorem dL_law_439 : decode cL_law 439 = .ok (.iaload, 1) := by decide +kernel
theorem dL_law_440 : decode cL_law 440 = .ok (.invokevirtual 69, 3) := by decide +kernel
theorem dL_law_443 : decode cL_law 443 = .ok (.if_icmp .eq 314, 3) := by decide +kernel
theorem dL_law_446 : decode cL_law 446 = .ok (.iconst 0, 1) := by decide +kernel
theorem dL_law_447 : decode cL_law 447 = .ok (.ireturn, 1) := by decide +kernel
theorem dL_law_448 : decode cL_law 448 = .ok (.aload_n 1, 1) := by decide +kernel
theorem dL_law_449 : decode cL_law 449 = .ok (.aload_n 0, 1) := by decide +kernel
theorem dL_law_450 : decode cL_law 450 = .ok (.iload 4, 2) := by decide +kernel
theorem dL_law_452 : decode cL_law 452 = .ok (.iconst 1, 1) := by decide +kernel
theorem dL_law_453 : decode cL_law 453 = .ok (.iadd, 1) := by decide +kernel
theorem dL_law_454 : decode cL_law 454 = .ok (.iaload, 1) := by decide +kernel
theorem dL_law_455 : decode cL_law 455 = .ok (.aload_n 0, 1) := by decide +kernel
theorem dL_law_456 : decode cL_law 456 = .ok (.iload 4, 2) := by decide +kernel
theorem dL_law_458 : decode cL_law 458 = .ok (.iconst 2, 1) := by decide +kernel
theorem dL_law_459 : decode cL_law 459 = .ok (.iadd, 1) := by decide +kernel
theorem dL_law_460 : decode cL_law 460 = .ok (.iaload, 1) := by decide +kernel
theorem dL_law_461 : decode cL_law 461 = .ok (.invokevirtual 70, 3) := by decide +kernel
theorem dL_law_464 : decode cL_law 464 = .ok (.aload_n 2, 1) := by decide +kernel
theorem dL_law_465 : decode cL_law 465 = .ok (.aload_n 0, 1) := by decide +kernel
theorem dL_law_466 : decode cL_law 466 = .ok (.iload 4, 2) := by decide +kernel
theorem dL_law_468 : decode cL_law 468 = .ok (.iconst 1, 1) := by decide +kernel
theorem dL_law_469 : decode cL_law 469 = .ok (.iadd, 1) := by decide +kernel
theorem dL_law_470 : decode cL_law 470 = .ok (.iaload, 1) := by decide +kernel
theorem dL_law_471 : decode cL_law 471 = .ok (.aload_n 0, 1) := by decide +kernel
theorem dL_law_472 : decode cL_law 472 = .ok (.iload 4, 2) := by decide +kernel
theorem dL_law_474 : decode cL_law 474 = .ok (.iconst 2, 1) := by decide +kernel
theorem dL_law_475 : decode cL_law 475 = .ok (.iadd, 1) := by decide +kernel
theorem dL_law_476 : decode cL_law 476 = .ok (.iaload, 1) := by decide +kernel
theorem dL_law_477 : decode cL_law 477 = .ok (.invokevirtual 73, 3) := by decide +kernel
theorem dL_law_480 : decode cL_law 480 = .ok (.if_icmp .eq 277, 3) := by decide +kernel
theorem dL_law_483 : decode cL_law 483 = .ok (.iconst 0, 1) := by decide +kernel
theorem dL_law_484 : decode cL_law 484 = .ok (.ireturn, 1) := by decide +kernel
theorem dL_law_485 : decode cL_law 485 = .ok (.aload_n 1, 1) := by decide +kernel
theorem dL_law_486 : decode cL_law 486 = .ok (.invokevirtual 74, 3) := by decide +kernel
theorem dL_law_489 : decode cL_law 489 = .ok (.aload_n 2, 1) := by decide +kernel
theorem dL_law_490 : decode cL_law 490 = .ok (.invokevirtual 77, 3) := by decide +kernel
theorem dL_law_493 : decode cL_law 493 = .ok (.goto 264, 3) := by decide +kernel
theorem dL_law_496 : decode cL_law 496 = .ok (.aload_n 1, 1) := by decide +kernel
theorem dL_law_497 : decode cL_law 497 = .ok (.aload_n 0, 1) := by decide +kernel
theorem dL_law_498 : decode cL_law 498 = .ok (.iload 4, 2) := by decide +kernel
theorem dL_law_500 : decode cL_law 500 = .ok (.iconst 1, 1) := by decide +kernel
theorem dL_law_501 : decode cL_law 501 = .ok (.iadd, 1) := by decide +kernel
theorem dL_law_502 : decode cL_law 502 = .ok (.iaload, 1) := by decide +kernel
theorem dL_law_503 : decode cL_law 503 = .ok (.aload_n 0, 1) := by decide +kernel
theorem dL_law_504 : decode cL_law 504 = .ok (.iload 4, 2) := by decide +kernel
theorem dL_law_506 : decode cL_law 506 = .ok (.iconst 2, 1) := by decide +kernel
theorem dL_law_507 : decode cL_law 507 = .ok (.iadd, 1) := by decide +kernel
theorem dL_law_508 : decode cL_law 508 = .ok (.iaload, 1) := by decide +kernel
theorem dL_law_509 : decode cL_law 509 = .ok (.invokevirtual 78, 3) := by decide +kernel
theorem dL_law_512 : decode cL_law 512 = .ok (.aload_n 2, 1) := by decide +kernel
theorem dL_law_513 : decode cL_law 513 = .ok (.aload_n 0, 1) := by decide +kernel
theorem dL_law_514 : decode cL_law 514 = .ok (.iload 4, 2) := by decide +kernel
theorem dL_law_516 : decode cL_law 516 = .ok (.iconst 1, 1) := by decide +kernel
theorem dL_law_517 : decode cL_law 517 = .ok (.iadd, 1) := by decide +kernel
theorem dL_law_518 : decode cL_law 518 = .ok (.iaload, 1) := by decide +kernel
theorem dL_law_519 : decode cL_law 519 = .ok (.aload_n 0, 1) := by decide +kernel
theorem dL_law_520 : decode cL_law 520 = .ok (.iload 4, 2) := by decide +kernel
theorem dL_law_522 : decode cL_law 522 = .ok (.iconst 2, 1) := by decide +kernel
theorem dL_law_523 : decode cL_law 523 = .ok (.iadd, 1) := by decide +kernel
theorem dL_law_524 : decode cL_law 524 = .ok (.iaload, 1) := by decide +kernel
theorem dL_law_525 : decode cL_law 525 = .ok (.invokevirtual 82, 3) := by decide +kernel
theorem dL_law_528 : decode cL_law 528 = .ok (.if_icmp .eq 229, 3) := by decide +kernel
theorem dL_law_531 : decode cL_law 531 = .ok (.iconst 0, 1) := by decide +kernel
theorem dL_law_532 : decode cL_law 532 = .ok (.ireturn, 1) := by decide +kernel
theorem dL_law_533 : decode cL_law 533 = .ok (.aload_n 1, 1) := by decide +kernel
theorem dL_law_534 : decode cL_law 534 = .ok (.aload_n 3, 1) := by decide +kernel
theorem dL_law_535 : decode cL_law 535 = .ok (.invokestatic 83, 3) := by decide +kernel
theorem dL_law_538 : decode cL_law 538 = .ok (.istore 5, 2) := by decide +kernel
theorem dL_law_540 : decode cL_law 540 = .ok (.aload_n 2, 1) := by decide +kernel
theorem dL_law_541 : decode cL_law 541 = .ok (.invokevirtual 85, 3) := by decide +kernel
theorem dL_law_544 : decode cL_law 544 = .ok (.istore 6, 2) := by decide +kernel
theorem dL_law_546 : decode cL_law 546 = .ok (.aload_n 2, 1) := by decide +kernel
theorem dL_law_547 : decode cL_law 547 = .ok (.invokevirtual 40, 3) := by decide +kernel
theorem dL_law_550 : decode cL_law 550 = .ok (.iload 5, 2) := by decide +kernel
theorem dL_law_552 : decode cL_law 552 = .ok (.if_icmp .eq 5, 3) := by decide +kernel
theorem dL_law_555 : decode cL_law 555 = .ok (.iconst 0, 1) := by decide +kernel
theorem dL_law_556 : decode cL_law 556 = .ok (.ireturn, 1) := by decide +kernel
theorem dL_law_557 : decode cL_law 557 = .ok (.iload 5, 2) := by decide +kernel
theorem dL_law_559 : decode cL_law 559 = .ok (.ifCond .ne 15, 3) := by decide +kernel
theorem dL_law_562 : decode cL_law 562 = .ok (.aload_n 3, 1) := by decide +kernel
theorem dL_law_563 : decode cL_law 563 = .ok (.iconst 0, 1) := by decide +kernel
theorem dL_law_564 : decode cL_law 564 = .ok (.laload, 1) := by decide +kernel
theorem dL_law_565 : decode cL_law 565 = .ok (.iload 6, 2) := by decide +kernel
theorem dL_law_567 : decode cL_law 567 = .ok (.i2l, 1) := by decide +kernel
theorem dL_law_568 : decode cL_law 568 = .ok (.lcmp, 1) := by decide +kernel
theorem dL_law_569 : decode cL_law 569 = .ok (.ifCond .eq 5, 3) := by decide +kernel
theorem dL_law_572 : decode cL_law 572 = .ok (.iconst 0, 1) := by decide +kernel
theorem dL_law_573 : decode cL_law 573 = .ok (.ireturn, 1) := by decide +kernel
theorem dL_law_574 : decode cL_law 574 = .ok (.goto 183, 3) := by decide +kernel
theorem dL_law_577 : decode cL_law 577 = .ok (.aload_n 1, 1) := by decide +kernel
theorem dL_law_578 : decode cL_law 578 = .ok (.aload_n 0, 1) := by decide +kernel
theorem dL_law_579 : decode cL_law 579 = .ok (.iload 4, 2) := by decide +kernel
theorem dL_law_581 : decode cL_law 581 = .ok (.iconst 1, 1) := by decide +kernel
theorem dL_law_582 : decode cL_law 582 = .ok (.iadd, 1) := by decide +kernel
theorem dL_law_583 : decode cL_law 583 = .ok (.iaload, 1) := by decide +kernel
theorem dL_law_584 : decode cL_law 584 = .ok (.aload_n 0, 1) := by decide +kernel
theorem dL_law_585 : decode cL_law 585 = .ok (.iload 4, 2) := by decide +kernel
theorem dL_law_587 : decode cL_law 587 = .ok (.iconst 2, 1) := by decide +kernel
theorem dL_law_588 : decode cL_law 588 = .ok (.iadd, 1) := by decide +kernel
theorem dL_law_589 : decode cL_law 589 = .ok (.iaload, 1) := by decide +kernel
theorem dL_law_590 : decode cL_law 590 = .ok (.invokevirtual 86, 3) := by decide +kernel
theorem dL_law_593 : decode cL_law 593 = .ok (.aload_n 2, 1) := by decide +kernel
theorem dL_law_594 : decode cL_law 594 = .ok (.aload_n 0, 1) := by decide +kernel
theorem dL_law_595 : decode cL_law 595 = .ok (.iload 4, 2) := by decide +kernel
theorem dL_law_597 : decode cL_law 597 = .ok (.iconst 1, 1) := by decide +kernel
theorem dL_law_598 : decode cL_law 598 = .ok (.iadd, 1) := by decide +kernel
theorem dL_law_599 : decode cL_law 599 = .ok (.iaload, 1) := by decide +kernel
theorem dL_law_600 : decode cL_law 600 = .ok (.aload_n 0, 1) := by decide +kernel
theorem dL_law_601 : decode cL_law 601 = .ok (.iload 4, 2) := by decide +kernel
theorem dL_law_603 : decode cL_law 603 = .ok (.iconst 2, 1) := by decide +kernel
theorem dL_law_604 : decode cL_law 604 = .ok (.iadd, 1) := by decide +kernel
theorem dL_law_605 : decode cL_law 605 = .ok (.iaload, 1) := by decide +kernel
theorem dL_law_606 : decode cL_law 606 = .ok (.invokevirtual 89, 3) := by decide +kernel
theorem dL_law_609 : decode cL_law 609 = .ok (.if_icmp .eq 148, 3) := by decide +kernel
theorem dL_law_612 : decode cL_law 612 = .ok (.iconst 0, 1) := by decide +kernel
theorem dL_law_613 : decode cL_law 613 = .ok (.ireturn, 1) := by decide +kernel
theorem dL_law_614 : decode cL_law 614 = .ok (.aload_n 1, 1) := by decide +kernel
theorem dL_law_615 : decode cL_law 615 = .ok (.aload_n 0, 1) := by decide +kernel
theorem dL_law_616 : decode cL_law 616 = .ok (.iload 4, 2) := by decide +kernel
theorem dL_law_618 : decode cL_law 618 = .ok (.iconst 1, 1) := by decide +kernel
theorem dL_law_619 : decode cL_law 619 = .ok (.iadd, 1) := by decide +kernel
theorem dL_law_620 : decode cL_law 620 = .ok (.iaload, 1) := by decide +kernel
theorem dL_law_621 : decode cL_law 621 = .ok (.aload_n 0, 1) := by decide +kernel
theorem dL_law_622 : decode cL_law 622 = .ok (.iload 4, 2) := by decide +kernel
theorem dL_law_624 : decode cL_law 624 = .ok (.iconst 2, 1) := by decide +kernel
theorem dL_law_625 : decode cL_law 625 = .ok (.iadd, 1) := by decide +kernel
theorem dL_law_626 : decode cL_law 626 = .ok (.iaload, 1) := by decide +kernel
theorem dL_law_627 : decode cL_law 627 = .ok (.invokevirtual 90, 3) := by decide +kernel
theorem dL_law_630 : decode cL_law 630 = .ok (.aload_n 2, 1) := by decide +kernel
theorem dL_law_631 : decode cL_law 631 = .ok (.aload_n 0, 1) := by decide +kernel
theorem dL_law_632 : decode cL_law 632 = .ok (.iload 4, 2) := by decide +kernel
theorem dL_law_634 : decode cL_law 634 = .ok (.iconst 1, 1) := by decide +kernel
theorem dL_law_635 : decode cL_law 635 = .ok (.iadd, 1) := by decide +kernel
theorem dL_law_636 : decode cL_law 636 = .ok (.iaload, 1) := by decide +kernel
theorem dL_law_637 : decode cL_law 637 = .ok (.aload_n 0, 1) := by decide +kernel
theorem dL_law_638 : decode cL_law 638 = .ok (.iload 4, 2) := by decide +kernel
theorem dL_law_640 : decode cL_law 640 = .ok (.iconst 2, 1) := by decide +kernel
theorem dL_law_641 : decode cL_law 641 = .ok (.iadd, 1) := by decide +kernel
theorem dL_law_642 : decode cL_law 642 = .ok (.iaload, 1) := by decide +kernel
theorem dL_law_643 : decode cL_law 643 = .ok (.invokevirtual 93, 3) := by decide +kernel
theorem dL_law_646 : decode cL_law 646 = .ok (.if_icmp .eq 111, 3) := by decide +kernel
theorem dL_law_649 : decode cL_law 649 = .ok (.iconst 0, 1) := by decide +kernel
theorem dL_law_650 : decode cL_law 650 = .ok (.ireturn, 1) := by decide +kernel
theorem dL_law_651 : decode cL_law 651 = .ok (.aload_n 1, 1) := by decide +kernel
theorem dL_law_652 : decode cL_law 652 = .ok (.aload_n 0, 1) := by decide +kernel
theorem dL_law_653 : decode cL_law 653 = .ok (.iload 4, 2) := by decide +kernel
theorem dL_law_655 : decode cL_law 655 = .ok (.iconst 1, 1) := by decide +kernel
theorem dL_law_656 : decode cL_law 656 = .ok (.iadd, 1) := by decide +kernel
theorem dL_law_657 : decode cL_law 657 = .ok (.iaload, 1) := by decide +kernel
theorem dL_law_658 : decode cL_law 658 = .ok (.invokevirtual 94, 3) := by decide +kernel
theorem dL_law_661 : decode cL_law 661 = .ok (.aload_n 2, 1) := by decide +kernel
theorem dL_law_662 : decode cL_law 662 = .ok (.aload_n 0, 1) := by decide +kernel
theorem dL_law_663 : decode cL_law 663 = .ok (.iload 4, 2) := by decide +kernel
theorem dL_law_665 : decode cL_law 665 = .ok (.iconst 1, 1) := by decide +kernel
theorem dL_law_666 : decode cL_law 666 = .ok (.iadd, 1) := by decide +kernel
theorem dL_law_667 : decode cL_law 667 = .ok (.iaload, 1) := by decide +kernel
theorem dL_law_668 : decode cL_law 668 = .ok (.invokevirtual 97, 3) := by decide +kernel
theorem dL_law_671 : decode cL_law 671 = .ok (.if_icmp .eq 86, 3) := by decide +kernel
theorem dL_law_674 : decode cL_law 674 = .ok (.iconst 0, 1) := by decide +kernel
theorem dL_law_675 : decode cL_law 675 = .ok (.ireturn, 1) := by decide +kernel
theorem dL_law_676 : decode cL_law 676 = .ok (.aload_n 1, 1) := by decide +kernel
theorem dL_law_677 : decode cL_law 677 = .ok (.aload_n 0, 1) := by decide +kernel
theorem dL_law_678 : decode cL_law 678 = .ok (.iload 4, 2) := by decide +kernel
theorem dL_law_680 : decode cL_law 680 = .ok (.iconst 1, 1) := by decide +kernel
theorem dL_law_681 : decode cL_law 681 = .ok (.iadd, 1) := by decide +kernel
theorem dL_law_682 : decode cL_law 682 = .ok (.iaload, 1) := by decide +kernel
theorem dL_law_683 : decode cL_law 683 = .ok (.aload_n 3, 1) := by decide +kernel
theorem dL_law_684 : decode cL_law 684 = .ok (.invokestatic 98, 3) := by decide +kernel
theorem dL_law_687 : decode cL_law 687 = .ok (.istore 5, 2) := by decide +kernel
theorem dL_law_689 : decode cL_law 689 = .ok (.aload_n 2, 1) := by decide +kernel
theorem dL_law_690 : decode cL_law 690 = .ok (.aload_n 0, 1) := by decide +kernel
theorem dL_law_691 : decode cL_law 691 = .ok (.iload 4, 2) := by decide +kernel
theorem dL_law_693 : decode cL_law 693 = .ok (.iconst 1, 1) := by decide +kernel
theorem dL_law_694 : decode cL_law 694 = .ok (.iadd, 1) := by decide +kernel
theorem dL_law_695 : decode cL_law 695 = .ok (.iaload, 1) := by decide +kernel
theorem dL_law_696 : decode cL_law 696 = .ok (.invokevirtual 101, 3) := by decide +kernel
theorem dL_law_699 : decode cL_law 699 = .ok (.istore 6, 2) := by decide +kernel
theorem dL_law_701 : decode cL_law 701 = .ok (.aload_n 2, 1) := by decide +kernel
theorem dL_law_702 : decode cL_law 702 = .ok (.invokevirtual 40, 3) := by decide +kernel
theorem dL_law_705 : decode cL_law 705 = .ok (.iload 5, 2) := by decide +kernel
theorem dL_law_707 : decode cL_law 707 = .ok (.if_icmp .eq 5, 3) := by decide +kernel
theorem dL_law_710 : decode cL_law 710 = .ok (.iconst 0, 1) := by decide +kernel
theorem dL_law_711 : decode cL_law 711 = .ok (.ireturn, 1) := by decide +kernel
theorem dL_law_712 : decode cL_law 712 = .ok (.iload 5, 2) := by decide +kernel
theorem dL_law_714 : decode cL_law 714 = .ok (.ifCond .ne 15, 3) := by decide +kernel
theorem dL_law_717 : decode cL_law 717 = .ok (.aload_n 3, 1) := by decide +kernel
theorem dL_law_718 : decode cL_law 718 = .ok (.iconst 0, 1) := by decide +kernel
theorem dL_law_719 : decode cL_law 719 = .ok (.laload, 1) := by decide +kernel
theorem dL_law_720 : decode cL_law 720 = .ok (.iload 6, 2) := by decide +kernel
theorem dL_law_722 : decode cL_law 722 = .ok (.i2l, 1) := by decide +kernel
theorem dL_law_723 : decode cL_law 723 = .ok (.lcmp, 1) := by decide +kernel
theorem dL_law_724 : decode cL_law 724 = .ok (.ifCond .eq 5, 3) := by decide +kernel
theorem dL_law_727 : decode cL_law 727 = .ok (.iconst 0, 1) := by decide +kernel
theorem dL_law_728 : decode cL_law 728 = .ok (.ireturn, 1) := by decide +kernel
theorem dL_law_729 : decode cL_law 729 = .ok (.goto 28, 3) := by decide +kernel
theorem dL_law_732 : decode cL_law 732 = .ok (.aload_n 1, 1) := by decide +kernel
theorem dL_law_733 : decode cL_law 733 = .ok (.aload_n 0, 1) := by decide +kernel
theorem dL_law_734 : decode cL_law 734 = .ok (.iload 4, 2) := by decide +kernel
theorem dL_law_736 : decode cL_law 736 = .ok (.iconst 1, 1) := by decide +kernel
theorem dL_law_737 : decode cL_law 737 = .ok (.iadd, 1) := by decide +kernel
theorem dL_law_738 : decode cL_law 738 = .ok (.iaload, 1) := by decide +kernel
theorem dL_law_739 : decode cL_law 739 = .ok (.invokevirtual 102, 3) := by decide +kernel
theorem dL_law_742 : decode cL_law 742 = .ok (.aload_n 2, 1) := by decide +kernel
theorem dL_law_743 : decode cL_law 743 = .ok (.aload_n 0, 1) := by decide +kernel
theorem dL_law_744 : decode cL_law 744 = .ok (.iload 4, 2) := by decide +kernel
theorem dL_law_746 : decode cL_law 746 = .ok (.iconst 1, 1) := by decide +kernel
theorem dL_law_747 : decode cL_law 747 = .ok (.iadd, 1) := by decide +kernel
theorem dL_law_748 : decode cL_law 748 = .ok (.iaload, 1) := by decide +kernel
theorem dL_law_749 : decode cL_law 749 = .ok (.invokevirtual 105, 3) := by decide +kernel
theorem dL_law_752 : decode cL_law 752 = .ok (.if_icmp .eq 5, 3) := by decide +kernel
theorem dL_law_755 : decode cL_law 755 = .ok (.iconst 0, 1) := by decide +kernel
theorem dL_law_756 : decode cL_law 756 = .ok (.ireturn, 1) := by decide +kernel
theorem dL_law_757 : decode cL_law 757 = .ok (.iinc 4 4, 3) := by decide +kernel
theorem dL_law_760 : decode cL_law 760 = .ok (.goto (-737), 3) := by decide +kernel
theorem dL_law_763 : decode cL_law 763 = .ok (.iconst 1, 1) := by decide +kernel
theorem dL_law_764 : decode cL_law 764 = .ok (.ireturn, 1) := by decide +kernel
end
section
/-! ===== THE LOGIC, 1: an abstract heap (n cells, f: what each holds; a reference in it is a place i < n) and its image in the machine's heap (place i at the address u i) ===== -/
abbrev sw_MD : Type := MethodName × ByteArray × Nat × Option FieldType
abbrev sw_F : Type := Nat → va_E
abbrev sw_L : Type := List (Nat × Value)
def sw_lwg : List Cond := lw_tbl.filter goodWord
def sw_isN (w : Cond) : Bool := match w with
  | .methodLinkNest _ _ _ _ => true
  | _ => false
def sw_nest : List Cond := lw_tbl.filter sw_isN
def sw_ws (M : sw_MD) : List Cond := .code M.1 M.2.1 M.2.2.1 M.2.2.2 :: sw_lwg
def sw_v (u : Nat → Nat) (v : Value) : Value := match v with
  | .ref a => .ref (u a)
  | w => w
def sw_c (n : Nat) (v : Value) : Prop := match v with
  | .ref a => a < n
  | _ => True
def sw_a (u : Nat → Nat) (a : vp_A) : vp_A := match a with
  | (n, .inr (.inr (.inr (.inr f)))) => (n, .inr (.inr (.inr (.inr (fun j => (f j).map u)))))
  | b => b
def sw_e (u : Nat → Nat) (cy : Nat → ClassId) (e : va_E) : va_E := match e with
  | .inl a => .inl (cy a.1, sw_a u a.2)
  | .inr o => .inr (o.1, o.2.map (sw_v u))
def sw_ce (n : Nat) (e : va_E) : Prop := match e with
  | .inl a => ∀ (k : Nat) (f : Nat → Option Nat), a.2 = (k, .inr (.inr (.inr (.inr f)))) → ∀ j b : Nat, f j = some b → b < n
  | .inr o => ∀ v ∈ o.2, sw_c n v
def sw_w (u : Nat → Nat) (cy : Nat → ClassId) (n : Nat) (f : sw_F) : va_W := (List.range n).map (fun i => (u i, sw_e u cy (f i)))
def sw_tys (cy : Nat → ClassId) : List (ClassId × FieldType) := [(cy 0, .int), (cy 1, .long), (cy 2, .boolean), (cy 3, .char), (cy 4, .array .int)]
theorem sw_v_cat (u : Nat → Nat) (v : Value) : (sw_v u v).category = v.category := by cases v <;> rfl
theorem sw_v_ext {u u' : Nat → Nat} {n : Nat} {v : Value} (h : ∀ i, i < n → u' i = u i) (hc : sw_c n v) : sw_v u' v = sw_v u v := by
  cases v with
  | ref a => exact congrArg Value.ref (h a hc)
  | _ => rfl
theorem sw_c_mono {n n' : Nat} {v : Value} (h : n ≤ n') (hc : sw_c n v) : sw_c n' v := by
  cases v with
  | ref a => exact Nat.lt_of_lt_of_le hc h
  | _ => trivial
theorem sw_ce_mono {n n' : Nat} {e : va_E} (h : n ≤ n') (hc : sw_ce n e) : sw_ce n' e := by
  cases e with
  | inl a => exact fun k f e j b hb => Nat.lt_of_lt_of_le (hc k f e j b hb) h
  | inr o => exact fun v hv => sw_c_mono h (hc v hv)
theorem sw_e_ext {u u' : Nat → Nat} {n : Nat} {cy : Nat → ClassId} {e : va_E} (h : ∀ i, i < n → u' i = u i) (hc : sw_ce n e) : sw_e u' cy e = sw_e u cy e := by
  cases e with
  | inl a =>
    obtain ⟨t, k, x⟩ := a
    rcases x with f | f | f | f | f
    · rfl
    · rfl
    · rfl
    · rfl
    · show Sum.inl (cy t, k, _) = Sum.inl (cy t, k, _)
      congr 7
      funext j
      cases hf : f j with
      | none => rfl
      | some b => exact congrArg some (h b (hc k f rfl j b hf))
  | inr o =>
    show Sum.inr (o.1, _) = Sum.inr (o.1, _)
    congr 2
    exact List.map_congr_left (fun v hv => sw_v_ext h (hc v hv))
theorem sw_map_ext {u u' : Nat → Nat} {n : Nat} {st : List Value} (h : ∀ i, i < n → u' i = u i) (hc : ∀ v ∈ st, sw_c n v) : st.map (sw_v u') = st.map (sw_v u) := List.map_congr_left (fun v hv => sw_v_ext h (hc v hv))
theorem sw_mapL_ext {u u' : Nat → Nat} {n : Nat} {L : sw_L} (h : ∀ i, i < n → u' i = u i) (hc : ∀ q ∈ L, sw_c n q.2) : L.map (fun q => (q.1, sw_v u' q.2)) = L.map (fun q => (q.1, sw_v u q.2)) := List.map_congr_left (fun q hq => by rw [sw_v_ext h (hc q hq)])
theorem sw_w_len (u : Nat → Nat) (cy : Nat → ClassId) (n : Nat) (f : sw_F) : (sw_w u cy n f).length = n := by simp [sw_w]
theorem sw_w_get {u : Nat → Nat} {cy : Nat → ClassId} {n : Nat} {f : sw_F} {i : Nat} (h : i < n) : (sw_w u cy n f)[i]? = some (u i, sw_e u cy (f i)) := by
  unfold sw_w
  rw [List.getElem?_map, List.getElem?_range h]
  rfl
theorem sw_w_none {u : Nat → Nat} {cy : Nat → ClassId} {n : Nat} {f : sw_F} {i : Nat} (h : n ≤ i) : (sw_w u cy n f)[i]? = none := by
  rw [List.getElem?_eq_none_iff, sw_w_len]
  exact h
theorem sw_w_set {u : Nat → Nat} {cy : Nat → ClassId} {n : Nat} {f : sw_F} {i : Nat} (h : i < n) (e : va_E) : (sw_w u cy n f).set i (u i, sw_e u cy e) = sw_w u cy n (va_up f i e) := by
  apply List.ext_getElem?
  intro j
  by_cases hj : j < n
  · by_cases hij : i = j
    · subst hij
      rw [List.getElem?_set_self (by rw [sw_w_len]; exact h), sw_w_get h, va_up_self]
    · rw [List.getElem?_set_ne hij, sw_w_get hj, sw_w_get hj, va_up_ne _ _ (Ne.symm hij)]
  · rw [sw_w_none (Nat.not_lt.mp hj)]
    rw [List.getElem?_eq_none_iff, List.length_set, sw_w_len]
    exact Nat.not_lt.mp hj
theorem sw_w_push {u u' : Nat → Nat} {cy : Nat → ClassId} {n q : Nat} {f : sw_F} {e : va_E} (hc : ∀ i, i < n → sw_ce n (f i)) (h : ∀ i, i < n → u' i = u i) (hq : u' n = q) : sw_w u cy n f ++ [(q, sw_e u' cy e)] = sw_w u' cy (n + 1) (va_up f n e) := by
  apply List.ext_getElem?
  intro j
  by_cases hj : j < n
  · rw [List.getElem?_append_left (by rw [sw_w_len]; exact hj), sw_w_get hj, sw_w_get (Nat.lt_succ_of_lt hj), va_up_ne _ _ (Nat.ne_of_lt hj), h j hj, sw_e_ext h (hc j hj)]
  · rw [List.getElem?_append_right (by rw [sw_w_len]; exact Nat.not_lt.mp hj), sw_w_len]
    by_cases hjn : j = n
    · subst hjn
      rw [sw_w_get (Nat.lt_succ_self j), va_up_self, hq]
      simp
    · rw [sw_w_none (by omega)]
      rw [List.getElem?_eq_none_iff]
      simp
      omega
/-- what stands in the heap: the image of (n, f), apart, in A; nothing else was changed since H0 -/
def sw_at (D : va_G) (cy : Nat → ClassId) (A : Nat → Prop) (H0 H : Heap) (locs : List Loc) (u : Nat → Nat) (n : Nat) (f : sw_F) : Prop :=
  va_P D sw_cls (sw_w u cy n f) H ∧ va_D A (sw_w u cy n f) ∧ va_S A H0 H locs ∧ ∀ i, i < n → sw_ce n (f i)
/-- a method's own facts: M its name, code, number of locals, type of its answer; d frames may lie above it; mc cells of ms slots may be made -/
def sw_fx (D : va_G) (cy : Nat → ClassId) (M : sw_MD) (d mc ms : Nat) (p : Program) (R : Room) (s : State) (m : MethodId) (args : Array Value) (meth : Method) (c : Code) : Prop :=
  p.tables.exec = Jvm.exec ∧ c.code = M.2.1 ∧ c.maxLocals = M.2.2.1 ∧ meth.sig.returnType = M.2.2.2 ∧ s.vm.findClass M.1.cls = some m.cls ∧ (∀ w ∈ sw_lwg, w.before args s = true) ∧ (∀ w ∈ sw_nest, va_Nw w s) ∧ va_K D sw_cls (sw_tys cy) s ∧ meth.locks = false ∧ meth.name = M.1.name ∧ R.cells = mc ∧ R.slots = ms ∧ d ≤ R.frames ∧ 40 * d ≤ R.locals
abbrev sw_Q : Type := Option Value → Nat → sw_F → Prop
abbrev sw_QX : Type := String → Nat → sw_F → Prop
def sw_R (D : va_G) (cy : Nat → ClassId) (A : Nat → Prop) (u0 : Nat → Nat) (n0 : Nat) (Q : sw_Q) : Array Value → State → Outcome → State → Prop := fun _ st o t =>
  ∃ (r : Option Value) (u : Nat → Nat) (n : Nat) (f : sw_F), o = .returned (r.map (sw_v u)) ∧ Q r n f ∧ (∀ v, r = some v → sw_c n v) ∧ n0 ≤ n ∧ (∀ i, i < n0 → u i = u0 i) ∧ va_P D sw_cls (sw_w u cy n f) t.heap ∧ va_D A (sw_w u cy n f) ∧ (∀ i, i < n → sw_ce n (f i)) ∧ va_F A st t
def sw_X (D : va_G) (cy : Nat → ClassId) (A : Nat → Prop) (u0 : Nat → Nat) (n0 : Nat) (QX : sw_QX) : String → State → State → Prop := fun E st t =>
  ∃ (u : Nat → Nat) (n : Nat) (f : sw_F), QX E n f ∧ n0 ≤ n ∧ (∀ i, i < n0 → u i = u0 i) ∧ va_P D sw_cls (sw_w u cy n f) t.heap ∧ va_D A (sw_w u cy n f) ∧ (∀ i, i < n → sw_ce n (f i)) ∧ va_F A st t
/-- from the frame (pc, locals L, operands st) over the abstract heap (n, f) method M comes to its end with Q, or throws with QX -/
def SW (l : Launch) (D : va_G) (cy : Nat → ClassId) (M : sw_MD) (d mc ms cells slots pc : Nat) (L : sw_L) (st : List Value) (n : Nat) (f : sw_F) (Q : sw_Q) (QX : sw_QX) : Prop :=
  ∀ (p : Program) (e : Env) (R : Room) (s : State) (m : MethodId) (args : Array Value) (below : List Frame) (meth : Method) (c : Code), sw_fx D cy M d mc ms p R s m args meth c →
  ∀ A : Nat → Prop, (∀ q, s.heap.size ≤ q → A q) → ∀ (u0 : Nat → Nat) (n0 : Nat) (u : Nat → Nat), n0 ≤ n → (∀ i, i < n0 → u i = u0 i) →
  ∀ (H : Heap) (locs : List Loc), sw_at D cy A s.heap H locs u n f → (∀ v ∈ st, sw_c n v) → (∀ q ∈ L, sw_c n q.2) →
  ∀ ls : Array Slot, lv_has ls M.2.2.1 (L.map (fun q => (q.1, sw_v u q.2))) →
  ∀ Z : State → Prop, (∀ t, vx_MQ below (sw_R D cy A u0 n0 Q) (sw_X D cy A u0 n0 QX) args s mc ms A t → Z t) →
  W p l e R s m args below meth c H locs cells slots Z (F0 m pc ls (st.map (sw_v u)))
section SWA
variable {l : Launch} {D : va_G} {cy : Nat → ClassId} {M : sw_MD} {d mc ms cells slots pc : Nat} {L : sw_L} {st : List Value} {n : Nat} {f : sw_F} {Q : sw_Q} {QX : sw_QX}
theorem sw_widen {k j : Nat} (h1 : cells ≤ k) (h2 : slots ≤ j) (kk : SW l D cy M d mc ms k j pc L st n f Q QX) : SW l D cy M d mc ms cells slots pc L st n f Q QX := by
  intro p e R s m args below meth c F A hA u0 n0 u hn hu H locs hat hst hL ls hl Z hZ
  exact W.widen h1 h2 (kk p e R s m args below meth c F A hA u0 n0 u hn hu H locs hat hst hL ls hl Z hZ)
/-- fewer locals -/
theorem sw_sub {L' : sw_L} (h : ∀ q ∈ L', q ∈ L) (kk : SW l D cy M d mc ms cells slots pc L' st n f Q QX) : SW l D cy M d mc ms cells slots pc L st n f Q QX := by
  intro p e R s m args below meth c F A hA u0 n0 u hn hu H locs hat hst hL ls hl Z hZ
  refine kk p e R s m args below meth c F A hA u0 n0 u hn hu H locs hat hst (fun q hq => hL q (h q hq)) ls ⟨hl.1, hl.2.1, fun q hq => ?_⟩ Z hZ
  obtain ⟨x, hx, rfl⟩ := List.mem_map.mp hq
  exact hl.2.2 _ (List.mem_map.mpr ⟨x, h x hx, rfl⟩)
/-- another end -/
theorem sw_mono {Q' : sw_Q} {QX' : sw_QX} (h : ∀ r n f, Q' r n f → Q r n f) (hx : ∀ E n f, QX' E n f → QX E n f) (kk : SW l D cy M d mc ms cells slots pc L st n f Q' QX') : SW l D cy M d mc ms cells slots pc L st n f Q QX := by
  intro p e R s m args below meth c F A hA u0 n0 u hn hu H locs hat hst hL ls hl Z hZ
  refine kk p e R s m args below meth c F A hA u0 n0 u hn hu H locs hat hst hL ls hl Z (fun t ht => hZ t ?_)
  obtain ⟨o, h1, h2, h3⟩ := ht
  refine ⟨o, h1, h2, ?_⟩
  rcases h3 with ⟨⟨r, u1, n1, f1, g1, g2, g3⟩, h4⟩ | ⟨q, h4, E, ce, L0, ⟨u1, n1, f1, g2, g3⟩, h5⟩
  · exact Or.inl ⟨⟨r, u1, n1, f1, g1, h _ _ _ g2, g3⟩, h4⟩
  · exact Or.inr ⟨q, h4, E, ce, L0, ⟨u1, n1, f1, hx _ _ _ g2, g3⟩, h5⟩
/-- a step that moves nothing but the operands -/
theorem sw_pure {st' : List Value} {pc' : Nat} (hc : (∀ v ∈ st, sw_c n v) → (∀ q ∈ L, sw_c n q.2) → ∀ v ∈ st', sw_c n v)
    (step : ∀ (p : Program) (e : Env) (R : Room) (s : State) (m : MethodId) (args : Array Value) (below : List Frame) (meth : Method) (c : Code), p.tables.exec = Jvm.exec → c.code = M.2.1 → s.vm.findClass M.1.cls = some m.cls → (∀ w ∈ sw_lwg, w.before args s = true) → ∀ (u : Nat → Nat) (H : Heap) (locs : List Loc) (ls : Array Slot), (∀ q ∈ L, ls[q.1]? = some (.val (sw_v u q.2))) → ∀ Z : State → Prop,
      W p l e R s m args below meth c H locs cells slots Z (F0 m pc' ls (st'.map (sw_v u))) → W p l e R s m args below meth c H locs cells slots Z (F0 m pc ls (st.map (sw_v u))))
    (k : SW l D cy M d mc ms cells slots pc' L st' n f Q QX) : SW l D cy M d mc ms cells slots pc L st n f Q QX := by
  intro p e R s m args below meth c F A hA u0 n0 u hn hu H locs hat hst hL ls hl Z hZ
  refine step p e R s m args below meth c F.1 F.2.1 F.2.2.2.2.1 F.2.2.2.2.2.1 u H locs ls (fun q hq => hl.2.2 _ (List.mem_map.mpr ⟨q, hq, rfl⟩)) Z ?_
  exact k p e R s m args below meth c F A hA u0 n0 u hn hu H locs hat (hc hst hL) hL ls hl Z hZ
end SWA
end
section
/-! ===== THE LOGIC, 2: operands, locals, branches ===== -/
section SWB
variable {l : Launch} {D : va_G} {cy : Nat → ClassId} {M : sw_MD} {d mc ms cells slots pc : Nat} {L : sw_L} {st : List Value} {n : Nat} {f : sw_F} {Q : sw_Q} {QX : sw_QX}
theorem sw_ct {w : Value} (h : ∀ v ∈ w :: st, sw_c n v) : ∀ v ∈ st, sw_c n v := fun v hv => h v (List.mem_cons_of_mem _ hv)
theorem sw_ch {w : Value} (h : ∀ v ∈ w :: st, sw_c n v) : sw_c n w := h w List.mem_cons_self
theorem sw_cc {w : Value} (hw : sw_c n w) (h : ∀ v ∈ st, sw_c n v) : ∀ v ∈ w :: st, sw_c n v := fun v hv => (List.mem_cons.mp hv).elim (fun e => by rw [e]; exact hw) (h v)
theorem sw_ci {x : Int32} (h : ∀ v ∈ st, sw_c n v) : ∀ v ∈ Value.int x :: st, sw_c n v := sw_cc (w := .int x) trivial h
theorem sw_cl {x : Int64} (h : ∀ v ∈ st, sw_c n v) : ∀ v ∈ Value.long x :: st, sw_c n v := sw_cc (w := .long x) trivial h
theorem sw_cn (h : ∀ v ∈ st, sw_c n v) : ∀ v ∈ Value.null :: st, sw_c n v := sw_cc (w := .null) trivial h
theorem sw_lk {i : Nat} {v : Value} (h : L.lookup i = some v) : (i, v) ∈ L := by
  induction L with
  | nil => cases h
  | cons q r ih =>
    rw [List.lookup_cons] at h
    by_cases e : (i == q.1) = true
    · rw [e] at h
      cases h
      rw [beq_iff_eq.mp e]
      exact List.mem_cons_self
    · rw [Bool.eq_false_iff.mpr e] at h
      exact List.mem_cons_of_mem _ (ih h)
/-- a local's new value: where its place is by order; what it overlays goes -/
def sw_in (i : Nat) (v : Value) : sw_L → sw_L
  | [] => [(i, v)]
  | q :: r => if i < q.1 then (i, v) :: q :: r else q :: sw_in i v r
def sw_p1 (i : Nat) (q : Nat × Value) : Bool := !(q.1 == i) && !(q.1 + 1 == i && q.2.category == 2)
def sw_p2 (i : Nat) (q : Nat × Value) : Bool := !(q.1 == i) && (!(q.1 == i + 1) && !(q.1 + 1 == i && q.2.category == 2))
theorem sw_in_mem {i : Nat} {v : Value} {q : Nat × Value} : ∀ {L : sw_L}, q ∈ sw_in i v L → q = (i, v) ∨ q ∈ L
  | [], h => Or.inl (List.mem_singleton.mp h)
  | x :: r, h => by
    unfold sw_in at h
    split at h
    · rcases List.mem_cons.mp h with h | h
      · exact Or.inl h
      · exact Or.inr h
    · rcases List.mem_cons.mp h with h | h
      · exact Or.inr (List.mem_cons.mpr (Or.inl h))
      · rcases sw_in_mem h with h | h
        · exact Or.inl h
        · exact Or.inr (List.mem_cons_of_mem _ h)
theorem sw_has {ls : Array Slot} {nL i : Nat} {u : Nat → Nat} {v : Value} {pr : Nat × Value → Bool} {L' : sw_L} (hp : ∀ q : Nat × Value, pr (q.1, sw_v u q.2) = pr q) (he : sw_in i v (L.filter pr) = L')
    (h : lv_has ls nL ((i, sw_v u v) :: (L.map (fun q => (q.1, sw_v u q.2))).filter pr)) : lv_has ls nL (L'.map (fun q => (q.1, sw_v u q.2))) := by
  subst he
  refine ⟨h.1, h.2.1, fun q hq => ?_⟩
  obtain ⟨x, hx, rfl⟩ := List.mem_map.mp hq
  rcases sw_in_mem hx with rfl | hx
  · exact h.2.2 _ List.mem_cons_self
  · obtain ⟨h1, h2⟩ := List.mem_filter.mp hx
    refine h.2.2 _ (List.mem_cons_of_mem _ (List.mem_filter.mpr ⟨List.mem_map.mpr ⟨x, h1, rfl⟩, ?_⟩))
    rw [hp]
    exact h2
theorem sw_p1v (i : Nat) (u : Nat → Nat) (q : Nat × Value) : sw_p1 i (q.1, sw_v u q.2) = sw_p1 i q := by unfold sw_p1; rw [sw_v_cat]
theorem sw_p2v (i : Nat) (u : Nat → Nat) (q : Nat × Value) : sw_p2 i (q.1, sw_v u q.2) = sw_p2 i q := by unfold sw_p2; rw [sw_v_cat]
theorem sw_inC {i : Nat} {v : Value} {pr : Nat × Value → Bool} {L' : sw_L} (he : sw_in i v (L.filter pr) = L') (hv : sw_c n v) (h : ∀ q ∈ L, sw_c n q.2) : ∀ q ∈ L', sw_c n q.2 := by
  subst he
  intro q hq
  rcases sw_in_mem hq with rfl | hx
  · exact hv
  · exact h q (List.mem_filter.mp hx).1
/-- a reference or null -/
def sw_isR (v : Value) : Bool := match v with
  | .ref _ => true
  | .null => true
  | _ => false
theorem sw_iconst {i : Int} {x : Int32} (hd : decode M.2.1 pc = .ok (.iconst i, 1)) (hv : Int32.ofInt i = x) (k : SW l D cy M d mc ms cells slots (pc + 1) L (.int x :: st) n f Q QX) : SW l D cy M d mc ms cells slots pc L (st) n f Q QX :=
  sw_pure (fun h _ => sw_ci h) (fun p e R s m args below meth c hx hb ho hw u H locs ls hl Z kk => lv_iconst hx hb hd hv kk) k
theorem sw_bipush {i : Int} {x : Int32} (hd : decode M.2.1 pc = .ok (.bipush i, 2)) (hv : (Int8.ofInt i).toInt32 = x) (k : SW l D cy M d mc ms cells slots (pc + 2) L (.int x :: st) n f Q QX) : SW l D cy M d mc ms cells slots pc L (st) n f Q QX :=
  sw_pure (fun h _ => sw_ci h) (fun p e R s m args below meth c hx hb ho hw u H locs ls hl Z kk => lv_bipush hx hb hd hv kk) k
theorem sw_sipush {i : Int} {x : Int32} (hd : decode M.2.1 pc = .ok (.sipush i, 3)) (hv : (Int16.ofInt i).toInt32 = x) (k : SW l D cy M d mc ms cells slots (pc + 3) L (.int x :: st) n f Q QX) : SW l D cy M d mc ms cells slots pc L (st) n f Q QX :=
  sw_pure (fun h _ => sw_ci h) (fun p e R s m args below meth c hx hb ho hw u H locs ls hl Z kk => lv_sipush hx hb hd hv kk) k
theorem sw_lconst {i : Fin 2} {x : Int64} (hd : decode M.2.1 pc = .ok (.lconst i, 1)) (hv : Int64.ofNat (i : Nat) = x) (k : SW l D cy M d mc ms cells slots (pc + 1) L (.long x :: st) n f Q QX) : SW l D cy M d mc ms cells slots pc L (st) n f Q QX :=
  sw_pure (fun h _ => sw_cl h) (fun p e R s m args below meth c hx hb ho hw u H locs ls hl Z kk => lv_lconst hx hb hd hv kk) k
theorem sw_ldc {i : Nat} {x : Int32} (hd : decode M.2.1 pc = .ok (.ldc i, 2)) (hm : Cond.constant M.1.cls i x ∈ sw_lwg) (k : SW l D cy M d mc ms cells slots (pc + 2) L (.int x :: st) n f Q QX) : SW l D cy M d mc ms cells slots pc L (st) n f Q QX :=
  sw_pure (fun h _ => sw_ci h) (fun p e R s m args below meth c hx hb ho hw u H locs ls hl Z kk => lv_ldc hx hb ho (hw _ hm) hd kk) k
theorem sw_ldc2 {i : Nat} {x : Int64} (hd : decode M.2.1 pc = .ok (.ldc2_w i, 3)) (hm : Cond.constantLong M.1.cls i x ∈ sw_lwg) (k : SW l D cy M d mc ms cells slots (pc + 3) L (.long x :: st) n f Q QX) : SW l D cy M d mc ms cells slots pc L (st) n f Q QX :=
  sw_pure (fun h _ => sw_cl h) (fun p e R s m args below meth c hx hb ho hw u H locs ls hl Z kk => lv_ldc2 hx hb ho (hw _ hm) hd kk) k
theorem sw_null (hd : decode M.2.1 pc = .ok (.aconst_null, 1)) (k : SW l D cy M d mc ms cells slots (pc + 1) L (.null :: st) n f Q QX) : SW l D cy M d mc ms cells slots pc L (st) n f Q QX :=
  sw_pure (fun h _ => sw_cn h) (fun p e R s m args below meth c hx hb ho hw u H locs ls hl Z kk => lv_null hx hb hd kk) k
theorem sw_iload_n {i : Fin 4} {x : Int32} (hd : decode M.2.1 pc = .ok (.iload_n i, 1)) (hv : L.lookup (i : Nat) = some (.int x)) (k : SW l D cy M d mc ms cells slots (pc + 1) L (.int x :: st) n f Q QX) : SW l D cy M d mc ms cells slots pc L (st) n f Q QX :=
  sw_pure (fun h _ => sw_ci h) (fun p e R s m args below meth c hx hb ho hw u H locs ls hl Z kk => lv_iload_n hx hb hd rfl (hl _ (sw_lk hv)) kk) k
theorem sw_iload {i : Nat} {x : Int32} (hd : decode M.2.1 pc = .ok (.iload i, 2)) (hv : L.lookup i = some (.int x)) (k : SW l D cy M d mc ms cells slots (pc + 2) L (.int x :: st) n f Q QX) : SW l D cy M d mc ms cells slots pc L (st) n f Q QX :=
  sw_pure (fun h _ => sw_ci h) (fun p e R s m args below meth c hx hb ho hw u H locs ls hl Z kk => lv_iload hx hb hd (hl _ (sw_lk hv)) kk) k
theorem sw_lload_n {i : Fin 4} {x : Int64} (hd : decode M.2.1 pc = .ok (.lload_n i, 1)) (hv : L.lookup (i : Nat) = some (.long x)) (k : SW l D cy M d mc ms cells slots (pc + 1) L (.long x :: st) n f Q QX) : SW l D cy M d mc ms cells slots pc L (st) n f Q QX :=
  sw_pure (fun h _ => sw_cl h) (fun p e R s m args below meth c hx hb ho hw u H locs ls hl Z kk => lv_lload_n hx hb hd rfl (hl _ (sw_lk hv)) kk) k
theorem sw_lload {i : Nat} {x : Int64} (hd : decode M.2.1 pc = .ok (.lload i, 2)) (hv : L.lookup i = some (.long x)) (k : SW l D cy M d mc ms cells slots (pc + 2) L (.long x :: st) n f Q QX) : SW l D cy M d mc ms cells slots pc L (st) n f Q QX :=
  sw_pure (fun h _ => sw_cl h) (fun p e R s m args below meth c hx hb ho hw u H locs ls hl Z kk => lv_lload hx hb hd (hl _ (sw_lk hv)) kk) k
theorem sw_aload_n {i : Fin 4} {v : Value} (hd : decode M.2.1 pc = .ok (.aload_n i, 1)) (hv : L.lookup (i : Nat) = some v) (hr : sw_isR v = true) (k : SW l D cy M d mc ms cells slots (pc + 1) L (v :: st) n f Q QX) : SW l D cy M d mc ms cells slots pc L (st) n f Q QX :=
  sw_pure (fun h hL => sw_cc (hL _ (sw_lk hv)) h) (fun p e R s m args below meth c hx hb ho hw u H locs ls hl Z kk => by
    cases v with
    | ref a => exact lv_aload_n hx hb hd rfl (hl _ (sw_lk hv)) kk
    | null => exact lv_aload_nN hx hb hd rfl (hl _ (sw_lk hv)) kk
    | _ => cases hr) k
theorem sw_aload {i : Nat} {v : Value} (hd : decode M.2.1 pc = .ok (.aload i, 2)) (hv : L.lookup i = some v) (hr : sw_isR v = true) (k : SW l D cy M d mc ms cells slots (pc + 2) L (v :: st) n f Q QX) : SW l D cy M d mc ms cells slots pc L (st) n f Q QX :=
  sw_pure (fun h hL => sw_cc (hL _ (sw_lk hv)) h) (fun p e R s m args below meth c hx hb ho hw u H locs ls hl Z kk => by
    cases v with
    | ref a => exact lv_aload hx hb hd (hl _ (sw_lk hv)) kk
    | null => exact lv_aloadN hx hb hd (hl _ (sw_lk hv)) kk
    | _ => cases hr) k
theorem sw_iadd {x y : Int32} (hd : decode M.2.1 pc = .ok (.iadd, 1)) (k : SW l D cy M d mc ms cells slots (pc + 1) L (.int (x + y) :: st) n f Q QX) : SW l D cy M d mc ms cells slots pc L (.int y :: .int x :: st) n f Q QX :=
  sw_pure (fun h _ => sw_ci (sw_ct (sw_ct h))) (fun p e R s m args below meth c hx hb ho hw u H locs ls hl Z kk => lv_iadd hx hb hd kk) k
theorem sw_isub {x y : Int32} (hd : decode M.2.1 pc = .ok (.isub, 1)) (k : SW l D cy M d mc ms cells slots (pc + 1) L (.int (x - y) :: st) n f Q QX) : SW l D cy M d mc ms cells slots pc L (.int y :: .int x :: st) n f Q QX :=
  sw_pure (fun h _ => sw_ci (sw_ct (sw_ct h))) (fun p e R s m args below meth c hx hb ho hw u H locs ls hl Z kk => lv_isub hx hb hd kk) k
theorem sw_imul {x y : Int32} (hd : decode M.2.1 pc = .ok (.imul, 1)) (k : SW l D cy M d mc ms cells slots (pc + 1) L (.int (x * y) :: st) n f Q QX) : SW l D cy M d mc ms cells slots pc L (.int y :: .int x :: st) n f Q QX :=
  sw_pure (fun h _ => sw_ci (sw_ct (sw_ct h))) (fun p e R s m args below meth c hx hb ho hw u H locs ls hl Z kk => lv_imul hx hb hd kk) k
theorem sw_iand {x y : Int32} (hd : decode M.2.1 pc = .ok (.iand, 1)) (k : SW l D cy M d mc ms cells slots (pc + 1) L (.int (x &&& y) :: st) n f Q QX) : SW l D cy M d mc ms cells slots pc L (.int y :: .int x :: st) n f Q QX :=
  sw_pure (fun h _ => sw_ci (sw_ct (sw_ct h))) (fun p e R s m args below meth c hx hb ho hw u H locs ls hl Z kk => lv_iand hx hb hd kk) k
theorem sw_ior {x y : Int32} (hd : decode M.2.1 pc = .ok (.ior, 1)) (k : SW l D cy M d mc ms cells slots (pc + 1) L (.int (x ||| y) :: st) n f Q QX) : SW l D cy M d mc ms cells slots pc L (.int y :: .int x :: st) n f Q QX :=
  sw_pure (fun h _ => sw_ci (sw_ct (sw_ct h))) (fun p e R s m args below meth c hx hb ho hw u H locs ls hl Z kk => lv_ior hx hb hd kk) k
theorem sw_idiv {x y : Int32} (hd : decode M.2.1 pc = .ok (.idiv, 1)) (hne : ¬ y = 0) (k : SW l D cy M d mc ms cells slots (pc + 1) L (.int (x / y) :: st) n f Q QX) : SW l D cy M d mc ms cells slots pc L (.int y :: .int x :: st) n f Q QX :=
  sw_pure (fun h _ => sw_ci (sw_ct (sw_ct h))) (fun p e R s m args below meth c hx hb ho hw u H locs ls hl Z kk => lv_idiv hx hb hd hne kk) k
theorem sw_irem {x y : Int32} (hd : decode M.2.1 pc = .ok (.irem, 1)) (hne : ¬ y = 0) (k : SW l D cy M d mc ms cells slots (pc + 1) L (.int (x - x / y * y) :: st) n f Q QX) : SW l D cy M d mc ms cells slots pc L (.int y :: .int x :: st) n f Q QX :=
  sw_pure (fun h _ => sw_ci (sw_ct (sw_ct h))) (fun p e R s m args below meth c hx hb ho hw u H locs ls hl Z kk => lv_irem hx hb hd hne kk) k
theorem sw_ladd {x y : Int64} (hd : decode M.2.1 pc = .ok (.ladd, 1)) (k : SW l D cy M d mc ms cells slots (pc + 1) L (.long (x + y) :: st) n f Q QX) : SW l D cy M d mc ms cells slots pc L (.long y :: .long x :: st) n f Q QX :=
  sw_pure (fun h _ => sw_cl (sw_ct (sw_ct h))) (fun p e R s m args below meth c hx hb ho hw u H locs ls hl Z kk => lv_ladd hx hb hd kk) k
theorem sw_lsub {x y : Int64} (hd : decode M.2.1 pc = .ok (.lsub, 1)) (k : SW l D cy M d mc ms cells slots (pc + 1) L (.long (x - y) :: st) n f Q QX) : SW l D cy M d mc ms cells slots pc L (.long y :: .long x :: st) n f Q QX :=
  sw_pure (fun h _ => sw_cl (sw_ct (sw_ct h))) (fun p e R s m args below meth c hx hb ho hw u H locs ls hl Z kk => lv_lsub hx hb hd kk) k
theorem sw_land {x y : Int64} (hd : decode M.2.1 pc = .ok (.land, 1)) (k : SW l D cy M d mc ms cells slots (pc + 1) L (.long (x &&& y) :: st) n f Q QX) : SW l D cy M d mc ms cells slots pc L (.long y :: .long x :: st) n f Q QX :=
  sw_pure (fun h _ => sw_cl (sw_ct (sw_ct h))) (fun p e R s m args below meth c hx hb ho hw u H locs ls hl Z kk => lv_land hx hb hd kk) k
theorem sw_lor {x y : Int64} (hd : decode M.2.1 pc = .ok (.lor, 1)) (k : SW l D cy M d mc ms cells slots (pc + 1) L (.long (x ||| y) :: st) n f Q QX) : SW l D cy M d mc ms cells slots pc L (.long y :: .long x :: st) n f Q QX :=
  sw_pure (fun h _ => sw_cl (sw_ct (sw_ct h))) (fun p e R s m args below meth c hx hb ho hw u H locs ls hl Z kk => lv_lor hx hb hd kk) k
theorem sw_lushr {x : Int64} {y : Int32} (hd : decode M.2.1 pc = .ok (.lushr, 1)) (k : SW l D cy M d mc ms cells slots (pc + 1) L (.long ((x.toUInt64 >>> (y.toInt64.toUInt64 &&& Int64.toUInt64 63)).toInt64) :: st) n f Q QX) : SW l D cy M d mc ms cells slots pc L (.int y :: .long x :: st) n f Q QX :=
  sw_pure (fun h _ => sw_cl (sw_ct (sw_ct h))) (fun p e R s m args below meth c hx hb ho hw u H locs ls hl Z kk => lv_lushr hx hb hd rfl kk) k
theorem sw_lshl {x : Int64} {y : Int32} (hd : decode M.2.1 pc = .ok (.lshl, 1)) (k : SW l D cy M d mc ms cells slots (pc + 1) L (.long (x <<< (y.toInt64 &&& 63)) :: st) n f Q QX) : SW l D cy M d mc ms cells slots pc L (.int y :: .long x :: st) n f Q QX :=
  sw_pure (fun h _ => sw_cl (sw_ct (sw_ct h))) (fun p e R s m args below meth c hx hb ho hw u H locs ls hl Z kk => lv_lshl hx hb hd rfl kk) k
theorem sw_lshr {x : Int64} {y : Int32} (hd : decode M.2.1 pc = .ok (.lshr, 1)) (k : SW l D cy M d mc ms cells slots (pc + 1) L (.long (x >>> (y.toInt64 &&& 63)) :: st) n f Q QX) : SW l D cy M d mc ms cells slots pc L (.int y :: .long x :: st) n f Q QX :=
  sw_pure (fun h _ => sw_cl (sw_ct (sw_ct h))) (fun p e R s m args below meth c hx hb ho hw u H locs ls hl Z kk => lv_lshr hx hb hd rfl kk) k
theorem sw_i2l {x : Int32} (hd : decode M.2.1 pc = .ok (.i2l, 1)) (k : SW l D cy M d mc ms cells slots (pc + 1) L (.long x.toInt64 :: st) n f Q QX) : SW l D cy M d mc ms cells slots pc L (.int x :: st) n f Q QX :=
  sw_pure (fun h _ => sw_cl (sw_ct h)) (fun p e R s m args below meth c hx hb ho hw u H locs ls hl Z kk => lv_i2l hx hb hd rfl kk) k
theorem sw_l2i {x : Int64} (hd : decode M.2.1 pc = .ok (.l2i, 1)) (k : SW l D cy M d mc ms cells slots (pc + 1) L (.int x.toInt32 :: st) n f Q QX) : SW l D cy M d mc ms cells slots pc L (.long x :: st) n f Q QX :=
  sw_pure (fun h _ => sw_ci (sw_ct h)) (fun p e R s m args below meth c hx hb ho hw u H locs ls hl Z kk => lv_l2i hx hb hd rfl kk) k
theorem sw_i2c {x : Int32} (hd : decode M.2.1 pc = .ok (.i2c, 1)) (k : SW l D cy M d mc ms cells slots (pc + 1) L (.int (x.toUInt32 % 65536).toInt32 :: st) n f Q QX) : SW l D cy M d mc ms cells slots pc L (.int x :: st) n f Q QX :=
  sw_pure (fun h _ => sw_ci (sw_ct h)) (fun p e R s m args below meth c hx hb ho hw u H locs ls hl Z kk => lv_i2c hx hb hd rfl kk) k
theorem sw_lcmp {x y : Int64} (hd : decode M.2.1 pc = .ok (.lcmp, 1)) (k : SW l D cy M d mc ms cells slots (pc + 1) L (.int (lg_cmp x y) :: st) n f Q QX) : SW l D cy M d mc ms cells slots pc L (.long y :: .long x :: st) n f Q QX :=
  sw_pure (fun h _ => sw_ci (sw_ct (sw_ct h))) (fun p e R s m args below meth c hx hb ho hw u H locs ls hl Z kk => W.lcmp hx hb hd kk) k
theorem sw_dup {v : Value} (hd : decode M.2.1 pc = .ok (.dup, 1)) (hv : v.category = 1) (k : SW l D cy M d mc ms cells slots (pc + 1) L (v :: v :: st) n f Q QX) : SW l D cy M d mc ms cells slots pc L (v :: st) n f Q QX :=
  sw_pure (fun h _ => sw_cc (sw_ch h) h) (fun p e R s m args below meth c hx hb ho hw u H locs ls hl Z kk => lv_dup hx hb hd (by rw [sw_v_cat]; exact hv) kk) k
theorem sw_pop {v : Value} (hd : decode M.2.1 pc = .ok (.pop, 1)) (hv : v.category = 1) (k : SW l D cy M d mc ms cells slots (pc + 1) L (st) n f Q QX) : SW l D cy M d mc ms cells slots pc L (v :: st) n f Q QX :=
  sw_pure (fun h _ => sw_ct h) (fun p e R s m args below meth c hx hb ho hw u H locs ls hl Z kk => lv_pop hx hb hd (by rw [sw_v_cat]; exact hv) kk) k
theorem sw_dup2 {v w : Value} (hd : decode M.2.1 pc = .ok (.dup2, 1)) (hv : v.category = 1) (hw : w.category = 1) (k : SW l D cy M d mc ms cells slots (pc + 1) L (v :: w :: v :: w :: st) n f Q QX) : SW l D cy M d mc ms cells slots pc L (v :: w :: st) n f Q QX :=
  sw_pure (fun h _ => sw_cc (sw_ch h) (sw_cc (sw_ch (sw_ct h)) h)) (fun p e R s m args below meth c hx hb ho hw u H locs ls hl Z kk => lv_dup2_11 hx hb hd (by rw [sw_v_cat]; exact hv) (by rw [sw_v_cat]; exact (by assumption)) kk) k
theorem sw_goto {off : Int} (tgt : Nat) (hd : decode M.2.1 pc = .ok (.goto off, 3)) (ht : (pc : Int) + off = (tgt : Int)) (k : SW l D cy M d mc ms cells slots tgt L (st) n f Q QX) : SW l D cy M d mc ms cells slots pc L (st) n f Q QX :=
  sw_pure (fun h _ => h) (fun p e R s m args below meth c hx hb ho hw u H locs ls hl Z kk => lv_goto hx hb hd ht kk) k
theorem sw_ifnullR {off : Int} {a : Nat} (hd : decode M.2.1 pc = .ok (.ifnull off, 3)) (k : SW l D cy M d mc ms cells slots (pc + 3) L (st) n f Q QX) : SW l D cy M d mc ms cells slots pc L (.ref a :: st) n f Q QX :=
  sw_pure (fun h _ => sw_ct h) (fun p e R s m args below meth c hx hb ho hw u H locs ls hl Z kk => lv_ifnull hx hb hd kk) k
theorem sw_ifnullN {off : Int} (tgt : Nat) (hd : decode M.2.1 pc = .ok (.ifnull off, 3)) (ht : (pc : Int) + off = (tgt : Int)) (k : SW l D cy M d mc ms cells slots tgt L (st) n f Q QX) : SW l D cy M d mc ms cells slots pc L (.null :: st) n f Q QX :=
  sw_pure (fun h _ => sw_ct h) (fun p e R s m args below meth c hx hb ho hw u H locs ls hl Z kk => lv_ifnullN hx hb hd ht kk) k
theorem sw_ifnonnullR {off : Int} {a : Nat} (tgt : Nat) (hd : decode M.2.1 pc = .ok (.ifnonnull off, 3)) (ht : (pc : Int) + off = (tgt : Int)) (k : SW l D cy M d mc ms cells slots tgt L (st) n f Q QX) : SW l D cy M d mc ms cells slots pc L (.ref a :: st) n f Q QX :=
  sw_pure (fun h _ => sw_ct h) (fun p e R s m args below meth c hx hb ho hw u H locs ls hl Z kk => lv_ifnonnull hx hb hd ht kk) k
theorem sw_ifnonnullN {off : Int} (hd : decode M.2.1 pc = .ok (.ifnonnull off, 3)) (k : SW l D cy M d mc ms cells slots (pc + 3) L (st) n f Q QX) : SW l D cy M d mc ms cells slots pc L (.null :: st) n f Q QX :=
  sw_pure (fun h _ => sw_ct h) (fun p e R s m args below meth c hx hb ho hw u H locs ls hl Z kk => lv_ifnonnullN hx hb hd kk) k
theorem sw_if_eq {x : Int32} {off : Int} (tgt : Nat) (hd : decode M.2.1 pc = .ok (.ifCond .eq off, 3)) (ht : (pc : Int) + off = (tgt : Int)) (kt : x = 0 → SW l D cy M d mc ms cells slots tgt L st n f Q QX) (kf : ¬ x = 0 → SW l D cy M d mc ms cells slots (pc + 3) L st n f Q QX) : SW l D cy M d mc ms cells slots pc L (.int x :: st) n f Q QX := by
  intro p e R s m args below meth c F A hA u0 n0 u hn hu H locs hat hst hL ls hl Z hZ
  exact lv_if_eq F.1 F.2.1 hd ht (fun h => kt h p e R s m args below meth c F A hA u0 n0 u hn hu H locs hat (sw_ct hst) hL ls hl Z hZ) (fun h => kf h p e R s m args below meth c F A hA u0 n0 u hn hu H locs hat (sw_ct hst) hL ls hl Z hZ)
theorem sw_if_ne {x : Int32} {off : Int} (tgt : Nat) (hd : decode M.2.1 pc = .ok (.ifCond .ne off, 3)) (ht : (pc : Int) + off = (tgt : Int)) (kt : ¬ x = 0 → SW l D cy M d mc ms cells slots tgt L st n f Q QX) (kf : x = 0 → SW l D cy M d mc ms cells slots (pc + 3) L st n f Q QX) : SW l D cy M d mc ms cells slots pc L (.int x :: st) n f Q QX := by
  intro p e R s m args below meth c F A hA u0 n0 u hn hu H locs hat hst hL ls hl Z hZ
  exact lv_if_ne F.1 F.2.1 hd ht (fun h => kt h p e R s m args below meth c F A hA u0 n0 u hn hu H locs hat (sw_ct hst) hL ls hl Z hZ) (fun h => kf h p e R s m args below meth c F A hA u0 n0 u hn hu H locs hat (sw_ct hst) hL ls hl Z hZ)
theorem sw_if_lt {x : Int32} {off : Int} (tgt : Nat) (hd : decode M.2.1 pc = .ok (.ifCond .lt off, 3)) (ht : (pc : Int) + off = (tgt : Int)) (kt : x < 0 → SW l D cy M d mc ms cells slots tgt L st n f Q QX) (kf : ¬ x < 0 → SW l D cy M d mc ms cells slots (pc + 3) L st n f Q QX) : SW l D cy M d mc ms cells slots pc L (.int x :: st) n f Q QX := by
  intro p e R s m args below meth c F A hA u0 n0 u hn hu H locs hat hst hL ls hl Z hZ
  exact lv_if_lt F.1 F.2.1 hd ht (fun h => kt h p e R s m args below meth c F A hA u0 n0 u hn hu H locs hat (sw_ct hst) hL ls hl Z hZ) (fun h => kf h p e R s m args below meth c F A hA u0 n0 u hn hu H locs hat (sw_ct hst) hL ls hl Z hZ)
theorem sw_if_ge {x : Int32} {off : Int} (tgt : Nat) (hd : decode M.2.1 pc = .ok (.ifCond .ge off, 3)) (ht : (pc : Int) + off = (tgt : Int)) (kt : 0 ≤ x → SW l D cy M d mc ms cells slots tgt L st n f Q QX) (kf : ¬ 0 ≤ x → SW l D cy M d mc ms cells slots (pc + 3) L st n f Q QX) : SW l D cy M d mc ms cells slots pc L (.int x :: st) n f Q QX := by
  intro p e R s m args below meth c F A hA u0 n0 u hn hu H locs hat hst hL ls hl Z hZ
  exact lv_if_ge F.1 F.2.1 hd ht (fun h => kt h p e R s m args below meth c F A hA u0 n0 u hn hu H locs hat (sw_ct hst) hL ls hl Z hZ) (fun h => kf h p e R s m args below meth c F A hA u0 n0 u hn hu H locs hat (sw_ct hst) hL ls hl Z hZ)
theorem sw_if_gt {x : Int32} {off : Int} (tgt : Nat) (hd : decode M.2.1 pc = .ok (.ifCond .gt off, 3)) (ht : (pc : Int) + off = (tgt : Int)) (kt : 0 < x → SW l D cy M d mc ms cells slots tgt L st n f Q QX) (kf : ¬ 0 < x → SW l D cy M d mc ms cells slots (pc + 3) L st n f Q QX) : SW l D cy M d mc ms cells slots pc L (.int x :: st) n f Q QX := by
  intro p e R s m args below meth c F A hA u0 n0 u hn hu H locs hat hst hL ls hl Z hZ
  exact lv_if_gt F.1 F.2.1 hd ht (fun h => kt h p e R s m args below meth c F A hA u0 n0 u hn hu H locs hat (sw_ct hst) hL ls hl Z hZ) (fun h => kf h p e R s m args below meth c F A hA u0 n0 u hn hu H locs hat (sw_ct hst) hL ls hl Z hZ)
theorem sw_if_le {x : Int32} {off : Int} (tgt : Nat) (hd : decode M.2.1 pc = .ok (.ifCond .le off, 3)) (ht : (pc : Int) + off = (tgt : Int)) (kt : x ≤ 0 → SW l D cy M d mc ms cells slots tgt L st n f Q QX) (kf : ¬ x ≤ 0 → SW l D cy M d mc ms cells slots (pc + 3) L st n f Q QX) : SW l D cy M d mc ms cells slots pc L (.int x :: st) n f Q QX := by
  intro p e R s m args below meth c F A hA u0 n0 u hn hu H locs hat hst hL ls hl Z hZ
  exact lv_if_le F.1 F.2.1 hd ht (fun h => kt h p e R s m args below meth c F A hA u0 n0 u hn hu H locs hat (sw_ct hst) hL ls hl Z hZ) (fun h => kf h p e R s m args below meth c F A hA u0 n0 u hn hu H locs hat (sw_ct hst) hL ls hl Z hZ)
theorem sw_icmp_eq {x y : Int32} {off : Int} (tgt : Nat) (hd : decode M.2.1 pc = .ok (.if_icmp .eq off, 3)) (ht : (pc : Int) + off = (tgt : Int)) (kt : x = y → SW l D cy M d mc ms cells slots tgt L st n f Q QX) (kf : ¬ x = y → SW l D cy M d mc ms cells slots (pc + 3) L st n f Q QX) : SW l D cy M d mc ms cells slots pc L (.int y :: .int x :: st) n f Q QX := by
  intro p e R s m args below meth c F A hA u0 n0 u hn hu H locs hat hst hL ls hl Z hZ
  exact lv_icmp_eq F.1 F.2.1 hd ht (fun h => kt h p e R s m args below meth c F A hA u0 n0 u hn hu H locs hat (sw_ct (sw_ct hst)) hL ls hl Z hZ) (fun h => kf h p e R s m args below meth c F A hA u0 n0 u hn hu H locs hat (sw_ct (sw_ct hst)) hL ls hl Z hZ)
theorem sw_icmp_ne {x y : Int32} {off : Int} (tgt : Nat) (hd : decode M.2.1 pc = .ok (.if_icmp .ne off, 3)) (ht : (pc : Int) + off = (tgt : Int)) (kt : ¬ x = y → SW l D cy M d mc ms cells slots tgt L st n f Q QX) (kf : x = y → SW l D cy M d mc ms cells slots (pc + 3) L st n f Q QX) : SW l D cy M d mc ms cells slots pc L (.int y :: .int x :: st) n f Q QX := by
  intro p e R s m args below meth c F A hA u0 n0 u hn hu H locs hat hst hL ls hl Z hZ
  exact lv_icmp_ne F.1 F.2.1 hd ht (fun h => kt h p e R s m args below meth c F A hA u0 n0 u hn hu H locs hat (sw_ct (sw_ct hst)) hL ls hl Z hZ) (fun h => kf h p e R s m args below meth c F A hA u0 n0 u hn hu H locs hat (sw_ct (sw_ct hst)) hL ls hl Z hZ)
theorem sw_icmp_lt {x y : Int32} {off : Int} (tgt : Nat) (hd : decode M.2.1 pc = .ok (.if_icmp .lt off, 3)) (ht : (pc : Int) + off = (tgt : Int)) (kt : x < y → SW l D cy M d mc ms cells slots tgt L st n f Q QX) (kf : ¬ x < y → SW l D cy M d mc ms cells slots (pc + 3) L st n f Q QX) : SW l D cy M d mc ms cells slots pc L (.int y :: .int x :: st) n f Q QX := by
  intro p e R s m args below meth c F A hA u0 n0 u hn hu H locs hat hst hL ls hl Z hZ
  exact lv_icmp_lt F.1 F.2.1 hd ht (fun h => kt h p e R s m args below meth c F A hA u0 n0 u hn hu H locs hat (sw_ct (sw_ct hst)) hL ls hl Z hZ) (fun h => kf h p e R s m args below meth c F A hA u0 n0 u hn hu H locs hat (sw_ct (sw_ct hst)) hL ls hl Z hZ)
theorem sw_icmp_ge {x y : Int32} {off : Int} (tgt : Nat) (hd : decode M.2.1 pc = .ok (.if_icmp .ge off, 3)) (ht : (pc : Int) + off = (tgt : Int)) (kt : y ≤ x → SW l D cy M d mc ms cells slots tgt L st n f Q QX) (kf : ¬ y ≤ x → SW l D cy M d mc ms cells slots (pc + 3) L st n f Q QX) : SW l D cy M d mc ms cells slots pc L (.int y :: .int x :: st) n f Q QX := by
  intro p e R s m args below meth c F A hA u0 n0 u hn hu H locs hat hst hL ls hl Z hZ
  exact lv_icmp_ge F.1 F.2.1 hd ht (fun h => kt h p e R s m args below meth c F A hA u0 n0 u hn hu H locs hat (sw_ct (sw_ct hst)) hL ls hl Z hZ) (fun h => kf h p e R s m args below meth c F A hA u0 n0 u hn hu H locs hat (sw_ct (sw_ct hst)) hL ls hl Z hZ)
theorem sw_icmp_gt {x y : Int32} {off : Int} (tgt : Nat) (hd : decode M.2.1 pc = .ok (.if_icmp .gt off, 3)) (ht : (pc : Int) + off = (tgt : Int)) (kt : y < x → SW l D cy M d mc ms cells slots tgt L st n f Q QX) (kf : ¬ y < x → SW l D cy M d mc ms cells slots (pc + 3) L st n f Q QX) : SW l D cy M d mc ms cells slots pc L (.int y :: .int x :: st) n f Q QX := by
  intro p e R s m args below meth c F A hA u0 n0 u hn hu H locs hat hst hL ls hl Z hZ
  exact lv_icmp_gt F.1 F.2.1 hd ht (fun h => kt h p e R s m args below meth c F A hA u0 n0 u hn hu H locs hat (sw_ct (sw_ct hst)) hL ls hl Z hZ) (fun h => kf h p e R s m args below meth c F A hA u0 n0 u hn hu H locs hat (sw_ct (sw_ct hst)) hL ls hl Z hZ)
theorem sw_icmp_le {x y : Int32} {off : Int} (tgt : Nat) (hd : decode M.2.1 pc = .ok (.if_icmp .le off, 3)) (ht : (pc : Int) + off = (tgt : Int)) (kt : x ≤ y → SW l D cy M d mc ms cells slots tgt L st n f Q QX) (kf : ¬ x ≤ y → SW l D cy M d mc ms cells slots (pc + 3) L st n f Q QX) : SW l D cy M d mc ms cells slots pc L (.int y :: .int x :: st) n f Q QX := by
  intro p e R s m args below meth c F A hA u0 n0 u hn hu H locs hat hst hL ls hl Z hZ
  exact lv_icmp_le F.1 F.2.1 hd ht (fun h => kt h p e R s m args below meth c F A hA u0 n0 u hn hu H locs hat (sw_ct (sw_ct hst)) hL ls hl Z hZ) (fun h => kf h p e R s m args below meth c F A hA u0 n0 u hn hu H locs hat (sw_ct (sw_ct hst)) hL ls hl Z hZ)
theorem sw_istore_n {i : Fin 4} {x : Int32} (L' : sw_L) (hd : decode M.2.1 pc = .ok (.istore_n i, 1)) (hi : (i : Nat) < M.2.2.1) (he : sw_in (i : Nat) (.int x) (L.filter (sw_p1 (i : Nat))) = L') (k : SW l D cy M d mc ms cells slots (pc + 1) L' st n f Q QX) : SW l D cy M d mc ms cells slots pc L (.int x :: st) n f Q QX := by
  intro p e R s m args below meth c F A hA u0 n0 u hn hu H locs hat hst hL ls hl Z hZ
  refine lv_istore_n F.1 F.2.1 hd rfl hl hi rfl (fun ls' hl' => ?_)
  exact k p e R s m args below meth c F A hA u0 n0 u hn hu H locs hat (sw_ct hst) (sw_inC he trivial hL) ls' (sw_has (u := u) (sw_p1v (i : Nat) u) he hl') Z hZ
theorem sw_istore {i : Nat} {x : Int32} (L' : sw_L) (hd : decode M.2.1 pc = .ok (.istore i, 2)) (hi : i < M.2.2.1) (he : sw_in i (.int x) (L.filter (sw_p1 i)) = L') (k : SW l D cy M d mc ms cells slots (pc + 2) L' st n f Q QX) : SW l D cy M d mc ms cells slots pc L (.int x :: st) n f Q QX := by
  intro p e R s m args below meth c F A hA u0 n0 u hn hu H locs hat hst hL ls hl Z hZ
  refine lv_istore F.1 F.2.1 hd hl hi rfl (fun ls' hl' => ?_)
  exact k p e R s m args below meth c F A hA u0 n0 u hn hu H locs hat (sw_ct hst) (sw_inC he trivial hL) ls' (sw_has (u := u) (sw_p1v i u) he hl') Z hZ
theorem sw_lstore_n {i : Fin 4} {x : Int64} (L' : sw_L) (hd : decode M.2.1 pc = .ok (.lstore_n i, 1)) (hi : (i : Nat) + 1 < M.2.2.1) (he : sw_in (i : Nat) (.long x) (L.filter (sw_p2 (i : Nat))) = L') (k : SW l D cy M d mc ms cells slots (pc + 1) L' st n f Q QX) : SW l D cy M d mc ms cells slots pc L (.long x :: st) n f Q QX := by
  intro p e R s m args below meth c F A hA u0 n0 u hn hu H locs hat hst hL ls hl Z hZ
  refine lv_lstore_n F.1 F.2.1 hd rfl hl hi rfl (fun ls' hl' => ?_)
  exact k p e R s m args below meth c F A hA u0 n0 u hn hu H locs hat (sw_ct hst) (sw_inC he trivial hL) ls' (sw_has (u := u) (sw_p2v (i : Nat) u) he hl') Z hZ
theorem sw_lstore {i : Nat} {x : Int64} (L' : sw_L) (hd : decode M.2.1 pc = .ok (.lstore i, 2)) (hi : i + 1 < M.2.2.1) (he : sw_in i (.long x) (L.filter (sw_p2 i)) = L') (k : SW l D cy M d mc ms cells slots (pc + 2) L' st n f Q QX) : SW l D cy M d mc ms cells slots pc L (.long x :: st) n f Q QX := by
  intro p e R s m args below meth c F A hA u0 n0 u hn hu H locs hat hst hL ls hl Z hZ
  refine lv_lstore F.1 F.2.1 hd hl hi rfl (fun ls' hl' => ?_)
  exact k p e R s m args below meth c F A hA u0 n0 u hn hu H locs hat (sw_ct hst) (sw_inC he trivial hL) ls' (sw_has (u := u) (sw_p2v i u) he hl') Z hZ
theorem sw_astore_n {i : Fin 4} {v : Value} (L' : sw_L) (hd : decode M.2.1 pc = .ok (.astore_n i, 1)) (hr : sw_isR v = true) (hi : (i : Nat) < M.2.2.1) (he : sw_in (i : Nat) v (L.filter (sw_p1 (i : Nat))) = L') (k : SW l D cy M d mc ms cells slots (pc + 1) L' st n f Q QX) : SW l D cy M d mc ms cells slots pc L (v :: st) n f Q QX := by
  intro p e R s m args below meth c F A hA u0 n0 u hn hu H locs hat hst hL ls hl Z hZ
  have kk : ∀ ls' : Array Slot, lv_has ls' M.2.2.1 (((i : Nat), sw_v u v) :: (L.map (fun q => (q.1, sw_v u q.2))).filter (fun q => !(q.1 == (i : Nat)) && !(q.1 + 1 == (i : Nat) && q.2.category == 2))) → W p l e R s m args below meth c H locs cells slots Z (F0 m (pc + 1) ls' (st.map (sw_v u))) := fun ls' hl' =>
    k p e R s m args below meth c F A hA u0 n0 u hn hu H locs hat (sw_ct hst) (sw_inC he (sw_ch hst) hL) ls' (sw_has (u := u) (sw_p1v (i : Nat) u) he hl') Z hZ
  cases v with
  | ref a => exact lv_astore_n F.1 F.2.1 hd rfl hl hi rfl kk
  | null => exact lv_astore_nN F.1 F.2.1 hd rfl hl hi rfl kk
  | _ => cases hr
theorem sw_astore {i : Nat} {v : Value} (L' : sw_L) (hd : decode M.2.1 pc = .ok (.astore i, 2)) (hr : sw_isR v = true) (hi : i < M.2.2.1) (he : sw_in i v (L.filter (sw_p1 i)) = L') (k : SW l D cy M d mc ms cells slots (pc + 2) L' st n f Q QX) : SW l D cy M d mc ms cells slots pc L (v :: st) n f Q QX := by
  intro p e R s m args below meth c F A hA u0 n0 u hn hu H locs hat hst hL ls hl Z hZ
  have kk : ∀ ls' : Array Slot, lv_has ls' M.2.2.1 ((i, sw_v u v) :: (L.map (fun q => (q.1, sw_v u q.2))).filter (fun q => !(q.1 == i) && !(q.1 + 1 == i && q.2.category == 2))) → W p l e R s m args below meth c H locs cells slots Z (F0 m (pc + 2) ls' (st.map (sw_v u))) := fun ls' hl' =>
    k p e R s m args below meth c F A hA u0 n0 u hn hu H locs hat (sw_ct hst) (sw_inC he (sw_ch hst) hL) ls' (sw_has (u := u) (sw_p1v i u) he hl') Z hZ
  cases v with
  | ref a => exact lv_astore F.1 F.2.1 hd hl hi rfl kk
  | null => exact lv_astoreN F.1 F.2.1 hd hl hi rfl kk
  | _ => cases hr
theorem sw_iinc {i : Nat} {q : Int} {x : Int32} (L' : sw_L) (hd : decode M.2.1 pc = .ok (.iinc i q, 3)) (hv : L.lookup i = some (.int x)) (hi : i < M.2.2.1) (he : sw_in i (.int (x + Int32.ofInt q)) (L.filter (sw_p1 i)) = L') (k : SW l D cy M d mc ms cells slots (pc + 3) L' st n f Q QX) : SW l D cy M d mc ms cells slots pc L st n f Q QX := by
  intro p e R s m args below meth c F A hA u0 n0 u hn hu H locs hat hst hL ls hl Z hZ
  obtain ⟨j, hj⟩ := List.getElem?_of_mem (List.mem_map.mpr ⟨(i, .int x), sw_lk hv, rfl⟩ : (i, Value.int x) ∈ L.map (fun q => (q.1, sw_v u q.2)))
  refine lv_iinc F.1 F.2.1 hd hl hj rfl hi rfl (fun ls' hl' => ?_)
  exact k p e R s m args below meth c F A hA u0 n0 u hn hu H locs hat hst (sw_inC he trivial hL) ls' (sw_has (u := u) (v := .int (x + Int32.ofInt q)) (sw_p1v i u) he hl') Z hZ
end SWB
end
section
/-! ===== THE LOGIC, 3: fields, arrays, makings, returns, calls ===== -/
/-- class number ci: its name, its fields; their words are among the tables' -/
def sw_cf (ci : Nat) (C : String) (T : u_T) (N : Nat) : Prop := sw_cls[ci]? = some (C, T, N) ∧ (∀ w ∈ u_ws C T N, w ∈ sw_lwg) ∧ (∃ ty : Nat → FieldType, ∀ k, k < N → parseFieldDescriptor (T k).2.2.1 = some (ty k)) ∧ ∀ a, a < N → ∀ b, b < N → a ≠ b → (T a).2.1 ≠ (T b).2.1
/-- entry idx of own's pool is field k of class ci, of type ty, final or not -/
def sw_fl (own : String) (idx ci k : Nat) (ty : FieldType) (fin : Bool) : Prop := ∃ (C : String) (T : u_T) (N : Nat), sw_cf ci C T N ∧ k < N ∧ Cond.fieldLink own idx (T k).1 (T k).2.1 (T k).2.2.1 ∈ sw_lwg ∧ (T k).2.2.2 = fin ∧ parseFieldDescriptor (T k).2.2.1 = some ty ∧ (fin = true → (T k).1 = own)
def sw_fit (ty : FieldType) (v : Value) : Prop := ∀ u : Nat → Nat, narrow ty (sw_v u v) = sw_v u v ∧ fits ty (sw_v u v) = true
theorem sw_fit_i (x : Int32) : sw_fit .int (.int x) := fun _ => ⟨rfl, rfl⟩
theorem sw_fit_l (x : Int64) : sw_fit .long (.long x) := fun _ => ⟨rfl, rfl⟩
theorem sw_fit_z0 : sw_fit .boolean (.int 0) := fun _ => ⟨rfl, rfl⟩
theorem sw_fit_z1 : sw_fit .boolean (.int 1) := fun _ => ⟨rfl, rfl⟩
theorem sw_fit_or {C : String} {v : Value} (h : sw_isR v = true) : sw_fit (.object C) v := fun u => by
  cases v with
  | ref a => exact ⟨rfl, rfl⟩
  | null => exact ⟨rfl, rfl⟩
  | _ => cases h
theorem sw_fit_ar {C : FieldType} {v : Value} (h : sw_isR v = true) : sw_fit (.array C) v := fun u => by
  cases v with
  | ref a => exact ⟨rfl, rfl⟩
  | null => exact ⟨rfl, rfl⟩
  | _ => cases h
theorem sw_rn {n : Nat} : ∀ v : Value, (none : Option Value) = some v → sw_c n v := fun v h => by cases h
section SWC
variable {l : Launch} {D : va_G} {cy : Nat → ClassId} {M : sw_MD} {d mc ms cells slots pc : Nat} {L : sw_L} {st : List Value} {n : Nat} {f : sw_F} {Q : sw_Q} {QX : sw_QX}
theorem sw_up_ce {a : Nat} {e : va_E} (h : ∀ i, i < n → sw_ce n (f i)) (he : sw_ce n e) : ∀ i, i < n → sw_ce n (va_up f a e i) := fun i hi => by
  by_cases hia : i = a
  · rw [hia, va_up_self]; exact he
  · rw [va_up_ne _ _ hia]; exact h i hi
theorem sw_get {idx ci k a : Nat} {ty : FieldType} {fin : Bool} {fs : List Value} {v : Value} (hd : decode M.2.1 pc = .ok (.getfield idx, 3)) (hf : sw_fl M.1.cls idx ci k ty fin) (ha : f a = .inr (ci, fs)) (hv : fs[k]? = some v) (kk : SW l D cy M d mc ms cells slots (pc + 3) L (v :: st) n f Q QX) : SW l D cy M d mc ms cells slots pc L (.ref a :: st) n f Q QX := by
  intro p e R s m args below meth c F A hA u0 n0 u hn hu H locs hat hst hL ls hl Z hZ
  have han : a < n := sw_ch hst
  obtain ⟨C, T, N, ⟨hc, hin, -, -⟩, hk, hlk, -, -, -⟩ := hf
  have hce := hat.2.2.2 a han
  rw [ha] at hce
  refine va_get (D := D) (cl := sw_cls) (ws := sw_w u cy n f) (ci := ci) (fs := fs.map (sw_v u)) (v := sw_v u v) F.1 F.2.1 F.2.2.2.2.2.1 hin F.2.2.2.2.1 F.2.2.2.2.2.2.2.1 hat.1 a (by rw [sw_w_get han, ha]; rfl) hc k hk (F.2.2.2.2.2.1 _ hlk) (fun _ h => h) (by rw [List.getElem?_map, hv]; rfl) hd ?_
  exact kk p e R s m args below meth c F A hA u0 n0 u hn hu H locs hat (sw_cc (hce v (List.mem_of_getElem? hv)) (sw_ct hst)) hL ls hl Z hZ
theorem sw_put {idx ci k a : Nat} {ty : FieldType} {fs : List Value} {v : Value} (hd : decode M.2.1 pc = .ok (.putfield idx, 3)) (hf : sw_fl M.1.cls idx ci k ty false) (ha : f a = .inr (ci, fs)) (hl' : k < fs.length) (hv : sw_fit ty v) (kk : SW l D cy M d mc ms cells slots (pc + 3) L st n (va_up f a (.inr (ci, fs.set k v))) Q QX) : SW l D cy M d mc ms cells slots pc L (v :: .ref a :: st) n f Q QX := by
  intro p e R s m args below meth c F A hA u0 n0 u hn hu H locs hat hst hL ls hl Z hZ
  have han : a < n := sw_ch (sw_ct hst)
  obtain ⟨C, T, N, ⟨hc, hin, ⟨ty0, hty⟩, hnm⟩, hk, hlk, hfn, hpd, hdc⟩ := hf
  have hce := hat.2.2.2 a han
  rw [ha] at hce
  have hE : sw_e u cy (.inr (ci, fs.set k v)) = .inr (ci, (fs.map (sw_v u)).set k (sw_v u v)) := by
    show Sum.inr (ci, _) = Sum.inr (ci, _)
    rw [List.map_set]
  have hset := sw_w_set (u := u) (cy := cy) (f := f) han (.inr (ci, fs.set k v))
  rw [hE] at hset
  refine va_put (D := D) (cl := sw_cls) (ws := sw_w u cy n f) (ci := ci) (fs := fs.map (sw_v u)) (v := sw_v u v) (ty := ty) (A := A) F.1 F.2.1 F.2.2.2.2.2.1 hin ty0 hty hnm F.2.2.2.2.1 F.2.2.2.2.2.2.2.1 hat.1 hat.2.1 hat.2.2.1 a (by rw [sw_w_get han, ha]; rfl) hc k hk (F.2.2.2.2.2.1 _ hlk) (fun _ h => h) hfn hpd (hv u).1 (hv u).2 (by rw [List.length_map]; exact hl') hd (fun H1 locs1 hP hD hS => ?_)
  rw [hset] at hP hD
  refine kk p e R s m args below meth c F A hA u0 n0 u hn hu H1 locs1 ⟨hP, hD, hS, sw_up_ce hat.2.2.2 (fun w hw => ?_)⟩ (sw_ct (sw_ct hst)) hL ls hl Z hZ
  rcases List.mem_or_eq_of_mem_set hw with h | h
  · exact hce w h
  · rw [h]; exact sw_ch hst
theorem sw_putF {idx ci k a : Nat} {ty : FieldType} {fs : List Value} {v : Value} (hd : decode M.2.1 pc = .ok (.putfield idx, 3)) (hf : sw_fl M.1.cls idx ci k ty true) (hi : M.1.name = "<init>") (ha : f a = .inr (ci, fs)) (hl' : k < fs.length) (hv : sw_fit ty v) (kk : SW l D cy M d mc ms cells slots (pc + 3) L st n (va_up f a (.inr (ci, fs.set k v))) Q QX) : SW l D cy M d mc ms cells slots pc L (v :: .ref a :: st) n f Q QX := by
  intro p e R s m args below meth c F A hA u0 n0 u hn hu H locs hat hst hL ls hl Z hZ
  have han : a < n := sw_ch (sw_ct hst)
  obtain ⟨C, T, N, ⟨hc, hin, ⟨ty0, hty⟩, hnm⟩, hk, hlk, hfn, hpd, hdc⟩ := hf
  have hce := hat.2.2.2 a han
  rw [ha] at hce
  have hE : sw_e u cy (.inr (ci, fs.set k v)) = .inr (ci, (fs.map (sw_v u)).set k (sw_v u v)) := by
    show Sum.inr (ci, _) = Sum.inr (ci, _)
    rw [List.map_set]
  have hset := sw_w_set (u := u) (cy := cy) (f := f) han (.inr (ci, fs.set k v))
  rw [hE] at hset
  refine va_putF (D := D) (cl := sw_cls) (ws := sw_w u cy n f) (ci := ci) (fs := fs.map (sw_v u)) (v := sw_v u v) (ty := ty) (A := A) F.1 F.2.1 F.2.2.2.2.2.1 hin ty0 hty hnm F.2.2.2.2.1 F.2.2.2.2.2.2.2.1 hat.1 hat.2.1 hat.2.2.1 a (by rw [sw_w_get han, ha]; rfl) hc k hk (F.2.2.2.2.2.1 _ hlk) (fun _ h => h) hfn (F.2.2.2.2.2.2.2.2.2.1.trans hi) (hdc rfl) hpd (hv u).1 (hv u).2 (by rw [List.length_map]; exact hl') hd (fun H1 locs1 hP hD hS => ?_)
  rw [hset] at hP hD
  refine kk p e R s m args below meth c F A hA u0 n0 u hn hu H1 locs1 ⟨hP, hD, hS, sw_up_ce hat.2.2.2 (fun w hw => ?_)⟩ (sw_ct (sw_ct hst)) hL ls hl Z hZ
  rcases List.mem_or_eq_of_mem_set hw with h | h
  · exact hce w h
  · rw [h]; exact sw_ch hst
theorem sw_iald {a N : Nat} {g : Nat → Int32} {i : Int32} (hd : decode M.2.1 pc = .ok (.iaload, 1)) (ha : f a = .inl (0, N, .inl g)) (hi : vp_in i N) (kk : SW l D cy M d mc ms cells slots (pc + 1) L (.int (g i.toNatClampNeg) :: st) n f Q QX) : SW l D cy M d mc ms cells slots pc L (.int i :: .ref a :: st) n f Q QX := by
  intro p e R s m args below meth c F A hA u0 n0 u hn hu H locs hat hst hL ls hl Z hZ
  have han : a < n := sw_ch (sw_ct hst)
  refine va_iald (D := D) (cl := sw_cls) (ws := sw_w u cy n f) F.1 F.2.1 F.2.2.2.2.2.2.2.1 hat.1 a 0 (cA := cy 0) (n := N) (f := g) (by rw [sw_w_get han, ha]; rfl) rfl hi hd ?_
  exact kk p e R s m args below meth c F A hA u0 n0 u hn hu H locs hat (sw_ci (sw_ct (sw_ct hst))) hL ls hl Z hZ
theorem sw_zald {a N : Nat} {g : Nat → Int32} {i : Int32} (hd : decode M.2.1 pc = .ok (.baload, 1)) (ha : f a = .inl (2, N, .inl g)) (hi : vp_in i N) (kk : SW l D cy M d mc ms cells slots (pc + 1) L (.int (g i.toNatClampNeg) :: st) n f Q QX) : SW l D cy M d mc ms cells slots pc L (.int i :: .ref a :: st) n f Q QX := by
  intro p e R s m args below meth c F A hA u0 n0 u hn hu H locs hat hst hL ls hl Z hZ
  have han : a < n := sw_ch (sw_ct hst)
  refine va_zald (D := D) (cl := sw_cls) (ws := sw_w u cy n f) F.1 F.2.1 F.2.2.2.2.2.2.2.1 hat.1 a 2 (cA := cy 2) (n := N) (f := g) (by rw [sw_w_get han, ha]; rfl) rfl hi hd ?_
  exact kk p e R s m args below meth c F A hA u0 n0 u hn hu H locs hat (sw_ci (sw_ct (sw_ct hst))) hL ls hl Z hZ
theorem sw_cald {a N : Nat} {g : Nat → Int32} {i : Int32} (hd : decode M.2.1 pc = .ok (.caload, 1)) (ha : f a = .inl (3, N, .inl g)) (hi : vp_in i N) (kk : SW l D cy M d mc ms cells slots (pc + 1) L (.int (g i.toNatClampNeg) :: st) n f Q QX) : SW l D cy M d mc ms cells slots pc L (.int i :: .ref a :: st) n f Q QX := by
  intro p e R s m args below meth c F A hA u0 n0 u hn hu H locs hat hst hL ls hl Z hZ
  have han : a < n := sw_ch (sw_ct hst)
  refine va_cald (D := D) (cl := sw_cls) (ws := sw_w u cy n f) F.1 F.2.1 F.2.2.2.2.2.2.2.1 hat.1 a 3 (cA := cy 3) (n := N) (f := g) (by rw [sw_w_get han, ha]; rfl) rfl hi hd ?_
  exact kk p e R s m args below meth c F A hA u0 n0 u hn hu H locs hat (sw_ci (sw_ct (sw_ct hst))) hL ls hl Z hZ
theorem sw_lald {a N : Nat} {g : Nat → Int64} {i : Int32} (hd : decode M.2.1 pc = .ok (.laload, 1)) (ha : f a = .inl (1, N, .inr (.inl g))) (hi : vp_in i N) (kk : SW l D cy M d mc ms cells slots (pc + 1) L (.long (g i.toNatClampNeg) :: st) n f Q QX) : SW l D cy M d mc ms cells slots pc L (.int i :: .ref a :: st) n f Q QX := by
  intro p e R s m args below meth c F A hA u0 n0 u hn hu H locs hat hst hL ls hl Z hZ
  have han : a < n := sw_ch (sw_ct hst)
  refine va_lald (D := D) (cl := sw_cls) (ws := sw_w u cy n f) F.1 F.2.1 F.2.2.2.2.2.2.2.1 hat.1 a 1 (cA := cy 1) (n := N) (f := g) (by rw [sw_w_get han, ha]; rfl) rfl hi hd ?_
  exact kk p e R s m args below meth c F A hA u0 n0 u hn hu H locs hat (sw_cl (sw_ct (sw_ct hst))) hL ls hl Z hZ
theorem sw_iast {a N : Nat} {g : Nat → Int32} {i : Int32} {x : Int32} (hd : decode M.2.1 pc = .ok (.iastore, 1)) (ha : f a = .inl (0, N, .inl g)) (hi : vp_in i N) (kk : SW l D cy M d mc ms cells slots (pc + 1) L st n (va_up f a (.inl (0, N, .inl (upd g i.toNatClampNeg x)))) Q QX) : SW l D cy M d mc ms cells slots pc L (.int x :: .int i :: .ref a :: st) n f Q QX := by
  intro p e R s m args below meth c F A hA u0 n0 u hn hu H locs hat hst hL ls hl Z hZ
  have han : a < n := sw_ch (sw_ct (sw_ct hst))
  have hset := sw_w_set (u := u) (cy := cy) (f := f) han (.inl (0, N, .inl (upd g i.toNatClampNeg x)))
  refine va_iast (D := D) (cl := sw_cls) (ws := sw_w u cy n f) (A := A) F.1 F.2.1 F.2.2.2.2.2.2.2.1 hat.1 hat.2.1 hat.2.2.1 a 0 (cA := cy 0) (n := N) (f := g) (by rw [sw_w_get han, ha]; rfl) rfl hi hd (fun H1 locs1 hP hD hS => ?_)
  refine kk p e R s m args below meth c F A hA u0 n0 u hn hu H1 locs1 ⟨by rw [← hset]; exact hP, by rw [← hset]; exact hD, hS, sw_up_ce hat.2.2.2 (fun k9 f9 h9 => by cases h9)⟩ (sw_ct (sw_ct (sw_ct hst))) hL ls hl Z hZ
theorem sw_zast {a N : Nat} {g : Nat → Int32} {i : Int32} {x : Int32} (hd : decode M.2.1 pc = .ok (.bastore, 1)) (ha : f a = .inl (2, N, .inl g)) (hi : vp_in i N) (kk : SW l D cy M d mc ms cells slots (pc + 1) L st n (va_up f a (.inl (2, N, .inl (upd g i.toNatClampNeg (vp_nar .boolean x))))) Q QX) : SW l D cy M d mc ms cells slots pc L (.int x :: .int i :: .ref a :: st) n f Q QX := by
  intro p e R s m args below meth c F A hA u0 n0 u hn hu H locs hat hst hL ls hl Z hZ
  have han : a < n := sw_ch (sw_ct (sw_ct hst))
  have hset := sw_w_set (u := u) (cy := cy) (f := f) han (.inl (2, N, .inl (upd g i.toNatClampNeg (vp_nar .boolean x))))
  refine va_zast (D := D) (cl := sw_cls) (ws := sw_w u cy n f) (A := A) F.1 F.2.1 F.2.2.2.2.2.2.2.1 hat.1 hat.2.1 hat.2.2.1 a 2 (cA := cy 2) (n := N) (f := g) (by rw [sw_w_get han, ha]; rfl) rfl hi hd (fun H1 locs1 hP hD hS => ?_)
  refine kk p e R s m args below meth c F A hA u0 n0 u hn hu H1 locs1 ⟨by rw [← hset]; exact hP, by rw [← hset]; exact hD, hS, sw_up_ce hat.2.2.2 (fun k9 f9 h9 => by cases h9)⟩ (sw_ct (sw_ct (sw_ct hst))) hL ls hl Z hZ
theorem sw_cast {a N : Nat} {g : Nat → Int32} {i : Int32} {x : Int32} (hd : decode M.2.1 pc = .ok (.castore, 1)) (ha : f a = .inl (3, N, .inl g)) (hi : vp_in i N) (kk : SW l D cy M d mc ms cells slots (pc + 1) L st n (va_up f a (.inl (3, N, .inl (upd g i.toNatClampNeg (vp_nar .char x))))) Q QX) : SW l D cy M d mc ms cells slots pc L (.int x :: .int i :: .ref a :: st) n f Q QX := by
  intro p e R s m args below meth c F A hA u0 n0 u hn hu H locs hat hst hL ls hl Z hZ
  have han : a < n := sw_ch (sw_ct (sw_ct hst))
  have hset := sw_w_set (u := u) (cy := cy) (f := f) han (.inl (3, N, .inl (upd g i.toNatClampNeg (vp_nar .char x))))
  refine va_cast (D := D) (cl := sw_cls) (ws := sw_w u cy n f) (A := A) F.1 F.2.1 F.2.2.2.2.2.2.2.1 hat.1 hat.2.1 hat.2.2.1 a 3 (cA := cy 3) (n := N) (f := g) (by rw [sw_w_get han, ha]; rfl) rfl hi hd (fun H1 locs1 hP hD hS => ?_)
  refine kk p e R s m args below meth c F A hA u0 n0 u hn hu H1 locs1 ⟨by rw [← hset]; exact hP, by rw [← hset]; exact hD, hS, sw_up_ce hat.2.2.2 (fun k9 f9 h9 => by cases h9)⟩ (sw_ct (sw_ct (sw_ct hst))) hL ls hl Z hZ
theorem sw_last {a N : Nat} {g : Nat → Int64} {i : Int32} {x : Int64} (hd : decode M.2.1 pc = .ok (.lastore, 1)) (ha : f a = .inl (1, N, .inr (.inl g))) (hi : vp_in i N) (kk : SW l D cy M d mc ms cells slots (pc + 1) L st n (va_up f a (.inl (1, N, .inr (.inl (vp_updL g i.toNatClampNeg x))))) Q QX) : SW l D cy M d mc ms cells slots pc L (.long x :: .int i :: .ref a :: st) n f Q QX := by
  intro p e R s m args below meth c F A hA u0 n0 u hn hu H locs hat hst hL ls hl Z hZ
  have han : a < n := sw_ch (sw_ct (sw_ct hst))
  have hset := sw_w_set (u := u) (cy := cy) (f := f) han (.inl (1, N, .inr (.inl (vp_updL g i.toNatClampNeg x))))
  refine va_last (D := D) (cl := sw_cls) (ws := sw_w u cy n f) (A := A) F.1 F.2.1 F.2.2.2.2.2.2.2.1 hat.1 hat.2.1 hat.2.2.1 a 1 (cA := cy 1) (n := N) (f := g) (by rw [sw_w_get han, ha]; rfl) rfl hi hd (fun H1 locs1 hP hD hS => ?_)
  refine kk p e R s m args below meth c F A hA u0 n0 u hn hu H1 locs1 ⟨by rw [← hset]; exact hP, by rw [← hset]; exact hD, hS, sw_up_ce hat.2.2.2 (fun k9 f9 h9 => by cases h9)⟩ (sw_ct (sw_ct (sw_ct hst))) hL ls hl Z hZ
theorem sw_aald {a N b : Nat} {g : Nat → Option Nat} {i : Int32} (hd : decode M.2.1 pc = .ok (.aaload, 1)) (ha : f a = .inl (4, N, .inr (.inr (.inr (.inr g))))) (hi : vp_in i N) (hb : g i.toNatClampNeg = some b) (kk : SW l D cy M d mc ms cells slots (pc + 1) L (.ref b :: st) n f Q QX) : SW l D cy M d mc ms cells slots pc L (.int i :: .ref a :: st) n f Q QX := by
  intro p e R s m args below meth c F A hA u0 n0 u hn hu H locs hat hst hL ls hl Z hZ
  have han : a < n := sw_ch (sw_ct hst)
  have hce := hat.2.2.2 a han
  rw [ha] at hce
  have hlt : i.toNatClampNeg < N := Nat.not_le.mp fun q => hi (Or.inr q)
  have hw : (sw_w u cy n f)[a]? = some (u a, .inl (cy 4, N, .inr (.inr (.inr (.inr (fun j => (g j).map u)))))) := by rw [sw_w_get han, ha]; rfl
  have hcell := hat.1 a _ hw
  refine W.aald (v := .ref (u b)) (ty := .array .int) F.1 F.2.1 hcell ((F.2.2.2.2.2.2.2.1.2 4 _ rfl).1 N (fun j => va_rf ((g j).map u))) rfl (fun q => by cases q) (by show ¬ (i < 0 ∨ (arrV _ _ _).slots.size ≤ _); rw [arrV_size]; exact hi) (by show (arrV _ _ _).slots[_]? = _; rw [arrV_read _ _ hlt]; show some (va_rf ((g i.toNatClampNeg).map u)) = _; rw [hb]; rfl) rfl rfl hd ?_
  exact kk p e R s m args below meth c F A hA u0 n0 u hn hu H locs hat (sw_cc (hce N g rfl _ b hb) (sw_ct (sw_ct hst))) hL ls hl Z hZ
theorem sw_iret {x : Int32} {ty : FieldType} (hd : decode M.2.1 pc = .ok (.ireturn, 1)) (hr : M.2.2.2 = some ty) (hx : narrow ty (.int x) = .int x) (hc : cells ≤ mc) (hs : slots ≤ ms) (hq : Q (some (.int x)) n f) : SW l D cy M d mc ms cells slots pc L [.int x] n f Q QX := by
  intro p e R s m args below meth c F A hA u0 n0 u hn hu H locs hat hst hL ls hl Z hZ
  refine W.widen hc hs ?_
  intro T hT X
  obtain ⟨t, h1, h2⟩ := vx_ret (XC := sw_X D cy A u0 n0 QX) (W.zret (v := x) (Qc := sw_R D cy A u0 n0 Q) (free := A) F.1 F.2.1 (F.2.2.2.1.trans hr) hx (fun t ht hW => ⟨some (.int x), u, n, f, rfl, hq, fun v hv => (by cases hv; trivial), hn, hu, by rw [ht]; exact hat.1, hat.2.1, hat.2.2.2, hat.2.2.1.F ht⟩) hat.2.2.1.2.2 hd F.2.2.2.2.2.2.2.2.1) T hT X
  exact ⟨t, h1, hZ t h2⟩
theorem sw_lret {x : Int64} (hd : decode M.2.1 pc = .ok (.lreturn, 1)) (hr : M.2.2.2 = some .long) (hc : cells ≤ mc) (hs : slots ≤ ms) (hq : Q (some (.long x)) n f) : SW l D cy M d mc ms cells slots pc L [.long x] n f Q QX := by
  intro p e R s m args below meth c F A hA u0 n0 u hn hu H locs hat hst hL ls hl Z hZ
  refine W.widen hc hs ?_
  intro T hT X
  obtain ⟨t, h1, h2⟩ := vx_ret (XC := sw_X D cy A u0 n0 QX) (W.lret (v := x) (Qc := sw_R D cy A u0 n0 Q) (free := A) F.1 F.2.1 (F.2.2.2.1.trans hr) (fun t ht hW => ⟨some (.long x), u, n, f, rfl, hq, fun v hv => (by cases hv; trivial), hn, hu, by rw [ht]; exact hat.1, hat.2.1, hat.2.2.2, hat.2.2.1.F ht⟩) hat.2.2.1.2.2 hd F.2.2.2.2.2.2.2.2.1) T hT X
  exact ⟨t, h1, hZ t h2⟩
theorem sw_vret (hd : decode M.2.1 pc = .ok (.return_, 1)) (hr : M.2.2.2 = none) (hc : cells ≤ mc) (hs : slots ≤ ms) (hq : Q none n f) : SW l D cy M d mc ms cells slots pc L [] n f Q QX := by
  intro p e R s m args below meth c F A hA u0 n0 u hn hu H locs hat hst hL ls hl Z hZ
  refine W.widen hc hs ?_
  intro T hT X
  obtain ⟨t, h1, h2⟩ := vx_ret (XC := sw_X D cy A u0 n0 QX) (W.vret (Qc := sw_R D cy A u0 n0 Q) (free := A) F.1 F.2.1 (F.2.2.2.1.trans hr) (fun t ht hW => ⟨none, u, n, f, rfl, hq, sw_rn, hn, hu, by rw [ht]; exact hat.1, hat.2.1, hat.2.2.2, hat.2.2.1.F ht⟩) hat.2.2.1.2.2 hd F.2.2.2.2.2.2.2.2.1) T hT X
  exact ⟨t, h1, hZ t h2⟩
theorem sw_aret {v : Value} {C : String} (hd : decode M.2.1 pc = .ok (.areturn, 1)) (hr : M.2.2.2 = some (.object C)) (hv : sw_isR v = true) (hc : cells ≤ mc) (hs : slots ≤ ms) (hq : Q (some v) n f) : SW l D cy M d mc ms cells slots pc L [v] n f Q QX := by
  intro p e R s m args below meth c F A hA u0 n0 u hn hu H locs hat hst hL ls hl Z hZ
  refine W.widen hc hs ?_
  intro T hT X
  have hv' : sw_v u v = .null ∨ ∃ a, sw_v u v = .ref a := by
    cases v with
    | ref a => exact Or.inr ⟨u a, rfl⟩
    | null => exact Or.inl rfl
    | _ => cases hv
  obtain ⟨t, h1, h2⟩ := vx_ret (XC := sw_X D cy A u0 n0 QX) (W.aret (v := sw_v u v) (Qc := sw_R D cy A u0 n0 Q) (free := A) F.1 F.2.1 (F.2.2.2.1.trans hr) (Or.inl ⟨C, rfl⟩) hv' (fun t ht hW => ⟨some v, u, n, f, rfl, hq, fun w hw => (by cases hw; exact sw_ch hst), hn, hu, by rw [ht]; exact hat.1, hat.2.1, hat.2.2.2, hat.2.2.1.F ht⟩) hat.2.2.1.2.2 hd F.2.2.2.2.2.2.2.2.1) T hT X
  exact ⟨t, h1, hZ t h2⟩
end SWC
end
section
/-! ===== THE LOGIC, 4: contracts and calls ===== -/
def sw_rm (d mc ms : Nat) : Room := { frames := d, cells := mc, slots := ms, locals := 40 * d }
def sw_Pc (D : va_G) (cy : Nat → ClassId) (u : Nat → Nat) (n : Nat) (f : sw_F) (sz : Nat) (args : List Value) : Array Value → State → Prop :=
  va_Pc (args.map (sw_v u)) (fun U => U.heap.size = sz ∧ va_P D sw_cls (sw_w u cy n f) U.heap ∧ va_K D sw_cls (sw_tys cy) U ∧ (∀ w ∈ sw_nest, va_Nw w U) ∧ va_D (fun _ => True) (sw_w u cy n f))
/-- method M, called with args over (n, f), returns with Q; at most mc cells of ms slots are made, at most d frames lie above its own -/
def sw_Ct (l : Launch) (D : va_G) (cy : Nat → ClassId) (M : sw_MD) (d mc ms : Nat) (args : List Value) (n : Nat) (f : sw_F) (Q : sw_Q) : Prop :=
  ∀ (u : Nat → Nat) (sz : Nat), (∀ i, i < n → sw_ce n (f i)) → (∀ v ∈ args, sw_c n v) → Met l M.1 (sw_ws M) (sw_rm d mc ms) (sw_Pc D cy u n f sz args) (sw_R D cy (va_A (sw_w u cy n f) sz) u n Q) mc ms (va_A (sw_w u cy n f) sz)
theorem sw_nest_on {w : Cond} (h : w ∈ sw_nest) : w.onTables = true ∧ ∃ a b c d, w = .methodLinkNest a b c d := by
  have h2 := (List.mem_filter.mp h).2
  cases w with
  | methodLinkNest a b c d => exact ⟨rfl, a, b, c, d, rfl⟩
  | _ => cases h2
theorem sw_nest_warm {s U : State} (hW : s.WarmedH U.vm) (h : ∀ w ∈ sw_nest, va_Nw w s) : ∀ w ∈ sw_nest, va_Nw w U := fun w hw => by
  obtain ⟨-, a, b, c, d, rfl⟩ := sw_nest_on hw
  exact va_Nw.warmM hW (h _ hw)
theorem sw_blind {D : va_G} {cy : Nat → ClassId} {u : Nat → Nat} {n : Nat} {f : sw_F} {sz : Nat} {args : List Value} : FrameBlind (sw_Pc D cy u n f sz args) := fun a U g mk q => by
  obtain ⟨q0, q1, qP, qK, qN, qD⟩ := q
  exact ⟨q0, q1, qP, va_K.moved (u := U) (U := U.calling g mk a) (Vm.Alike.refl U.vm) qK, fun w hw => va_Nw.same (sw_nest_on hw).1 (show U.vm = (U.calling g mk a).vm from rfl) (qN w hw), qD⟩
theorem sw_good {w : Cond} (h : w ∈ sw_lwg) : w ∈ sw_lwg ∧ ((w.onTables && w.keeps) = true ∨ ∃ ty, w = .arrayClass ty) := ⟨h, good_of_word (List.mem_filter.mp h).2⟩
theorem sw_gi {M : sw_MD} (h : Cond.code M.1 M.2.1 M.2.2.1 M.2.2.2 ∈ sw_lwg) : GoodIn sw_lwg (sw_ws M) := fun w hw => (List.mem_cons.mp hw).elim (fun e => by rw [e]; exact sw_good h) sw_good
theorem sw_args (u : Nat → Nat) : ∀ (i : Nat) (vs : List Value), lv_args i (vs.map (sw_v u)) = (lv_args i vs).map (fun q => (q.1, sw_v u q.2))
  | _, [] => rfl
  | i, v :: vs => by
    show (i, sw_v u v) :: lv_args (if (sw_v u v).category = 2 then i + 2 else i + 1) (vs.map (sw_v u)) = _
    rw [sw_v_cat, sw_args u _ vs]
    rfl
theorem sw_sl (u : Nat → Nat) : ∀ vs : List Value, (lg_sl (vs.map (sw_v u))).length = (lg_sl vs).length
  | [] => rfl
  | v :: vs => by
    have h := sw_sl u vs
    unfold lg_sl at h ⊢
    simp only [List.map_cons, List.flatMap_cons, List.length_append, sw_v_cat]
    rw [h]
    split <;> rfl
theorem sw_of {l : Launch} {D : va_G} {cy : Nat → ClassId} {M : sw_MD} {d mc ms : Nat} {args : List Value} {n : Nat} {f : sw_F} {Q : sw_Q} (hy : plainName M.1.cls = true) (hlen : (lg_sl args).length ≤ M.2.2.1)
    (h : SW l D cy M d mc ms 0 0 0 (lv_args 0 args) [] n f Q (fun _ _ _ => False)) : sw_Ct l D cy M d mc ms args n f Q := by
  intro u sz hce hca
  refine Met.ofW (cc := M.2.1) (maxL := M.2.2.1) (ret := M.2.2.2) hy rfl ?_
  intro p e s m args' below meth c s₁ B hml hv
  obtain ⟨rfl, hsz, hP, hK, hN, hD0⟩ := hv
  subst hsz
  have hts := atoms_spec (ws := sw_ws M) B.pre
  rw [lg_entry_eq]
  have hl := lv_entry (args.map (sw_v u)) (n := M.2.2.1) (by rw [sw_sl]; exact hlen)
  rw [sw_args] at hl
  refine h p e (headSpec (sw_ws M) (sw_rm d mc ms)).room s m (args.map (sw_v u)).toArray below meth c ⟨B.exec, B.bytes, hml, B.returns, findClass_of_methodNamed B.named, fun w hw => hts w (List.mem_cons_of_mem _ hw), hN, hK, B.notSynchronized, (name_of_methodNamed B.named B.method).1, rfl, rfl, Nat.le_refl _, Nat.le_refl _⟩ (va_A (sw_w u cy n f) s.heap.size) (fun q hq => Or.inr hq) u n u (Nat.le_refl n) (fun _ _ => rfl) s.heap [] ⟨hP, hD0.self, va_S.rf, hce⟩ (fun v hv => (by cases hv)) ?_ _ hl _ (fun t ht => ?_)
  · intro q hq
    have key : ∀ (i : Nat) (vs : List Value), q ∈ lv_args i vs → q.2 ∈ vs := by
      intro i vs
      induction vs generalizing i with
      | nil => intro hq; cases hq
      | cons v vs ih =>
        intro hq
        rcases List.mem_cons.mp hq with h | h
        · rw [h]; exact List.mem_cons_self
        · exact List.mem_cons_of_mem _ (ih _ h)
    exact hca _ (key 0 args hq)
  · obtain ⟨o, h1, h2, h3⟩ := ht
    rcases h3 with ⟨h3, h4⟩ | ⟨q, h4, E, ce, L0, ⟨u1, n1, f1, g2, g3⟩, h5⟩
    · exact ⟨o, h1, h2, h3, h4⟩
    · exact g2.elim
theorem sw_Ct_mono {l : Launch} {D : va_G} {cy : Nat → ClassId} {M : sw_MD} {d mc ms : Nat} {args : List Value} {n : Nat} {f : sw_F} {Q Q' : sw_Q} (h : ∀ r n f, Q' r n f → Q r n f) (hM : sw_Ct l D cy M d mc ms args n f Q') : sw_Ct l D cy M d mc ms args n f Q := by
  intro u sz hce hca
  intro p e ha hc hk s m args below hf happ hP
  have := hM u sz hce hca p e ha hc hk s m args below hf happ hP
  intro htr
  obtain ⟨t, o, h1, h2, h3, ⟨r, u1, n1, f1, g1, g2, g3⟩, h5⟩ := this htr
  exact ⟨t, o, h1, h2, h3, ⟨r, u1, n1, f1, g1, h _ _ _ g2, g3⟩, h5⟩
section SWD
variable {l : Launch} {D : va_G} {cy : Nat → ClassId} {M : sw_MD} {d mc ms cells slots pc : Nat} {L : sw_L} {st : List Value} {n : Nat} {f : sw_F} {Q : sw_Q} {QX : sw_QX}
theorem sw_call0 {mc' ms' : Nat} {rest stk : List Value} {Q' : sw_Q} (hrest : ∀ v ∈ rest, v ∈ stk)
    (run : ∀ (p : Program) (e : Env) (R : Room) (s : State) (m : MethodId) (args : Array Value) (below : List Frame) (meth : Method) (c : Code), sw_fx D cy M d mc ms p R s m args meth c → ∀ (u : Nat → Nat) (H : Heap) (locs : List Loc) (ls : Array Slot), ls.size = M.2.2.1 → va_P D sw_cls (sw_w u cy n f) H → va_D (fun _ => True) (sw_w u cy n f) → (∀ i, i < n → sw_ce n (f i)) → (∀ v ∈ stk, sw_c n v) →
      ∃ a0 : Array Value, va_Run p l e R s m args below meth c H locs cells slots mc' ms' (F0 m pc ls (stk.map (sw_v u))) (rest.map (sw_v u)) (sw_R D cy (va_A (sw_w u cy n f) H.size) u n Q' a0) (va_A (sw_w u cy n f) H.size))
    (kk : ∀ (r : Option Value) (n' : Nat) (f' : sw_F), Q' r n' f' → n ≤ n' → SW l D cy M d mc ms (cells + mc') (slots + ms') (pc + 3) L (r.toList ++ rest) n' f' Q QX) : SW l D cy M d mc ms cells slots pc L stk n f Q QX := by
  intro p e R s m args below meth c F A hA u0 n0 u hn hu H locs hat hst hL ls hl Z hZ
  obtain ⟨a0, hr⟩ := run p e R s m args below meth c F u H locs ls hl.1 hat.1 (hat.2.1.weaken (fun _ _ _ _ => trivial)) hat.2.2.2 hst
  have hAA : ∀ q, va_A (sw_w u cy n f) H.size q → A q := fun q hq => by
    rcases hq with ⟨k, e, h⟩ | h
    · exact hat.2.1.2 k _ h
    · exact hA q (Nat.le_trans hat.2.2.1.1 h)
  intro T hT X
  obtain ⟨v, st₀, t, T', L0, h0, X', hL0, e1, e2, ⟨r, u', n', f', hv, hq, hrc, hnn, huu, hP, hD, hce, hz, hk⟩, step⟩ := hr T hT X
  cases hv
  rw [h0] at hz hk
  have hS : va_S A s.heap T'.heap (locs ++ L0) := ⟨Nat.le_trans hat.2.2.1.1 (by rw [e1]; exact hz), fun q h1 h2 => by
      rw [e1, hk q (Nat.lt_of_lt_of_le h1 hat.2.2.1.1) (fun z => h2 (hAA q z))]; exact hat.2.2.1.2.1 q h1 h2, fun q hq => by
      rcases List.mem_append.mp hq with h | h
      · exact hat.2.2.1.2.2 q h
      · exact hAA _ (hL0 q h)⟩
  have hrn : ∀ v ∈ rest, sw_c n v := fun v hv => hst v (hrest v hv)
  have K := kk r n' f' hq hnn p e R s m args below meth c F A hA u0 n0 u' (Nat.le_trans hn hnn) (fun i hi => (huu i (Nat.lt_of_lt_of_le hi hn)).trans (hu i hi)) T'.heap (locs ++ L0) ⟨by rw [e1]; exact hP, hD.weaken (fun k q _ h => hAA q.1 h), hS, hce⟩
    (fun v hv => by
      rcases List.mem_append.mp hv with h | h
      · exact hrc v (by cases r with
          | none => cases h
          | some w => rw [List.mem_singleton.mp h])
      · exact sw_c_mono hnn (hrn v h)) (fun q hq => sw_c_mono hnn (hL q hq)) ls (by rw [sw_mapL_ext huu hL]; exact hl) Z hZ
  have hst' : (r.toList ++ rest).map (sw_v u') = (r.map (sw_v u')).toList ++ rest.map (sw_v u) := by
    rw [List.map_append, sw_map_ext huu hrn]
    cases r <;> rfl
  rw [hst'] at K
  obtain ⟨t2, a1, b1⟩ := K T' rfl X'
  exact ⟨t2, step t2 a1, b1⟩
/-- a method's own words: its class is initialised, its code, the number of its parameters -/
def sw_mf (M' : sw_MD) (na : Nat) : Prop := Cond.initialized M'.1.cls ∈ sw_lwg ∧ Cond.code M'.1 M'.2.1 M'.2.2.1 M'.2.2.2 ∈ sw_lwg ∧ (M'.1.cls ≠ "java/lang/invoke/MethodHandle" ∧ M'.1.cls ≠ "java/lang/invoke/VarHandle" ∧ (parseMethodDescriptor M'.1.desc).map (fun d => d.parameters.length) = some na) ∧ M'.2.2.1 ≤ 21
def sw_cv (own : String) (idx : Nat) (M' : sw_MD) : Prop := Cond.methodLink own idx M'.1 ∈ sw_lwg ∧ Cond.instanceMethod M'.1 ∈ sw_lwg ∧ Cond.selects M'.1.cls M'.1 M'.1 ∈ sw_lwg
def sw_cs (own : String) (idx : Nat) (M' : sw_MD) : Prop := Cond.methodLink own idx M'.1 ∈ sw_lwg ∧ Cond.static M'.1 ∈ sw_lwg
def sw_csn (own : String) (idx : Nat) (M' : sw_MD) : Prop := Cond.methodLinkNest own idx M'.1 "LabelGuard" ∈ sw_nest ∧ Cond.static M'.1 ∈ sw_lwg
def sw_ci' (own : String) (idx : Nat) (M' : sw_MD) : Prop := Cond.methodLink own idx M'.1 ∈ sw_lwg ∧ Cond.instanceMethod M'.1 ∈ sw_lwg ∧ M'.1.name = "<init>" ∧ M'.2.2.2 = none
def sw_cin (own : String) (idx : Nat) (M' : sw_MD) : Prop := Cond.methodLinkNest own idx M'.1 "LabelGuard" ∈ sw_nest ∧ Cond.instanceMethod M'.1 ∈ sw_lwg ∧ M'.1.name = "<init>" ∧ M'.2.2.2 = none
theorem sw_cats (u : Nat → Nat) (rest : List Value) : ((rest.map (sw_v u)).map fun v => v.category).sum = (rest.map fun v => v.category).sum := by
  rw [List.map_map]
  congr 1
  exact List.map_congr_left (fun v _ => sw_v_cat u v)
theorem sw_callV {idx ci a d' mc' ms' na : Nat} {M' : sw_MD} {As rest stk : List Value} {fs : List Value} {Q' : sw_Q} (hd : decode M.2.1 pc = .ok (.invokevirtual idx, 3)) (hc : sw_cv M.1.cls idx M') (hm : sw_mf M' na) (hC : ∃ q, sw_cls[ci]? = some q ∧ q.1 = M'.1.cls) (ha : f a = .inr (ci, fs))
    (hM : sw_Ct l D cy M' d' mc' ms' (.ref a :: As) n f Q') (hdd : d' + 1 ≤ d) (hcl : cells + mc' ≤ mc ∧ slots + ms' ≤ ms) (hs : stk = As.reverse ++ .ref a :: rest) (hna : As.length = na) (hr : (rest.map fun v => v.category).sum ≤ 8)
    (kk : ∀ (r : Option Value) (n' : Nat) (f' : sw_F), Q' r n' f' → n ≤ n' → SW l D cy M d mc ms (cells + mc') (slots + ms') (pc + 3) L (r.toList ++ rest) n' f' Q QX) : SW l D cy M d mc ms cells slots pc L stk n f Q QX := by
  subst hs
  refine sw_call0 (rest := rest) (Q' := Q') (fun v hv => by simp [hv]) ?_ kk
  intro p e R s m args below meth c F u H locs ls hsz hP hD hce hst
  have hcl0 : ∀ v ∈ Value.ref a :: As, sw_c n v := fun v hv => hst v (by
    rcases List.mem_cons.mp hv with h | h
    · rw [h]; simp
    · simp [h])
  have han : a < n := hcl0 (.ref a) List.mem_cons_self
  obtain ⟨q, hq, hqC⟩ := hC
  have hrv := va_recv F.2.2.2.2.2.2.2.1 hP hq (by rw [sw_w_get han, ha]; rfl : (sw_w u cy n f)[a]? = some (u a, .inr (ci, fs.map (sw_v u))))
  rw [hqC] at hrv
  refine ⟨_, va_runV (As := As.map (sw_v u)) (rest := rest.map (sw_v u)) (b := u a) (C := M'.1.cls) (nL := M.2.2.1) (Ts := sw_lwg) (bytes := M'.2.1) (maxL := M'.2.2.1) (ret := M'.2.2.2) ⟨F.1, F.2.1, F.2.2.1, F.2.2.2.2.1, F.2.2.2.2.2.1⟩ (hM u H.size hce hcl0)
    (cwV na F.2.2.2.2.2.1 (fun w hw => ?_) rfl rfl rfl ⟨rfl, hm.2.2.1⟩ ⟨?_, ?_⟩) ⟨sw_blind, hrv, fun U hU hW => ⟨rfl, by rw [hU], by rw [hU]; exact hP, va_K.moved hW.alike F.2.2.2.2.2.2.2.1, sw_nest_warm hW F.2.2.2.2.2.2.1, hD⟩⟩ rfl (by rw [List.length_map]; exact hna) hsz ?_ (lv_room (by rw [sw_cats]; exact hr)) hd ⟨by rw [F.2.2.2.2.2.2.2.2.2.2.1]; exact hcl.1, by rw [F.2.2.2.2.2.2.2.2.2.2.2.1]; exact hcl.2⟩⟩
  · rcases List.mem_append.mp hw with h | h
    · simp only [List.mem_cons, List.not_mem_nil, or_false] at h
      rcases h with h | h | h | h
      · rw [h]; exact sw_good hc.1
      · rw [h]; exact sw_good hc.2.1
      · rw [h]; exact sw_good hc.2.2
      · rw [h]; exact sw_good hm.1
    · exact sw_gi hm.2.1 w h
  · exact Nat.le_trans hdd F.2.2.2.2.2.2.2.2.2.2.2.2.1
  · have h1 := F.2.2.2.2.2.2.2.2.2.2.2.2.2
    have h2 := hm.2.2.2
    show 8 + (M'.2.2.1 + 11) + 40 * d' ≤ R.locals
    omega
  · show (As.reverse ++ .ref a :: rest).map (sw_v u) = _
    rw [List.map_append, List.map_reverse]
    rfl
theorem sw_callS {idx d' mc' ms' na : Nat} {M' : sw_MD} {As rest stk : List Value} {Q' : sw_Q} (hd : decode M.2.1 pc = .ok (.invokestatic idx, 3)) (hc : sw_cs M.1.cls idx M') (hm : sw_mf M' na)
    (hM : sw_Ct l D cy M' d' mc' ms' As n f Q') (hdd : d' + 1 ≤ d) (hcl : cells + mc' ≤ mc ∧ slots + ms' ≤ ms) (hs : stk = As.reverse ++ rest) (hna : As.length = na) (hr : (rest.map fun v => v.category).sum ≤ 8)
    (kk : ∀ (r : Option Value) (n' : Nat) (f' : sw_F), Q' r n' f' → n ≤ n' → SW l D cy M d mc ms (cells + mc') (slots + ms') (pc + 3) L (r.toList ++ rest) n' f' Q QX) : SW l D cy M d mc ms cells slots pc L stk n f Q QX := by
  subst hs
  refine sw_call0 (rest := rest) (Q' := Q') (fun v hv => by simp [hv]) ?_ kk
  intro p e R s m args below meth c F u H locs ls hsz hP hD hce hst
  have hcl0 : ∀ v ∈ As, sw_c n v := fun v hv => hst v (by simp [hv])
  refine ⟨_, va_runS (As := As.map (sw_v u)) (rest := rest.map (sw_v u)) (nL := M.2.2.1) (Ts := sw_lwg) (bytes := M'.2.1) (maxL := M'.2.2.1) (ret := M'.2.2.2) ⟨F.1, F.2.1, F.2.2.1, F.2.2.2.2.1, F.2.2.2.2.2.1⟩ (hM u H.size hce hcl0)
    (va_cwS na F.2.2.2.2.2.1 (fun w hw => ?_) rfl rfl rfl hm.2.2.1 ⟨?_, ?_⟩) ⟨sw_blind, fun U hU hW => ⟨rfl, by rw [hU], by rw [hU]; exact hP, va_K.moved hW.alike F.2.2.2.2.2.2.2.1, sw_nest_warm hW F.2.2.2.2.2.2.1, hD⟩⟩ rfl (by rw [List.length_map]; exact hna) hsz ?_ (lv_room (by rw [sw_cats]; exact hr)) hd ⟨by rw [F.2.2.2.2.2.2.2.2.2.2.1]; exact hcl.1, by rw [F.2.2.2.2.2.2.2.2.2.2.2.1]; exact hcl.2⟩⟩
  · rcases List.mem_append.mp hw with h | h
    · simp only [List.mem_cons, List.not_mem_nil, or_false] at h
      rcases h with h | h | h
      · rw [h]; exact sw_good hc.1
      · rw [h]; exact sw_good hc.2
      · rw [h]; exact sw_good hm.1
    · exact sw_gi hm.2.1 w h
  · exact Nat.le_trans hdd F.2.2.2.2.2.2.2.2.2.2.2.2.1
  · have h1 := F.2.2.2.2.2.2.2.2.2.2.2.2.2
    have h2 := hm.2.2.2
    show 8 + (M'.2.2.1 + 11) + 40 * d' ≤ R.locals
    omega
  · show (As.reverse ++ rest).map (sw_v u) = _
    rw [List.map_append, List.map_reverse]
theorem sw_callSN {idx d' mc' ms' na : Nat} {M' : sw_MD} {As rest stk : List Value} {Q' : sw_Q} (hd : decode M.2.1 pc = .ok (.invokestatic idx, 3)) (hc : sw_csn M.1.cls idx M') (hm : sw_mf M' na)
    (hM : sw_Ct l D cy M' d' mc' ms' As n f Q') (hdd : d' + 1 ≤ d) (hcl : cells + mc' ≤ mc ∧ slots + ms' ≤ ms) (hs : stk = As.reverse ++ rest) (hna : As.length = na) (hr : (rest.map fun v => v.category).sum ≤ 8)
    (kk : ∀ (r : Option Value) (n' : Nat) (f' : sw_F), Q' r n' f' → n ≤ n' → SW l D cy M d mc ms (cells + mc') (slots + ms') (pc + 3) L (r.toList ++ rest) n' f' Q QX) : SW l D cy M d mc ms cells slots pc L stk n f Q QX := by
  subst hs
  refine sw_call0 (rest := rest) (Q' := Q') (fun v hv => by simp [hv]) ?_ kk
  intro p e R s m args below meth c F u H locs ls hsz hP hD hce hst
  have hcl0 : ∀ v ∈ As, sw_c n v := fun v hv => hst v (by simp [hv])
  refine ⟨_, va_runSN (As := As.map (sw_v u)) (rest := rest.map (sw_v u)) (nL := M.2.2.1) (Ts := sw_lwg) (bytes := M'.2.1) (maxL := M'.2.2.1) (ret := M'.2.2.2) (host := "LabelGuard") ⟨F.1, F.2.1, F.2.2.1, F.2.2.2.2.1, F.2.2.2.2.2.1⟩ (hM u H.size hce hcl0)
    ⟨va_cnB na F.2.2.2.2.2.1 (sw_gi hm.2.1) rfl rfl rfl (F.2.2.2.2.2.2.1 _ hc.1) (F.2.2.2.2.2.1 _ hm.1) hm.2.2.1 ⟨?_, ?_⟩, F.2.2.2.2.2.1 _ hc.2, trivial⟩ ⟨sw_blind, fun U hU hW => ⟨rfl, by rw [hU], by rw [hU]; exact hP, va_K.moved hW.alike F.2.2.2.2.2.2.2.1, sw_nest_warm hW F.2.2.2.2.2.2.1, hD⟩⟩ rfl (by rw [List.length_map]; exact hna) hsz ?_ (lv_room (by rw [sw_cats]; exact hr)) hd ⟨by rw [F.2.2.2.2.2.2.2.2.2.2.1]; exact hcl.1, by rw [F.2.2.2.2.2.2.2.2.2.2.2.1]; exact hcl.2⟩⟩
  · exact Nat.le_trans hdd F.2.2.2.2.2.2.2.2.2.2.2.2.1
  · have h1 := F.2.2.2.2.2.2.2.2.2.2.2.2.2
    have h2 := hm.2.2.2
    show 8 + (M'.2.2.1 + 11) + 40 * d' ≤ R.locals
    omega
  · show (As.reverse ++ rest).map (sw_v u) = _
    rw [List.map_append, List.map_reverse]
theorem sw_callI {idx a d' mc' ms' na : Nat} {M' : sw_MD} {As rest stk : List Value} {Q' : sw_Q} (hd : decode M.2.1 pc = .ok (.invokespecial idx, 3)) (hc : sw_ci' M.1.cls idx M') (hm : sw_mf M' na)
    (hM : sw_Ct l D cy M' d' mc' ms' (.ref a :: As) n f Q') (hdd : d' + 1 ≤ d) (hcl : cells + mc' ≤ mc ∧ slots + ms' ≤ ms) (hs : stk = As.reverse ++ .ref a :: rest) (hna : As.length = na) (hr : (rest.map fun v => v.category).sum ≤ 8)
    (kk : ∀ (r : Option Value) (n' : Nat) (f' : sw_F), Q' r n' f' → n ≤ n' → SW l D cy M d mc ms (cells + mc') (slots + ms') (pc + 3) L (r.toList ++ rest) n' f' Q QX) : SW l D cy M d mc ms cells slots pc L stk n f Q QX := by
  subst hs
  refine sw_call0 (rest := rest) (Q' := Q') (fun v hv => by simp [hv]) ?_ kk
  intro p e R s m args below meth c F u H locs ls hsz hP hD hce hst
  have hcl0 : ∀ v ∈ Value.ref a :: As, sw_c n v := fun v hv => hst v (by
    rcases List.mem_cons.mp hv with h | h
    · rw [h]; simp
    · simp [h])
  refine ⟨_, va_runI (As := As.map (sw_v u)) (rest := rest.map (sw_v u)) (b := u a) (nL := M.2.2.1) (Ts := sw_lwg) (bytes := M'.2.1) (maxL := M'.2.2.1) ⟨F.1, F.2.1, F.2.2.1, F.2.2.2.2.1, F.2.2.2.2.2.1⟩ (hM u H.size hce hcl0)
    (cwI na F.2.2.2.2.2.1 (sw_gi hm.2.1) (by unfold sw_ws; rw [hc.2.2.2]) rfl rfl (F.2.2.2.2.2.1 _ hm.1) (F.2.2.2.2.2.1 _ hc.1) (F.2.2.2.2.2.1 _ hc.2.1) hc.2.2.1 hm.2.2.1 ⟨?_, ?_⟩) ⟨sw_blind, fun U hU hW => ⟨rfl, by rw [hU], by rw [hU]; exact hP, va_K.moved hW.alike F.2.2.2.2.2.2.2.1, sw_nest_warm hW F.2.2.2.2.2.2.1, hD⟩⟩ rfl (by rw [List.length_map]; exact hna) hsz ?_ (lv_room (by rw [sw_cats]; exact hr)) hd ⟨by rw [F.2.2.2.2.2.2.2.2.2.2.1]; exact hcl.1, by rw [F.2.2.2.2.2.2.2.2.2.2.2.1]; exact hcl.2⟩⟩
  · exact Nat.le_trans hdd F.2.2.2.2.2.2.2.2.2.2.2.2.1
  · have h1 := F.2.2.2.2.2.2.2.2.2.2.2.2.2
    have h2 := hm.2.2.2
    show 8 + (M'.2.2.1 + 11) + 40 * d' ≤ R.locals
    omega
  · show (As.reverse ++ .ref a :: rest).map (sw_v u) = _
    rw [List.map_append, List.map_reverse]
    rfl
theorem sw_callIN {idx a d' mc' ms' na : Nat} {M' : sw_MD} {As rest stk : List Value} {Q' : sw_Q} (hd : decode M.2.1 pc = .ok (.invokespecial idx, 3)) (hc : sw_cin M.1.cls idx M') (hm : sw_mf M' na)
    (hM : sw_Ct l D cy M' d' mc' ms' (.ref a :: As) n f Q') (hdd : d' + 1 ≤ d) (hcl : cells + mc' ≤ mc ∧ slots + ms' ≤ ms) (hs : stk = As.reverse ++ .ref a :: rest) (hna : As.length = na) (hr : (rest.map fun v => v.category).sum ≤ 8)
    (kk : ∀ (r : Option Value) (n' : Nat) (f' : sw_F), Q' r n' f' → n ≤ n' → SW l D cy M d mc ms (cells + mc') (slots + ms') (pc + 3) L (r.toList ++ rest) n' f' Q QX) : SW l D cy M d mc ms cells slots pc L stk n f Q QX := by
  subst hs
  refine sw_call0 (rest := rest) (Q' := Q') (fun v hv => by simp [hv]) ?_ kk
  intro p e R s m args below meth c F u H locs ls hsz hP hD hce hst
  have hcl0 : ∀ v ∈ Value.ref a :: As, sw_c n v := fun v hv => hst v (by
    rcases List.mem_cons.mp hv with h | h
    · rw [h]; simp
    · simp [h])
  refine ⟨_, va_runIN (As := As.map (sw_v u)) (rest := rest.map (sw_v u)) (b := u a) (nL := M.2.2.1) (Ts := sw_lwg) (bytes := M'.2.1) (maxL := M'.2.2.1) (host := "LabelGuard") ⟨F.1, F.2.1, F.2.2.1, F.2.2.2.2.1, F.2.2.2.2.2.1⟩ (hM u H.size hce hcl0)
    ⟨va_cnB na F.2.2.2.2.2.1 (sw_gi hm.2.1) (by unfold sw_ws; rw [hc.2.2.2]) rfl rfl (F.2.2.2.2.2.2.1 _ hc.1) (F.2.2.2.2.2.1 _ hm.1) hm.2.2.1 ⟨?_, ?_⟩, hc.2.2.1, F.2.2.2.2.2.1 _ hc.2.1⟩ ⟨sw_blind, fun U hU hW => ⟨rfl, by rw [hU], by rw [hU]; exact hP, va_K.moved hW.alike F.2.2.2.2.2.2.2.1, sw_nest_warm hW F.2.2.2.2.2.2.1, hD⟩⟩ rfl (by rw [List.length_map]; exact hna) hsz ?_ (lv_room (by rw [sw_cats]; exact hr)) hd ⟨by rw [F.2.2.2.2.2.2.2.2.2.2.1]; exact hcl.1, by rw [F.2.2.2.2.2.2.2.2.2.2.2.1]; exact hcl.2⟩⟩
  · exact Nat.le_trans hdd F.2.2.2.2.2.2.2.2.2.2.2.2.1
  · have h1 := F.2.2.2.2.2.2.2.2.2.2.2.2.2
    have h2 := hm.2.2.2
    show 8 + (M'.2.2.1 + 11) + 40 * d' ≤ R.locals
    omega
  · show (As.reverse ++ .ref a :: rest).map (sw_v u) = _
    rw [List.map_append, List.map_reverse]
    rfl
end SWD
end
section
theorem sw_zz : True := trivial
end
