-- ===== PART A: goes FIRST, ahead of the names: the tables' words, and 'selects' of the private methods out of them =====
/-- a private method of a class that the tables say can be made, by its rows of tables_1 -/
def lw_okq (q : MethodName × Nat) : Prop := (q.1.cls ≠ "java/lang/invoke/MethodHandle" ∧ q.1.cls ≠ "java/lang/invoke/VarHandle") ∧ Cond.instantiable q.1.cls q.2 ∈ tables_1 ∧ Cond.privateMethod q.1 ∈ tables_1 ∧ Cond.instanceMethod q.1 ∈ tables_1
theorem lw_p0 : lw_okq (⟨"ChaseHall", "appendBytes", "(I)V"⟩, 11) := ⟨⟨by decide +kernel, by decide +kernel⟩, List.mem_of_getElem? (i := 27) (by decide +kernel), List.mem_of_getElem? (i := 386) (by decide +kernel), List.mem_of_getElem? (i := 387) (by decide +kernel)⟩
theorem lw_p1 : lw_okq (⟨"ChaseHall", "hallAt", "(I)LChaseHall$Hall;"⟩, 11) := ⟨⟨by decide +kernel, by decide +kernel⟩, List.mem_of_getElem? (i := 27) (by decide +kernel), List.mem_of_getElem? (i := 422) (by decide +kernel), List.mem_of_getElem? (i := 423) (by decide +kernel)⟩
theorem lw_p2 : lw_okq (⟨"java/lang/Throwable", "fillInStackTrace", "(I)Ljava/lang/Throwable;"⟩, 6) := ⟨⟨by decide +kernel, by decide +kernel⟩, List.mem_of_getElem? (i := 463) (by decide +kernel), List.mem_of_getElem? (i := 461) (by decide +kernel), List.mem_of_getElem? (i := 462) (by decide +kernel)⟩
theorem lw_p3 : lw_okq (⟨"ChaseHall", "giveTape", "()V"⟩, 11) := ⟨⟨by decide +kernel, by decide +kernel⟩, List.mem_of_getElem? (i := 27) (by decide +kernel), List.mem_of_getElem? (i := 493) (by decide +kernel), List.mem_of_getElem? (i := 494) (by decide +kernel)⟩
theorem lw_p4 : lw_okq (⟨"ChaseHall$Tokens", "scanLetters", "([III)I"⟩, 5) := ⟨⟨by decide +kernel, by decide +kernel⟩, List.mem_of_getElem? (i := 210) (by decide +kernel), List.mem_of_getElem? (i := 508) (by decide +kernel), List.mem_of_getElem? (i := 509) (by decide +kernel)⟩
theorem lw_p5 : lw_okq (⟨"ChaseHall$Tokens", "append", "(III)V"⟩, 5) := ⟨⟨by decide +kernel, by decide +kernel⟩, List.mem_of_getElem? (i := 210) (by decide +kernel), List.mem_of_getElem? (i := 570) (by decide +kernel), List.mem_of_getElem? (i := 571) (by decide +kernel)⟩
theorem lw_p6 : lw_okq (⟨"ChaseHall$Tokens", "scanDigits", "([III)I"⟩, 5) := ⟨⟨by decide +kernel, by decide +kernel⟩, List.mem_of_getElem? (i := 210) (by decide +kernel), List.mem_of_getElem? (i := 577) (by decide +kernel), List.mem_of_getElem? (i := 578) (by decide +kernel)⟩
theorem lw_p7 : lw_okq (⟨"ChaseHall$Parser", "readTable", "(LChaseHall$Hall;)Z"⟩, 6) := ⟨⟨by decide +kernel, by decide +kernel⟩, List.mem_of_getElem? (i := 204) (by decide +kernel), List.mem_of_getElem? (i := 606) (by decide +kernel), List.mem_of_getElem? (i := 607) (by decide +kernel)⟩
theorem lw_p8 : lw_okq (⟨"ChaseHall$Parser", "refuse", "(I)Z"⟩, 6) := ⟨⟨by decide +kernel, by decide +kernel⟩, List.mem_of_getElem? (i := 204) (by decide +kernel), List.mem_of_getElem? (i := 614) (by decide +kernel), List.mem_of_getElem? (i := 615) (by decide +kernel)⟩
theorem lw_p9 : lw_okq (⟨"ChaseHall$Parser", "refuseAt", "(II)Z"⟩, 6) := ⟨⟨by decide +kernel, by decide +kernel⟩, List.mem_of_getElem? (i := 204) (by decide +kernel), List.mem_of_getElem? (i := 622) (by decide +kernel), List.mem_of_getElem? (i := 623) (by decide +kernel)⟩
theorem lw_p10 : lw_okq (⟨"ChaseHall$Parser", "takeSign", "(I)Z"⟩, 6) := ⟨⟨by decide +kernel, by decide +kernel⟩, List.mem_of_getElem? (i := 204) (by decide +kernel), List.mem_of_getElem? (i := 638) (by decide +kernel), List.mem_of_getElem? (i := 639) (by decide +kernel)⟩
theorem lw_p11 : lw_okq (⟨"ChaseHall$Parser", "readRowLine", "(LChaseHall$Hall;)Z"⟩, 6) := ⟨⟨by decide +kernel, by decide +kernel⟩, List.mem_of_getElem? (i := 204) (by decide +kernel), List.mem_of_getElem? (i := 642) (by decide +kernel), List.mem_of_getElem? (i := 643) (by decide +kernel)⟩
theorem lw_p12 : lw_okq (⟨"ChaseHall$Parser", "isKnownTable", "(LChaseHall$Hall;)Z"⟩, 6) := ⟨⟨by decide +kernel, by decide +kernel⟩, List.mem_of_getElem? (i := 204) (by decide +kernel), List.mem_of_getElem? (i := 646) (by decide +kernel), List.mem_of_getElem? (i := 647) (by decide +kernel)⟩
theorem lw_p13 : lw_okq (⟨"ChaseHall$Parser", "readCells", "(IZ)Z"⟩, 6) := ⟨⟨by decide +kernel, by decide +kernel⟩, List.mem_of_getElem? (i := 204) (by decide +kernel), List.mem_of_getElem? (i := 650) (by decide +kernel), List.mem_of_getElem? (i := 651) (by decide +kernel)⟩
theorem lw_p14 : lw_okq (⟨"ChaseHall$Parser", "isCellStart", "(Z)Z"⟩, 6) := ⟨⟨by decide +kernel, by decide +kernel⟩, List.mem_of_getElem? (i := 204) (by decide +kernel), List.mem_of_getElem? (i := 655) (by decide +kernel), List.mem_of_getElem? (i := 656) (by decide +kernel)⟩
theorem lw_p15 : lw_okq (⟨"ChaseHall$Parser", "readCell", "(I)Z"⟩, 6) := ⟨⟨by decide +kernel, by decide +kernel⟩, List.mem_of_getElem? (i := 204) (by decide +kernel), List.mem_of_getElem? (i := 659) (by decide +kernel), List.mem_of_getElem? (i := 660) (by decide +kernel)⟩
def lw_privs_1 : List (MethodName × Nat) := [(⟨"ChaseHall", "appendBytes", "(I)V"⟩, 11), (⟨"ChaseHall", "hallAt", "(I)LChaseHall$Hall;"⟩, 11), (⟨"java/lang/Throwable", "fillInStackTrace", "(I)Ljava/lang/Throwable;"⟩, 6), (⟨"ChaseHall", "giveTape", "()V"⟩, 11), (⟨"ChaseHall$Tokens", "scanLetters", "([III)I"⟩, 5), (⟨"ChaseHall$Tokens", "append", "(III)V"⟩, 5), (⟨"ChaseHall$Tokens", "scanDigits", "([III)I"⟩, 5), (⟨"ChaseHall$Parser", "readTable", "(LChaseHall$Hall;)Z"⟩, 6), (⟨"ChaseHall$Parser", "refuse", "(I)Z"⟩, 6), (⟨"ChaseHall$Parser", "refuseAt", "(II)Z"⟩, 6), (⟨"ChaseHall$Parser", "takeSign", "(I)Z"⟩, 6), (⟨"ChaseHall$Parser", "readRowLine", "(LChaseHall$Hall;)Z"⟩, 6), (⟨"ChaseHall$Parser", "isKnownTable", "(LChaseHall$Hall;)Z"⟩, 6), (⟨"ChaseHall$Parser", "readCells", "(IZ)Z"⟩, 6), (⟨"ChaseHall$Parser", "isCellStart", "(Z)Z"⟩, 6), (⟨"ChaseHall$Parser", "readCell", "(I)Z"⟩, 6)]
theorem lw_r1 : ∀ q ∈ lw_privs_1, lw_okq q := List.forall_mem_cons.mpr ⟨lw_p0, List.forall_mem_cons.mpr ⟨lw_p1, List.forall_mem_cons.mpr ⟨lw_p2, List.forall_mem_cons.mpr ⟨lw_p3, List.forall_mem_cons.mpr ⟨lw_p4, List.forall_mem_cons.mpr ⟨lw_p5, List.forall_mem_cons.mpr ⟨lw_p6, List.forall_mem_cons.mpr ⟨lw_p7, List.forall_mem_cons.mpr ⟨lw_p8, List.forall_mem_cons.mpr ⟨lw_p9, List.forall_mem_cons.mpr ⟨lw_p10, List.forall_mem_cons.mpr ⟨lw_p11, List.forall_mem_cons.mpr ⟨lw_p12, List.forall_mem_cons.mpr ⟨lw_p13, List.forall_mem_cons.mpr ⟨lw_p14, List.forall_mem_cons.mpr ⟨lw_p15, fun _ h => absurd h List.not_mem_nil⟩⟩⟩⟩⟩⟩⟩⟩⟩⟩⟩⟩⟩⟩⟩⟩
theorem lw_p16 : lw_okq (⟨"ChaseHall$Rows", "markUsed", "(I)V"⟩, 6) := ⟨⟨by decide +kernel, by decide +kernel⟩, List.mem_of_getElem? (i := 44) (by decide +kernel), List.mem_of_getElem? (i := 675) (by decide +kernel), List.mem_of_getElem? (i := 676) (by decide +kernel)⟩
theorem lw_p17 : lw_okq (⟨"ChaseHall$Parser", "readRule", "(LChaseHall$Rule;LChaseHall$Hall;)Z"⟩, 6) := ⟨⟨by decide +kernel, by decide +kernel⟩, List.mem_of_getElem? (i := 204) (by decide +kernel), List.mem_of_getElem? (i := 682) (by decide +kernel), List.mem_of_getElem? (i := 683) (by decide +kernel)⟩
theorem lw_p18 : lw_okq (⟨"ChaseHall$Parser", "readAtoms", "(LChaseHall$Atoms;LChaseHall$Hall;I)Z"⟩, 6) := ⟨⟨by decide +kernel, by decide +kernel⟩, List.mem_of_getElem? (i := 204) (by decide +kernel), List.mem_of_getElem? (i := 694) (by decide +kernel), List.mem_of_getElem? (i := 695) (by decide +kernel)⟩
theorem lw_p19 : lw_okq (⟨"ChaseHall$Parser", "readMelt", "(LChaseHall$Rule;)Z"⟩, 6) := ⟨⟨by decide +kernel, by decide +kernel⟩, List.mem_of_getElem? (i := 204) (by decide +kernel), List.mem_of_getElem? (i := 702) (by decide +kernel), List.mem_of_getElem? (i := 703) (by decide +kernel)⟩
theorem lw_p20 : lw_okq (⟨"ChaseHall$Parser", "isMeltSide", "(LChaseHall$Rule;)Z"⟩, 6) := ⟨⟨by decide +kernel, by decide +kernel⟩, List.mem_of_getElem? (i := 204) (by decide +kernel), List.mem_of_getElem? (i := 706) (by decide +kernel), List.mem_of_getElem? (i := 707) (by decide +kernel)⟩
theorem lw_p21 : lw_okq (⟨"ChaseHall$Parser", "takeMeltSide", "()I"⟩, 6) := ⟨⟨by decide +kernel, by decide +kernel⟩, List.mem_of_getElem? (i := 204) (by decide +kernel), List.mem_of_getElem? (i := 714) (by decide +kernel), List.mem_of_getElem? (i := 715) (by decide +kernel)⟩
theorem lw_p22 : lw_okq (⟨"ChaseHall$Rows", "mentions", "(I)Z"⟩, 6) := ⟨⟨by decide +kernel, by decide +kernel⟩, List.mem_of_getElem? (i := 44) (by decide +kernel), List.mem_of_getElem? (i := 762) (by decide +kernel), List.mem_of_getElem? (i := 763) (by decide +kernel)⟩
theorem lw_p23 : lw_okq (⟨"ChaseHall$Hall", "openRule", "(LChaseHall$Finder;I)I"⟩, 7) := ⟨⟨by decide +kernel, by decide +kernel⟩, List.mem_of_getElem? (i := 36) (by decide +kernel), List.mem_of_getElem? (i := 825) (by decide +kernel), List.mem_of_getElem? (i := 826) (by decide +kernel)⟩
theorem lw_p24 : lw_okq (⟨"ChaseHall$Finder", "unbindAll", "()V"⟩, 8) := ⟨⟨by decide +kernel, by decide +kernel⟩, List.mem_of_getElem? (i := 257) (by decide +kernel), List.mem_of_getElem? (i := 841) (by decide +kernel), List.mem_of_getElem? (i := 842) (by decide +kernel)⟩
theorem lw_p25 : lw_okq (⟨"ChaseHall$Finder", "undoTo", "(I)V"⟩, 8) := ⟨⟨by decide +kernel, by decide +kernel⟩, List.mem_of_getElem? (i := 257) (by decide +kernel), List.mem_of_getElem? (i := 851) (by decide +kernel), List.mem_of_getElem? (i := 852) (by decide +kernel)⟩
theorem lw_p26 : lw_okq (⟨"ChaseHall$Finder", "fits", "(LChaseHall$Atoms;ILChaseHall$Rows;I)Z"⟩, 8) := ⟨⟨by decide +kernel, by decide +kernel⟩, List.mem_of_getElem? (i := 257) (by decide +kernel), List.mem_of_getElem? (i := 855) (by decide +kernel), List.mem_of_getElem? (i := 856) (by decide +kernel)⟩
theorem lw_p27 : lw_okq (⟨"ChaseHall$Finder", "bind", "(II)V"⟩, 8) := ⟨⟨by decide +kernel, by decide +kernel⟩, List.mem_of_getElem? (i := 257) (by decide +kernel), List.mem_of_getElem? (i := 863) (by decide +kernel), List.mem_of_getElem? (i := 864) (by decide +kernel)⟩
theorem lw_p28 : lw_okq (⟨"ChaseHall$Finder", "canStand", "(LChaseHall$Atoms;ILChaseHall$Rows;)Z"⟩, 8) := ⟨⟨by decide +kernel, by decide +kernel⟩, List.mem_of_getElem? (i := 257) (by decide +kernel), List.mem_of_getElem? (i := 871) (by decide +kernel), List.mem_of_getElem? (i := 872) (by decide +kernel)⟩
theorem lw_p29 : lw_okq (⟨"ChaseHall$Finder", "keepOpen", "(I)V"⟩, 8) := ⟨⟨by decide +kernel, by decide +kernel⟩, List.mem_of_getElem? (i := 257) (by decide +kernel), List.mem_of_getElem? (i := 875) (by decide +kernel), List.mem_of_getElem? (i := 876) (by decide +kernel)⟩
theorem lw_p30 : lw_okq (⟨"ChaseHall$Hall", "takeStep", "(LChaseHall$Finder;I)I"⟩, 7) := ⟨⟨by decide +kernel, by decide +kernel⟩, List.mem_of_getElem? (i := 36) (by decide +kernel), List.mem_of_getElem? (i := 882) (by decide +kernel), List.mem_of_getElem? (i := 883) (by decide +kernel)⟩
theorem lw_p31 : lw_okq (⟨"ChaseHall$Hall", "makeRows", "(LChaseHall$Finder;I)I"⟩, 7) := ⟨⟨by decide +kernel, by decide +kernel⟩, List.mem_of_getElem? (i := 36) (by decide +kernel), List.mem_of_getElem? (i := 890) (by decide +kernel), List.mem_of_getElem? (i := 891) (by decide +kernel)⟩
def lw_privs_2 : List (MethodName × Nat) := [(⟨"ChaseHall$Rows", "markUsed", "(I)V"⟩, 6), (⟨"ChaseHall$Parser", "readRule", "(LChaseHall$Rule;LChaseHall$Hall;)Z"⟩, 6), (⟨"ChaseHall$Parser", "readAtoms", "(LChaseHall$Atoms;LChaseHall$Hall;I)Z"⟩, 6), (⟨"ChaseHall$Parser", "readMelt", "(LChaseHall$Rule;)Z"⟩, 6), (⟨"ChaseHall$Parser", "isMeltSide", "(LChaseHall$Rule;)Z"⟩, 6), (⟨"ChaseHall$Parser", "takeMeltSide", "()I"⟩, 6), (⟨"ChaseHall$Rows", "mentions", "(I)Z"⟩, 6), (⟨"ChaseHall$Hall", "openRule", "(LChaseHall$Finder;I)I"⟩, 7), (⟨"ChaseHall$Finder", "unbindAll", "()V"⟩, 8), (⟨"ChaseHall$Finder", "undoTo", "(I)V"⟩, 8), (⟨"ChaseHall$Finder", "fits", "(LChaseHall$Atoms;ILChaseHall$Rows;I)Z"⟩, 8), (⟨"ChaseHall$Finder", "bind", "(II)V"⟩, 8), (⟨"ChaseHall$Finder", "canStand", "(LChaseHall$Atoms;ILChaseHall$Rows;)Z"⟩, 8), (⟨"ChaseHall$Finder", "keepOpen", "(I)V"⟩, 8), (⟨"ChaseHall$Hall", "takeStep", "(LChaseHall$Finder;I)I"⟩, 7), (⟨"ChaseHall$Hall", "makeRows", "(LChaseHall$Finder;I)I"⟩, 7)]
theorem lw_r2 : ∀ q ∈ lw_privs_2, lw_okq q := List.forall_mem_cons.mpr ⟨lw_p16, List.forall_mem_cons.mpr ⟨lw_p17, List.forall_mem_cons.mpr ⟨lw_p18, List.forall_mem_cons.mpr ⟨lw_p19, List.forall_mem_cons.mpr ⟨lw_p20, List.forall_mem_cons.mpr ⟨lw_p21, List.forall_mem_cons.mpr ⟨lw_p22, List.forall_mem_cons.mpr ⟨lw_p23, List.forall_mem_cons.mpr ⟨lw_p24, List.forall_mem_cons.mpr ⟨lw_p25, List.forall_mem_cons.mpr ⟨lw_p26, List.forall_mem_cons.mpr ⟨lw_p27, List.forall_mem_cons.mpr ⟨lw_p28, List.forall_mem_cons.mpr ⟨lw_p29, List.forall_mem_cons.mpr ⟨lw_p30, List.forall_mem_cons.mpr ⟨lw_p31, fun _ h => absurd h List.not_mem_nil⟩⟩⟩⟩⟩⟩⟩⟩⟩⟩⟩⟩⟩⟩⟩⟩
theorem lw_p32 : lw_okq (⟨"ChaseHall$Hall", "plan", "(LChaseHall$Finder;LChaseHall$Atoms;I)V"⟩, 7) := ⟨⟨by decide +kernel, by decide +kernel⟩, List.mem_of_getElem? (i := 36) (by decide +kernel), List.mem_of_getElem? (i := 900) (by decide +kernel), List.mem_of_getElem? (i := 901) (by decide +kernel)⟩
theorem lw_p33 : lw_okq (⟨"ChaseHall$Hall", "noteStep", "(LChaseHall$Finder;IIII)V"⟩, 7) := ⟨⟨by decide +kernel, by decide +kernel⟩, List.mem_of_getElem? (i := 36) (by decide +kernel), List.mem_of_getElem? (i := 921) (by decide +kernel), List.mem_of_getElem? (i := 922) (by decide +kernel)⟩
theorem lw_p34 : lw_okq (⟨"ChaseHall$Hall", "meltTerms", "(LChaseHall$Finder;I)I"⟩, 7) := ⟨⟨by decide +kernel, by decide +kernel⟩, List.mem_of_getElem? (i := 36) (by decide +kernel), List.mem_of_getElem? (i := 938) (by decide +kernel), List.mem_of_getElem? (i := 939) (by decide +kernel)⟩
theorem lw_p35 : lw_okq (⟨"ChaseHall$Lead", "undoTo", "(I)V"⟩, 6) := ⟨⟨by decide +kernel, by decide +kernel⟩, List.mem_of_getElem? (i := 289) (by decide +kernel), List.mem_of_getElem? (i := 1019) (by decide +kernel), List.mem_of_getElem? (i := 1020) (by decide +kernel)⟩
theorem lw_p36 : lw_okq (⟨"ChaseHall$Lead", "fits", "(LChaseHall$Rows;ILChaseHall$Rows;I)Z"⟩, 6) := ⟨⟨by decide +kernel, by decide +kernel⟩, List.mem_of_getElem? (i := 289) (by decide +kernel), List.mem_of_getElem? (i := 1027) (by decide +kernel), List.mem_of_getElem? (i := 1028) (by decide +kernel)⟩
theorem lw_p37 : lw_okq (⟨"ChaseHall$Lead", "agrees", "(II)Z"⟩, 6) := ⟨⟨by decide +kernel, by decide +kernel⟩, List.mem_of_getElem? (i := 289) (by decide +kernel), List.mem_of_getElem? (i := 1032) (by decide +kernel), List.mem_of_getElem? (i := 1033) (by decide +kernel)⟩
theorem lw_p38 : lw_okq (⟨"ChaseHall$Lead", "enter", "(I)V"⟩, 6) := ⟨⟨by decide +kernel, by decide +kernel⟩, List.mem_of_getElem? (i := 289) (by decide +kernel), List.mem_of_getElem? (i := 1037) (by decide +kernel), List.mem_of_getElem? (i := 1038) (by decide +kernel)⟩
theorem lw_p39 : lw_okq (⟨"ChaseHall", "shrink", "(LChaseHall$Hall;)I"⟩, 11) := ⟨⟨by decide +kernel, by decide +kernel⟩, List.mem_of_getElem? (i := 27) (by decide +kernel), List.mem_of_getElem? (i := 1049) (by decide +kernel), List.mem_of_getElem? (i := 1050) (by decide +kernel)⟩
theorem lw_p40 : lw_okq (⟨"ChaseHall$Parser", "readAsked", "(LChaseHall$Atoms;)Z"⟩, 6) := ⟨⟨by decide +kernel, by decide +kernel⟩, List.mem_of_getElem? (i := 204) (by decide +kernel), List.mem_of_getElem? (i := 1070) (by decide +kernel), List.mem_of_getElem? (i := 1071) (by decide +kernel)⟩
theorem lw_p41 : lw_okq (⟨"ChaseHall$Parser", "isAtEnd", "()Z"⟩, 6) := ⟨⟨by decide +kernel, by decide +kernel⟩, List.mem_of_getElem? (i := 204) (by decide +kernel), List.mem_of_getElem? (i := 1074) (by decide +kernel), List.mem_of_getElem? (i := 1075) (by decide +kernel)⟩
theorem lw_p42 : lw_okq (⟨"ChaseHall", "collectAnswers", "(LChaseHall$Atoms;LChaseHall$Rows;)V"⟩, 11) := ⟨⟨by decide +kernel, by decide +kernel⟩, List.mem_of_getElem? (i := 27) (by decide +kernel), List.mem_of_getElem? (i := 1078) (by decide +kernel), List.mem_of_getElem? (i := 1079) (by decide +kernel)⟩
theorem lw_p43 : lw_okq (⟨"ChaseHall", "isToldFulfilled", "()Z"⟩, 11) := ⟨⟨by decide +kernel, by decide +kernel⟩, List.mem_of_getElem? (i := 27) (by decide +kernel), List.mem_of_getElem? (i := 1115) (by decide +kernel), List.mem_of_getElem? (i := 1116) (by decide +kernel)⟩
theorem lw_p44 : lw_okq (⟨"ChaseHall$Ways", "followRule", "(LChaseHall$Rule;)V"⟩, 3) := ⟨⟨by decide +kernel, by decide +kernel⟩, List.mem_of_getElem? (i := 315) (by decide +kernel), List.mem_of_getElem? (i := 1136) (by decide +kernel), List.mem_of_getElem? (i := 1137) (by decide +kernel)⟩
theorem lw_p45 : lw_okq (⟨"ChaseHall$Ways", "followWays", "(LChaseHall$Rule;II)V"⟩, 3) := ⟨⟨by decide +kernel, by decide +kernel⟩, List.mem_of_getElem? (i := 315) (by decide +kernel), List.mem_of_getElem? (i := 1146) (by decide +kernel), List.mem_of_getElem? (i := 1147) (by decide +kernel)⟩
theorem lw_p46 : lw_okq (⟨"ChaseHall$Ways", "raise", "(III)V"⟩, 3) := ⟨⟨by decide +kernel, by decide +kernel⟩, List.mem_of_getElem? (i := 315) (by decide +kernel), List.mem_of_getElem? (i := 1150) (by decide +kernel), List.mem_of_getElem? (i := 1151) (by decide +kernel)⟩
theorem lw_p47 : lw_okq (⟨"ChaseHallModel", "clear", "(I)V"⟩, 49) := ⟨⟨by decide +kernel, by decide +kernel⟩, List.mem_of_getElem? (i := 1191) (by decide +kernel), List.mem_of_getElem? (i := 1197) (by decide +kernel), List.mem_of_getElem? (i := 1198) (by decide +kernel)⟩
def lw_privs_3 : List (MethodName × Nat) := [(⟨"ChaseHall$Hall", "plan", "(LChaseHall$Finder;LChaseHall$Atoms;I)V"⟩, 7), (⟨"ChaseHall$Hall", "noteStep", "(LChaseHall$Finder;IIII)V"⟩, 7), (⟨"ChaseHall$Hall", "meltTerms", "(LChaseHall$Finder;I)I"⟩, 7), (⟨"ChaseHall$Lead", "undoTo", "(I)V"⟩, 6), (⟨"ChaseHall$Lead", "fits", "(LChaseHall$Rows;ILChaseHall$Rows;I)Z"⟩, 6), (⟨"ChaseHall$Lead", "agrees", "(II)Z"⟩, 6), (⟨"ChaseHall$Lead", "enter", "(I)V"⟩, 6), (⟨"ChaseHall", "shrink", "(LChaseHall$Hall;)I"⟩, 11), (⟨"ChaseHall$Parser", "readAsked", "(LChaseHall$Atoms;)Z"⟩, 6), (⟨"ChaseHall$Parser", "isAtEnd", "()Z"⟩, 6), (⟨"ChaseHall", "collectAnswers", "(LChaseHall$Atoms;LChaseHall$Rows;)V"⟩, 11), (⟨"ChaseHall", "isToldFulfilled", "()Z"⟩, 11), (⟨"ChaseHall$Ways", "followRule", "(LChaseHall$Rule;)V"⟩, 3), (⟨"ChaseHall$Ways", "followWays", "(LChaseHall$Rule;II)V"⟩, 3), (⟨"ChaseHall$Ways", "raise", "(III)V"⟩, 3), (⟨"ChaseHallModel", "clear", "(I)V"⟩, 49)]
theorem lw_r3 : ∀ q ∈ lw_privs_3, lw_okq q := List.forall_mem_cons.mpr ⟨lw_p32, List.forall_mem_cons.mpr ⟨lw_p33, List.forall_mem_cons.mpr ⟨lw_p34, List.forall_mem_cons.mpr ⟨lw_p35, List.forall_mem_cons.mpr ⟨lw_p36, List.forall_mem_cons.mpr ⟨lw_p37, List.forall_mem_cons.mpr ⟨lw_p38, List.forall_mem_cons.mpr ⟨lw_p39, List.forall_mem_cons.mpr ⟨lw_p40, List.forall_mem_cons.mpr ⟨lw_p41, List.forall_mem_cons.mpr ⟨lw_p42, List.forall_mem_cons.mpr ⟨lw_p43, List.forall_mem_cons.mpr ⟨lw_p44, List.forall_mem_cons.mpr ⟨lw_p45, List.forall_mem_cons.mpr ⟨lw_p46, List.forall_mem_cons.mpr ⟨lw_p47, fun _ h => absurd h List.not_mem_nil⟩⟩⟩⟩⟩⟩⟩⟩⟩⟩⟩⟩⟩⟩⟩⟩
theorem lw_p48 : lw_okq (⟨"ChaseHallModel", "empty", "(I)V"⟩, 49) := ⟨⟨by decide +kernel, by decide +kernel⟩, List.mem_of_getElem? (i := 1191) (by decide +kernel), List.mem_of_getElem? (i := 1201) (by decide +kernel), List.mem_of_getElem? (i := 1202) (by decide +kernel)⟩
theorem lw_p49 : lw_okq (⟨"ChaseHallModel", "fails", "(Z)Z"⟩, 49) := ⟨⟨by decide +kernel, by decide +kernel⟩, List.mem_of_getElem? (i := 1191) (by decide +kernel), List.mem_of_getElem? (i := 1376) (by decide +kernel), List.mem_of_getElem? (i := 1377) (by decide +kernel)⟩
theorem lw_p50 : lw_okq (⟨"ChaseHallModel", "text", "()Z"⟩, 49) := ⟨⟨by decide +kernel, by decide +kernel⟩, List.mem_of_getElem? (i := 1191) (by decide +kernel), List.mem_of_getElem? (i := 1380) (by decide +kernel), List.mem_of_getElem? (i := 1381) (by decide +kernel)⟩
theorem lw_p51 : lw_okq (⟨"ChaseHallModel", "begin", "()V"⟩, 49) := ⟨⟨by decide +kernel, by decide +kernel⟩, List.mem_of_getElem? (i := 1191) (by decide +kernel), List.mem_of_getElem? (i := 1384) (by decide +kernel), List.mem_of_getElem? (i := 1385) (by decide +kernel)⟩
theorem lw_p52 : lw_okq (⟨"ChaseHallModel", "look0", "()V"⟩, 49) := ⟨⟨by decide +kernel, by decide +kernel⟩, List.mem_of_getElem? (i := 1191) (by decide +kernel), List.mem_of_getElem? (i := 1388) (by decide +kernel), List.mem_of_getElem? (i := 1389) (by decide +kernel)⟩
theorem lw_p53 : lw_okq (⟨"ChaseHallModel", "see", "(I)I"⟩, 49) := ⟨⟨by decide +kernel, by decide +kernel⟩, List.mem_of_getElem? (i := 1191) (by decide +kernel), List.mem_of_getElem? (i := 1392) (by decide +kernel), List.mem_of_getElem? (i := 1393) (by decide +kernel)⟩
theorem lw_p54 : lw_okq (⟨"ChaseHallModel", "tableText", "()Z"⟩, 49) := ⟨⟨by decide +kernel, by decide +kernel⟩, List.mem_of_getElem? (i := 1191) (by decide +kernel), List.mem_of_getElem? (i := 1406) (by decide +kernel), List.mem_of_getElem? (i := 1407) (by decide +kernel)⟩
theorem lw_p55 : lw_okq (⟨"ChaseHallModel", "aTable", "(IZ)Z"⟩, 49) := ⟨⟨by decide +kernel, by decide +kernel⟩, List.mem_of_getElem? (i := 1191) (by decide +kernel), List.mem_of_getElem? (i := 1410) (by decide +kernel), List.mem_of_getElem? (i := 1411) (by decide +kernel)⟩
theorem lw_p56 : lw_okq (⟨"ChaseHallModel", "bad", "(II)Z"⟩, 49) := ⟨⟨by decide +kernel, by decide +kernel⟩, List.mem_of_getElem? (i := 1191) (by decide +kernel), List.mem_of_getElem? (i := 1414) (by decide +kernel), List.mem_of_getElem? (i := 1415) (by decide +kernel)⟩
theorem lw_p57 : lw_okq (⟨"ChaseHallModel", "colsOf", "(II)I"⟩, 49) := ⟨⟨by decide +kernel, by decide +kernel⟩, List.mem_of_getElem? (i := 1191) (by decide +kernel), List.mem_of_getElem? (i := 1418) (by decide +kernel), List.mem_of_getElem? (i := 1419) (by decide +kernel)⟩
theorem lw_p58 : lw_okq (⟨"ChaseHallModel", "tableSum", "(I)I"⟩, 49) := ⟨⟨by decide +kernel, by decide +kernel⟩, List.mem_of_getElem? (i := 1191) (by decide +kernel), List.mem_of_getElem? (i := 1422) (by decide +kernel), List.mem_of_getElem? (i := 1423) (by decide +kernel)⟩
theorem lw_p59 : lw_okq (⟨"ChaseHallModel", "isNumber", "()Z"⟩, 49) := ⟨⟨by decide +kernel, by decide +kernel⟩, List.mem_of_getElem? (i := 1191) (by decide +kernel), List.mem_of_getElem? (i := 1426) (by decide +kernel), List.mem_of_getElem? (i := 1427) (by decide +kernel)⟩
theorem lw_p60 : lw_okq (⟨"ChaseHallModel", "need", "(I)Z"⟩, 49) := ⟨⟨by decide +kernel, by decide +kernel⟩, List.mem_of_getElem? (i := 1191) (by decide +kernel), List.mem_of_getElem? (i := 1430) (by decide +kernel), List.mem_of_getElem? (i := 1431) (by decide +kernel)⟩
theorem lw_p61 : lw_okq (⟨"ChaseHallModel", "isSign", "(I)Z"⟩, 49) := ⟨⟨by decide +kernel, by decide +kernel⟩, List.mem_of_getElem? (i := 1191) (by decide +kernel), List.mem_of_getElem? (i := 1434) (by decide +kernel), List.mem_of_getElem? (i := 1435) (by decide +kernel)⟩
theorem lw_p62 : lw_okq (⟨"ChaseHallModel", "rowText", "()Z"⟩, 49) := ⟨⟨by decide +kernel, by decide +kernel⟩, List.mem_of_getElem? (i := 1191) (by decide +kernel), List.mem_of_getElem? (i := 1438) (by decide +kernel), List.mem_of_getElem? (i := 1439) (by decide +kernel)⟩
theorem lw_p63 : lw_okq (⟨"ChaseHallModel", "several", "(IIZ)Z"⟩, 49) := ⟨⟨by decide +kernel, by decide +kernel⟩, List.mem_of_getElem? (i := 1191) (by decide +kernel), List.mem_of_getElem? (i := 1442) (by decide +kernel), List.mem_of_getElem? (i := 1443) (by decide +kernel)⟩
def lw_privs_4 : List (MethodName × Nat) := [(⟨"ChaseHallModel", "empty", "(I)V"⟩, 49), (⟨"ChaseHallModel", "fails", "(Z)Z"⟩, 49), (⟨"ChaseHallModel", "text", "()Z"⟩, 49), (⟨"ChaseHallModel", "begin", "()V"⟩, 49), (⟨"ChaseHallModel", "look0", "()V"⟩, 49), (⟨"ChaseHallModel", "see", "(I)I"⟩, 49), (⟨"ChaseHallModel", "tableText", "()Z"⟩, 49), (⟨"ChaseHallModel", "aTable", "(IZ)Z"⟩, 49), (⟨"ChaseHallModel", "bad", "(II)Z"⟩, 49), (⟨"ChaseHallModel", "colsOf", "(II)I"⟩, 49), (⟨"ChaseHallModel", "tableSum", "(I)I"⟩, 49), (⟨"ChaseHallModel", "isNumber", "()Z"⟩, 49), (⟨"ChaseHallModel", "need", "(I)Z"⟩, 49), (⟨"ChaseHallModel", "isSign", "(I)Z"⟩, 49), (⟨"ChaseHallModel", "rowText", "()Z"⟩, 49), (⟨"ChaseHallModel", "several", "(IIZ)Z"⟩, 49)]
theorem lw_r4 : ∀ q ∈ lw_privs_4, lw_okq q := List.forall_mem_cons.mpr ⟨lw_p48, List.forall_mem_cons.mpr ⟨lw_p49, List.forall_mem_cons.mpr ⟨lw_p50, List.forall_mem_cons.mpr ⟨lw_p51, List.forall_mem_cons.mpr ⟨lw_p52, List.forall_mem_cons.mpr ⟨lw_p53, List.forall_mem_cons.mpr ⟨lw_p54, List.forall_mem_cons.mpr ⟨lw_p55, List.forall_mem_cons.mpr ⟨lw_p56, List.forall_mem_cons.mpr ⟨lw_p57, List.forall_mem_cons.mpr ⟨lw_p58, List.forall_mem_cons.mpr ⟨lw_p59, List.forall_mem_cons.mpr ⟨lw_p60, List.forall_mem_cons.mpr ⟨lw_p61, List.forall_mem_cons.mpr ⟨lw_p62, List.forall_mem_cons.mpr ⟨lw_p63, fun _ h => absurd h List.not_mem_nil⟩⟩⟩⟩⟩⟩⟩⟩⟩⟩⟩⟩⟩⟩⟩⟩
theorem lw_p64 : lw_okq (⟨"ChaseHallModel", "find", "(IIIII)I"⟩, 49) := ⟨⟨by decide +kernel, by decide +kernel⟩, List.mem_of_getElem? (i := 1191) (by decide +kernel), List.mem_of_getElem? (i := 1446) (by decide +kernel), List.mem_of_getElem? (i := 1447) (by decide +kernel)⟩
theorem lw_p65 : lw_okq (⟨"ChaseHallModel", "isThere", "(II)Z"⟩, 49) := ⟨⟨by decide +kernel, by decide +kernel⟩, List.mem_of_getElem? (i := 1191) (by decide +kernel), List.mem_of_getElem? (i := 1450) (by decide +kernel), List.mem_of_getElem? (i := 1451) (by decide +kernel)⟩
theorem lw_p66 : lw_okq (⟨"ChaseHallModel", "table", "(II)I"⟩, 49) := ⟨⟨by decide +kernel, by decide +kernel⟩, List.mem_of_getElem? (i := 1191) (by decide +kernel), List.mem_of_getElem? (i := 1454) (by decide +kernel), List.mem_of_getElem? (i := 1455) (by decide +kernel)⟩
theorem lw_p67 : lw_okq (⟨"ChaseHallModel", "term", "(III)I"⟩, 49) := ⟨⟨by decide +kernel, by decide +kernel⟩, List.mem_of_getElem? (i := 1191) (by decide +kernel), List.mem_of_getElem? (i := 1458) (by decide +kernel), List.mem_of_getElem? (i := 1459) (by decide +kernel)⟩
theorem lw_p68 : lw_okq (⟨"ChaseHallModel", "rowSum", "(I)I"⟩, 49) := ⟨⟨by decide +kernel, by decide +kernel⟩, List.mem_of_getElem? (i := 1191) (by decide +kernel), List.mem_of_getElem? (i := 1462) (by decide +kernel), List.mem_of_getElem? (i := 1463) (by decide +kernel)⟩
theorem lw_p69 : lw_okq (⟨"ChaseHallModel", "add", "(IIIII)I"⟩, 49) := ⟨⟨by decide +kernel, by decide +kernel⟩, List.mem_of_getElem? (i := 1191) (by decide +kernel), List.mem_of_getElem? (i := 1466) (by decide +kernel), List.mem_of_getElem? (i := 1467) (by decide +kernel)⟩
theorem lw_p70 : lw_okq (⟨"ChaseHallModel", "ruleText", "(II)Z"⟩, 49) := ⟨⟨by decide +kernel, by decide +kernel⟩, List.mem_of_getElem? (i := 1191) (by decide +kernel), List.mem_of_getElem? (i := 1470) (by decide +kernel), List.mem_of_getElem? (i := 1471) (by decide +kernel)⟩
theorem lw_p71 : lw_okq (⟨"ChaseHallModel", "atoms", "(IIII)Z"⟩, 49) := ⟨⟨by decide +kernel, by decide +kernel⟩, List.mem_of_getElem? (i := 1191) (by decide +kernel), List.mem_of_getElem? (i := 1474) (by decide +kernel), List.mem_of_getElem? (i := 1475) (by decide +kernel)⟩
theorem lw_p72 : lw_okq (⟨"ChaseHallModel", "setRule", "(IIII)V"⟩, 49) := ⟨⟨by decide +kernel, by decide +kernel⟩, List.mem_of_getElem? (i := 1191) (by decide +kernel), List.mem_of_getElem? (i := 1478) (by decide +kernel), List.mem_of_getElem? (i := 1479) (by decide +kernel)⟩
theorem lw_p73 : lw_okq (⟨"ChaseHallModel", "melting", "(III)Z"⟩, 49) := ⟨⟨by decide +kernel, by decide +kernel⟩, List.mem_of_getElem? (i := 1191) (by decide +kernel), List.mem_of_getElem? (i := 1482) (by decide +kernel), List.mem_of_getElem? (i := 1483) (by decide +kernel)⟩
theorem lw_p74 : lw_okq (⟨"ChaseHallModel", "isAhead", "(III)Z"⟩, 49) := ⟨⟨by decide +kernel, by decide +kernel⟩, List.mem_of_getElem? (i := 1191) (by decide +kernel), List.mem_of_getElem? (i := 1486) (by decide +kernel), List.mem_of_getElem? (i := 1487) (by decide +kernel)⟩
theorem lw_p75 : lw_okq (⟨"ChaseHallModel", "rule", "(III)I"⟩, 49) := ⟨⟨by decide +kernel, by decide +kernel⟩, List.mem_of_getElem? (i := 1191) (by decide +kernel), List.mem_of_getElem? (i := 1490) (by decide +kernel), List.mem_of_getElem? (i := 1491) (by decide +kernel)⟩
theorem lw_p76 : lw_okq (⟨"ChaseHallModel", "atom", "(IIIII)I"⟩, 49) := ⟨⟨by decide +kernel, by decide +kernel⟩, List.mem_of_getElem? (i := 1191) (by decide +kernel), List.mem_of_getElem? (i := 1494) (by decide +kernel), List.mem_of_getElem? (i := 1495) (by decide +kernel)⟩
theorem lw_p77 : lw_okq (⟨"ChaseHallModel", "tells", "()V"⟩, 49) := ⟨⟨by decide +kernel, by decide +kernel⟩, List.mem_of_getElem? (i := 1191) (by decide +kernel), List.mem_of_getElem? (i := 1498) (by decide +kernel), List.mem_of_getElem? (i := 1499) (by decide +kernel)⟩
theorem lw_p78 : lw_okq (⟨"ChaseHallModel", "copies", "(II)V"⟩, 49) := ⟨⟨by decide +kernel, by decide +kernel⟩, List.mem_of_getElem? (i := 1191) (by decide +kernel), List.mem_of_getElem? (i := 1502) (by decide +kernel), List.mem_of_getElem? (i := 1503) (by decide +kernel)⟩
theorem lw_p79 : lw_okq (⟨"ChaseHallModel", "rulesOf", "(II)V"⟩, 49) := ⟨⟨by decide +kernel, by decide +kernel⟩, List.mem_of_getElem? (i := 1191) (by decide +kernel), List.mem_of_getElem? (i := 1506) (by decide +kernel), List.mem_of_getElem? (i := 1507) (by decide +kernel)⟩
def lw_privs_5 : List (MethodName × Nat) := [(⟨"ChaseHallModel", "find", "(IIIII)I"⟩, 49), (⟨"ChaseHallModel", "isThere", "(II)Z"⟩, 49), (⟨"ChaseHallModel", "table", "(II)I"⟩, 49), (⟨"ChaseHallModel", "term", "(III)I"⟩, 49), (⟨"ChaseHallModel", "rowSum", "(I)I"⟩, 49), (⟨"ChaseHallModel", "add", "(IIIII)I"⟩, 49), (⟨"ChaseHallModel", "ruleText", "(II)Z"⟩, 49), (⟨"ChaseHallModel", "atoms", "(IIII)Z"⟩, 49), (⟨"ChaseHallModel", "setRule", "(IIII)V"⟩, 49), (⟨"ChaseHallModel", "melting", "(III)Z"⟩, 49), (⟨"ChaseHallModel", "isAhead", "(III)Z"⟩, 49), (⟨"ChaseHallModel", "rule", "(III)I"⟩, 49), (⟨"ChaseHallModel", "atom", "(IIIII)I"⟩, 49), (⟨"ChaseHallModel", "tells", "()V"⟩, 49), (⟨"ChaseHallModel", "copies", "(II)V"⟩, 49), (⟨"ChaseHallModel", "rulesOf", "(II)V"⟩, 49)]
theorem lw_r5 : ∀ q ∈ lw_privs_5, lw_okq q := List.forall_mem_cons.mpr ⟨lw_p64, List.forall_mem_cons.mpr ⟨lw_p65, List.forall_mem_cons.mpr ⟨lw_p66, List.forall_mem_cons.mpr ⟨lw_p67, List.forall_mem_cons.mpr ⟨lw_p68, List.forall_mem_cons.mpr ⟨lw_p69, List.forall_mem_cons.mpr ⟨lw_p70, List.forall_mem_cons.mpr ⟨lw_p71, List.forall_mem_cons.mpr ⟨lw_p72, List.forall_mem_cons.mpr ⟨lw_p73, List.forall_mem_cons.mpr ⟨lw_p74, List.forall_mem_cons.mpr ⟨lw_p75, List.forall_mem_cons.mpr ⟨lw_p76, List.forall_mem_cons.mpr ⟨lw_p77, List.forall_mem_cons.mpr ⟨lw_p78, List.forall_mem_cons.mpr ⟨lw_p79, fun _ h => absurd h List.not_mem_nil⟩⟩⟩⟩⟩⟩⟩⟩⟩⟩⟩⟩⟩⟩⟩⟩
theorem lw_p80 : lw_okq (⟨"ChaseHallModel", "nameSum", "(I)I"⟩, 49) := ⟨⟨by decide +kernel, by decide +kernel⟩, List.mem_of_getElem? (i := 1191) (by decide +kernel), List.mem_of_getElem? (i := 1522) (by decide +kernel), List.mem_of_getElem? (i := 1523) (by decide +kernel)⟩
theorem lw_p81 : lw_okq (⟨"ChaseHallModel", "leastName", "(I)I"⟩, 49) := ⟨⟨by decide +kernel, by decide +kernel⟩, List.mem_of_getElem? (i := 1191) (by decide +kernel), List.mem_of_getElem? (i := 1526) (by decide +kernel), List.mem_of_getElem? (i := 1527) (by decide +kernel)⟩
theorem lw_p82 : lw_okq (⟨"ChaseHallModel", "finds", "(II)Z"⟩, 49) := ⟨⟨by decide +kernel, by decide +kernel⟩, List.mem_of_getElem? (i := 1191) (by decide +kernel), List.mem_of_getElem? (i := 1549) (by decide +kernel), List.mem_of_getElem? (i := 1550) (by decide +kernel)⟩
theorem lw_p83 : lw_okq (⟨"ChaseHallModel", "forget", "()V"⟩, 49) := ⟨⟨by decide +kernel, by decide +kernel⟩, List.mem_of_getElem? (i := 1191) (by decide +kernel), List.mem_of_getElem? (i := 1553) (by decide +kernel), List.mem_of_getElem? (i := 1554) (by decide +kernel)⟩
theorem lw_p84 : lw_okq (⟨"ChaseHallModel", "hits", "(IIII)V"⟩, 49) := ⟨⟨by decide +kernel, by decide +kernel⟩, List.mem_of_getElem? (i := 1191) (by decide +kernel), List.mem_of_getElem? (i := 1557) (by decide +kernel), List.mem_of_getElem? (i := 1558) (by decide +kernel)⟩
theorem lw_p85 : lw_okq (⟨"ChaseHallModel", "firsts", "(II)V"⟩, 49) := ⟨⟨by decide +kernel, by decide +kernel⟩, List.mem_of_getElem? (i := 1191) (by decide +kernel), List.mem_of_getElem? (i := 1561) (by decide +kernel), List.mem_of_getElem? (i := 1562) (by decide +kernel)⟩
theorem lw_p86 : lw_okq (⟨"ChaseHallModel", "top", "(I)I"⟩, 49) := ⟨⟨by decide +kernel, by decide +kernel⟩, List.mem_of_getElem? (i := 1191) (by decide +kernel), List.mem_of_getElem? (i := 1565) (by decide +kernel), List.mem_of_getElem? (i := 1566) (by decide +kernel)⟩
theorem lw_p87 : lw_okq (⟨"ChaseHallModel", "isFulfilled", "(II)Z"⟩, 49) := ⟨⟨by decide +kernel, by decide +kernel⟩, List.mem_of_getElem? (i := 1191) (by decide +kernel), List.mem_of_getElem? (i := 1569) (by decide +kernel), List.mem_of_getElem? (i := 1570) (by decide +kernel)⟩
theorem lw_p88 : lw_okq (⟨"ChaseHallModel", "worth", "(I)I"⟩, 49) := ⟨⟨by decide +kernel, by decide +kernel⟩, List.mem_of_getElem? (i := 1191) (by decide +kernel), List.mem_of_getElem? (i := 1573) (by decide +kernel), List.mem_of_getElem? (i := 1574) (by decide +kernel)⟩
theorem lw_p89 : lw_okq (⟨"ChaseHallModel", "behind", "(III)Z"⟩, 49) := ⟨⟨by decide +kernel, by decide +kernel⟩, List.mem_of_getElem? (i := 1191) (by decide +kernel), List.mem_of_getElem? (i := 1577) (by decide +kernel), List.mem_of_getElem? (i := 1578) (by decide +kernel)⟩
theorem lw_p90 : lw_okq (⟨"ChaseHallModel", "save", "(I)V"⟩, 49) := ⟨⟨by decide +kernel, by decide +kernel⟩, List.mem_of_getElem? (i := 1191) (by decide +kernel), List.mem_of_getElem? (i := 1581) (by decide +kernel), List.mem_of_getElem? (i := 1582) (by decide +kernel)⟩
theorem lw_p91 : lw_okq (⟨"ChaseHallModel", "fits", "(IIIII)Z"⟩, 49) := ⟨⟨by decide +kernel, by decide +kernel⟩, List.mem_of_getElem? (i := 1191) (by decide +kernel), List.mem_of_getElem? (i := 1585) (by decide +kernel), List.mem_of_getElem? (i := 1586) (by decide +kernel)⟩
theorem lw_p92 : lw_okq (⟨"ChaseHallModel", "back", "(I)V"⟩, 49) := ⟨⟨by decide +kernel, by decide +kernel⟩, List.mem_of_getElem? (i := 1191) (by decide +kernel), List.mem_of_getElem? (i := 1589) (by decide +kernel), List.mem_of_getElem? (i := 1590) (by decide +kernel)⟩
theorem lw_p93 : lw_okq (⟨"ChaseHallModel", "answers", "()V"⟩, 49) := ⟨⟨by decide +kernel, by decide +kernel⟩, List.mem_of_getElem? (i := 1191) (by decide +kernel), List.mem_of_getElem? (i := 1593) (by decide +kernel), List.mem_of_getElem? (i := 1594) (by decide +kernel)⟩
theorem lw_p94 : lw_okq (⟨"ChaseHallModel", "compared", "(IIII)I"⟩, 49) := ⟨⟨by decide +kernel, by decide +kernel⟩, List.mem_of_getElem? (i := 1191) (by decide +kernel), List.mem_of_getElem? (i := 1597) (by decide +kernel), List.mem_of_getElem? (i := 1598) (by decide +kernel)⟩
theorem lw_p95 : lw_okq (⟨"ChaseHallModel", "runs", "(II)I"⟩, 49) := ⟨⟨by decide +kernel, by decide +kernel⟩, List.mem_of_getElem? (i := 1191) (by decide +kernel), List.mem_of_getElem? (i := 1613) (by decide +kernel), List.mem_of_getElem? (i := 1614) (by decide +kernel)⟩
def lw_privs_6 : List (MethodName × Nat) := [(⟨"ChaseHallModel", "nameSum", "(I)I"⟩, 49), (⟨"ChaseHallModel", "leastName", "(I)I"⟩, 49), (⟨"ChaseHallModel", "finds", "(II)Z"⟩, 49), (⟨"ChaseHallModel", "forget", "()V"⟩, 49), (⟨"ChaseHallModel", "hits", "(IIII)V"⟩, 49), (⟨"ChaseHallModel", "firsts", "(II)V"⟩, 49), (⟨"ChaseHallModel", "top", "(I)I"⟩, 49), (⟨"ChaseHallModel", "isFulfilled", "(II)Z"⟩, 49), (⟨"ChaseHallModel", "worth", "(I)I"⟩, 49), (⟨"ChaseHallModel", "behind", "(III)Z"⟩, 49), (⟨"ChaseHallModel", "save", "(I)V"⟩, 49), (⟨"ChaseHallModel", "fits", "(IIIII)Z"⟩, 49), (⟨"ChaseHallModel", "back", "(I)V"⟩, 49), (⟨"ChaseHallModel", "answers", "()V"⟩, 49), (⟨"ChaseHallModel", "compared", "(IIII)I"⟩, 49), (⟨"ChaseHallModel", "runs", "(II)I"⟩, 49)]
theorem lw_r6 : ∀ q ∈ lw_privs_6, lw_okq q := List.forall_mem_cons.mpr ⟨lw_p80, List.forall_mem_cons.mpr ⟨lw_p81, List.forall_mem_cons.mpr ⟨lw_p82, List.forall_mem_cons.mpr ⟨lw_p83, List.forall_mem_cons.mpr ⟨lw_p84, List.forall_mem_cons.mpr ⟨lw_p85, List.forall_mem_cons.mpr ⟨lw_p86, List.forall_mem_cons.mpr ⟨lw_p87, List.forall_mem_cons.mpr ⟨lw_p88, List.forall_mem_cons.mpr ⟨lw_p89, List.forall_mem_cons.mpr ⟨lw_p90, List.forall_mem_cons.mpr ⟨lw_p91, List.forall_mem_cons.mpr ⟨lw_p92, List.forall_mem_cons.mpr ⟨lw_p93, List.forall_mem_cons.mpr ⟨lw_p94, List.forall_mem_cons.mpr ⟨lw_p95, fun _ h => absurd h List.not_mem_nil⟩⟩⟩⟩⟩⟩⟩⟩⟩⟩⟩⟩⟩⟩⟩⟩
theorem lw_p96 : lw_okq (⟨"ChaseHallModel", "step", "(II)I"⟩, 49) := ⟨⟨by decide +kernel, by decide +kernel⟩, List.mem_of_getElem? (i := 1191) (by decide +kernel), List.mem_of_getElem? (i := 1617) (by decide +kernel), List.mem_of_getElem? (i := 1618) (by decide +kernel)⟩
theorem lw_p97 : lw_okq (⟨"ChaseHallModel", "binds", "(II)V"⟩, 49) := ⟨⟨by decide +kernel, by decide +kernel⟩, List.mem_of_getElem? (i := 1191) (by decide +kernel), List.mem_of_getElem? (i := 1621) (by decide +kernel), List.mem_of_getElem? (i := 1622) (by decide +kernel)⟩
theorem lw_p98 : lw_okq (⟨"ChaseHallModel", "tells", "(IIIII)I"⟩, 49) := ⟨⟨by decide +kernel, by decide +kernel⟩, List.mem_of_getElem? (i := 1191) (by decide +kernel), List.mem_of_getElem? (i := 1625) (by decide +kernel), List.mem_of_getElem? (i := 1626) (by decide +kernel)⟩
theorem lw_p99 : lw_okq (⟨"ChaseHallModel", "setStep", "(IIII)V"⟩, 49) := ⟨⟨by decide +kernel, by decide +kernel⟩, List.mem_of_getElem? (i := 1191) (by decide +kernel), List.mem_of_getElem? (i := 1629) (by decide +kernel), List.mem_of_getElem? (i := 1630) (by decide +kernel)⟩
theorem lw_p100 : lw_okq (⟨"ChaseHallModel", "replace", "(III)V"⟩, 49) := ⟨⟨by decide +kernel, by decide +kernel⟩, List.mem_of_getElem? (i := 1191) (by decide +kernel), List.mem_of_getElem? (i := 1633) (by decide +kernel), List.mem_of_getElem? (i := 1634) (by decide +kernel)⟩
theorem lw_p101 : lw_okq (⟨"ChaseHallModel", "makes", "(II)I"⟩, 49) := ⟨⟨by decide +kernel, by decide +kernel⟩, List.mem_of_getElem? (i := 1191) (by decide +kernel), List.mem_of_getElem? (i := 1637) (by decide +kernel), List.mem_of_getElem? (i := 1638) (by decide +kernel)⟩
theorem lw_p102 : lw_okq (⟨"ChaseHallModel", "isNew", "(III)Z"⟩, 49) := ⟨⟨by decide +kernel, by decide +kernel⟩, List.mem_of_getElem? (i := 1191) (by decide +kernel), List.mem_of_getElem? (i := 1641) (by decide +kernel), List.mem_of_getElem? (i := 1642) (by decide +kernel)⟩
theorem lw_p103 : lw_okq (⟨"ChaseHallModel", "placed", "(IIII)I"⟩, 49) := ⟨⟨by decide +kernel, by decide +kernel⟩, List.mem_of_getElem? (i := 1191) (by decide +kernel), List.mem_of_getElem? (i := 1645) (by decide +kernel), List.mem_of_getElem? (i := 1646) (by decide +kernel)⟩
theorem lw_p104 : lw_okq (⟨"ChaseHallModel", "stepOf", "(III)I"⟩, 49) := ⟨⟨by decide +kernel, by decide +kernel⟩, List.mem_of_getElem? (i := 1191) (by decide +kernel), List.mem_of_getElem? (i := 1653) (by decide +kernel), List.mem_of_getElem? (i := 1654) (by decide +kernel)⟩
theorem lw_p105 : lw_okq (⟨"ChaseHallModel", "noStands", "()V"⟩, 49) := ⟨⟨by decide +kernel, by decide +kernel⟩, List.mem_of_getElem? (i := 1191) (by decide +kernel), List.mem_of_getElem? (i := 1665) (by decide +kernel), List.mem_of_getElem? (i := 1666) (by decide +kernel)⟩
theorem lw_p106 : lw_okq (⟨"ChaseHallModel", "lead", "(IIII)I"⟩, 49) := ⟨⟨by decide +kernel, by decide +kernel⟩, List.mem_of_getElem? (i := 1191) (by decide +kernel), List.mem_of_getElem? (i := 1669) (by decide +kernel), List.mem_of_getElem? (i := 1670) (by decide +kernel)⟩
theorem lw_p107 : lw_okq (⟨"ChaseHallModel", "chosen", "(I)I"⟩, 49) := ⟨⟨by decide +kernel, by decide +kernel⟩, List.mem_of_getElem? (i := 1191) (by decide +kernel), List.mem_of_getElem? (i := 1673) (by decide +kernel), List.mem_of_getElem? (i := 1674) (by decide +kernel)⟩
theorem lw_p108 : lw_okq (⟨"ChaseHallModel", "chooses", "(IIII)Z"⟩, 49) := ⟨⟨by decide +kernel, by decide +kernel⟩, List.mem_of_getElem? (i := 1191) (by decide +kernel), List.mem_of_getElem? (i := 1677) (by decide +kernel), List.mem_of_getElem? (i := 1678) (by decide +kernel)⟩
theorem lw_p109 : lw_okq (⟨"ChaseHallModel", "undo", "(II)V"⟩, 49) := ⟨⟨by decide +kernel, by decide +kernel⟩, List.mem_of_getElem? (i := 1191) (by decide +kernel), List.mem_of_getElem? (i := 1681) (by decide +kernel), List.mem_of_getElem? (i := 1682) (by decide +kernel)⟩
theorem lw_p110 : lw_okq (⟨"ChaseHallModel", "question", "()Z"⟩, 49) := ⟨⟨by decide +kernel, by decide +kernel⟩, List.mem_of_getElem? (i := 1191) (by decide +kernel), List.mem_of_getElem? (i := 1697) (by decide +kernel), List.mem_of_getElem? (i := 1698) (by decide +kernel)⟩
theorem lw_p111 : lw_okq (⟨"ChaseHallModel", "oneRule", "()Z"⟩, 49) := ⟨⟨by decide +kernel, by decide +kernel⟩, List.mem_of_getElem? (i := 1191) (by decide +kernel), List.mem_of_getElem? (i := 1709) (by decide +kernel), List.mem_of_getElem? (i := 1710) (by decide +kernel)⟩
def lw_privs_7 : List (MethodName × Nat) := [(⟨"ChaseHallModel", "step", "(II)I"⟩, 49), (⟨"ChaseHallModel", "binds", "(II)V"⟩, 49), (⟨"ChaseHallModel", "tells", "(IIIII)I"⟩, 49), (⟨"ChaseHallModel", "setStep", "(IIII)V"⟩, 49), (⟨"ChaseHallModel", "replace", "(III)V"⟩, 49), (⟨"ChaseHallModel", "makes", "(II)I"⟩, 49), (⟨"ChaseHallModel", "isNew", "(III)Z"⟩, 49), (⟨"ChaseHallModel", "placed", "(IIII)I"⟩, 49), (⟨"ChaseHallModel", "stepOf", "(III)I"⟩, 49), (⟨"ChaseHallModel", "noStands", "()V"⟩, 49), (⟨"ChaseHallModel", "lead", "(IIII)I"⟩, 49), (⟨"ChaseHallModel", "chosen", "(I)I"⟩, 49), (⟨"ChaseHallModel", "chooses", "(IIII)Z"⟩, 49), (⟨"ChaseHallModel", "undo", "(II)V"⟩, 49), (⟨"ChaseHallModel", "question", "()Z"⟩, 49), (⟨"ChaseHallModel", "oneRule", "()Z"⟩, 49)]
theorem lw_r7 : ∀ q ∈ lw_privs_7, lw_okq q := List.forall_mem_cons.mpr ⟨lw_p96, List.forall_mem_cons.mpr ⟨lw_p97, List.forall_mem_cons.mpr ⟨lw_p98, List.forall_mem_cons.mpr ⟨lw_p99, List.forall_mem_cons.mpr ⟨lw_p100, List.forall_mem_cons.mpr ⟨lw_p101, List.forall_mem_cons.mpr ⟨lw_p102, List.forall_mem_cons.mpr ⟨lw_p103, List.forall_mem_cons.mpr ⟨lw_p104, List.forall_mem_cons.mpr ⟨lw_p105, List.forall_mem_cons.mpr ⟨lw_p106, List.forall_mem_cons.mpr ⟨lw_p107, List.forall_mem_cons.mpr ⟨lw_p108, List.forall_mem_cons.mpr ⟨lw_p109, List.forall_mem_cons.mpr ⟨lw_p110, List.forall_mem_cons.mpr ⟨lw_p111, fun _ h => absurd h List.not_mem_nil⟩⟩⟩⟩⟩⟩⟩⟩⟩⟩⟩⟩⟩⟩⟩⟩
theorem lw_p112 : lw_okq (⟨"ChaseHallModel", "mustEnd", "(I)Z"⟩, 49) := ⟨⟨by decide +kernel, by decide +kernel⟩, List.mem_of_getElem? (i := 1191) (by decide +kernel), List.mem_of_getElem? (i := 1717) (by decide +kernel), List.mem_of_getElem? (i := 1718) (by decide +kernel)⟩
theorem lw_p113 : lw_okq (⟨"ChaseHallModel", "ways", "(I)V"⟩, 49) := ⟨⟨by decide +kernel, by decide +kernel⟩, List.mem_of_getElem? (i := 1191) (by decide +kernel), List.mem_of_getElem? (i := 1721) (by decide +kernel), List.mem_of_getElem? (i := 1722) (by decide +kernel)⟩
theorem lw_p114 : lw_okq (⟨"ChaseHallModel", "isBehind", "(III)Z"⟩, 49) := ⟨⟨by decide +kernel, by decide +kernel⟩, List.mem_of_getElem? (i := 1191) (by decide +kernel), List.mem_of_getElem? (i := 1725) (by decide +kernel), List.mem_of_getElem? (i := 1726) (by decide +kernel)⟩
theorem lw_p115 : lw_okq (⟨"ChaseHallModel", "from", "(IIII)V"⟩, 49) := ⟨⟨by decide +kernel, by decide +kernel⟩, List.mem_of_getElem? (i := 1191) (by decide +kernel), List.mem_of_getElem? (i := 1729) (by decide +kernel), List.mem_of_getElem? (i := 1730) (by decide +kernel)⟩
def lw_privs_8 : List (MethodName × Nat) := [(⟨"ChaseHallModel", "mustEnd", "(I)Z"⟩, 49), (⟨"ChaseHallModel", "ways", "(I)V"⟩, 49), (⟨"ChaseHallModel", "isBehind", "(III)Z"⟩, 49), (⟨"ChaseHallModel", "from", "(IIII)V"⟩, 49)]
theorem lw_r8 : ∀ q ∈ lw_privs_8, lw_okq q := List.forall_mem_cons.mpr ⟨lw_p112, List.forall_mem_cons.mpr ⟨lw_p113, List.forall_mem_cons.mpr ⟨lw_p114, List.forall_mem_cons.mpr ⟨lw_p115, fun _ h => absurd h List.not_mem_nil⟩⟩⟩⟩
def lw_privs : List (MethodName × Nat) := lw_privs_1 ++ (lw_privs_2 ++ (lw_privs_3 ++ (lw_privs_4 ++ (lw_privs_5 ++ (lw_privs_6 ++ (lw_privs_7 ++ (lw_privs_8)))))))
def lw_tbl : List Cond := k2_sels lw_privs ++ tables_1
theorem lw_privs_ok : ∀ q ∈ lw_privs, lw_okq q := by
  show ∀ q ∈ lw_privs_1 ++ (lw_privs_2 ++ (lw_privs_3 ++ (lw_privs_4 ++ (lw_privs_5 ++ (lw_privs_6 ++ (lw_privs_7 ++ (lw_privs_8))))))), lw_okq q
  exact List.forall_mem_append.mpr ⟨lw_r1, List.forall_mem_append.mpr ⟨lw_r2, List.forall_mem_append.mpr ⟨lw_r3, List.forall_mem_append.mpr ⟨lw_r4, List.forall_mem_append.mpr ⟨lw_r5, List.forall_mem_append.mpr ⟨lw_r6, List.forall_mem_append.mpr ⟨lw_r7, lw_r8⟩⟩⟩⟩⟩⟩⟩
/-! ===== BEGIN words of one list among another's, by their places ===== -/
theorem goodIn_r {big : List Cond} (ws : List Cond) (ps : List Nat) (hp : ws = ps.filterMap (fun i => big[i]?)) (h : ws.all goodWord = true) : GoodIn big ws := by
  intro w hw
  have h1 := List.all_eq_true.mp h w hw
  rw [hp] at hw
  obtain ⟨i, -, hi⟩ := List.mem_filterMap.mp hw
  have hm : w ∈ big := by first | exact List.mem_of_getElem? hi | exact List.getElem?_mem hi
  exact ⟨hm, good_of_word h1⟩
theorem goodIn_app {big a b : List Cond} (ha : GoodIn big a) (hb : GoodIn big b) : GoodIn big (a ++ b) := fun w h => (List.mem_append.mp h).elim (ha w) (hb w)
theorem goodIn_ca {big a b : List Cond} {c : Cond} (ha : GoodIn big (c :: a)) (hb : GoodIn big b) : GoodIn big (c :: (a ++ b)) := fun w h => (List.mem_cons.mp h).elim (fun e => ha w (List.mem_cons.mpr (Or.inl e))) (fun h => (List.mem_append.mp h).elim (fun h => ha w (List.mem_cons.mpr (Or.inr h))) (hb w))
theorem goodIn_sub {big ws : List Cond} (hm : ∀ w ∈ ws, w ∈ big) (h : ws.all goodWord = true) : GoodIn big ws := fun w hw => ⟨hm w hw, good_of_word (List.all_eq_true.mp h w hw)⟩
/-! ===== END ===== -/

def RX0 : String := "ChaseHall$Answers"
def TX0 : u_T := fun k => match k with
  | 0 => ("ChaseHall$Answers", "count", "I", false)
  | 1 => ("ChaseHall$Answers", "width", "I", false)
  | _ => ("ChaseHall$Answers", "codes", "[I", true)
def tyX0 : Nat → FieldType := fun k => match k with
  | 0 => .int
  | 1 => .int
  | _ => .array .int
theorem nmX0 : ∀ a, a < 3 → ∀ b, b < 3 → a ≠ b → (TX0 a).2.1 ≠ (TX0 b).2.1 := by decide +kernel
theorem tyX0_ok : ∀ k, k < 3 → parseFieldDescriptor (TX0 k).2.2.1 = some (tyX0 k) := by decide +kernel
def RX1 : String := "ChaseHall$Atoms"
def TX1 : u_T := fun k => match k with
  | 0 => ("ChaseHall$Atoms", "count", "I", false)
  | 1 => ("ChaseHall$Atoms", "table", "[I", true)
  | _ => ("ChaseHall$Atoms", "place", "[I", true)
def tyX1 : Nat → FieldType := fun k => match k with
  | 0 => .int
  | 1 => .array .int
  | _ => .array .int
theorem nmX1 : ∀ a, a < 3 → ∀ b, b < 3 → a ≠ b → (TX1 a).2.1 ≠ (TX1 b).2.1 := by decide +kernel
theorem tyX1_ok : ∀ k, k < 3 → parseFieldDescriptor (TX1 k).2.2.1 = some (tyX1 k) := by decide +kernel
def RX2 : String := "ChaseHall$Finder"
def TX2 : u_T := fun k => match k with
  | 0 => ("ChaseHall$Finder", "bound", "[I", true)
  | 1 => ("ChaseHall$Finder", "trail", "[I", true)
  | 2 => ("ChaseHall$Finder", "trailSize", "I", false)
  | 3 => ("ChaseHall$Finder", "chosen", "[I", true)
  | 4 => ("ChaseHall$Finder", "mark", "[I", true)
  | 5 => ("ChaseHall$Finder", "open", "[I", true)
  | 6 => ("ChaseHall$Finder", "depth", "I", false)
  | _ => ("ChaseHall$Finder", "limit", "I", false)
def tyX2 : Nat → FieldType := fun k => match k with
  | 0 => .array .int
  | 1 => .array .int
  | 2 => .int
  | 3 => .array .int
  | 4 => .array .int
  | 5 => .array .int
  | 6 => .int
  | _ => .int
theorem nmX2 : ∀ a, a < 8 → ∀ b, b < 8 → a ≠ b → (TX2 a).2.1 ≠ (TX2 b).2.1 := by decide +kernel
theorem tyX2_ok : ∀ k, k < 8 → parseFieldDescriptor (TX2 k).2.2.1 = some (tyX2 k) := by decide +kernel
def RX3 : String := "ChaseHall$Hall"
def TX3 : u_T := fun k => match k with
  | 0 => ("ChaseHall$Hall", "tableCount", "I", false)
  | 1 => ("ChaseHall$Hall", "ruleCount", "I", false)
  | 2 => ("ChaseHall$Hall", "columns", "[I", true)
  | 3 => ("ChaseHall$Hall", "rules", "[LChaseHall$Rule;", true)
  | 4 => ("ChaseHall$Hall", "rows", "LChaseHall$Rows;", true)
  | 5 => ("ChaseHall$Hall", "log", "LChaseHall$Log;", true)
  | _ => ("ChaseHall$Hall", "planned", "LChaseHall$Atoms;", true)
def tyX3 : Nat → FieldType := fun k => match k with
  | 0 => .int
  | 1 => .int
  | 2 => .array .int
  | 3 => .array (.object "ChaseHall$Rule")
  | 4 => .object "ChaseHall$Rows"
  | 5 => .object "ChaseHall$Log"
  | _ => .object "ChaseHall$Atoms"
theorem nmX3 : ∀ a, a < 7 → ∀ b, b < 7 → a ≠ b → (TX3 a).2.1 ≠ (TX3 b).2.1 := by decide +kernel
theorem tyX3_ok : ∀ k, k < 7 → parseFieldDescriptor (TX3 k).2.2.1 = some (tyX3 k) := by decide +kernel
def RX4 : String := "ChaseHall$Lead"
def TX4 : u_T := fun k => match k with
  | 0 => ("ChaseHall$Lead", "standsFor", "[I", true)
  | 1 => ("ChaseHall$Lead", "trail", "[I", true)
  | 2 => ("ChaseHall$Lead", "trailSize", "I", false)
  | 3 => ("ChaseHall$Lead", "chosen", "[I", true)
  | 4 => ("ChaseHall$Lead", "mark", "[I", true)
  | _ => ("ChaseHall$Lead", "length", "I", false)
def tyX4 : Nat → FieldType := fun k => match k with
  | 0 => .array .int
  | 1 => .array .int
  | 2 => .int
  | 3 => .array .int
  | 4 => .array .int
  | _ => .int
theorem nmX4 : ∀ a, a < 6 → ∀ b, b < 6 → a ≠ b → (TX4 a).2.1 ≠ (TX4 b).2.1 := by decide +kernel
theorem tyX4_ok : ∀ k, k < 6 → parseFieldDescriptor (TX4 k).2.2.1 = some (tyX4 k) := by decide +kernel
def RX5 : String := "ChaseHall$Log"
def TX5 : u_T := fun k => match k with
  | 0 => ("ChaseHall$Log", "state", "I", false)
  | 1 => ("ChaseHall$Log", "count", "I", false)
  | 2 => ("ChaseHall$Log", "steps", "[I", true)
  | _ => ("ChaseHall$Log", "makers", "[I", true)
def tyX5 : Nat → FieldType := fun k => match k with
  | 0 => .int
  | 1 => .int
  | 2 => .array .int
  | _ => .array .int
theorem nmX5 : ∀ a, a < 4 → ∀ b, b < 4 → a ≠ b → (TX5 a).2.1 ≠ (TX5 b).2.1 := by decide +kernel
theorem tyX5_ok : ∀ k, k < 4 → parseFieldDescriptor (TX5 k).2.2.1 = some (tyX5 k) := by decide +kernel
def RX6 : String := "ChaseHall$Parser"
def TX6 : u_T := fun k => match k with
  | 0 => ("ChaseHall$Parser", "fault", "I", false)
  | 1 => ("ChaseHall$Parser", "faultPlace", "I", false)
  | 2 => ("ChaseHall$Parser", "asked", "[I", true)
  | 3 => ("ChaseHall$Parser", "askedCount", "I", false)
  | 4 => ("ChaseHall$Parser", "tokens", "LChaseHall$Tokens;", true)
  | _ => ("ChaseHall$Parser", "cells", "[I", true)
def tyX6 : Nat → FieldType := fun k => match k with
  | 0 => .int
  | 1 => .int
  | 2 => .array .int
  | 3 => .int
  | 4 => .object "ChaseHall$Tokens"
  | _ => .array .int
theorem nmX6 : ∀ a, a < 6 → ∀ b, b < 6 → a ≠ b → (TX6 a).2.1 ≠ (TX6 b).2.1 := by decide +kernel
theorem tyX6_ok : ∀ k, k < 6 → parseFieldDescriptor (TX6 k).2.2.1 = some (tyX6 k) := by decide +kernel
def RX7 : String := "ChaseHall$Rows"
def TX7 : u_T := fun k => match k with
  | 0 => ("ChaseHall$Rows", "count", "I", false)
  | 1 => ("ChaseHall$Rows", "nextNumber", "I", false)
  | 2 => ("ChaseHall$Rows", "number", "[I", true)
  | 3 => ("ChaseHall$Rows", "table", "[I", true)
  | 4 => ("ChaseHall$Rows", "term", "[I", true)
  | _ => ("ChaseHall$Rows", "used", "[I", true)
def tyX7 : Nat → FieldType := fun k => match k with
  | 0 => .int
  | 1 => .int
  | 2 => .array .int
  | 3 => .array .int
  | 4 => .array .int
  | _ => .array .int
theorem nmX7 : ∀ a, a < 6 → ∀ b, b < 6 → a ≠ b → (TX7 a).2.1 ≠ (TX7 b).2.1 := by decide +kernel
theorem tyX7_ok : ∀ k, k < 6 → parseFieldDescriptor (TX7 k).2.2.1 = some (tyX7 k) := by decide +kernel
def RX8 : String := "ChaseHall$Rule"
def TX8 : u_T := fun k => match k with
  | 0 => ("ChaseHall$Rule", "kind", "I", false)
  | 1 => ("ChaseHall$Rule", "ahead", "LChaseHall$Atoms;", true)
  | 2 => ("ChaseHall$Rule", "behind", "LChaseHall$Atoms;", true)
  | 3 => ("ChaseHall$Rule", "left", "I", false)
  | _ => ("ChaseHall$Rule", "right", "I", false)
def tyX8 : Nat → FieldType := fun k => match k with
  | 0 => .int
  | 1 => .object "ChaseHall$Atoms"
  | 2 => .object "ChaseHall$Atoms"
  | 3 => .int
  | _ => .int
theorem nmX8 : ∀ a, a < 5 → ∀ b, b < 5 → a ≠ b → (TX8 a).2.1 ≠ (TX8 b).2.1 := by decide +kernel
theorem tyX8_ok : ∀ k, k < 5 → parseFieldDescriptor (TX8 k).2.2.1 = some (tyX8 k) := by decide +kernel
def RX9 : String := "ChaseHall$Tokens"
def TX9 : u_T := fun k => match k with
  | 0 => ("ChaseHall$Tokens", "count", "I", false)
  | 1 => ("ChaseHall$Tokens", "at", "I", false)
  | 2 => ("ChaseHall$Tokens", "kinds", "[I", true)
  | 3 => ("ChaseHall$Tokens", "values", "[I", true)
  | _ => ("ChaseHall$Tokens", "places", "[I", true)
def tyX9 : Nat → FieldType := fun k => match k with
  | 0 => .int
  | 1 => .int
  | 2 => .array .int
  | 3 => .array .int
  | _ => .array .int
theorem nmX9 : ∀ a, a < 5 → ∀ b, b < 5 → a ≠ b → (TX9 a).2.1 ≠ (TX9 b).2.1 := by decide +kernel
theorem tyX9_ok : ∀ k, k < 5 → parseFieldDescriptor (TX9 k).2.2.1 = some (tyX9 k) := by decide +kernel
def RX10 : String := "ChaseHall$Ways"
def TX10 : u_T := fun k => match k with
  | 0 => ("ChaseHall$Ways", "ranks", "[I", true)
  | 1 => ("ChaseHall$Ways", "raised", "Z", false)
  | _ => ("ChaseHall$Ways", "ringed", "Z", false)
def tyX10 : Nat → FieldType := fun k => match k with
  | 0 => .array .int
  | 1 => .boolean
  | _ => .boolean
theorem nmX10 : ∀ a, a < 3 → ∀ b, b < 3 → a ≠ b → (TX10 a).2.1 ≠ (TX10 b).2.1 := by decide +kernel
theorem tyX10_ok : ∀ k, k < 3 → parseFieldDescriptor (TX10 k).2.2.1 = some (tyX10 k) := by decide +kernel
def RX11 : String := "ChaseHall"
def TX11 : u_T := fun k => match k with
  | 0 => ("ChaseHall", "halls", "[LChaseHall$Hall;", true)
  | 1 => ("ChaseHall", "spare", "LChaseHall$Hall;", true)
  | 2 => ("ChaseHall", "tape", "[I", true)
  | 3 => ("ChaseHall", "tapeLength", "I", false)
  | 4 => ("ChaseHall", "parser", "LChaseHall$Parser;", true)
  | 5 => ("ChaseHall", "told", "LChaseHall$Rule;", true)
  | 6 => ("ChaseHall", "finder", "LChaseHall$Finder;", true)
  | 7 => ("ChaseHall", "latestLead", "LChaseHall$Lead;", true)
  | 8 => ("ChaseHall", "coreLead", "LChaseHall$Lead;", true)
  | 9 => ("ChaseHall", "ways", "LChaseHall$Ways;", true)
  | _ => ("ChaseHall", "answers", "LChaseHall$Answers;", true)
def tyX11 : Nat → FieldType := fun k => match k with
  | 0 => .array (.object "ChaseHall$Hall")
  | 1 => .object "ChaseHall$Hall"
  | 2 => .array .int
  | 3 => .int
  | 4 => .object "ChaseHall$Parser"
  | 5 => .object "ChaseHall$Rule"
  | 6 => .object "ChaseHall$Finder"
  | 7 => .object "ChaseHall$Lead"
  | 8 => .object "ChaseHall$Lead"
  | 9 => .object "ChaseHall$Ways"
  | _ => .object "ChaseHall$Answers"
theorem nmX11 : ∀ a, a < 11 → ∀ b, b < 11 → a ≠ b → (TX11 a).2.1 ≠ (TX11 b).2.1 := by decide +kernel
theorem tyX11_ok : ∀ k, k < 11 → parseFieldDescriptor (TX11 k).2.2.1 = some (tyX11 k) := by decide +kernel
def RX12 : String := "ChaseHallModel"
def TX12 : u_T := fun k => match k with
  | 0 => ("ChaseHallModel", "thrown", "I", false)
  | 1 => ("ChaseHallModel", "cols", "[I", true)
  | 2 => ("ChaseHallModel", "ruleMany", "[I", true)
  | 3 => ("ChaseHallModel", "rules", "[I", true)
  | 4 => ("ChaseHallModel", "there", "[I", true)
  | 5 => ("ChaseHallModel", "rowTable", "[I", true)
  | 6 => ("ChaseHallModel", "terms", "[I", true)
  | 7 => ("ChaseHallModel", "byStep", "[I", true)
  | 8 => ("ChaseHallModel", "nextRow", "[I", true)
  | 9 => ("ChaseHallModel", "state", "[I", true)
  | 10 => ("ChaseHallModel", "stepMany", "[I", true)
  | 11 => ("ChaseHallModel", "steps", "[I", true)
  | 12 => ("ChaseHallModel", "named", "[Z", true)
  | 13 => ("ChaseHallModel", "tape", "[I", true)
  | 14 => ("ChaseHallModel", "taped", "I", false)
  | 15 => ("ChaseHallModel", "at", "I", false)
  | 16 => ("ChaseHallModel", "token", "I", false)
  | 17 => ("ChaseHallModel", "tokenAt", "I", false)
  | 18 => ("ChaseHallModel", "wrong", "I", false)
  | 19 => ("ChaseHallModel", "wrongAt", "I", false)
  | 20 => ("ChaseHallModel", "faultKind", "I", false)
  | 21 => ("ChaseHallModel", "faultPlace", "I", false)
  | 22 => ("ChaseHallModel", "read", "I", false)
  | 23 => ("ChaseHallModel", "last", "I", false)
  | 24 => ("ChaseHallModel", "list", "[I", true)
  | 25 => ("ChaseHallModel", "seen", "[Z", true)
  | 26 => ("ChaseHallModel", "bound", "[I", true)
  | 27 => ("ChaseHallModel", "hitRow", "[I", true)
  | 28 => ("ChaseHallModel", "bestRow", "[I", true)
  | 29 => ("ChaseHallModel", "was", "[I", true)
  | 30 => ("ChaseHallModel", "hitMany", "I", false)
  | 31 => ("ChaseHallModel", "bestTop", "I", false)
  | 32 => ("ChaseHallModel", "some", "Z", false)
  | 33 => ("ChaseHallModel", "follow", "[I", true)
  | 34 => ("ChaseHallModel", "stand", "[I", true)
  | 35 => ("ChaseHallModel", "image", "[I", true)
  | 36 => ("ChaseHallModel", "tries", "I", false)
  | 37 => ("ChaseHallModel", "latest", "I", false)
  | 38 => ("ChaseHallModel", "told", "[I", true)
  | 39 => ("ChaseHallModel", "stays", "[Z", true)
  | 40 => ("ChaseHallModel", "found", "[I", true)
  | 41 => ("ChaseHallModel", "asked", "[I", true)
  | 42 => ("ChaseHallModel", "foundMany", "I", false)
  | 43 => ("ChaseHallModel", "askedMany", "I", false)
  | 44 => ("ChaseHallModel", "foundWide", "I", false)
  | 45 => ("ChaseHallModel", "leadsTo", "[Z", true)
  | 46 => ("ChaseHallModel", "isNew", "[Z", true)
  | 47 => ("ChaseHallModel", "ranks", "[I", true)
  | _ => ("ChaseHallModel", "reach", "[Z", true)
def tyX12 : Nat → FieldType := fun k => match k with
  | 0 => .int
  | 1 => .array .int
  | 2 => .array .int
  | 3 => .array .int
  | 4 => .array .int
  | 5 => .array .int
  | 6 => .array .int
  | 7 => .array .int
  | 8 => .array .int
  | 9 => .array .int
  | 10 => .array .int
  | 11 => .array .int
  | 12 => .array .boolean
  | 13 => .array .int
  | 14 => .int
  | 15 => .int
  | 16 => .int
  | 17 => .int
  | 18 => .int
  | 19 => .int
  | 20 => .int
  | 21 => .int
  | 22 => .int
  | 23 => .int
  | 24 => .array .int
  | 25 => .array .boolean
  | 26 => .array .int
  | 27 => .array .int
  | 28 => .array .int
  | 29 => .array .int
  | 30 => .int
  | 31 => .int
  | 32 => .boolean
  | 33 => .array .int
  | 34 => .array .int
  | 35 => .array .int
  | 36 => .int
  | 37 => .int
  | 38 => .array .int
  | 39 => .array .boolean
  | 40 => .array .int
  | 41 => .array .int
  | 42 => .int
  | 43 => .int
  | 44 => .int
  | 45 => .array .boolean
  | 46 => .array .boolean
  | 47 => .array .int
  | _ => .array .boolean
theorem nmX12 : ∀ a, a < 49 → ∀ b, b < 49 → a ≠ b → (TX12 a).2.1 ≠ (TX12 b).2.1 := by decide +kernel
theorem tyX12_ok : ∀ k, k < 49 → parseFieldDescriptor (TX12 k).2.2.1 = some (tyX12 k) := by decide +kernel
abbrev mCl : List vw_C := [(RX0, TX0, 3), (RX1, TX1, 3), (RX2, TX2, 8), (RX3, TX3, 7), (RX4, TX4, 6), (RX5, TX5, 4), (RX6, TX6, 6), (RX7, TX7, 6), (RX8, TX8, 5), (RX9, TX9, 5), (RX10, TX10, 3), (RX11, TX11, 11), (RX12, TX12, 49)]
