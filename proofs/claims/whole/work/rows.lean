section
-- ===== PART A: goes FIRST, ahead of the names: the tables' words, and 'selects' of the private methods out of them =====
/-- a private method of a class that the tables say can be made, by its rows of tables_1 -/
def lw_okq (q : MethodName × Nat) : Prop := (q.1.cls ≠ "java/lang/invoke/MethodHandle" ∧ q.1.cls ≠ "java/lang/invoke/VarHandle") ∧ Cond.instantiable q.1.cls q.2 ∈ tables_1 ∧ Cond.privateMethod q.1 ∈ tables_1 ∧ Cond.instanceMethod q.1 ∈ tables_1
theorem lw_p0 : lw_okq (⟨"SnoopFilter$Machine", "writeBack", "(LSnoopFilter$Core;I)V"⟩, 6) := ⟨⟨by decide +kernel, by decide +kernel⟩, List.mem_of_getElem? (i := 18) (by decide +kernel), List.mem_of_getElem? (i := 249) (by decide +kernel), List.mem_of_getElem? (i := 250) (by decide +kernel)⟩
theorem lw_p1 : lw_okq (⟨"SnoopFilter$Machine", "vacate", "(LSnoopFilter$Core;I)V"⟩, 6) := ⟨⟨by decide +kernel, by decide +kernel⟩, List.mem_of_getElem? (i := 18) (by decide +kernel), List.mem_of_getElem? (i := 253) (by decide +kernel), List.mem_of_getElem? (i := 254) (by decide +kernel)⟩
theorem lw_p2 : lw_okq (⟨"SnoopFilter$Filter", "lower", "(I)V"⟩, 3) := ⟨⟨by decide +kernel, by decide +kernel⟩, List.mem_of_getElem? (i := 31) (by decide +kernel), List.mem_of_getElem? (i := 265) (by decide +kernel), List.mem_of_getElem? (i := 266) (by decide +kernel)⟩
theorem lw_p3 : lw_okq (⟨"SnoopFilter$Machine", "beginToHold", "(LSnoopFilter$Core;IIZ)V"⟩, 6) := ⟨⟨by decide +kernel, by decide +kernel⟩, List.mem_of_getElem? (i := 18) (by decide +kernel), List.mem_of_getElem? (i := 273) (by decide +kernel), List.mem_of_getElem? (i := 274) (by decide +kernel)⟩
theorem lw_p4 : lw_okq (⟨"SnoopFilter$Filter", "raise", "(II)V"⟩, 3) := ⟨⟨by decide +kernel, by decide +kernel⟩, List.mem_of_getElem? (i := 31) (by decide +kernel), List.mem_of_getElem? (i := 285) (by decide +kernel), List.mem_of_getElem? (i := 286) (by decide +kernel)⟩
theorem lw_p5 : lw_okq (⟨"SnoopFilter$Machine", "forgetAllBut", "(LSnoopFilter$Core;I)I"⟩, 6) := ⟨⟨by decide +kernel, by decide +kernel⟩, List.mem_of_getElem? (i := 18) (by decide +kernel), List.mem_of_getElem? (i := 293) (by decide +kernel), List.mem_of_getElem? (i := 294) (by decide +kernel)⟩
theorem lw_p6 : lw_okq (⟨"SnoopFilter$Machine", "takeFromOthers", "(II)I"⟩, 6) := ⟨⟨by decide +kernel, by decide +kernel⟩, List.mem_of_getElem? (i := 18) (by decide +kernel), List.mem_of_getElem? (i := 314) (by decide +kernel), List.mem_of_getElem? (i := 315) (by decide +kernel)⟩
theorem lw_p7 : lw_okq (⟨"SnoopFilter$Program", "takesCommand", "(I)Z"⟩, 8) := ⟨⟨by decide +kernel, by decide +kernel⟩, List.mem_of_getElem? (i := 122) (by decide +kernel), List.mem_of_getElem? (i := 376) (by decide +kernel), List.mem_of_getElem? (i := 377) (by decide +kernel)⟩
theorem lw_p8 : lw_okq (⟨"SnoopFilter$Program", "isDigitUpTo", "(I)Z"⟩, 8) := ⟨⟨by decide +kernel, by decide +kernel⟩, List.mem_of_getElem? (i := 122) (by decide +kernel), List.mem_of_getElem? (i := 380) (by decide +kernel), List.mem_of_getElem? (i := 381) (by decide +kernel)⟩
theorem lw_p9 : lw_okq (⟨"SnoopFilter$Program", "takeNumber", "(I)I"⟩, 8) := ⟨⟨by decide +kernel, by decide +kernel⟩, List.mem_of_getElem? (i := 122) (by decide +kernel), List.mem_of_getElem? (i := 384) (by decide +kernel), List.mem_of_getElem? (i := 385) (by decide +kernel)⟩
theorem lw_p10 : lw_okq (⟨"SnoopFilter$Program", "takesLineAndValue", "(I)Z"⟩, 8) := ⟨⟨by decide +kernel, by decide +kernel⟩, List.mem_of_getElem? (i := 122) (by decide +kernel), List.mem_of_getElem? (i := 388) (by decide +kernel), List.mem_of_getElem? (i := 389) (by decide +kernel)⟩
theorem lw_p11 : lw_okq (⟨"SnoopFilter$Program", "takes", "(C)Z"⟩, 8) := ⟨⟨by decide +kernel, by decide +kernel⟩, List.mem_of_getElem? (i := 122) (by decide +kernel), List.mem_of_getElem? (i := 392) (by decide +kernel), List.mem_of_getElem? (i := 393) (by decide +kernel)⟩
theorem lw_p12 : lw_okq (⟨"SnoopFilter", "noteStop", "(II)V"⟩, 9) := ⟨⟨by decide +kernel, by decide +kernel⟩, List.mem_of_getElem? (i := 10) (by decide +kernel), List.mem_of_getElem? (i := 405) (by decide +kernel), List.mem_of_getElem? (i := 406) (by decide +kernel)⟩
theorem lw_p13 : lw_okq (⟨"SnoopFilterModel", "record", "()V"⟩, 18) := ⟨⟨by decide +kernel, by decide +kernel⟩, List.mem_of_getElem? (i := 516) (by decide +kernel), List.mem_of_getElem? (i := 590) (by decide +kernel), List.mem_of_getElem? (i := 591) (by decide +kernel)⟩
theorem lw_p14 : lw_okq (⟨"SnoopFilterModel", "reads", "(II)I"⟩, 18) := ⟨⟨by decide +kernel, by decide +kernel⟩, List.mem_of_getElem? (i := 516) (by decide +kernel), List.mem_of_getElem? (i := 594) (by decide +kernel), List.mem_of_getElem? (i := 595) (by decide +kernel)⟩
theorem lw_p15 : lw_okq (⟨"SnoopFilterModel", "holds", "(II)Z"⟩, 18) := ⟨⟨by decide +kernel, by decide +kernel⟩, List.mem_of_getElem? (i := 516) (by decide +kernel), List.mem_of_getElem? (i := 598) (by decide +kernel), List.mem_of_getElem? (i := 599) (by decide +kernel)⟩
def lw_privs_1 : List (MethodName × Nat) := [(⟨"SnoopFilter$Machine", "writeBack", "(LSnoopFilter$Core;I)V"⟩, 6), (⟨"SnoopFilter$Machine", "vacate", "(LSnoopFilter$Core;I)V"⟩, 6), (⟨"SnoopFilter$Filter", "lower", "(I)V"⟩, 3), (⟨"SnoopFilter$Machine", "beginToHold", "(LSnoopFilter$Core;IIZ)V"⟩, 6), (⟨"SnoopFilter$Filter", "raise", "(II)V"⟩, 3), (⟨"SnoopFilter$Machine", "forgetAllBut", "(LSnoopFilter$Core;I)I"⟩, 6), (⟨"SnoopFilter$Machine", "takeFromOthers", "(II)I"⟩, 6), (⟨"SnoopFilter$Program", "takesCommand", "(I)Z"⟩, 8), (⟨"SnoopFilter$Program", "isDigitUpTo", "(I)Z"⟩, 8), (⟨"SnoopFilter$Program", "takeNumber", "(I)I"⟩, 8), (⟨"SnoopFilter$Program", "takesLineAndValue", "(I)Z"⟩, 8), (⟨"SnoopFilter$Program", "takes", "(C)Z"⟩, 8), (⟨"SnoopFilter", "noteStop", "(II)V"⟩, 9), (⟨"SnoopFilterModel", "record", "()V"⟩, 18), (⟨"SnoopFilterModel", "reads", "(II)I"⟩, 18), (⟨"SnoopFilterModel", "holds", "(II)Z"⟩, 18)]
theorem lw_r1 : ∀ q ∈ lw_privs_1, lw_okq q := List.forall_mem_cons.mpr ⟨lw_p0, List.forall_mem_cons.mpr ⟨lw_p1, List.forall_mem_cons.mpr ⟨lw_p2, List.forall_mem_cons.mpr ⟨lw_p3, List.forall_mem_cons.mpr ⟨lw_p4, List.forall_mem_cons.mpr ⟨lw_p5, List.forall_mem_cons.mpr ⟨lw_p6, List.forall_mem_cons.mpr ⟨lw_p7, List.forall_mem_cons.mpr ⟨lw_p8, List.forall_mem_cons.mpr ⟨lw_p9, List.forall_mem_cons.mpr ⟨lw_p10, List.forall_mem_cons.mpr ⟨lw_p11, List.forall_mem_cons.mpr ⟨lw_p12, List.forall_mem_cons.mpr ⟨lw_p13, List.forall_mem_cons.mpr ⟨lw_p14, List.forall_mem_cons.mpr ⟨lw_p15, fun _ h => absurd h List.not_mem_nil⟩⟩⟩⟩⟩⟩⟩⟩⟩⟩⟩⟩⟩⟩⟩⟩
theorem lw_p16 : lw_okq (⟨"SnoopFilterModel", "snoops", "(IIZ)I"⟩, 18) := ⟨⟨by decide +kernel, by decide +kernel⟩, List.mem_of_getElem? (i := 516) (by decide +kernel), List.mem_of_getElem? (i := 608) (by decide +kernel), List.mem_of_getElem? (i := 609) (by decide +kernel)⟩
theorem lw_p17 : lw_okq (⟨"SnoopFilterModel", "isSnooped", "(IIZ)Z"⟩, 18) := ⟨⟨by decide +kernel, by decide +kernel⟩, List.mem_of_getElem? (i := 516) (by decide +kernel), List.mem_of_getElem? (i := 612) (by decide +kernel), List.mem_of_getElem? (i := 613) (by decide +kernel)⟩
theorem lw_p18 : lw_okq (⟨"SnoopFilterModel", "mayHave", "(II)Z"⟩, 18) := ⟨⟨by decide +kernel, by decide +kernel⟩, List.mem_of_getElem? (i := 516) (by decide +kernel), List.mem_of_getElem? (i := 616) (by decide +kernel), List.mem_of_getElem? (i := 617) (by decide +kernel)⟩
theorem lw_p19 : lw_okq (⟨"SnoopFilterModel", "isBit", "(II)Z"⟩, 18) := ⟨⟨by decide +kernel, by decide +kernel⟩, List.mem_of_getElem? (i := 516) (by decide +kernel), List.mem_of_getElem? (i := 620) (by decide +kernel), List.mem_of_getElem? (i := 621) (by decide +kernel)⟩
theorem lw_p20 : lw_okq (⟨"SnoopFilterModel", "counterAt", "(III)I"⟩, 18) := ⟨⟨by decide +kernel, by decide +kernel⟩, List.mem_of_getElem? (i := 516) (by decide +kernel), List.mem_of_getElem? (i := 624) (by decide +kernel), List.mem_of_getElem? (i := 625) (by decide +kernel)⟩
theorem lw_p21 : lw_okq (⟨"SnoopFilterModel", "leaves", "(II)V"⟩, 18) := ⟨⟨by decide +kernel, by decide +kernel⟩, List.mem_of_getElem? (i := 516) (by decide +kernel), List.mem_of_getElem? (i := 631) (by decide +kernel), List.mem_of_getElem? (i := 632) (by decide +kernel)⟩
theorem lw_p22 : lw_okq (⟨"SnoopFilterModel", "counts", "(III)V"⟩, 18) := ⟨⟨by decide +kernel, by decide +kernel⟩, List.mem_of_getElem? (i := 516) (by decide +kernel), List.mem_of_getElem? (i := 635) (by decide +kernel), List.mem_of_getElem? (i := 636) (by decide +kernel)⟩
theorem lw_p23 : lw_okq (⟨"SnoopFilterModel", "writesBack", "(I)V"⟩, 18) := ⟨⟨by decide +kernel, by decide +kernel⟩, List.mem_of_getElem? (i := 516) (by decide +kernel), List.mem_of_getElem? (i := 639) (by decide +kernel), List.mem_of_getElem? (i := 640) (by decide +kernel)⟩
theorem lw_p24 : lw_okq (⟨"SnoopFilterModel", "begins", "(IIII)V"⟩, 18) := ⟨⟨by decide +kernel, by decide +kernel⟩, List.mem_of_getElem? (i := 516) (by decide +kernel), List.mem_of_getElem? (i := 643) (by decide +kernel), List.mem_of_getElem? (i := 644) (by decide +kernel)⟩
theorem lw_p25 : lw_okq (⟨"SnoopFilterModel", "notes", "(II)V"⟩, 18) := ⟨⟨by decide +kernel, by decide +kernel⟩, List.mem_of_getElem? (i := 516) (by decide +kernel), List.mem_of_getElem? (i := 647) (by decide +kernel), List.mem_of_getElem? (i := 648) (by decide +kernel)⟩
theorem lw_p26 : lw_okq (⟨"SnoopFilterModel", "countersFrom", "(II)I"⟩, 18) := ⟨⟨by decide +kernel, by decide +kernel⟩, List.mem_of_getElem? (i := 516) (by decide +kernel), List.mem_of_getElem? (i := 651) (by decide +kernel), List.mem_of_getElem? (i := 652) (by decide +kernel)⟩
theorem lw_p27 : lw_okq (⟨"SnoopFilterModel", "forgets", "(II)I"⟩, 18) := ⟨⟨by decide +kernel, by decide +kernel⟩, List.mem_of_getElem? (i := 516) (by decide +kernel), List.mem_of_getElem? (i := 655) (by decide +kernel), List.mem_of_getElem? (i := 656) (by decide +kernel)⟩
theorem lw_p28 : lw_okq (⟨"SnoopFilterModel", "clears", "(I)V"⟩, 18) := ⟨⟨by decide +kernel, by decide +kernel⟩, List.mem_of_getElem? (i := 516) (by decide +kernel), List.mem_of_getElem? (i := 659) (by decide +kernel), List.mem_of_getElem? (i := 660) (by decide +kernel)⟩
theorem lw_p29 : lw_okq (⟨"SnoopFilterModel", "writes", "(III)I"⟩, 18) := ⟨⟨by decide +kernel, by decide +kernel⟩, List.mem_of_getElem? (i := 516) (by decide +kernel), List.mem_of_getElem? (i := 667) (by decide +kernel), List.mem_of_getElem? (i := 668) (by decide +kernel)⟩
theorem lw_p30 : lw_okq (⟨"SnoopFilterModel", "drops", "(II)I"⟩, 18) := ⟨⟨by decide +kernel, by decide +kernel⟩, List.mem_of_getElem? (i := 516) (by decide +kernel), List.mem_of_getElem? (i := 675) (by decide +kernel), List.mem_of_getElem? (i := 676) (by decide +kernel)⟩
theorem lw_p31 : lw_okq (⟨"SnoopFilterModel", "isEmpty", "(I)Z"⟩, 18) := ⟨⟨by decide +kernel, by decide +kernel⟩, List.mem_of_getElem? (i := 516) (by decide +kernel), List.mem_of_getElem? (i := 683) (by decide +kernel), List.mem_of_getElem? (i := 684) (by decide +kernel)⟩
def lw_privs_2 : List (MethodName × Nat) := [(⟨"SnoopFilterModel", "snoops", "(IIZ)I"⟩, 18), (⟨"SnoopFilterModel", "isSnooped", "(IIZ)Z"⟩, 18), (⟨"SnoopFilterModel", "mayHave", "(II)Z"⟩, 18), (⟨"SnoopFilterModel", "isBit", "(II)Z"⟩, 18), (⟨"SnoopFilterModel", "counterAt", "(III)I"⟩, 18), (⟨"SnoopFilterModel", "leaves", "(II)V"⟩, 18), (⟨"SnoopFilterModel", "counts", "(III)V"⟩, 18), (⟨"SnoopFilterModel", "writesBack", "(I)V"⟩, 18), (⟨"SnoopFilterModel", "begins", "(IIII)V"⟩, 18), (⟨"SnoopFilterModel", "notes", "(II)V"⟩, 18), (⟨"SnoopFilterModel", "countersFrom", "(II)I"⟩, 18), (⟨"SnoopFilterModel", "forgets", "(II)I"⟩, 18), (⟨"SnoopFilterModel", "clears", "(I)V"⟩, 18), (⟨"SnoopFilterModel", "writes", "(III)I"⟩, 18), (⟨"SnoopFilterModel", "drops", "(II)I"⟩, 18), (⟨"SnoopFilterModel", "isEmpty", "(I)Z"⟩, 18)]
theorem lw_r2 : ∀ q ∈ lw_privs_2, lw_okq q := List.forall_mem_cons.mpr ⟨lw_p16, List.forall_mem_cons.mpr ⟨lw_p17, List.forall_mem_cons.mpr ⟨lw_p18, List.forall_mem_cons.mpr ⟨lw_p19, List.forall_mem_cons.mpr ⟨lw_p20, List.forall_mem_cons.mpr ⟨lw_p21, List.forall_mem_cons.mpr ⟨lw_p22, List.forall_mem_cons.mpr ⟨lw_p23, List.forall_mem_cons.mpr ⟨lw_p24, List.forall_mem_cons.mpr ⟨lw_p25, List.forall_mem_cons.mpr ⟨lw_p26, List.forall_mem_cons.mpr ⟨lw_p27, List.forall_mem_cons.mpr ⟨lw_p28, List.forall_mem_cons.mpr ⟨lw_p29, List.forall_mem_cons.mpr ⟨lw_p30, List.forall_mem_cons.mpr ⟨lw_p31, fun _ h => absurd h List.not_mem_nil⟩⟩⟩⟩⟩⟩⟩⟩⟩⟩⟩⟩⟩⟩⟩⟩
theorem lw_p32 : lw_okq (⟨"SnoopFilterModel", "linesOf", "(I)I"⟩, 18) := ⟨⟨by decide +kernel, by decide +kernel⟩, List.mem_of_getElem? (i := 516) (by decide +kernel), List.mem_of_getElem? (i := 687) (by decide +kernel), List.mem_of_getElem? (i := 688) (by decide +kernel)⟩
theorem lw_p33 : lw_okq (⟨"SnoopFilterModel", "bits", "(I)I"⟩, 18) := ⟨⟨by decide +kernel, by decide +kernel⟩, List.mem_of_getElem? (i := 516) (by decide +kernel), List.mem_of_getElem? (i := 691) (by decide +kernel), List.mem_of_getElem? (i := 692) (by decide +kernel)⟩
theorem lw_p34 : lw_okq (⟨"SnoopFilterModel", "readsProgram", "(Z)I"⟩, 18) := ⟨⟨by decide +kernel, by decide +kernel⟩, List.mem_of_getElem? (i := 516) (by decide +kernel), List.mem_of_getElem? (i := 711) (by decide +kernel), List.mem_of_getElem? (i := 712) (by decide +kernel)⟩
theorem lw_p35 : lw_okq (⟨"SnoopFilterModel", "readsDeed", "()V"⟩, 18) := ⟨⟨by decide +kernel, by decide +kernel⟩, List.mem_of_getElem? (i := 516) (by decide +kernel), List.mem_of_getElem? (i := 715) (by decide +kernel), List.mem_of_getElem? (i := 716) (by decide +kernel)⟩
theorem lw_p36 : lw_okq (⟨"SnoopFilterModel", "isNext", "(II)Z"⟩, 18) := ⟨⟨by decide +kernel, by decide +kernel⟩, List.mem_of_getElem? (i := 516) (by decide +kernel), List.mem_of_getElem? (i := 719) (by decide +kernel), List.mem_of_getElem? (i := 720) (by decide +kernel)⟩
theorem lw_p37 : lw_okq (⟨"SnoopFilterModel", "number", "(I)I"⟩, 18) := ⟨⟨by decide +kernel, by decide +kernel⟩, List.mem_of_getElem? (i := 516) (by decide +kernel), List.mem_of_getElem? (i := 723) (by decide +kernel), List.mem_of_getElem? (i := 724) (by decide +kernel)⟩
theorem lw_p38 : lw_okq (⟨"SnoopFilterModel", "needs", "(I)V"⟩, 18) := ⟨⟨by decide +kernel, by decide +kernel⟩, List.mem_of_getElem? (i := 516) (by decide +kernel), List.mem_of_getElem? (i := 727) (by decide +kernel), List.mem_of_getElem? (i := 728) (by decide +kernel)⟩
theorem lw_p39 : lw_okq (⟨"SnoopFilterModel", "isDone", "()Z"⟩, 18) := ⟨⟨by decide +kernel, by decide +kernel⟩, List.mem_of_getElem? (i := 516) (by decide +kernel), List.mem_of_getElem? (i := 731) (by decide +kernel), List.mem_of_getElem? (i := 732) (by decide +kernel)⟩
theorem lw_p40 : lw_okq (⟨"SnoopFilterModel", "putAside", "()V"⟩, 18) := ⟨⟨by decide +kernel, by decide +kernel⟩, List.mem_of_getElem? (i := 516) (by decide +kernel), List.mem_of_getElem? (i := 735) (by decide +kernel), List.mem_of_getElem? (i := 736) (by decide +kernel)⟩
theorem lw_p41 : lw_okq (⟨"SnoopFilterModel", "putBack", "()V"⟩, 18) := ⟨⟨by decide +kernel, by decide +kernel⟩, List.mem_of_getElem? (i := 516) (by decide +kernel), List.mem_of_getElem? (i := 739) (by decide +kernel), List.mem_of_getElem? (i := 740) (by decide +kernel)⟩
theorem lw_p42 : lw_okq (⟨"SnoopFilterModel", "lines", "()I"⟩, 18) := ⟨⟨by decide +kernel, by decide +kernel⟩, List.mem_of_getElem? (i := 516) (by decide +kernel), List.mem_of_getElem? (i := 755) (by decide +kernel), List.mem_of_getElem? (i := 756) (by decide +kernel)⟩
theorem lw_p43 : lw_okq (⟨"SnoopFilterModel", "dirtyOf", "(I)I"⟩, 18) := ⟨⟨by decide +kernel, by decide +kernel⟩, List.mem_of_getElem? (i := 516) (by decide +kernel), List.mem_of_getElem? (i := 767) (by decide +kernel), List.mem_of_getElem? (i := 768) (by decide +kernel)⟩
theorem lw_p44 : lw_okq (⟨"SnoopFilterModel", "stuckOf", "(I)I"⟩, 18) := ⟨⟨by decide +kernel, by decide +kernel⟩, List.mem_of_getElem? (i := 516) (by decide +kernel), List.mem_of_getElem? (i := 771) (by decide +kernel), List.mem_of_getElem? (i := 772) (by decide +kernel)⟩
theorem lw_p45 : lw_okq (⟨"SnoopFilterModel", "wouldRead", "(I)I"⟩, 18) := ⟨⟨by decide +kernel, by decide +kernel⟩, List.mem_of_getElem? (i := 516) (by decide +kernel), List.mem_of_getElem? (i := 791) (by decide +kernel), List.mem_of_getElem? (i := 792) (by decide +kernel)⟩
theorem lw_p46 : lw_okq (⟨"SnoopFilterModel", "coresWith", "(IZ)I"⟩, 18) := ⟨⟨by decide +kernel, by decide +kernel⟩, List.mem_of_getElem? (i := 516) (by decide +kernel), List.mem_of_getElem? (i := 795) (by decide +kernel), List.mem_of_getElem? (i := 796) (by decide +kernel)⟩
theorem lw_p47 : lw_okq (⟨"SnoopFilterModel", "sumOf", "(I)I"⟩, 18) := ⟨⟨by decide +kernel, by decide +kernel⟩, List.mem_of_getElem? (i := 516) (by decide +kernel), List.mem_of_getElem? (i := 807) (by decide +kernel), List.mem_of_getElem? (i := 808) (by decide +kernel)⟩
def lw_privs_3 : List (MethodName × Nat) := [(⟨"SnoopFilterModel", "linesOf", "(I)I"⟩, 18), (⟨"SnoopFilterModel", "bits", "(I)I"⟩, 18), (⟨"SnoopFilterModel", "readsProgram", "(Z)I"⟩, 18), (⟨"SnoopFilterModel", "readsDeed", "()V"⟩, 18), (⟨"SnoopFilterModel", "isNext", "(II)Z"⟩, 18), (⟨"SnoopFilterModel", "number", "(I)I"⟩, 18), (⟨"SnoopFilterModel", "needs", "(I)V"⟩, 18), (⟨"SnoopFilterModel", "isDone", "()Z"⟩, 18), (⟨"SnoopFilterModel", "putAside", "()V"⟩, 18), (⟨"SnoopFilterModel", "putBack", "()V"⟩, 18), (⟨"SnoopFilterModel", "lines", "()I"⟩, 18), (⟨"SnoopFilterModel", "dirtyOf", "(I)I"⟩, 18), (⟨"SnoopFilterModel", "stuckOf", "(I)I"⟩, 18), (⟨"SnoopFilterModel", "wouldRead", "(I)I"⟩, 18), (⟨"SnoopFilterModel", "coresWith", "(IZ)I"⟩, 18), (⟨"SnoopFilterModel", "sumOf", "(I)I"⟩, 18)]
theorem lw_r3 : ∀ q ∈ lw_privs_3, lw_okq q := List.forall_mem_cons.mpr ⟨lw_p32, List.forall_mem_cons.mpr ⟨lw_p33, List.forall_mem_cons.mpr ⟨lw_p34, List.forall_mem_cons.mpr ⟨lw_p35, List.forall_mem_cons.mpr ⟨lw_p36, List.forall_mem_cons.mpr ⟨lw_p37, List.forall_mem_cons.mpr ⟨lw_p38, List.forall_mem_cons.mpr ⟨lw_p39, List.forall_mem_cons.mpr ⟨lw_p40, List.forall_mem_cons.mpr ⟨lw_p41, List.forall_mem_cons.mpr ⟨lw_p42, List.forall_mem_cons.mpr ⟨lw_p43, List.forall_mem_cons.mpr ⟨lw_p44, List.forall_mem_cons.mpr ⟨lw_p45, List.forall_mem_cons.mpr ⟨lw_p46, List.forall_mem_cons.mpr ⟨lw_p47, fun _ h => absurd h List.not_mem_nil⟩⟩⟩⟩⟩⟩⟩⟩⟩⟩⟩⟩⟩⟩⟩⟩
def lw_privs : List (MethodName × Nat) := lw_privs_1 ++ (lw_privs_2 ++ (lw_privs_3))
def lw_tbl : List Cond := k2_sels lw_privs ++ tables_1
theorem lw_privs_ok : ∀ q ∈ lw_privs, lw_okq q := by
  show ∀ q ∈ lw_privs_1 ++ (lw_privs_2 ++ (lw_privs_3)), lw_okq q
  exact List.forall_mem_append.mpr ⟨lw_r1, List.forall_mem_append.mpr ⟨lw_r2, lw_r3⟩⟩
-- ===== end of PART A; then your names; then what follows =====
/-! ===== BEGIN words of one list among another's, by their places ===== -/
theorem goodIn_r {big : List Cond} (ws : List Cond) (ps : List Nat) (hp : ws = ps.filterMap (fun i => big[i]?)) (h : ws.all goodWord = true) : GoodIn big ws := by
  intro w hw
  have h1 := List.all_eq_true.mp h w hw
  rw [hp] at hw
  obtain ⟨i, -, hi⟩ := List.mem_filterMap.mp hw
  have hm : w ∈ big := by first | exact List.mem_of_getElem? hi | exact List.getElem?_mem hi
  exact ⟨hm, good_of_word h1⟩
theorem goodIn_app {big a b : List Cond} (ha : GoodIn big a) (hb : GoodIn big b) : GoodIn big (a ++ b) := fun w h => (List.mem_append.mp h).elim (ha w) (hb w)
theorem goodIn_ca {big a b : List Cond} {c : Cond} (ha : GoodIn big (c :: a)) (hb : GoodIn big b) : GoodIn big (c :: (a ++ b)) := fun w h => (List.mem_cons.mp h).elim (fun e => ha w (List.mem_cons.mpr (Or.inl e))) (fun h => (List.mem_append.mp h).elim (fun h => ha w (List.mem_cons.mpr (Or.inr h))) (hb w))
theorem goodIn_sub {big ws : List Cond} (hm : ∀ w ∈ ws, w ∈ big) (h : ws.all goodWord = true) : GoodIn big ws := fun w hw => ⟨hm w hw, good_of_word (List.all_eq_true.mp h w hw)⟩
/-! ===== END ===== -/

/-! ===== BEGIN printed: names, fields, word lists, decode rows ===== -/
def RX0 : String := "SnoopFilter$Core"
def TX0 : u_T := fun k => match k with
  | 0 => ("SnoopFilter$Core", "lines", "[I", true)
  | 1 => ("SnoopFilter$Core", "values", "[I", true)
  | 2 => ("SnoopFilter$Core", "dirty", "[Z", true)
  | 3 => ("SnoopFilter$Core", "tallies", "[I", true)
  | _ => ("SnoopFilter$Core", "filter", "LSnoopFilter$Filter;", true)
def tyX0 : Nat → FieldType := fun k => match k with
  | 0 => .array .int
  | 1 => .array .int
  | 2 => .array .boolean
  | 3 => .array .int
  | _ => .object "SnoopFilter$Filter"
abbrev wsX00 : List Cond := u_ws RX0 TX0 5
theorem nmX0 : ∀ a, a < 5 → ∀ b, b < 5 → a ≠ b → (TX0 a).2.1 ≠ (TX0 b).2.1 := by decide +kernel
theorem tyX0_ok : ∀ k, k < 5 → parseFieldDescriptor (TX0 k).2.2.1 = some (tyX0 k) := by decide +kernel
abbrev cX0_init : ByteArray := prog_2_method_1_code
def yX0_init : MethodName := ⟨RX0, "<init>", "()V"⟩
abbrev cX0_placeOf : ByteArray := prog_2_method_2_code
def yX0_placeOf : MethodName := ⟨RX0, "placeOf", "(I)I"⟩
abbrev cX0_holds : ByteArray := prog_2_method_3_code
def yX0_holds : MethodName := ⟨RX0, "holds", "(I)Z"⟩
abbrev cX0_holdsDirty : ByteArray := prog_2_method_4_code
def yX0_holdsDirty : MethodName := ⟨RX0, "holdsDirty", "(I)Z"⟩
abbrev cX0_fill : ByteArray := prog_2_method_5_code
def yX0_fill : MethodName := ⟨RX0, "fill", "(IIZ)V"⟩
abbrev cX0_empty : ByteArray := prog_2_method_6_code
def yX0_empty : MethodName := ⟨RX0, "empty", "(I)V"⟩
abbrev cX0_release : ByteArray := prog_2_method_7_code
def yX0_release : MethodName := ⟨RX0, "release", "(I)V"⟩
abbrev cX0_isReachedBySnoop : ByteArray := prog_2_method_8_code
def yX0_isReachedBySnoop : MethodName := ⟨RX0, "isReachedBySnoop", "(I)Z"⟩
abbrev cX0_heldLines : ByteArray := prog_2_method_9_code
def yX0_heldLines : MethodName := ⟨RX0, "heldLines", "()I"⟩
abbrev cX0_dirtyLines : ByteArray := prog_2_method_10_code
def yX0_dirtyLines : MethodName := ⟨RX0, "dirtyLines", "()I"⟩
abbrev cX0_hasNothingToForget : ByteArray := prog_2_method_11_code
def yX0_hasNothingToForget : MethodName := ⟨RX0, "hasNothingToForget", "()Z"⟩
abbrev cX0_copyFrom : ByteArray := prog_2_method_12_code
def yX0_copyFrom : MethodName := ⟨RX0, "copyFrom", "(LSnoopFilter$Core;)V"⟩
def RX1 : String := "SnoopFilter$Filter"
def TX1 : u_T := fun k => match k with
  | 0 => ("SnoopFilter$Filter", "counters", "[I", true)
  | 1 => ("SnoopFilter$Filter", "stuck", "[Z", true)
  | _ => ("SnoopFilter$Filter", "bits", "[Z", true)
def tyX1 : Nat → FieldType := fun k => match k with
  | 0 => .array .int
  | 1 => .array .boolean
  | _ => .array .boolean
abbrev wsX10 : List Cond := u_ws RX1 TX1 3
theorem nmX1 : ∀ a, a < 3 → ∀ b, b < 3 → a ≠ b → (TX1 a).2.1 ≠ (TX1 b).2.1 := by decide +kernel
theorem tyX1_ok : ∀ k, k < 3 → parseFieldDescriptor (TX1 k).2.2.1 = some (tyX1 k) := by decide +kernel
abbrev cX1_init : ByteArray := prog_3_method_1_code
def yX1_init : MethodName := ⟨RX1, "<init>", "()V"⟩
abbrev cX1_firstCounter : ByteArray := prog_3_method_2_code
def yX1_firstCounter : MethodName := ⟨RX1, "firstCounter", "(I)I"⟩
abbrev cX1_secondCounter : ByteArray := prog_3_method_3_code
def yX1_secondCounter : MethodName := ⟨RX1, "secondCounter", "(I)I"⟩
abbrev cX1_add : ByteArray := prog_3_method_4_code
def yX1_add : MethodName := ⟨RX1, "add", "(II)V"⟩
abbrev cX1_raise : ByteArray := prog_3_method_5_code
def yX1_raise : MethodName := ⟨RX1, "raise", "(II)V"⟩
abbrev cX1_remove : ByteArray := prog_3_method_6_code
def yX1_remove : MethodName := ⟨RX1, "remove", "(I)V"⟩
abbrev cX1_lower : ByteArray := prog_3_method_7_code
def yX1_lower : MethodName := ⟨RX1, "lower", "(I)V"⟩
abbrev cX1_hasBitOf : ByteArray := prog_3_method_8_code
def yX1_hasBitOf : MethodName := ⟨RX1, "hasBitOf", "(I)Z"⟩
abbrev cX1_mayHave : ByteArray := prog_3_method_9_code
def yX1_mayHave : MethodName := ⟨RX1, "mayHave", "(I)Z"⟩
abbrev cX1_countersAboveZero : ByteArray := prog_3_method_10_code
def yX1_countersAboveZero : MethodName := ⟨RX1, "countersAboveZero", "()I"⟩
abbrev cX1_stuckCounters : ByteArray := prog_3_method_11_code
def yX1_stuckCounters : MethodName := ⟨RX1, "stuckCounters", "()I"⟩
abbrev cX1_bitsThatAreOne : ByteArray := prog_3_method_12_code
def yX1_bitsThatAreOne : MethodName := ⟨RX1, "bitsThatAreOne", "()I"⟩
abbrev cX1_wipe : ByteArray := prog_3_method_13_code
def yX1_wipe : MethodName := ⟨RX1, "wipe", "()V"⟩
abbrev cX1_copyFrom : ByteArray := prog_3_method_14_code
def yX1_copyFrom : MethodName := ⟨RX1, "copyFrom", "(LSnoopFilter$Filter;)V"⟩
def RX2 : String := "SnoopFilter$History"
def TX2 : u_T := fun k => match k with
  | 0 => ("SnoopFilter$History", "states", "[LSnoopFilter$Machine;", true)
  | 1 => ("SnoopFilter$History", "oldest", "I", false)
  | _ => ("SnoopFilter$History", "size", "I", false)
def tyX2 : Nat → FieldType := fun k => match k with
  | 0 => .array (.object "SnoopFilter$Machine")
  | 1 => .int
  | _ => .int
abbrev wsX20 : List Cond := u_ws RX2 TX2 3
theorem nmX2 : ∀ a, a < 3 → ∀ b, b < 3 → a ≠ b → (TX2 a).2.1 ≠ (TX2 b).2.1 := by decide +kernel
theorem tyX2_ok : ∀ k, k < 3 → parseFieldDescriptor (TX2 k).2.2.1 = some (tyX2 k) := by decide +kernel
abbrev cX2_init : ByteArray := prog_4_method_1_code
def yX2_init : MethodName := ⟨RX2, "<init>", "()V"⟩
abbrev cX2_record : ByteArray := prog_4_method_2_code
def yX2_record : MethodName := ⟨RX2, "record", "(LSnoopFilter$Machine;)V"⟩
abbrev cX2_takeLatest : ByteArray := prog_4_method_3_code
def yX2_takeLatest : MethodName := ⟨RX2, "takeLatest", "(LSnoopFilter$Machine;)V"⟩
def RX3 : String := "SnoopFilter$Machine"
def TX3 : u_T := fun k => match k with
  | 0 => ("SnoopFilter$Machine", "memory", "[I", true)
  | 1 => ("SnoopFilter$Machine", "cores", "[LSnoopFilter$Core;", true)
  | 2 => ("SnoopFilter$Machine", "limit", "I", false)
  | 3 => ("SnoopFilter$Machine", "fullFrom", "I", false)
  | 4 => ("SnoopFilter$Machine", "writtenBack", "I", false)
  | _ => ("SnoopFilter$Machine", "writings", "I", false)
def tyX3 : Nat → FieldType := fun k => match k with
  | 0 => .array .int
  | 1 => .array (.object "SnoopFilter$Core")
  | 2 => .int
  | 3 => .int
  | 4 => .int
  | _ => .int
abbrev wsX30 : List Cond := u_ws RX3 TX3 6
theorem nmX3 : ∀ a, a < 6 → ∀ b, b < 6 → a ≠ b → (TX3 a).2.1 ≠ (TX3 b).2.1 := by decide +kernel
theorem tyX3_ok : ∀ k, k < 6 → parseFieldDescriptor (TX3 k).2.2.1 = some (tyX3 k) := by decide +kernel
abbrev cX3_init : ByteArray := prog_5_method_1_code
def yX3_init : MethodName := ⟨RX3, "<init>", "()V"⟩
abbrev cX3_readLine : ByteArray := prog_5_method_2_code
def yX3_readLine : MethodName := ⟨RX3, "readLine", "(II)I"⟩
abbrev cX3_writeLine : ByteArray := prog_5_method_3_code
def yX3_writeLine : MethodName := ⟨RX3, "writeLine", "(III)I"⟩
abbrev cX3_takeFromOthers : ByteArray := prog_5_method_4_code
def yX3_takeFromOthers : MethodName := ⟨RX3, "takeFromOthers", "(II)I"⟩
abbrev cX3_dropLine : ByteArray := prog_5_method_5_code
def yX3_dropLine : MethodName := ⟨RX3, "dropLine", "(II)I"⟩
abbrev cX3_forgetOnPurpose : ByteArray := prog_5_method_6_code
def yX3_forgetOnPurpose : MethodName := ⟨RX3, "forgetOnPurpose", "(I)I"⟩
abbrev cX3_beginToHold : ByteArray := prog_5_method_7_code
def yX3_beginToHold : MethodName := ⟨RX3, "beginToHold", "(LSnoopFilter$Core;IIZ)V"⟩
abbrev cX3_forgetAllBut : ByteArray := prog_5_method_8_code
def yX3_forgetAllBut : MethodName := ⟨RX3, "forgetAllBut", "(LSnoopFilter$Core;I)I"⟩
abbrev cX3_vacate : ByteArray := prog_5_method_9_code
def yX3_vacate : MethodName := ⟨RX3, "vacate", "(LSnoopFilter$Core;I)V"⟩
abbrev cX3_writeBack : ByteArray := prog_5_method_10_code
def yX3_writeBack : MethodName := ⟨RX3, "writeBack", "(LSnoopFilter$Core;I)V"⟩
abbrev cX3_valueForReader : ByteArray := prog_5_method_11_code
def yX3_valueForReader : MethodName := ⟨RX3, "valueForReader", "(I)I"⟩
abbrev cX3_holdersOf : ByteArray := prog_5_method_12_code
def yX3_holdersOf : MethodName := ⟨RX3, "holdersOf", "(I)I"⟩
abbrev cX3_coresThatMayHave : ByteArray := prog_5_method_13_code
def yX3_coresThatMayHave : MethodName := ⟨RX3, "coresThatMayHave", "(I)I"⟩
abbrev cX3_sumOf : ByteArray := prog_5_method_14_code
def yX3_sumOf : MethodName := ⟨RX3, "sumOf", "(I)I"⟩
abbrev cX3_heldByAll : ByteArray := prog_5_method_15_code
def yX3_heldByAll : MethodName := ⟨RX3, "heldByAll", "()I"⟩
abbrev cX3_dirtyOfAll : ByteArray := prog_5_method_16_code
def yX3_dirtyOfAll : MethodName := ⟨RX3, "dirtyOfAll", "()I"⟩
abbrev cX3_copyFrom : ByteArray := prog_5_method_17_code
def yX3_copyFrom : MethodName := ⟨RX3, "copyFrom", "(LSnoopFilter$Machine;)V"⟩
def RX4 : String := "SnoopFilter$Program"
def TX4 : u_T := fun k => match k with
  | 0 => ("SnoopFilter$Program", "text", "[C", true)
  | 1 => ("SnoopFilter$Program", "kinds", "[C", true)
  | 2 => ("SnoopFilter$Program", "coresOf", "[I", true)
  | 3 => ("SnoopFilter$Program", "linesOf", "[I", true)
  | 4 => ("SnoopFilter$Program", "valuesOf", "[I", true)
  | 5 => ("SnoopFilter$Program", "length", "I", false)
  | 6 => ("SnoopFilter$Program", "commands", "I", false)
  | _ => ("SnoopFilter$Program", "at", "I", false)
def tyX4 : Nat → FieldType := fun k => match k with
  | 0 => .array .char
  | 1 => .array .char
  | 2 => .array .int
  | 3 => .array .int
  | 4 => .array .int
  | 5 => .int
  | 6 => .int
  | _ => .int
abbrev wsX40 : List Cond := u_ws RX4 TX4 8
theorem nmX4 : ∀ a, a < 8 → ∀ b, b < 8 → a ≠ b → (TX4 a).2.1 ≠ (TX4 b).2.1 := by decide +kernel
theorem tyX4_ok : ∀ k, k < 8 → parseFieldDescriptor (TX4 k).2.2.1 = some (tyX4 k) := by decide +kernel
abbrev cX4_init : ByteArray := prog_6_method_1_code
def yX4_init : MethodName := ⟨RX4, "<init>", "()V"⟩
abbrev cX4_append : ByteArray := prog_6_method_2_code
def yX4_append : MethodName := ⟨RX4, "append", "(C)Z"⟩
abbrev cX4_findFault : ByteArray := prog_6_method_3_code
def yX4_findFault : MethodName := ⟨RX4, "findFault", "()I"⟩
abbrev cX4_takesCommand : ByteArray := prog_6_method_4_code
def yX4_takesCommand : MethodName := ⟨RX4, "takesCommand", "(I)Z"⟩
abbrev cX4_takesLineAndValue : ByteArray := prog_6_method_5_code
def yX4_takesLineAndValue : MethodName := ⟨RX4, "takesLineAndValue", "(I)Z"⟩
abbrev cX4_takes : ByteArray := prog_6_method_6_code
def yX4_takes : MethodName := ⟨RX4, "takes", "(C)Z"⟩
abbrev cX4_isDigitUpTo : ByteArray := prog_6_method_7_code
def yX4_isDigitUpTo : MethodName := ⟨RX4, "isDigitUpTo", "(I)Z"⟩
abbrev cX4_takeNumber : ByteArray := prog_6_method_8_code
def yX4_takeNumber : MethodName := ⟨RX4, "takeNumber", "(I)I"⟩
abbrev cX4_isReading : ByteArray := prog_6_method_9_code
def yX4_isReading : MethodName := ⟨RX4, "isReading", "(I)Z"⟩
abbrev cX4_runCommand : ByteArray := prog_6_method_10_code
def yX4_runCommand : MethodName := ⟨RX4, "runCommand", "(ILSnoopFilter$Machine;)I"⟩
def RX5 : String := "SnoopFilter"
def TX5 : u_T := fun k => match k with
  | 0 => ("SnoopFilter", "now", "LSnoopFilter$Machine;", true)
  | 1 => ("SnoopFilter", "trial", "LSnoopFilter$Machine;", true)
  | 2 => ("SnoopFilter", "snapshot", "LSnoopFilter$Machine;", true)
  | 3 => ("SnoopFilter", "history", "LSnoopFilter$History;", true)
  | 4 => ("SnoopFilter", "program", "LSnoopFilter$Program;", true)
  | 5 => ("SnoopFilter", "hasSnapshot", "Z", false)
  | 6 => ("SnoopFilter", "hasStop", "Z", false)
  | 7 => ("SnoopFilter", "stopNumber", "I", false)
  | _ => ("SnoopFilter", "stopError", "I", false)
def tyX5 : Nat → FieldType := fun k => match k with
  | 0 => .object "SnoopFilter$Machine"
  | 1 => .object "SnoopFilter$Machine"
  | 2 => .object "SnoopFilter$Machine"
  | 3 => .object "SnoopFilter$History"
  | 4 => .object "SnoopFilter$Program"
  | 5 => .boolean
  | 6 => .boolean
  | 7 => .int
  | _ => .int
abbrev wsX50 : List Cond := u_ws RX5 TX5 9
theorem nmX5 : ∀ a, a < 9 → ∀ b, b < 9 → a ≠ b → (TX5 a).2.1 ≠ (TX5 b).2.1 := by decide +kernel
theorem tyX5_ok : ∀ k, k < 9 → parseFieldDescriptor (TX5 k).2.2.1 = some (tyX5 k) := by decide +kernel
abbrev cX5_init : ByteArray := prog_1_method_1_code
def yX5_init : MethodName := ⟨RX5, "<init>", "()V"⟩
abbrev cX5_read : ByteArray := prog_1_method_2_code
def yX5_read : MethodName := ⟨RX5, "read", "(II)I"⟩
abbrev cX5_write : ByteArray := prog_1_method_3_code
def yX5_write : MethodName := ⟨RX5, "write", "(III)I"⟩
abbrev cX5_drop : ByteArray := prog_1_method_4_code
def yX5_drop : MethodName := ⟨RX5, "drop", "(II)I"⟩
abbrev cX5_forget : ByteArray := prog_1_method_5_code
def yX5_forget : MethodName := ⟨RX5, "forget", "(I)I"⟩
abbrev cX5_set : ByteArray := prog_1_method_6_code
def yX5_set : MethodName := ⟨RX5, "set", "(II)I"⟩
abbrev cX5_type : ByteArray := prog_1_method_7_code
def yX5_type : MethodName := ⟨RX5, "type", "(C)I"⟩
abbrev cX5_clearText : ByteArray := prog_1_method_8_code
def yX5_clearText : MethodName := ⟨RX5, "clearText", "()I"⟩
abbrev cX5_perform : ByteArray := prog_1_method_9_code
def yX5_perform : MethodName := ⟨RX5, "perform", "()I"⟩
abbrev cX5_stopped : ByteArray := prog_1_method_10_code
def yX5_stopped : MethodName := ⟨RX5, "stopped", "(I)I"⟩
abbrev cX5_undo : ByteArray := prog_1_method_11_code
def yX5_undo : MethodName := ⟨RX5, "undo", "()I"⟩
abbrev cX5_keep : ByteArray := prog_1_method_12_code
def yX5_keep : MethodName := ⟨RX5, "keep", "()I"⟩
abbrev cX5_restore : ByteArray := prog_1_method_13_code
def yX5_restore : MethodName := ⟨RX5, "restore", "()I"⟩
abbrev cX5_core : ByteArray := prog_1_method_14_code
def yX5_core : MethodName := ⟨RX5, "core", "(II)I"⟩
abbrev cX5_held : ByteArray := prog_1_method_15_code
def yX5_held : MethodName := ⟨RX5, "held", "(III)I"⟩
abbrev cX5_counter : ByteArray := prog_1_method_16_code
def yX5_counter : MethodName := ⟨RX5, "counter", "(II)I"⟩
abbrev cX5_bit : ByteArray := prog_1_method_17_code
def yX5_bit : MethodName := ⟨RX5, "bit", "(II)I"⟩
abbrev cX5_line : ByteArray := prog_1_method_18_code
def yX5_line : MethodName := ⟨RX5, "line", "(II)I"⟩
abbrev cX5_reason : ByteArray := prog_1_method_19_code
def yX5_reason : MethodName := ⟨RX5, "reason", "(II)I"⟩
abbrev cX5_cost : ByteArray := prog_1_method_20_code
def yX5_cost : MethodName := ⟨RX5, "cost", "(IIZI)I"⟩
abbrev cX5_vain : ByteArray := prog_1_method_21_code
def yX5_vain : MethodName := ⟨RX5, "vain", "(I)I"⟩
abbrev cX5_worst : ByteArray := prog_1_method_22_code
def yX5_worst : MethodName := ⟨RX5, "worst", "()I"⟩
abbrev cX5_count : ByteArray := prog_1_method_23_code
def yX5_count : MethodName := ⟨RX5, "count", "(I)I"⟩
abbrev cX5_isWithin : ByteArray := prog_1_method_24_code
def yX5_isWithin : MethodName := ⟨RX5, "isWithin", "(III)Z"⟩
abbrev cX5_isCore : ByteArray := prog_1_method_25_code
def yX5_isCore : MethodName := ⟨RX5, "isCore", "(I)Z"⟩
abbrev cX5_isLine : ByteArray := prog_1_method_26_code
def yX5_isLine : MethodName := ⟨RX5, "isLine", "(I)Z"⟩
abbrev cX5_howManyAreTrue : ByteArray := prog_1_method_27_code
def yX5_howManyAreTrue : MethodName := ⟨RX5, "howManyAreTrue", "([Z)I"⟩
abbrev cX5_noteStop : ByteArray := prog_1_method_28_code
def yX5_noteStop : MethodName := ⟨RX5, "noteStop", "(II)V"⟩
def RX6 : String := "SnoopFilterModel"
def TX6 : u_T := fun k => match k with
  | 0 => ("SnoopFilterModel", "s", "[I", true)
  | 1 => ("SnoopFilterModel", "aside", "[I", true)
  | 2 => ("SnoopFilterModel", "history", "[I", true)
  | 3 => ("SnoopFilterModel", "known", "I", false)
  | 4 => ("SnoopFilterModel", "snapshot", "[I", true)
  | 5 => ("SnoopFilterModel", "isKept", "Z", false)
  | 6 => ("SnoopFilterModel", "text", "[I", true)
  | 7 => ("SnoopFilterModel", "length", "I", false)
  | 8 => ("SnoopFilterModel", "stop", "I", false)
  | 9 => ("SnoopFilterModel", "stopError", "I", false)
  | 10 => ("SnoopFilterModel", "spot", "I", false)
  | 11 => ("SnoopFilterModel", "isWrong", "Z", false)
  | 12 => ("SnoopFilterModel", "letter", "I", false)
  | 13 => ("SnoopFilterModel", "deedCore", "I", false)
  | 14 => ("SnoopFilterModel", "deedLine", "I", false)
  | 15 => ("SnoopFilterModel", "deedValue", "I", false)
  | 16 => ("SnoopFilterModel", "sum", "I", false)
  | _ => ("SnoopFilterModel", "stopNow", "I", false)
def tyX6 : Nat → FieldType := fun k => match k with
  | 0 => .array .int
  | 1 => .array .int
  | 2 => .array .int
  | 3 => .int
  | 4 => .array .int
  | 5 => .boolean
  | 6 => .array .int
  | 7 => .int
  | 8 => .int
  | 9 => .int
  | 10 => .int
  | 11 => .boolean
  | 12 => .int
  | 13 => .int
  | 14 => .int
  | 15 => .int
  | 16 => .int
  | _ => .int
abbrev wsX60 : List Cond := u_ws RX6 TX6 18
theorem nmX6 : ∀ a, a < 18 → ∀ b, b < 18 → a ≠ b → (TX6 a).2.1 ≠ (TX6 b).2.1 := by decide +kernel
theorem tyX6_ok : ∀ k, k < 18 → parseFieldDescriptor (TX6 k).2.2.1 = some (tyX6 k) := by decide +kernel
abbrev cX6_init : ByteArray := prog_8_method_1_code
def yX6_init : MethodName := ⟨RX6, "<init>", "()V"⟩
abbrev cX6_in : ByteArray := prog_8_method_2_code
def yX6_in : MethodName := ⟨RX6, "in", "(III)Z"⟩
abbrev cX6_isCore : ByteArray := prog_8_method_3_code
def yX6_isCore : MethodName := ⟨RX6, "isCore", "(I)Z"⟩
abbrev cX6_isLine : ByteArray := prog_8_method_4_code
def yX6_isLine : MethodName := ⟨RX6, "isLine", "(I)Z"⟩
abbrev cX6_placeOf : ByteArray := prog_8_method_5_code
def yX6_placeOf : MethodName := ⟨RX6, "placeOf", "(II)I"⟩
abbrev cX6_told : ByteArray := prog_8_method_6_code
def yX6_told : MethodName := ⟨RX6, "told", "(II)I"⟩
abbrev cX6_record : ByteArray := prog_8_method_7_code
def yX6_record : MethodName := ⟨RX6, "record", "()V"⟩
abbrev cX6_putAside : ByteArray := prog_8_method_8_code
def yX6_putAside : MethodName := ⟨RX6, "putAside", "()V"⟩
abbrev cX6_putBack : ByteArray := prog_8_method_9_code
def yX6_putBack : MethodName := ⟨RX6, "putBack", "()V"⟩
abbrev cX6_counterOf : ByteArray := prog_8_method_10_code
def yX6_counterOf : MethodName := ⟨RX6, "counterOf", "(II)I"⟩
abbrev cX6_counterAt : ByteArray := prog_8_method_11_code
def yX6_counterAt : MethodName := ⟨RX6, "counterAt", "(III)I"⟩
abbrev cX6_counts : ByteArray := prog_8_method_12_code
def yX6_counts : MethodName := ⟨RX6, "counts", "(III)V"⟩
abbrev cX6_stuckOf : ByteArray := prog_8_method_13_code
def yX6_stuckOf : MethodName := ⟨RX6, "stuckOf", "(I)I"⟩
abbrev cX6_isBit : ByteArray := prog_8_method_14_code
def yX6_isBit : MethodName := ⟨RX6, "isBit", "(II)Z"⟩
abbrev cX6_mayHave : ByteArray := prog_8_method_15_code
def yX6_mayHave : MethodName := ⟨RX6, "mayHave", "(II)Z"⟩
abbrev cX6_countersFrom : ByteArray := prog_8_method_16_code
def yX6_countersFrom : MethodName := ⟨RX6, "countersFrom", "(II)I"⟩
abbrev cX6_bits : ByteArray := prog_8_method_17_code
def yX6_bits : MethodName := ⟨RX6, "bits", "(I)I"⟩
abbrev cX6_clears : ByteArray := prog_8_method_18_code
def yX6_clears : MethodName := ⟨RX6, "clears", "(I)V"⟩
abbrev cX6_holds : ByteArray := prog_8_method_19_code
def yX6_holds : MethodName := ⟨RX6, "holds", "(II)Z"⟩
abbrev cX6_writesBack : ByteArray := prog_8_method_20_code
def yX6_writesBack : MethodName := ⟨RX6, "writesBack", "(I)V"⟩
abbrev cX6_leaves : ByteArray := prog_8_method_21_code
def yX6_leaves : MethodName := ⟨RX6, "leaves", "(II)V"⟩
abbrev cX6_notes : ByteArray := prog_8_method_22_code
def yX6_notes : MethodName := ⟨RX6, "notes", "(II)V"⟩
abbrev cX6_forgets : ByteArray := prog_8_method_23_code
def yX6_forgets : MethodName := ⟨RX6, "forgets", "(II)I"⟩
abbrev cX6_begins : ByteArray := prog_8_method_24_code
def yX6_begins : MethodName := ⟨RX6, "begins", "(IIII)V"⟩
abbrev cX6_isSnooped : ByteArray := prog_8_method_25_code
def yX6_isSnooped : MethodName := ⟨RX6, "isSnooped", "(IIZ)Z"⟩
abbrev cX6_snoops : ByteArray := prog_8_method_26_code
def yX6_snoops : MethodName := ⟨RX6, "snoops", "(IIZ)I"⟩
abbrev cX6_reads : ByteArray := prog_8_method_27_code
def yX6_reads : MethodName := ⟨RX6, "reads", "(II)I"⟩
abbrev cX6_writes : ByteArray := prog_8_method_28_code
def yX6_writes : MethodName := ⟨RX6, "writes", "(III)I"⟩
abbrev cX6_drops : ByteArray := prog_8_method_29_code
def yX6_drops : MethodName := ⟨RX6, "drops", "(II)I"⟩
abbrev cX6_linesOf : ByteArray := prog_8_method_30_code
def yX6_linesOf : MethodName := ⟨RX6, "linesOf", "(I)I"⟩
abbrev cX6_isEmpty : ByteArray := prog_8_method_31_code
def yX6_isEmpty : MethodName := ⟨RX6, "isEmpty", "(I)Z"⟩
abbrev cX6_read : ByteArray := prog_8_method_32_code
def yX6_read : MethodName := ⟨RX6, "read", "(II)I"⟩
abbrev cX6_write : ByteArray := prog_8_method_33_code
def yX6_write : MethodName := ⟨RX6, "write", "(III)I"⟩
abbrev cX6_drop : ByteArray := prog_8_method_34_code
def yX6_drop : MethodName := ⟨RX6, "drop", "(II)I"⟩
abbrev cX6_forget : ByteArray := prog_8_method_35_code
def yX6_forget : MethodName := ⟨RX6, "forget", "(I)I"⟩
abbrev cX6_set : ByteArray := prog_8_method_36_code
def yX6_set : MethodName := ⟨RX6, "set", "(II)I"⟩
abbrev cX6_type : ByteArray := prog_8_method_37_code
def yX6_type : MethodName := ⟨RX6, "type", "(C)I"⟩
abbrev cX6_clearText : ByteArray := prog_8_method_38_code
def yX6_clearText : MethodName := ⟨RX6, "clearText", "()I"⟩
abbrev cX6_isNext : ByteArray := prog_8_method_39_code
def yX6_isNext : MethodName := ⟨RX6, "isNext", "(II)Z"⟩
abbrev cX6_needs : ByteArray := prog_8_method_40_code
def yX6_needs : MethodName := ⟨RX6, "needs", "(I)V"⟩
abbrev cX6_number : ByteArray := prog_8_method_41_code
def yX6_number : MethodName := ⟨RX6, "number", "(I)I"⟩
abbrev cX6_readsDeed : ByteArray := prog_8_method_42_code
def yX6_readsDeed : MethodName := ⟨RX6, "readsDeed", "()V"⟩
abbrev cX6_isDone : ByteArray := prog_8_method_43_code
def yX6_isDone : MethodName := ⟨RX6, "isDone", "()Z"⟩
abbrev cX6_readsProgram : ByteArray := prog_8_method_44_code
def yX6_readsProgram : MethodName := ⟨RX6, "readsProgram", "(Z)I"⟩
abbrev cX6_perform : ByteArray := prog_8_method_45_code
def yX6_perform : MethodName := ⟨RX6, "perform", "()I"⟩
abbrev cX6_stopped : ByteArray := prog_8_method_46_code
def yX6_stopped : MethodName := ⟨RX6, "stopped", "(I)I"⟩
abbrev cX6_lines : ByteArray := prog_8_method_47_code
def yX6_lines : MethodName := ⟨RX6, "lines", "()I"⟩
abbrev cX6_undo : ByteArray := prog_8_method_48_code
def yX6_undo : MethodName := ⟨RX6, "undo", "()I"⟩
abbrev cX6_keep : ByteArray := prog_8_method_49_code
def yX6_keep : MethodName := ⟨RX6, "keep", "()I"⟩
abbrev cX6_restore : ByteArray := prog_8_method_50_code
def yX6_restore : MethodName := ⟨RX6, "restore", "()I"⟩
abbrev cX6_dirtyOf : ByteArray := prog_8_method_51_code
def yX6_dirtyOf : MethodName := ⟨RX6, "dirtyOf", "(I)I"⟩
abbrev cX6_core : ByteArray := prog_8_method_52_code
def yX6_core : MethodName := ⟨RX6, "core", "(II)I"⟩
abbrev cX6_held : ByteArray := prog_8_method_53_code
def yX6_held : MethodName := ⟨RX6, "held", "(III)I"⟩
abbrev cX6_counter : ByteArray := prog_8_method_54_code
def yX6_counter : MethodName := ⟨RX6, "counter", "(II)I"⟩
abbrev cX6_bit : ByteArray := prog_8_method_55_code
def yX6_bit : MethodName := ⟨RX6, "bit", "(II)I"⟩
abbrev cX6_wouldRead : ByteArray := prog_8_method_56_code
def yX6_wouldRead : MethodName := ⟨RX6, "wouldRead", "(I)I"⟩
abbrev cX6_coresWith : ByteArray := prog_8_method_57_code
def yX6_coresWith : MethodName := ⟨RX6, "coresWith", "(IZ)I"⟩
abbrev cX6_line : ByteArray := prog_8_method_58_code
def yX6_line : MethodName := ⟨RX6, "line", "(II)I"⟩
abbrev cX6_reason : ByteArray := prog_8_method_59_code
def yX6_reason : MethodName := ⟨RX6, "reason", "(II)I"⟩
abbrev cX6_sumOf : ByteArray := prog_8_method_60_code
def yX6_sumOf : MethodName := ⟨RX6, "sumOf", "(I)I"⟩
abbrev cX6_cost : ByteArray := prog_8_method_61_code
def yX6_cost : MethodName := ⟨RX6, "cost", "(IIZI)I"⟩
abbrev cX6_vain : ByteArray := prog_8_method_62_code
def yX6_vain : MethodName := ⟨RX6, "vain", "(I)I"⟩
abbrev cX6_worst : ByteArray := prog_8_method_63_code
def yX6_worst : MethodName := ⟨RX6, "worst", "()I"⟩
abbrev cX6_count : ByteArray := prog_8_method_64_code
def yX6_count : MethodName := ⟨RX6, "count", "(I)I"⟩
def RJ10 : String := "java/lang/System"
def TJ10 : u_T := fun k => match k with
  | _ => ("", "", "", false)
def tyJ10 : Nat → FieldType := fun k => match k with
  | _ => .int
abbrev wsJ100 : List Cond := u_ws RJ10 TJ10 0
theorem nmJ10 : ∀ a, a < 0 → ∀ b, b < 0 → a ≠ b → (TJ10 a).2.1 ≠ (TJ10 b).2.1 := by decide +kernel
theorem tyJ10_ok : ∀ k, k < 0 → parseFieldDescriptor (TJ10 k).2.2.1 = some (tyJ10 k) := by decide +kernel
def RL : String := "SnoopFilterLaw"
abbrev cL_law : ByteArray := code
def yL_law : MethodName := ⟨RL, "law", "([I)Z"⟩
def wsX1_init : List Cond := .code yX1_init cX1_init 1 none :: ([.methodLink RX1 3 objectInit, .instanceMethod objectInit, .code objectInit ⟨#[0xb1]⟩ 1 none, .arrayClass .int, .fieldLink RX1 9 "SnoopFilter$Filter" "counters" "[I", .arrayClass .boolean, .fieldLink RX1 15 "SnoopFilter$Filter" "stuck" "[Z", .fieldLink RX1 19 "SnoopFilter$Filter" "bits" "[Z"] ++ wsX10)
def wsX0_init : List Cond := .code yX0_init cX0_init 2 none :: ([.methodLink RX0 3 objectInit, .instanceMethod objectInit, .code objectInit ⟨#[0xb1]⟩ 1 none, .arrayClass .int, .fieldLink RX0 9 "SnoopFilter$Core" "lines" "[I", .fieldLink RX0 15 "SnoopFilter$Core" "values" "[I", .arrayClass .boolean, .fieldLink RX0 18 "SnoopFilter$Core" "dirty" "[Z", .fieldLink RX0 22 "SnoopFilter$Core" "tallies" "[I", .classLink RX0 25 RX1, .instantiable RX1 3, .initialized RX1, .fieldLink RX0 28 "SnoopFilter$Core" "filter" "LSnoopFilter$Filter;", .instanceMethod yX1_init, .code yX1_init cX1_init 1 none, .methodLink RX1 3 objectInit, .fieldLink RX1 9 "SnoopFilter$Filter" "counters" "[I", .fieldLink RX1 15 "SnoopFilter$Filter" "stuck" "[Z", .fieldLink RX1 19 "SnoopFilter$Filter" "bits" "[Z"] ++ wsX00 ++ wsX10)
def wsX0_placeOf : List Cond := .code yX0_placeOf cX0_placeOf 1 (some .int) :: ([])
def wsX0_holds : List Cond := .code yX0_holds cX0_holds 2 (some .boolean) :: ([.fieldLink RX0 9 "SnoopFilter$Core" "lines" "[I", .methodLink RX0 32 yX0_placeOf, .static yX0_placeOf, .initialized RX0, .code yX0_placeOf cX0_placeOf 1 (some .int)] ++ wsX00)
def wsX0_holdsDirty : List Cond := .code yX0_holdsDirty cX0_holdsDirty 2 (some .boolean) :: ([.fieldLink RX0 18 "SnoopFilter$Core" "dirty" "[Z", .methodLink RX0 36 yX0_holds, .instanceMethod yX0_holds, .selects RX0 yX0_holds yX0_holds, .initialized RX0, .code yX0_holds cX0_holds 2 (some .boolean), .fieldLink RX0 9 "SnoopFilter$Core" "lines" "[I", .methodLink RX0 32 yX0_placeOf, .static yX0_placeOf, .code yX0_placeOf cX0_placeOf 1 (some .int)] ++ wsX00)
def wsX0_fill : List Cond := .code yX0_fill cX0_fill 5 none :: ([.fieldLink RX0 9 "SnoopFilter$Core" "lines" "[I", .fieldLink RX0 15 "SnoopFilter$Core" "values" "[I", .fieldLink RX0 18 "SnoopFilter$Core" "dirty" "[Z", .methodLink RX0 32 yX0_placeOf, .static yX0_placeOf, .initialized RX0, .code yX0_placeOf cX0_placeOf 1 (some .int)] ++ wsX00)
def wsX0_empty : List Cond := .code yX0_empty cX0_empty 2 none :: ([.fieldLink RX0 9 "SnoopFilter$Core" "lines" "[I", .fieldLink RX0 18 "SnoopFilter$Core" "dirty" "[Z"] ++ wsX00)
def wsX1_firstCounter : List Cond := .code yX1_firstCounter cX1_firstCounter 1 (some .int) :: ([])
def wsX1_lower : List Cond := .code yX1_lower cX1_lower 2 none :: ([.fieldLink RX1 15 "SnoopFilter$Filter" "stuck" "[Z", .fieldLink RX1 9 "SnoopFilter$Filter" "counters" "[I"] ++ wsX10)
def wsX1_secondCounter : List Cond := .code yX1_secondCounter cX1_secondCounter 1 (some .int) :: ([])
def wsX1_remove : List Cond := .code yX1_remove cX1_remove 2 none :: ([.methodLink RX1 22 yX1_firstCounter, .static yX1_firstCounter, .initialized RX1, .code yX1_firstCounter cX1_firstCounter 1 (some .int), .methodLink RX1 33 yX1_lower, .instanceMethod yX1_lower, .selects RX1 yX1_lower yX1_lower, .code yX1_lower cX1_lower 2 none, .fieldLink RX1 15 "SnoopFilter$Filter" "stuck" "[Z", .fieldLink RX1 9 "SnoopFilter$Filter" "counters" "[I", .methodLink RX1 30 yX1_secondCounter, .static yX1_secondCounter, .code yX1_secondCounter cX1_secondCounter 1 (some .int)] ++ wsX10)
def wsX0_release_r1 : List Cond := [Cond.fieldLink RX0 28 "SnoopFilter$Core" "filter" "LSnoopFilter$Filter;", Cond.methodLink RX0 40 yX1_remove, Cond.instanceMethod yX1_remove, Cond.selects RX1 yX1_remove yX1_remove, Cond.initialized RX1, Cond.code yX1_remove cX1_remove 2 none, Cond.methodLink RX1 22 yX1_firstCounter, Cond.static yX1_firstCounter, Cond.code yX1_firstCounter cX1_firstCounter 1 (some .int), Cond.methodLink RX1 33 yX1_lower, Cond.instanceMethod yX1_lower, Cond.selects RX1 yX1_lower yX1_lower, Cond.code yX1_lower cX1_lower 2 none, Cond.fieldLink RX1 15 "SnoopFilter$Filter" "stuck" "[Z", Cond.fieldLink RX1 9 "SnoopFilter$Filter" "counters" "[I", Cond.methodLink RX1 30 yX1_secondCounter, Cond.static yX1_secondCounter, Cond.code yX1_secondCounter cX1_secondCounter 1 (some .int), Cond.methodLink RX0 32 yX0_placeOf, Cond.static yX0_placeOf, Cond.initialized RX0, Cond.code yX0_placeOf cX0_placeOf 1 (some .int), Cond.methodLink RX0 44 yX0_empty, Cond.instanceMethod yX0_empty]
def wsX0_release_r2 : List Cond := [Cond.selects RX0 yX0_empty yX0_empty, Cond.code yX0_empty cX0_empty 2 none, Cond.fieldLink RX0 9 "SnoopFilter$Core" "lines" "[I", Cond.fieldLink RX0 18 "SnoopFilter$Core" "dirty" "[Z"]
def wsX0_release : List Cond := .code yX0_release cX0_release 2 none :: ((wsX0_release_r1 ++ wsX0_release_r2) ++ wsX00 ++ wsX10)
def wsX1_hasBitOf : List Cond := .code yX1_hasBitOf cX1_hasBitOf 2 (some .boolean) :: ([.fieldLink RX1 19 "SnoopFilter$Filter" "bits" "[Z"] ++ wsX10)
def wsX1_mayHave : List Cond := .code yX1_mayHave cX1_mayHave 2 (some .boolean) :: ([.fieldLink RX1 9 "SnoopFilter$Filter" "counters" "[I", .methodLink RX1 37 yX1_hasBitOf, .instanceMethod yX1_hasBitOf, .selects RX1 yX1_hasBitOf yX1_hasBitOf, .initialized RX1, .code yX1_hasBitOf cX1_hasBitOf 2 (some .boolean), .fieldLink RX1 19 "SnoopFilter$Filter" "bits" "[Z", .methodLink RX1 22 yX1_firstCounter, .static yX1_firstCounter, .code yX1_firstCounter cX1_firstCounter 1 (some .int), .methodLink RX1 30 yX1_secondCounter, .static yX1_secondCounter, .code yX1_secondCounter cX1_secondCounter 1 (some .int)] ++ wsX10)
def wsX0_isReachedBySnoop_r1 : List Cond := [Cond.fieldLink RX0 28 "SnoopFilter$Core" "filter" "LSnoopFilter$Filter;", Cond.fieldLink RX0 22 "SnoopFilter$Core" "tallies" "[I", Cond.methodLink RX0 47 yX1_mayHave, Cond.instanceMethod yX1_mayHave, Cond.selects RX1 yX1_mayHave yX1_mayHave, Cond.initialized RX1, Cond.code yX1_mayHave cX1_mayHave 2 (some .boolean), Cond.fieldLink RX1 9 "SnoopFilter$Filter" "counters" "[I", Cond.methodLink RX1 37 yX1_hasBitOf, Cond.instanceMethod yX1_hasBitOf, Cond.selects RX1 yX1_hasBitOf yX1_hasBitOf, Cond.code yX1_hasBitOf cX1_hasBitOf 2 (some .boolean), Cond.fieldLink RX1 19 "SnoopFilter$Filter" "bits" "[Z", Cond.methodLink RX1 22 yX1_firstCounter, Cond.static yX1_firstCounter, Cond.code yX1_firstCounter cX1_firstCounter 1 (some .int), Cond.methodLink RX1 30 yX1_secondCounter, Cond.static yX1_secondCounter, Cond.code yX1_secondCounter cX1_secondCounter 1 (some .int), Cond.methodLink RX0 36 yX0_holds, Cond.instanceMethod yX0_holds, Cond.selects RX0 yX0_holds yX0_holds, Cond.initialized RX0, Cond.code yX0_holds cX0_holds 2 (some .boolean)]
def wsX0_isReachedBySnoop_r2 : List Cond := [Cond.fieldLink RX0 9 "SnoopFilter$Core" "lines" "[I", Cond.methodLink RX0 32 yX0_placeOf, Cond.static yX0_placeOf, Cond.code yX0_placeOf cX0_placeOf 1 (some .int)]
def wsX0_isReachedBySnoop : List Cond := .code yX0_isReachedBySnoop cX0_isReachedBySnoop 2 (some .boolean) :: ((wsX0_isReachedBySnoop_r1 ++ wsX0_isReachedBySnoop_r2) ++ wsX00 ++ wsX10)
def wsX0_heldLines : List Cond := .code yX0_heldLines cX0_heldLines 3 (some .int) :: ([.fieldLink RX0 9 "SnoopFilter$Core" "lines" "[I"] ++ wsX00)
def wsX5_howManyAreTrue : List Cond := .code yX5_howManyAreTrue cX5_howManyAreTrue 6 (some .int) :: ([])
def wsX0_dirtyLines : List Cond := .code yX0_dirtyLines cX0_dirtyLines 1 (some .int) :: ([.fieldLink RX0 18 "SnoopFilter$Core" "dirty" "[Z", .static yX5_howManyAreTrue, .initialized RX5, .code yX5_howManyAreTrue cX5_howManyAreTrue 6 (some .int)] ++ wsX00)
def wsX1_countersAboveZero : List Cond := .code yX1_countersAboveZero cX1_countersAboveZero 3 (some .int) :: ([.fieldLink RX1 9 "SnoopFilter$Filter" "counters" "[I"] ++ wsX10)
def wsX1_bitsThatAreOne : List Cond := .code yX1_bitsThatAreOne cX1_bitsThatAreOne 1 (some .int) :: ([.fieldLink RX1 19 "SnoopFilter$Filter" "bits" "[Z", .static yX5_howManyAreTrue, .initialized RX5, .code yX5_howManyAreTrue cX5_howManyAreTrue 6 (some .int)] ++ wsX10)
def wsX0_hasNothingToForget : List Cond := .code yX0_hasNothingToForget cX0_hasNothingToForget 1 (some .boolean) :: ([.fieldLink RX0 28 "SnoopFilter$Core" "filter" "LSnoopFilter$Filter;", .methodLink RX0 54 yX0_heldLines, .instanceMethod yX0_heldLines, .selects RX0 yX0_heldLines yX0_heldLines, .initialized RX0, .code yX0_heldLines cX0_heldLines 3 (some .int), .fieldLink RX0 9 "SnoopFilter$Core" "lines" "[I", .methodLink RX0 58 yX1_countersAboveZero, .instanceMethod yX1_countersAboveZero, .selects RX1 yX1_countersAboveZero yX1_countersAboveZero, .initialized RX1, .code yX1_countersAboveZero cX1_countersAboveZero 3 (some .int), .fieldLink RX1 9 "SnoopFilter$Filter" "counters" "[I", .methodLink RX0 61 yX1_bitsThatAreOne, .instanceMethod yX1_bitsThatAreOne, .selects RX1 yX1_bitsThatAreOne yX1_bitsThatAreOne, .code yX1_bitsThatAreOne cX1_bitsThatAreOne 1 (some .int), .fieldLink RX1 19 "SnoopFilter$Filter" "bits" "[Z", .static yX5_howManyAreTrue, .initialized RX5, .code yX5_howManyAreTrue cX5_howManyAreTrue 6 (some .int)] ++ wsX00 ++ wsX10)
def wsX1_copyFrom : List Cond := .code yX1_copyFrom cX1_copyFrom 2 none :: ([.fieldLink RX1 9 "SnoopFilter$Filter" "counters" "[I", .methodLink RX1 45 arraycopyName, .native arraycopyName, .static arraycopyName, .initialized "java/lang/System", .fieldLink RX1 15 "SnoopFilter$Filter" "stuck" "[Z", .fieldLink RX1 19 "SnoopFilter$Filter" "bits" "[Z"] ++ wsX10)
def wsX0_copyFrom : List Cond := .code yX0_copyFrom cX0_copyFrom 2 none :: ([.fieldLink RX0 9 "SnoopFilter$Core" "lines" "[I", .methodLink RX0 64 arraycopyName, .native arraycopyName, .static arraycopyName, .initialized "java/lang/System", .fieldLink RX0 15 "SnoopFilter$Core" "values" "[I", .fieldLink RX0 18 "SnoopFilter$Core" "dirty" "[Z", .fieldLink RX0 22 "SnoopFilter$Core" "tallies" "[I", .fieldLink RX0 28 "SnoopFilter$Core" "filter" "LSnoopFilter$Filter;", .methodLink RX0 70 yX1_copyFrom, .instanceMethod yX1_copyFrom, .selects RX1 yX1_copyFrom yX1_copyFrom, .initialized RX1, .code yX1_copyFrom cX1_copyFrom 2 none, .fieldLink RX1 9 "SnoopFilter$Filter" "counters" "[I", .methodLink RX1 45 arraycopyName, .fieldLink RX1 15 "SnoopFilter$Filter" "stuck" "[Z", .fieldLink RX1 19 "SnoopFilter$Filter" "bits" "[Z"] ++ wsX00 ++ wsX10)
def wsX1_raise : List Cond := .code yX1_raise cX1_raise 3 none :: ([.fieldLink RX1 15 "SnoopFilter$Filter" "stuck" "[Z", .fieldLink RX1 9 "SnoopFilter$Filter" "counters" "[I"] ++ wsX10)
def wsX1_add : List Cond := .code yX1_add cX1_add 3 none :: ([.fieldLink RX1 19 "SnoopFilter$Filter" "bits" "[Z", .methodLink RX1 22 yX1_firstCounter, .static yX1_firstCounter, .initialized RX1, .code yX1_firstCounter cX1_firstCounter 1 (some .int), .methodLink RX1 26 yX1_raise, .instanceMethod yX1_raise, .selects RX1 yX1_raise yX1_raise, .code yX1_raise cX1_raise 3 none, .fieldLink RX1 15 "SnoopFilter$Filter" "stuck" "[Z", .fieldLink RX1 9 "SnoopFilter$Filter" "counters" "[I", .methodLink RX1 30 yX1_secondCounter, .static yX1_secondCounter, .code yX1_secondCounter cX1_secondCounter 1 (some .int)] ++ wsX10)
def wsX1_stuckCounters : List Cond := .code yX1_stuckCounters cX1_stuckCounters 1 (some .int) :: ([.fieldLink RX1 15 "SnoopFilter$Filter" "stuck" "[Z", .static yX5_howManyAreTrue, .initialized RX5, .code yX5_howManyAreTrue cX5_howManyAreTrue 6 (some .int)] ++ wsX10)
def wsX1_wipe : List Cond := .code yX1_wipe cX1_wipe 2 none :: ([.fieldLink RX1 9 "SnoopFilter$Filter" "counters" "[I", .fieldLink RX1 15 "SnoopFilter$Filter" "stuck" "[Z", .fieldLink RX1 19 "SnoopFilter$Filter" "bits" "[Z"] ++ wsX10)
def wsX3_init_r1 : List Cond := [Cond.methodLink RX3 3 objectInit, Cond.instanceMethod objectInit, Cond.code objectInit ⟨#[0xb1]⟩ 1 none, Cond.arrayClass .int, Cond.fieldLink RX3 9 "SnoopFilter$Machine" "memory" "[I", Cond.classLink RX3 15 RX0, Cond.fieldLink RX3 17 "SnoopFilter$Machine" "cores" "[LSnoopFilter$Core;", Cond.fieldLink RX3 21 "SnoopFilter$Machine" "limit" "I", Cond.fieldLink RX3 25 "SnoopFilter$Machine" "fullFrom" "I", Cond.instantiable RX0 5, Cond.initialized RX0, Cond.methodLink RX3 28 yX0_init, Cond.instanceMethod yX0_init, Cond.code yX0_init cX0_init 2 none, Cond.methodLink RX0 3 objectInit, Cond.fieldLink RX0 9 "SnoopFilter$Core" "lines" "[I", Cond.fieldLink RX0 15 "SnoopFilter$Core" "values" "[I", Cond.arrayClass .boolean, Cond.fieldLink RX0 18 "SnoopFilter$Core" "dirty" "[Z", Cond.fieldLink RX0 22 "SnoopFilter$Core" "tallies" "[I", Cond.classLink RX0 25 RX1, Cond.instantiable RX1 3, Cond.initialized RX1, Cond.fieldLink RX0 28 "SnoopFilter$Core" "filter" "LSnoopFilter$Filter;"]
def wsX3_init_r2 : List Cond := [Cond.instanceMethod yX1_init, Cond.code yX1_init cX1_init 1 none, Cond.methodLink RX1 3 objectInit, Cond.fieldLink RX1 9 "SnoopFilter$Filter" "counters" "[I", Cond.fieldLink RX1 15 "SnoopFilter$Filter" "stuck" "[Z", Cond.fieldLink RX1 19 "SnoopFilter$Filter" "bits" "[Z"]
def wsX3_init : List Cond := .code yX3_init cX3_init 2 none :: ((wsX3_init_r1 ++ wsX3_init_r2) ++ wsX30 ++ wsX00 ++ wsX10)
def wsX2_init_r1 : List Cond := [Cond.methodLink RX2 3 objectInit, Cond.instanceMethod objectInit, Cond.code objectInit ⟨#[0xb1]⟩ 1 none, Cond.classLink RX2 9 RX3, Cond.fieldLink RX2 11 "SnoopFilter$History" "states" "[LSnoopFilter$Machine;", Cond.instantiable RX3 6, Cond.initialized RX3, Cond.methodLink RX2 17 yX3_init, Cond.instanceMethod yX3_init, Cond.code yX3_init cX3_init 2 none, Cond.methodLink RX3 3 objectInit, Cond.arrayClass .int, Cond.fieldLink RX3 9 "SnoopFilter$Machine" "memory" "[I", Cond.classLink RX3 15 RX0, Cond.fieldLink RX3 17 "SnoopFilter$Machine" "cores" "[LSnoopFilter$Core;", Cond.fieldLink RX3 21 "SnoopFilter$Machine" "limit" "I", Cond.fieldLink RX3 25 "SnoopFilter$Machine" "fullFrom" "I", Cond.instantiable RX0 5, Cond.initialized RX0, Cond.methodLink RX3 28 yX0_init, Cond.instanceMethod yX0_init, Cond.code yX0_init cX0_init 2 none, Cond.methodLink RX0 3 objectInit, Cond.fieldLink RX0 9 "SnoopFilter$Core" "lines" "[I"]
def wsX2_init_r2 : List Cond := [Cond.fieldLink RX0 15 "SnoopFilter$Core" "values" "[I", Cond.arrayClass .boolean, Cond.fieldLink RX0 18 "SnoopFilter$Core" "dirty" "[Z", Cond.fieldLink RX0 22 "SnoopFilter$Core" "tallies" "[I", Cond.classLink RX0 25 RX1, Cond.instantiable RX1 3, Cond.initialized RX1, Cond.fieldLink RX0 28 "SnoopFilter$Core" "filter" "LSnoopFilter$Filter;", Cond.instanceMethod yX1_init, Cond.code yX1_init cX1_init 1 none, Cond.methodLink RX1 3 objectInit, Cond.fieldLink RX1 9 "SnoopFilter$Filter" "counters" "[I", Cond.fieldLink RX1 15 "SnoopFilter$Filter" "stuck" "[Z", Cond.fieldLink RX1 19 "SnoopFilter$Filter" "bits" "[Z"]
def wsX2_init : List Cond := .code yX2_init cX2_init 2 none :: ((wsX2_init_r1 ++ wsX2_init_r2) ++ wsX20 ++ wsX30 ++ wsX00 ++ wsX10)
def wsX3_copyFrom_r1 : List Cond := [Cond.fieldLink RX3 9 "SnoopFilter$Machine" "memory" "[I", Cond.methodLink RX3 122 arraycopyName, Cond.native arraycopyName, Cond.static arraycopyName, Cond.initialized "java/lang/System", Cond.fieldLink RX3 17 "SnoopFilter$Machine" "cores" "[LSnoopFilter$Core;", Cond.fieldLink RX3 21 "SnoopFilter$Machine" "limit" "I", Cond.fieldLink RX3 25 "SnoopFilter$Machine" "fullFrom" "I", Cond.fieldLink RX3 110 "SnoopFilter$Machine" "writtenBack" "I", Cond.fieldLink RX3 57 "SnoopFilter$Machine" "writings" "I", Cond.methodLink RX3 128 yX0_copyFrom, Cond.instanceMethod yX0_copyFrom, Cond.selects RX0 yX0_copyFrom yX0_copyFrom, Cond.initialized RX0, Cond.code yX0_copyFrom cX0_copyFrom 2 none, Cond.fieldLink RX0 9 "SnoopFilter$Core" "lines" "[I", Cond.methodLink RX0 64 arraycopyName, Cond.fieldLink RX0 15 "SnoopFilter$Core" "values" "[I", Cond.fieldLink RX0 18 "SnoopFilter$Core" "dirty" "[Z", Cond.fieldLink RX0 22 "SnoopFilter$Core" "tallies" "[I", Cond.fieldLink RX0 28 "SnoopFilter$Core" "filter" "LSnoopFilter$Filter;", Cond.methodLink RX0 70 yX1_copyFrom, Cond.instanceMethod yX1_copyFrom, Cond.selects RX1 yX1_copyFrom yX1_copyFrom]
def wsX3_copyFrom_r2 : List Cond := [Cond.initialized RX1, Cond.code yX1_copyFrom cX1_copyFrom 2 none, Cond.fieldLink RX1 9 "SnoopFilter$Filter" "counters" "[I", Cond.methodLink RX1 45 arraycopyName, Cond.fieldLink RX1 15 "SnoopFilter$Filter" "stuck" "[Z", Cond.fieldLink RX1 19 "SnoopFilter$Filter" "bits" "[Z"]
def wsX3_copyFrom : List Cond := .code yX3_copyFrom cX3_copyFrom 3 none :: ((wsX3_copyFrom_r1 ++ wsX3_copyFrom_r2) ++ wsX30 ++ wsX00 ++ wsX10)
def wsX2_record_r1 : List Cond := [Cond.fieldLink RX2 11 "SnoopFilter$History" "states" "[LSnoopFilter$Machine;", Cond.fieldLink RX2 18 "SnoopFilter$History" "oldest" "I", Cond.fieldLink RX2 22 "SnoopFilter$History" "size" "I", Cond.methodLink RX2 25 yX3_copyFrom, Cond.instanceMethod yX3_copyFrom, Cond.selects RX3 yX3_copyFrom yX3_copyFrom, Cond.initialized RX3, Cond.code yX3_copyFrom cX3_copyFrom 3 none, Cond.fieldLink RX3 9 "SnoopFilter$Machine" "memory" "[I", Cond.methodLink RX3 122 arraycopyName, Cond.native arraycopyName, Cond.static arraycopyName, Cond.initialized "java/lang/System", Cond.fieldLink RX3 17 "SnoopFilter$Machine" "cores" "[LSnoopFilter$Core;", Cond.fieldLink RX3 21 "SnoopFilter$Machine" "limit" "I", Cond.fieldLink RX3 25 "SnoopFilter$Machine" "fullFrom" "I", Cond.fieldLink RX3 110 "SnoopFilter$Machine" "writtenBack" "I", Cond.fieldLink RX3 57 "SnoopFilter$Machine" "writings" "I", Cond.methodLink RX3 128 yX0_copyFrom, Cond.instanceMethod yX0_copyFrom, Cond.selects RX0 yX0_copyFrom yX0_copyFrom, Cond.initialized RX0, Cond.code yX0_copyFrom cX0_copyFrom 2 none, Cond.fieldLink RX0 9 "SnoopFilter$Core" "lines" "[I"]
def wsX2_record_r2 : List Cond := [Cond.methodLink RX0 64 arraycopyName, Cond.fieldLink RX0 15 "SnoopFilter$Core" "values" "[I", Cond.fieldLink RX0 18 "SnoopFilter$Core" "dirty" "[Z", Cond.fieldLink RX0 22 "SnoopFilter$Core" "tallies" "[I", Cond.fieldLink RX0 28 "SnoopFilter$Core" "filter" "LSnoopFilter$Filter;", Cond.methodLink RX0 70 yX1_copyFrom, Cond.instanceMethod yX1_copyFrom, Cond.selects RX1 yX1_copyFrom yX1_copyFrom, Cond.initialized RX1, Cond.code yX1_copyFrom cX1_copyFrom 2 none, Cond.fieldLink RX1 9 "SnoopFilter$Filter" "counters" "[I", Cond.methodLink RX1 45 arraycopyName, Cond.fieldLink RX1 15 "SnoopFilter$Filter" "stuck" "[Z", Cond.fieldLink RX1 19 "SnoopFilter$Filter" "bits" "[Z"]
def wsX2_record : List Cond := .code yX2_record cX2_record 2 none :: ((wsX2_record_r1 ++ wsX2_record_r2) ++ wsX20 ++ wsX30 ++ wsX00 ++ wsX10)
def wsX2_takeLatest_r1 : List Cond := [Cond.fieldLink RX2 22 "SnoopFilter$History" "size" "I", Cond.fieldLink RX2 11 "SnoopFilter$History" "states" "[LSnoopFilter$Machine;", Cond.fieldLink RX2 18 "SnoopFilter$History" "oldest" "I", Cond.methodLink RX2 25 yX3_copyFrom, Cond.instanceMethod yX3_copyFrom, Cond.selects RX3 yX3_copyFrom yX3_copyFrom, Cond.initialized RX3, Cond.code yX3_copyFrom cX3_copyFrom 3 none, Cond.fieldLink RX3 9 "SnoopFilter$Machine" "memory" "[I", Cond.methodLink RX3 122 arraycopyName, Cond.native arraycopyName, Cond.static arraycopyName, Cond.initialized "java/lang/System", Cond.fieldLink RX3 17 "SnoopFilter$Machine" "cores" "[LSnoopFilter$Core;", Cond.fieldLink RX3 21 "SnoopFilter$Machine" "limit" "I", Cond.fieldLink RX3 25 "SnoopFilter$Machine" "fullFrom" "I", Cond.fieldLink RX3 110 "SnoopFilter$Machine" "writtenBack" "I", Cond.fieldLink RX3 57 "SnoopFilter$Machine" "writings" "I", Cond.methodLink RX3 128 yX0_copyFrom, Cond.instanceMethod yX0_copyFrom, Cond.selects RX0 yX0_copyFrom yX0_copyFrom, Cond.initialized RX0, Cond.code yX0_copyFrom cX0_copyFrom 2 none, Cond.fieldLink RX0 9 "SnoopFilter$Core" "lines" "[I"]
def wsX2_takeLatest_r2 : List Cond := [Cond.methodLink RX0 64 arraycopyName, Cond.fieldLink RX0 15 "SnoopFilter$Core" "values" "[I", Cond.fieldLink RX0 18 "SnoopFilter$Core" "dirty" "[Z", Cond.fieldLink RX0 22 "SnoopFilter$Core" "tallies" "[I", Cond.fieldLink RX0 28 "SnoopFilter$Core" "filter" "LSnoopFilter$Filter;", Cond.methodLink RX0 70 yX1_copyFrom, Cond.instanceMethod yX1_copyFrom, Cond.selects RX1 yX1_copyFrom yX1_copyFrom, Cond.initialized RX1, Cond.code yX1_copyFrom cX1_copyFrom 2 none, Cond.fieldLink RX1 9 "SnoopFilter$Filter" "counters" "[I", Cond.methodLink RX1 45 arraycopyName, Cond.fieldLink RX1 15 "SnoopFilter$Filter" "stuck" "[Z", Cond.fieldLink RX1 19 "SnoopFilter$Filter" "bits" "[Z"]
def wsX2_takeLatest : List Cond := .code yX2_takeLatest cX2_takeLatest 2 none :: ((wsX2_takeLatest_r1 ++ wsX2_takeLatest_r2) ++ wsX20 ++ wsX30 ++ wsX00 ++ wsX10)
def wsX3_writeBack : List Cond := .code yX3_writeBack cX3_writeBack 4 none :: ([.fieldLink RX3 97 "SnoopFilter$Core" "lines" "[I", .fieldLink RX3 106 "SnoopFilter$Core" "dirty" "[Z", .fieldLink RX3 9 "SnoopFilter$Machine" "memory" "[I", .fieldLink RX3 40 "SnoopFilter$Core" "values" "[I", .fieldLink RX3 110 "SnoopFilter$Machine" "writtenBack" "I"] ++ wsX00 ++ wsX30)
def wsX3_vacate_r1 : List Cond := [Cond.fieldLink RX3 97 "SnoopFilter$Core" "lines" "[I", Cond.methodLink RX3 46 yX3_writeBack, Cond.instanceMethod yX3_writeBack, Cond.selects RX3 yX3_writeBack yX3_writeBack, Cond.initialized RX3, Cond.code yX3_writeBack cX3_writeBack 4 none, Cond.fieldLink RX3 106 "SnoopFilter$Core" "dirty" "[Z", Cond.fieldLink RX3 9 "SnoopFilter$Machine" "memory" "[I", Cond.fieldLink RX3 40 "SnoopFilter$Core" "values" "[I", Cond.fieldLink RX3 110 "SnoopFilter$Machine" "writtenBack" "I", Cond.methodLink RX3 71 yX0_release, Cond.instanceMethod yX0_release, Cond.selects RX0 yX0_release yX0_release, Cond.initialized RX0, Cond.code yX0_release cX0_release 2 none, Cond.fieldLink RX0 28 "SnoopFilter$Core" "filter" "LSnoopFilter$Filter;", Cond.methodLink RX0 40 yX1_remove, Cond.instanceMethod yX1_remove, Cond.selects RX1 yX1_remove yX1_remove, Cond.initialized RX1, Cond.code yX1_remove cX1_remove 2 none, Cond.methodLink RX1 22 yX1_firstCounter, Cond.static yX1_firstCounter, Cond.code yX1_firstCounter cX1_firstCounter 1 (some .int)]
def wsX3_vacate_r2 : List Cond := [Cond.methodLink RX1 33 yX1_lower, Cond.instanceMethod yX1_lower, Cond.selects RX1 yX1_lower yX1_lower, Cond.code yX1_lower cX1_lower 2 none, Cond.fieldLink RX1 15 "SnoopFilter$Filter" "stuck" "[Z", Cond.fieldLink RX1 9 "SnoopFilter$Filter" "counters" "[I", Cond.methodLink RX1 30 yX1_secondCounter, Cond.static yX1_secondCounter, Cond.code yX1_secondCounter cX1_secondCounter 1 (some .int), Cond.methodLink RX0 32 yX0_placeOf, Cond.static yX0_placeOf, Cond.code yX0_placeOf cX0_placeOf 1 (some .int), Cond.methodLink RX0 44 yX0_empty, Cond.instanceMethod yX0_empty, Cond.selects RX0 yX0_empty yX0_empty, Cond.code yX0_empty cX0_empty 2 none, Cond.fieldLink RX0 9 "SnoopFilter$Core" "lines" "[I", Cond.fieldLink RX0 18 "SnoopFilter$Core" "dirty" "[Z"]
def wsX3_vacate : List Cond := .code yX3_vacate cX3_vacate 4 none :: ((wsX3_vacate_r1 ++ wsX3_vacate_r2) ++ wsX00 ++ wsX30 ++ wsX10)
def wsX3_forgetAllBut_r1 : List Cond := [Cond.fieldLink RX3 97 "SnoopFilter$Core" "lines" "[I", Cond.fieldLink RX3 83 "SnoopFilter$Core" "filter" "LSnoopFilter$Filter;", Cond.fieldLink RX3 37 "SnoopFilter$Core" "tallies" "[I", Cond.methodLink RX3 46 yX3_writeBack, Cond.instanceMethod yX3_writeBack, Cond.selects RX3 yX3_writeBack yX3_writeBack, Cond.initialized RX3, Cond.code yX3_writeBack cX3_writeBack 4 none, Cond.fieldLink RX3 106 "SnoopFilter$Core" "dirty" "[Z", Cond.fieldLink RX3 9 "SnoopFilter$Machine" "memory" "[I", Cond.fieldLink RX3 40 "SnoopFilter$Core" "values" "[I", Cond.fieldLink RX3 110 "SnoopFilter$Machine" "writtenBack" "I", Cond.methodLink RX3 100 yX0_empty, Cond.instanceMethod yX0_empty, Cond.selects RX0 yX0_empty yX0_empty, Cond.initialized RX0, Cond.code yX0_empty cX0_empty 2 none, Cond.fieldLink RX0 9 "SnoopFilter$Core" "lines" "[I", Cond.fieldLink RX0 18 "SnoopFilter$Core" "dirty" "[Z", Cond.methodLink RX3 103 yX1_wipe, Cond.instanceMethod yX1_wipe, Cond.selects RX1 yX1_wipe yX1_wipe, Cond.initialized RX1, Cond.code yX1_wipe cX1_wipe 2 none]
def wsX3_forgetAllBut_r2 : List Cond := [Cond.fieldLink RX1 9 "SnoopFilter$Filter" "counters" "[I", Cond.fieldLink RX1 15 "SnoopFilter$Filter" "stuck" "[Z", Cond.fieldLink RX1 19 "SnoopFilter$Filter" "bits" "[Z"]
def wsX3_forgetAllBut : List Cond := .code yX3_forgetAllBut cX3_forgetAllBut 6 (some .int) :: ((wsX3_forgetAllBut_r1 ++ wsX3_forgetAllBut_r2) ++ wsX00 ++ wsX30 ++ wsX10)
def wsX3_beginToHold_r1 : List Cond := [Cond.fieldLink RX3 83 "SnoopFilter$Core" "filter" "LSnoopFilter$Filter;", Cond.fieldLink RX3 21 "SnoopFilter$Machine" "limit" "I", Cond.fieldLink RX3 25 "SnoopFilter$Machine" "fullFrom" "I", Cond.methodLink RX3 67 yX0_fill, Cond.instanceMethod yX0_fill, Cond.selects RX0 yX0_fill yX0_fill, Cond.initialized RX0, Cond.code yX0_fill cX0_fill 5 none, Cond.fieldLink RX0 9 "SnoopFilter$Core" "lines" "[I", Cond.fieldLink RX0 15 "SnoopFilter$Core" "values" "[I", Cond.fieldLink RX0 18 "SnoopFilter$Core" "dirty" "[Z", Cond.methodLink RX0 32 yX0_placeOf, Cond.static yX0_placeOf, Cond.code yX0_placeOf cX0_placeOf 1 (some .int), Cond.methodLink RX3 87 yX1_add, Cond.instanceMethod yX1_add, Cond.selects RX1 yX1_add yX1_add, Cond.initialized RX1, Cond.code yX1_add cX1_add 3 none, Cond.fieldLink RX1 19 "SnoopFilter$Filter" "bits" "[Z", Cond.methodLink RX1 22 yX1_firstCounter, Cond.static yX1_firstCounter, Cond.code yX1_firstCounter cX1_firstCounter 1 (some .int), Cond.methodLink RX1 26 yX1_raise]
def wsX3_beginToHold_r2 : List Cond := [Cond.instanceMethod yX1_raise, Cond.selects RX1 yX1_raise yX1_raise, Cond.code yX1_raise cX1_raise 3 none, Cond.fieldLink RX1 15 "SnoopFilter$Filter" "stuck" "[Z", Cond.fieldLink RX1 9 "SnoopFilter$Filter" "counters" "[I", Cond.methodLink RX1 30 yX1_secondCounter, Cond.static yX1_secondCounter, Cond.code yX1_secondCounter cX1_secondCounter 1 (some .int), Cond.methodLink RX3 93 yX1_countersAboveZero, Cond.instanceMethod yX1_countersAboveZero, Cond.selects RX1 yX1_countersAboveZero yX1_countersAboveZero, Cond.code yX1_countersAboveZero cX1_countersAboveZero 3 (some .int), Cond.methodLink RX3 79 yX3_forgetAllBut, Cond.instanceMethod yX3_forgetAllBut, Cond.selects RX3 yX3_forgetAllBut yX3_forgetAllBut, Cond.initialized RX3, Cond.code yX3_forgetAllBut cX3_forgetAllBut 6 (some .int), Cond.fieldLink RX3 97 "SnoopFilter$Core" "lines" "[I", Cond.fieldLink RX3 37 "SnoopFilter$Core" "tallies" "[I", Cond.methodLink RX3 46 yX3_writeBack, Cond.instanceMethod yX3_writeBack, Cond.selects RX3 yX3_writeBack yX3_writeBack, Cond.code yX3_writeBack cX3_writeBack 4 none, Cond.fieldLink RX3 106 "SnoopFilter$Core" "dirty" "[Z"]
def wsX3_beginToHold_r3 : List Cond := [Cond.fieldLink RX3 9 "SnoopFilter$Machine" "memory" "[I", Cond.fieldLink RX3 40 "SnoopFilter$Core" "values" "[I", Cond.fieldLink RX3 110 "SnoopFilter$Machine" "writtenBack" "I", Cond.methodLink RX3 100 yX0_empty, Cond.instanceMethod yX0_empty, Cond.selects RX0 yX0_empty yX0_empty, Cond.code yX0_empty cX0_empty 2 none, Cond.methodLink RX3 103 yX1_wipe, Cond.instanceMethod yX1_wipe, Cond.selects RX1 yX1_wipe yX1_wipe, Cond.code yX1_wipe cX1_wipe 2 none]
def wsX3_beginToHold : List Cond := .code yX3_beginToHold cX3_beginToHold 5 none :: ((wsX3_beginToHold_r1 ++ (wsX3_beginToHold_r2 ++ wsX3_beginToHold_r3)) ++ wsX00 ++ wsX30 ++ wsX10)
def wsX3_readLine_r1 : List Cond := [Cond.fieldLink RX3 17 "SnoopFilter$Machine" "cores" "[LSnoopFilter$Core;", Cond.fieldLink RX3 37 "SnoopFilter$Core" "tallies" "[I", Cond.fieldLink RX3 40 "SnoopFilter$Core" "values" "[I", Cond.fieldLink RX3 9 "SnoopFilter$Machine" "memory" "[I", Cond.methodLink RX3 29 yX0_placeOf, Cond.static yX0_placeOf, Cond.initialized RX0, Cond.code yX0_placeOf cX0_placeOf 1 (some .int), Cond.methodLink RX3 33 yX0_holds, Cond.instanceMethod yX0_holds, Cond.selects RX0 yX0_holds yX0_holds, Cond.code yX0_holds cX0_holds 2 (some .boolean), Cond.fieldLink RX0 9 "SnoopFilter$Core" "lines" "[I", Cond.methodLink RX0 32 yX0_placeOf, Cond.methodLink RX3 43 yX0_isReachedBySnoop, Cond.instanceMethod yX0_isReachedBySnoop, Cond.selects RX0 yX0_isReachedBySnoop yX0_isReachedBySnoop, Cond.code yX0_isReachedBySnoop cX0_isReachedBySnoop 2 (some .boolean), Cond.fieldLink RX0 28 "SnoopFilter$Core" "filter" "LSnoopFilter$Filter;", Cond.fieldLink RX0 22 "SnoopFilter$Core" "tallies" "[I", Cond.methodLink RX0 47 yX1_mayHave, Cond.instanceMethod yX1_mayHave, Cond.selects RX1 yX1_mayHave yX1_mayHave, Cond.initialized RX1]
def wsX3_readLine_r2 : List Cond := [Cond.code yX1_mayHave cX1_mayHave 2 (some .boolean), Cond.fieldLink RX1 9 "SnoopFilter$Filter" "counters" "[I", Cond.methodLink RX1 37 yX1_hasBitOf, Cond.instanceMethod yX1_hasBitOf, Cond.selects RX1 yX1_hasBitOf yX1_hasBitOf, Cond.code yX1_hasBitOf cX1_hasBitOf 2 (some .boolean), Cond.fieldLink RX1 19 "SnoopFilter$Filter" "bits" "[Z", Cond.methodLink RX1 22 yX1_firstCounter, Cond.static yX1_firstCounter, Cond.code yX1_firstCounter cX1_firstCounter 1 (some .int), Cond.methodLink RX1 30 yX1_secondCounter, Cond.static yX1_secondCounter, Cond.code yX1_secondCounter cX1_secondCounter 1 (some .int), Cond.methodLink RX0 36 yX0_holds, Cond.methodLink RX3 46 yX3_writeBack, Cond.instanceMethod yX3_writeBack, Cond.selects RX3 yX3_writeBack yX3_writeBack, Cond.initialized RX3, Cond.code yX3_writeBack cX3_writeBack 4 none, Cond.fieldLink RX3 97 "SnoopFilter$Core" "lines" "[I", Cond.fieldLink RX3 106 "SnoopFilter$Core" "dirty" "[Z", Cond.fieldLink RX3 110 "SnoopFilter$Machine" "writtenBack" "I", Cond.methodLink RX3 50 yX3_vacate, Cond.instanceMethod yX3_vacate]
def wsX3_readLine_r3 : List Cond := [Cond.selects RX3 yX3_vacate yX3_vacate, Cond.code yX3_vacate cX3_vacate 4 none, Cond.methodLink RX3 71 yX0_release, Cond.instanceMethod yX0_release, Cond.selects RX0 yX0_release yX0_release, Cond.code yX0_release cX0_release 2 none, Cond.methodLink RX0 40 yX1_remove, Cond.instanceMethod yX1_remove, Cond.selects RX1 yX1_remove yX1_remove, Cond.code yX1_remove cX1_remove 2 none, Cond.methodLink RX1 33 yX1_lower, Cond.instanceMethod yX1_lower, Cond.selects RX1 yX1_lower yX1_lower, Cond.code yX1_lower cX1_lower 2 none, Cond.fieldLink RX1 15 "SnoopFilter$Filter" "stuck" "[Z", Cond.methodLink RX0 44 yX0_empty, Cond.instanceMethod yX0_empty, Cond.selects RX0 yX0_empty yX0_empty, Cond.code yX0_empty cX0_empty 2 none, Cond.fieldLink RX0 18 "SnoopFilter$Core" "dirty" "[Z", Cond.methodLink RX3 53 yX3_beginToHold, Cond.instanceMethod yX3_beginToHold, Cond.selects RX3 yX3_beginToHold yX3_beginToHold, Cond.code yX3_beginToHold cX3_beginToHold 5 none]
def wsX3_readLine_r4 : List Cond := [Cond.fieldLink RX3 83 "SnoopFilter$Core" "filter" "LSnoopFilter$Filter;", Cond.fieldLink RX3 21 "SnoopFilter$Machine" "limit" "I", Cond.fieldLink RX3 25 "SnoopFilter$Machine" "fullFrom" "I", Cond.methodLink RX3 67 yX0_fill, Cond.instanceMethod yX0_fill, Cond.selects RX0 yX0_fill yX0_fill, Cond.code yX0_fill cX0_fill 5 none, Cond.fieldLink RX0 15 "SnoopFilter$Core" "values" "[I", Cond.methodLink RX3 87 yX1_add, Cond.instanceMethod yX1_add, Cond.selects RX1 yX1_add yX1_add, Cond.code yX1_add cX1_add 3 none, Cond.methodLink RX1 26 yX1_raise, Cond.instanceMethod yX1_raise, Cond.selects RX1 yX1_raise yX1_raise, Cond.code yX1_raise cX1_raise 3 none, Cond.methodLink RX3 93 yX1_countersAboveZero, Cond.instanceMethod yX1_countersAboveZero, Cond.selects RX1 yX1_countersAboveZero yX1_countersAboveZero, Cond.code yX1_countersAboveZero cX1_countersAboveZero 3 (some .int), Cond.methodLink RX3 79 yX3_forgetAllBut, Cond.instanceMethod yX3_forgetAllBut, Cond.selects RX3 yX3_forgetAllBut yX3_forgetAllBut, Cond.code yX3_forgetAllBut cX3_forgetAllBut 6 (some .int)]
def wsX3_readLine_r5 : List Cond := [Cond.methodLink RX3 100 yX0_empty, Cond.methodLink RX3 103 yX1_wipe, Cond.instanceMethod yX1_wipe, Cond.selects RX1 yX1_wipe yX1_wipe, Cond.code yX1_wipe cX1_wipe 2 none]
def wsX3_readLine : List Cond := .code yX3_readLine cX3_readLine 7 (some .int) :: ((wsX3_readLine_r1 ++ (wsX3_readLine_r2 ++ (wsX3_readLine_r3 ++ (wsX3_readLine_r4 ++ wsX3_readLine_r5)))) ++ wsX30 ++ wsX00 ++ wsX10)
def wsX3_takeFromOthers_r1 : List Cond := [Cond.fieldLink RX3 17 "SnoopFilter$Machine" "cores" "[LSnoopFilter$Core;", Cond.methodLink RX3 43 yX0_isReachedBySnoop, Cond.instanceMethod yX0_isReachedBySnoop, Cond.selects RX0 yX0_isReachedBySnoop yX0_isReachedBySnoop, Cond.initialized RX0, Cond.code yX0_isReachedBySnoop cX0_isReachedBySnoop 2 (some .boolean), Cond.fieldLink RX0 28 "SnoopFilter$Core" "filter" "LSnoopFilter$Filter;", Cond.fieldLink RX0 22 "SnoopFilter$Core" "tallies" "[I", Cond.methodLink RX0 47 yX1_mayHave, Cond.instanceMethod yX1_mayHave, Cond.selects RX1 yX1_mayHave yX1_mayHave, Cond.initialized RX1, Cond.code yX1_mayHave cX1_mayHave 2 (some .boolean), Cond.fieldLink RX1 9 "SnoopFilter$Filter" "counters" "[I", Cond.methodLink RX1 37 yX1_hasBitOf, Cond.instanceMethod yX1_hasBitOf, Cond.selects RX1 yX1_hasBitOf yX1_hasBitOf, Cond.code yX1_hasBitOf cX1_hasBitOf 2 (some .boolean), Cond.fieldLink RX1 19 "SnoopFilter$Filter" "bits" "[Z", Cond.methodLink RX1 22 yX1_firstCounter, Cond.static yX1_firstCounter, Cond.code yX1_firstCounter cX1_firstCounter 1 (some .int), Cond.methodLink RX1 30 yX1_secondCounter, Cond.static yX1_secondCounter]
def wsX3_takeFromOthers_r2 : List Cond := [Cond.code yX1_secondCounter cX1_secondCounter 1 (some .int), Cond.methodLink RX0 36 yX0_holds, Cond.instanceMethod yX0_holds, Cond.selects RX0 yX0_holds yX0_holds, Cond.code yX0_holds cX0_holds 2 (some .boolean), Cond.fieldLink RX0 9 "SnoopFilter$Core" "lines" "[I", Cond.methodLink RX0 32 yX0_placeOf, Cond.static yX0_placeOf, Cond.code yX0_placeOf cX0_placeOf 1 (some .int), Cond.methodLink RX3 33 yX0_holds, Cond.methodLink RX3 71 yX0_release, Cond.instanceMethod yX0_release, Cond.selects RX0 yX0_release yX0_release, Cond.code yX0_release cX0_release 2 none, Cond.methodLink RX0 40 yX1_remove, Cond.instanceMethod yX1_remove, Cond.selects RX1 yX1_remove yX1_remove, Cond.code yX1_remove cX1_remove 2 none, Cond.methodLink RX1 33 yX1_lower, Cond.instanceMethod yX1_lower, Cond.selects RX1 yX1_lower yX1_lower, Cond.code yX1_lower cX1_lower 2 none, Cond.fieldLink RX1 15 "SnoopFilter$Filter" "stuck" "[Z", Cond.methodLink RX0 44 yX0_empty]
def wsX3_takeFromOthers_r3 : List Cond := [Cond.instanceMethod yX0_empty, Cond.selects RX0 yX0_empty yX0_empty, Cond.code yX0_empty cX0_empty 2 none, Cond.fieldLink RX0 18 "SnoopFilter$Core" "dirty" "[Z"]
def wsX3_takeFromOthers : List Cond := .code yX3_takeFromOthers cX3_takeFromOthers 6 (some .int) :: ((wsX3_takeFromOthers_r1 ++ (wsX3_takeFromOthers_r2 ++ wsX3_takeFromOthers_r3)) ++ wsX30 ++ wsX00 ++ wsX10)
def wsX3_writeLine_r1 : List Cond := [Cond.fieldLink RX3 17 "SnoopFilter$Machine" "cores" "[LSnoopFilter$Core;", Cond.fieldLink RX3 57 "SnoopFilter$Machine" "writings" "I", Cond.methodLink RX3 60 yX0_holdsDirty, Cond.instanceMethod yX0_holdsDirty, Cond.selects RX0 yX0_holdsDirty yX0_holdsDirty, Cond.initialized RX0, Cond.code yX0_holdsDirty cX0_holdsDirty 2 (some .boolean), Cond.fieldLink RX0 18 "SnoopFilter$Core" "dirty" "[Z", Cond.methodLink RX0 36 yX0_holds, Cond.instanceMethod yX0_holds, Cond.selects RX0 yX0_holds yX0_holds, Cond.code yX0_holds cX0_holds 2 (some .boolean), Cond.fieldLink RX0 9 "SnoopFilter$Core" "lines" "[I", Cond.methodLink RX0 32 yX0_placeOf, Cond.static yX0_placeOf, Cond.code yX0_placeOf cX0_placeOf 1 (some .int), Cond.methodLink RX3 63 yX3_takeFromOthers, Cond.instanceMethod yX3_takeFromOthers, Cond.selects RX3 yX3_takeFromOthers yX3_takeFromOthers, Cond.initialized RX3, Cond.code yX3_takeFromOthers cX3_takeFromOthers 6 (some .int), Cond.methodLink RX3 43 yX0_isReachedBySnoop, Cond.instanceMethod yX0_isReachedBySnoop, Cond.selects RX0 yX0_isReachedBySnoop yX0_isReachedBySnoop]
def wsX3_writeLine_r2 : List Cond := [Cond.code yX0_isReachedBySnoop cX0_isReachedBySnoop 2 (some .boolean), Cond.fieldLink RX0 28 "SnoopFilter$Core" "filter" "LSnoopFilter$Filter;", Cond.fieldLink RX0 22 "SnoopFilter$Core" "tallies" "[I", Cond.methodLink RX0 47 yX1_mayHave, Cond.instanceMethod yX1_mayHave, Cond.selects RX1 yX1_mayHave yX1_mayHave, Cond.initialized RX1, Cond.code yX1_mayHave cX1_mayHave 2 (some .boolean), Cond.fieldLink RX1 9 "SnoopFilter$Filter" "counters" "[I", Cond.methodLink RX1 37 yX1_hasBitOf, Cond.instanceMethod yX1_hasBitOf, Cond.selects RX1 yX1_hasBitOf yX1_hasBitOf, Cond.code yX1_hasBitOf cX1_hasBitOf 2 (some .boolean), Cond.fieldLink RX1 19 "SnoopFilter$Filter" "bits" "[Z", Cond.methodLink RX1 22 yX1_firstCounter, Cond.static yX1_firstCounter, Cond.code yX1_firstCounter cX1_firstCounter 1 (some .int), Cond.methodLink RX1 30 yX1_secondCounter, Cond.static yX1_secondCounter, Cond.code yX1_secondCounter cX1_secondCounter 1 (some .int), Cond.methodLink RX3 33 yX0_holds, Cond.methodLink RX3 71 yX0_release, Cond.instanceMethod yX0_release, Cond.selects RX0 yX0_release yX0_release]
def wsX3_writeLine_r3 : List Cond := [Cond.code yX0_release cX0_release 2 none, Cond.methodLink RX0 40 yX1_remove, Cond.instanceMethod yX1_remove, Cond.selects RX1 yX1_remove yX1_remove, Cond.code yX1_remove cX1_remove 2 none, Cond.methodLink RX1 33 yX1_lower, Cond.instanceMethod yX1_lower, Cond.selects RX1 yX1_lower yX1_lower, Cond.code yX1_lower cX1_lower 2 none, Cond.fieldLink RX1 15 "SnoopFilter$Filter" "stuck" "[Z", Cond.methodLink RX0 44 yX0_empty, Cond.instanceMethod yX0_empty, Cond.selects RX0 yX0_empty yX0_empty, Cond.code yX0_empty cX0_empty 2 none, Cond.methodLink RX3 67 yX0_fill, Cond.instanceMethod yX0_fill, Cond.selects RX0 yX0_fill yX0_fill, Cond.code yX0_fill cX0_fill 5 none, Cond.fieldLink RX0 15 "SnoopFilter$Core" "values" "[I", Cond.methodLink RX3 29 yX0_placeOf, Cond.methodLink RX3 50 yX3_vacate, Cond.instanceMethod yX3_vacate, Cond.selects RX3 yX3_vacate yX3_vacate, Cond.code yX3_vacate cX3_vacate 4 none]
def wsX3_writeLine_r4 : List Cond := [Cond.fieldLink RX3 97 "SnoopFilter$Core" "lines" "[I", Cond.methodLink RX3 46 yX3_writeBack, Cond.instanceMethod yX3_writeBack, Cond.selects RX3 yX3_writeBack yX3_writeBack, Cond.code yX3_writeBack cX3_writeBack 4 none, Cond.fieldLink RX3 106 "SnoopFilter$Core" "dirty" "[Z", Cond.fieldLink RX3 9 "SnoopFilter$Machine" "memory" "[I", Cond.fieldLink RX3 40 "SnoopFilter$Core" "values" "[I", Cond.fieldLink RX3 110 "SnoopFilter$Machine" "writtenBack" "I", Cond.methodLink RX3 53 yX3_beginToHold, Cond.instanceMethod yX3_beginToHold, Cond.selects RX3 yX3_beginToHold yX3_beginToHold, Cond.code yX3_beginToHold cX3_beginToHold 5 none, Cond.fieldLink RX3 83 "SnoopFilter$Core" "filter" "LSnoopFilter$Filter;", Cond.fieldLink RX3 21 "SnoopFilter$Machine" "limit" "I", Cond.fieldLink RX3 25 "SnoopFilter$Machine" "fullFrom" "I", Cond.methodLink RX3 87 yX1_add, Cond.instanceMethod yX1_add, Cond.selects RX1 yX1_add yX1_add, Cond.code yX1_add cX1_add 3 none, Cond.methodLink RX1 26 yX1_raise, Cond.instanceMethod yX1_raise, Cond.selects RX1 yX1_raise yX1_raise, Cond.code yX1_raise cX1_raise 3 none]
def wsX3_writeLine_r5 : List Cond := [Cond.methodLink RX3 93 yX1_countersAboveZero, Cond.instanceMethod yX1_countersAboveZero, Cond.selects RX1 yX1_countersAboveZero yX1_countersAboveZero, Cond.code yX1_countersAboveZero cX1_countersAboveZero 3 (some .int), Cond.methodLink RX3 79 yX3_forgetAllBut, Cond.instanceMethod yX3_forgetAllBut, Cond.selects RX3 yX3_forgetAllBut yX3_forgetAllBut, Cond.code yX3_forgetAllBut cX3_forgetAllBut 6 (some .int), Cond.fieldLink RX3 37 "SnoopFilter$Core" "tallies" "[I", Cond.methodLink RX3 100 yX0_empty, Cond.methodLink RX3 103 yX1_wipe, Cond.instanceMethod yX1_wipe, Cond.selects RX1 yX1_wipe yX1_wipe, Cond.code yX1_wipe cX1_wipe 2 none]
def wsX3_writeLine : List Cond := .code yX3_writeLine cX3_writeLine 6 (some .int) :: ((wsX3_writeLine_r1 ++ (wsX3_writeLine_r2 ++ (wsX3_writeLine_r3 ++ (wsX3_writeLine_r4 ++ wsX3_writeLine_r5)))) ++ wsX30 ++ wsX00 ++ wsX10)
def wsX3_dropLine_r1 : List Cond := [Cond.fieldLink RX3 17 "SnoopFilter$Machine" "cores" "[LSnoopFilter$Core;", Cond.methodLink RX3 33 yX0_holds, Cond.instanceMethod yX0_holds, Cond.selects RX0 yX0_holds yX0_holds, Cond.initialized RX0, Cond.code yX0_holds cX0_holds 2 (some .boolean), Cond.fieldLink RX0 9 "SnoopFilter$Core" "lines" "[I", Cond.methodLink RX0 32 yX0_placeOf, Cond.static yX0_placeOf, Cond.code yX0_placeOf cX0_placeOf 1 (some .int), Cond.methodLink RX3 60 yX0_holdsDirty, Cond.instanceMethod yX0_holdsDirty, Cond.selects RX0 yX0_holdsDirty yX0_holdsDirty, Cond.code yX0_holdsDirty cX0_holdsDirty 2 (some .boolean), Cond.fieldLink RX0 18 "SnoopFilter$Core" "dirty" "[Z", Cond.methodLink RX0 36 yX0_holds, Cond.methodLink RX3 29 yX0_placeOf, Cond.methodLink RX3 50 yX3_vacate, Cond.instanceMethod yX3_vacate, Cond.selects RX3 yX3_vacate yX3_vacate, Cond.initialized RX3, Cond.code yX3_vacate cX3_vacate 4 none, Cond.fieldLink RX3 97 "SnoopFilter$Core" "lines" "[I", Cond.methodLink RX3 46 yX3_writeBack]
def wsX3_dropLine_r2 : List Cond := [Cond.instanceMethod yX3_writeBack, Cond.selects RX3 yX3_writeBack yX3_writeBack, Cond.code yX3_writeBack cX3_writeBack 4 none, Cond.fieldLink RX3 106 "SnoopFilter$Core" "dirty" "[Z", Cond.fieldLink RX3 9 "SnoopFilter$Machine" "memory" "[I", Cond.fieldLink RX3 40 "SnoopFilter$Core" "values" "[I", Cond.fieldLink RX3 110 "SnoopFilter$Machine" "writtenBack" "I", Cond.methodLink RX3 71 yX0_release, Cond.instanceMethod yX0_release, Cond.selects RX0 yX0_release yX0_release, Cond.code yX0_release cX0_release 2 none, Cond.fieldLink RX0 28 "SnoopFilter$Core" "filter" "LSnoopFilter$Filter;", Cond.methodLink RX0 40 yX1_remove, Cond.instanceMethod yX1_remove, Cond.selects RX1 yX1_remove yX1_remove, Cond.initialized RX1, Cond.code yX1_remove cX1_remove 2 none, Cond.methodLink RX1 22 yX1_firstCounter, Cond.static yX1_firstCounter, Cond.code yX1_firstCounter cX1_firstCounter 1 (some .int), Cond.methodLink RX1 33 yX1_lower, Cond.instanceMethod yX1_lower, Cond.selects RX1 yX1_lower yX1_lower, Cond.code yX1_lower cX1_lower 2 none]
def wsX3_dropLine_r3 : List Cond := [Cond.fieldLink RX1 15 "SnoopFilter$Filter" "stuck" "[Z", Cond.fieldLink RX1 9 "SnoopFilter$Filter" "counters" "[I", Cond.methodLink RX1 30 yX1_secondCounter, Cond.static yX1_secondCounter, Cond.code yX1_secondCounter cX1_secondCounter 1 (some .int), Cond.methodLink RX0 44 yX0_empty, Cond.instanceMethod yX0_empty, Cond.selects RX0 yX0_empty yX0_empty, Cond.code yX0_empty cX0_empty 2 none]
def wsX3_dropLine : List Cond := .code yX3_dropLine cX3_dropLine 5 (some .int) :: ((wsX3_dropLine_r1 ++ (wsX3_dropLine_r2 ++ wsX3_dropLine_r3)) ++ wsX30 ++ wsX00 ++ wsX10)
def wsX3_forgetOnPurpose_r1 : List Cond := [Cond.fieldLink RX3 17 "SnoopFilter$Machine" "cores" "[LSnoopFilter$Core;", Cond.methodLink RX3 75 yX0_hasNothingToForget, Cond.instanceMethod yX0_hasNothingToForget, Cond.selects RX0 yX0_hasNothingToForget yX0_hasNothingToForget, Cond.initialized RX0, Cond.code yX0_hasNothingToForget cX0_hasNothingToForget 1 (some .boolean), Cond.fieldLink RX0 28 "SnoopFilter$Core" "filter" "LSnoopFilter$Filter;", Cond.methodLink RX0 54 yX0_heldLines, Cond.instanceMethod yX0_heldLines, Cond.selects RX0 yX0_heldLines yX0_heldLines, Cond.code yX0_heldLines cX0_heldLines 3 (some .int), Cond.fieldLink RX0 9 "SnoopFilter$Core" "lines" "[I", Cond.methodLink RX0 58 yX1_countersAboveZero, Cond.instanceMethod yX1_countersAboveZero, Cond.selects RX1 yX1_countersAboveZero yX1_countersAboveZero, Cond.initialized RX1, Cond.code yX1_countersAboveZero cX1_countersAboveZero 3 (some .int), Cond.fieldLink RX1 9 "SnoopFilter$Filter" "counters" "[I", Cond.methodLink RX0 61 yX1_bitsThatAreOne, Cond.instanceMethod yX1_bitsThatAreOne, Cond.selects RX1 yX1_bitsThatAreOne yX1_bitsThatAreOne, Cond.code yX1_bitsThatAreOne cX1_bitsThatAreOne 1 (some .int), Cond.fieldLink RX1 19 "SnoopFilter$Filter" "bits" "[Z", Cond.static yX5_howManyAreTrue]
def wsX3_forgetOnPurpose_r2 : List Cond := [Cond.initialized RX5, Cond.code yX5_howManyAreTrue cX5_howManyAreTrue 6 (some .int), Cond.methodLink RX3 79 yX3_forgetAllBut, Cond.instanceMethod yX3_forgetAllBut, Cond.selects RX3 yX3_forgetAllBut yX3_forgetAllBut, Cond.initialized RX3, Cond.code yX3_forgetAllBut cX3_forgetAllBut 6 (some .int), Cond.fieldLink RX3 97 "SnoopFilter$Core" "lines" "[I", Cond.fieldLink RX3 83 "SnoopFilter$Core" "filter" "LSnoopFilter$Filter;", Cond.fieldLink RX3 37 "SnoopFilter$Core" "tallies" "[I", Cond.methodLink RX3 46 yX3_writeBack, Cond.instanceMethod yX3_writeBack, Cond.selects RX3 yX3_writeBack yX3_writeBack, Cond.code yX3_writeBack cX3_writeBack 4 none, Cond.fieldLink RX3 106 "SnoopFilter$Core" "dirty" "[Z", Cond.fieldLink RX3 9 "SnoopFilter$Machine" "memory" "[I", Cond.fieldLink RX3 40 "SnoopFilter$Core" "values" "[I", Cond.fieldLink RX3 110 "SnoopFilter$Machine" "writtenBack" "I", Cond.methodLink RX3 100 yX0_empty, Cond.instanceMethod yX0_empty, Cond.selects RX0 yX0_empty yX0_empty, Cond.code yX0_empty cX0_empty 2 none, Cond.fieldLink RX0 18 "SnoopFilter$Core" "dirty" "[Z", Cond.methodLink RX3 103 yX1_wipe]
def wsX3_forgetOnPurpose_r3 : List Cond := [Cond.instanceMethod yX1_wipe, Cond.selects RX1 yX1_wipe yX1_wipe, Cond.code yX1_wipe cX1_wipe 2 none, Cond.fieldLink RX1 15 "SnoopFilter$Filter" "stuck" "[Z"]
def wsX3_forgetOnPurpose : List Cond := .code yX3_forgetOnPurpose cX3_forgetOnPurpose 3 (some .int) :: ((wsX3_forgetOnPurpose_r1 ++ (wsX3_forgetOnPurpose_r2 ++ wsX3_forgetOnPurpose_r3)) ++ wsX30 ++ wsX00 ++ wsX10)
def wsX3_valueForReader : List Cond := .code yX3_valueForReader cX3_valueForReader 3 (some .int) :: ([.fieldLink RX3 17 "SnoopFilter$Machine" "cores" "[LSnoopFilter$Core;", .fieldLink RX3 40 "SnoopFilter$Core" "values" "[I", .fieldLink RX3 9 "SnoopFilter$Machine" "memory" "[I", .methodLink RX3 33 yX0_holds, .instanceMethod yX0_holds, .selects RX0 yX0_holds yX0_holds, .initialized RX0, .code yX0_holds cX0_holds 2 (some .boolean), .fieldLink RX0 9 "SnoopFilter$Core" "lines" "[I", .methodLink RX0 32 yX0_placeOf, .static yX0_placeOf, .code yX0_placeOf cX0_placeOf 1 (some .int), .methodLink RX3 29 yX0_placeOf] ++ wsX30 ++ wsX00)
def wsX3_holdersOf : List Cond := .code yX3_holdersOf cX3_holdersOf 4 (some .int) :: ([.fieldLink RX3 17 "SnoopFilter$Machine" "cores" "[LSnoopFilter$Core;", .methodLink RX3 33 yX0_holds, .instanceMethod yX0_holds, .selects RX0 yX0_holds yX0_holds, .initialized RX0, .code yX0_holds cX0_holds 2 (some .boolean), .fieldLink RX0 9 "SnoopFilter$Core" "lines" "[I", .methodLink RX0 32 yX0_placeOf, .static yX0_placeOf, .code yX0_placeOf cX0_placeOf 1 (some .int)] ++ wsX30 ++ wsX00)
def wsX3_coresThatMayHave : List Cond := .code yX3_coresThatMayHave cX3_coresThatMayHave 4 (some .int) :: ([.fieldLink RX3 17 "SnoopFilter$Machine" "cores" "[LSnoopFilter$Core;", .fieldLink RX3 83 "SnoopFilter$Core" "filter" "LSnoopFilter$Filter;", .methodLink RX3 113 yX1_mayHave, .instanceMethod yX1_mayHave, .selects RX1 yX1_mayHave yX1_mayHave, .initialized RX1, .code yX1_mayHave cX1_mayHave 2 (some .boolean), .fieldLink RX1 9 "SnoopFilter$Filter" "counters" "[I", .methodLink RX1 37 yX1_hasBitOf, .instanceMethod yX1_hasBitOf, .selects RX1 yX1_hasBitOf yX1_hasBitOf, .code yX1_hasBitOf cX1_hasBitOf 2 (some .boolean), .fieldLink RX1 19 "SnoopFilter$Filter" "bits" "[Z", .methodLink RX1 22 yX1_firstCounter, .static yX1_firstCounter, .code yX1_firstCounter cX1_firstCounter 1 (some .int), .methodLink RX1 30 yX1_secondCounter, .static yX1_secondCounter, .code yX1_secondCounter cX1_secondCounter 1 (some .int)] ++ wsX30 ++ wsX00 ++ wsX10)
def wsX3_sumOf : List Cond := .code yX3_sumOf cX3_sumOf 4 (some .int) :: ([.fieldLink RX3 17 "SnoopFilter$Machine" "cores" "[LSnoopFilter$Core;", .fieldLink RX3 37 "SnoopFilter$Core" "tallies" "[I"] ++ wsX30 ++ wsX00)
def wsX3_heldByAll : List Cond := .code yX3_heldByAll cX3_heldByAll 3 (some .int) :: ([.fieldLink RX3 17 "SnoopFilter$Machine" "cores" "[LSnoopFilter$Core;", .methodLink RX3 116 yX0_heldLines, .instanceMethod yX0_heldLines, .selects RX0 yX0_heldLines yX0_heldLines, .initialized RX0, .code yX0_heldLines cX0_heldLines 3 (some .int), .fieldLink RX0 9 "SnoopFilter$Core" "lines" "[I"] ++ wsX30 ++ wsX00)
def wsX3_dirtyOfAll : List Cond := .code yX3_dirtyOfAll cX3_dirtyOfAll 3 (some .int) :: ([.fieldLink RX3 17 "SnoopFilter$Machine" "cores" "[LSnoopFilter$Core;", .methodLink RX3 119 yX0_dirtyLines, .instanceMethod yX0_dirtyLines, .selects RX0 yX0_dirtyLines yX0_dirtyLines, .initialized RX0, .code yX0_dirtyLines cX0_dirtyLines 1 (some .int), .fieldLink RX0 18 "SnoopFilter$Core" "dirty" "[Z", .static yX5_howManyAreTrue, .initialized RX5, .code yX5_howManyAreTrue cX5_howManyAreTrue 6 (some .int)] ++ wsX30 ++ wsX00)
def wsX4_init : List Cond := .code yX4_init cX4_init 1 none :: ([.methodLink RX4 3 objectInit, .instanceMethod objectInit, .code objectInit ⟨#[0xb1]⟩ 1 none, .arrayClass .char, .fieldLink RX4 9 "SnoopFilter$Program" "text" "[C", .fieldLink RX4 15 "SnoopFilter$Program" "kinds" "[C", .arrayClass .int, .fieldLink RX4 18 "SnoopFilter$Program" "coresOf" "[I", .fieldLink RX4 22 "SnoopFilter$Program" "linesOf" "[I", .fieldLink RX4 25 "SnoopFilter$Program" "valuesOf" "[I"] ++ wsX40)
def wsX4_append : List Cond := .code yX4_append cX4_append 2 (some .boolean) :: ([.fieldLink RX4 28 "SnoopFilter$Program" "length" "I", .fieldLink RX4 9 "SnoopFilter$Program" "text" "[C"] ++ wsX40)
def wsX4_isDigitUpTo : List Cond := .code yX4_isDigitUpTo cX4_isDigitUpTo 2 (some .boolean) :: ([.fieldLink RX4 32 "SnoopFilter$Program" "at" "I", .fieldLink RX4 28 "SnoopFilter$Program" "length" "I", .fieldLink RX4 9 "SnoopFilter$Program" "text" "[C"] ++ wsX40)
def wsX4_takeNumber : List Cond := .code yX4_takeNumber cX4_takeNumber 4 (some .int) :: ([.fieldLink RX4 32 "SnoopFilter$Program" "at" "I", .fieldLink RX4 9 "SnoopFilter$Program" "text" "[C", .methodLink RX4 46 yX4_isDigitUpTo, .instanceMethod yX4_isDigitUpTo, .selects RX4 yX4_isDigitUpTo yX4_isDigitUpTo, .initialized RX4, .code yX4_isDigitUpTo cX4_isDigitUpTo 2 (some .boolean), .fieldLink RX4 28 "SnoopFilter$Program" "length" "I"] ++ wsX40)
def wsX4_takes : List Cond := .code yX4_takes cX4_takes 2 (some .boolean) :: ([.fieldLink RX4 32 "SnoopFilter$Program" "at" "I", .fieldLink RX4 28 "SnoopFilter$Program" "length" "I", .fieldLink RX4 9 "SnoopFilter$Program" "text" "[C"] ++ wsX40)
def wsX4_takesLineAndValue : List Cond := .code yX4_takesLineAndValue cX4_takesLineAndValue 2 (some .boolean) :: ([.fieldLink RX4 22 "SnoopFilter$Program" "linesOf" "[I", .fieldLink RX4 15 "SnoopFilter$Program" "kinds" "[C", .fieldLink RX4 25 "SnoopFilter$Program" "valuesOf" "[I", .methodLink RX4 42 yX4_takes, .instanceMethod yX4_takes, .selects RX4 yX4_takes yX4_takes, .initialized RX4, .code yX4_takes cX4_takes 2 (some .boolean), .fieldLink RX4 32 "SnoopFilter$Program" "at" "I", .fieldLink RX4 28 "SnoopFilter$Program" "length" "I", .fieldLink RX4 9 "SnoopFilter$Program" "text" "[C", .methodLink RX4 46 yX4_isDigitUpTo, .instanceMethod yX4_isDigitUpTo, .selects RX4 yX4_isDigitUpTo yX4_isDigitUpTo, .code yX4_isDigitUpTo cX4_isDigitUpTo 2 (some .boolean), .methodLink RX4 49 yX4_takeNumber, .instanceMethod yX4_takeNumber, .selects RX4 yX4_takeNumber yX4_takeNumber, .code yX4_takeNumber cX4_takeNumber 4 (some .int)] ++ wsX40)
def wsX4_takesCommand : List Cond := .code yX4_takesCommand cX4_takesCommand 3 (some .boolean) :: ([.fieldLink RX4 32 "SnoopFilter$Program" "at" "I", .fieldLink RX4 28 "SnoopFilter$Program" "length" "I", .fieldLink RX4 9 "SnoopFilter$Program" "text" "[C", .fieldLink RX4 15 "SnoopFilter$Program" "kinds" "[C", .fieldLink RX4 18 "SnoopFilter$Program" "coresOf" "[I", .methodLink RX4 46 yX4_isDigitUpTo, .instanceMethod yX4_isDigitUpTo, .selects RX4 yX4_isDigitUpTo yX4_isDigitUpTo, .initialized RX4, .code yX4_isDigitUpTo cX4_isDigitUpTo 2 (some .boolean), .methodLink RX4 49 yX4_takeNumber, .instanceMethod yX4_takeNumber, .selects RX4 yX4_takeNumber yX4_takeNumber, .code yX4_takeNumber cX4_takeNumber 4 (some .int), .methodLink RX4 53 yX4_takesLineAndValue, .instanceMethod yX4_takesLineAndValue, .selects RX4 yX4_takesLineAndValue yX4_takesLineAndValue, .code yX4_takesLineAndValue cX4_takesLineAndValue 2 (some .boolean), .fieldLink RX4 22 "SnoopFilter$Program" "linesOf" "[I", .fieldLink RX4 25 "SnoopFilter$Program" "valuesOf" "[I", .methodLink RX4 42 yX4_takes, .instanceMethod yX4_takes, .selects RX4 yX4_takes yX4_takes, .code yX4_takes cX4_takes 2 (some .boolean)] ++ wsX40)
def wsX4_findFault_r1 : List Cond := [Cond.fieldLink RX4 32 "SnoopFilter$Program" "at" "I", Cond.fieldLink RX4 35 "SnoopFilter$Program" "commands" "I", Cond.fieldLink RX4 28 "SnoopFilter$Program" "length" "I", Cond.methodLink RX4 38 yX4_takesCommand, Cond.instanceMethod yX4_takesCommand, Cond.selects RX4 yX4_takesCommand yX4_takesCommand, Cond.initialized RX4, Cond.code yX4_takesCommand cX4_takesCommand 3 (some .boolean), Cond.fieldLink RX4 9 "SnoopFilter$Program" "text" "[C", Cond.fieldLink RX4 15 "SnoopFilter$Program" "kinds" "[C", Cond.fieldLink RX4 18 "SnoopFilter$Program" "coresOf" "[I", Cond.methodLink RX4 46 yX4_isDigitUpTo, Cond.instanceMethod yX4_isDigitUpTo, Cond.selects RX4 yX4_isDigitUpTo yX4_isDigitUpTo, Cond.code yX4_isDigitUpTo cX4_isDigitUpTo 2 (some .boolean), Cond.methodLink RX4 49 yX4_takeNumber, Cond.instanceMethod yX4_takeNumber, Cond.selects RX4 yX4_takeNumber yX4_takeNumber, Cond.code yX4_takeNumber cX4_takeNumber 4 (some .int), Cond.methodLink RX4 53 yX4_takesLineAndValue, Cond.instanceMethod yX4_takesLineAndValue, Cond.selects RX4 yX4_takesLineAndValue yX4_takesLineAndValue, Cond.code yX4_takesLineAndValue cX4_takesLineAndValue 2 (some .boolean), Cond.fieldLink RX4 22 "SnoopFilter$Program" "linesOf" "[I"]
def wsX4_findFault_r2 : List Cond := [Cond.fieldLink RX4 25 "SnoopFilter$Program" "valuesOf" "[I", Cond.methodLink RX4 42 yX4_takes, Cond.instanceMethod yX4_takes, Cond.selects RX4 yX4_takes yX4_takes, Cond.code yX4_takes cX4_takes 2 (some .boolean)]
def wsX4_findFault : List Cond := .code yX4_findFault cX4_findFault 1 (some .int) :: ((wsX4_findFault_r1 ++ wsX4_findFault_r2) ++ wsX40)
def wsX4_isReading : List Cond := .code yX4_isReading cX4_isReading 2 (some .boolean) :: ([.fieldLink RX4 15 "SnoopFilter$Program" "kinds" "[C"] ++ wsX40)
def wsX4_runCommand_r1 : List Cond := [Cond.fieldLink RX4 18 "SnoopFilter$Program" "coresOf" "[I", Cond.fieldLink RX4 22 "SnoopFilter$Program" "linesOf" "[I", Cond.fieldLink RX4 15 "SnoopFilter$Program" "kinds" "[C", Cond.fieldLink RX4 25 "SnoopFilter$Program" "valuesOf" "[I", Cond.methodLink RX4 56 yX3_readLine, Cond.instanceMethod yX3_readLine, Cond.selects RX3 yX3_readLine yX3_readLine, Cond.initialized RX3, Cond.code yX3_readLine cX3_readLine 7 (some .int), Cond.fieldLink RX3 17 "SnoopFilter$Machine" "cores" "[LSnoopFilter$Core;", Cond.fieldLink RX3 37 "SnoopFilter$Core" "tallies" "[I", Cond.fieldLink RX3 40 "SnoopFilter$Core" "values" "[I", Cond.fieldLink RX3 9 "SnoopFilter$Machine" "memory" "[I", Cond.methodLink RX3 29 yX0_placeOf, Cond.static yX0_placeOf, Cond.initialized RX0, Cond.code yX0_placeOf cX0_placeOf 1 (some .int), Cond.methodLink RX3 33 yX0_holds, Cond.instanceMethod yX0_holds, Cond.selects RX0 yX0_holds yX0_holds, Cond.code yX0_holds cX0_holds 2 (some .boolean), Cond.fieldLink RX0 9 "SnoopFilter$Core" "lines" "[I", Cond.methodLink RX0 32 yX0_placeOf, Cond.methodLink RX3 43 yX0_isReachedBySnoop]
def wsX4_runCommand_r2 : List Cond := [Cond.instanceMethod yX0_isReachedBySnoop, Cond.selects RX0 yX0_isReachedBySnoop yX0_isReachedBySnoop, Cond.code yX0_isReachedBySnoop cX0_isReachedBySnoop 2 (some .boolean), Cond.fieldLink RX0 28 "SnoopFilter$Core" "filter" "LSnoopFilter$Filter;", Cond.fieldLink RX0 22 "SnoopFilter$Core" "tallies" "[I", Cond.methodLink RX0 47 yX1_mayHave, Cond.instanceMethod yX1_mayHave, Cond.selects RX1 yX1_mayHave yX1_mayHave, Cond.initialized RX1, Cond.code yX1_mayHave cX1_mayHave 2 (some .boolean), Cond.fieldLink RX1 9 "SnoopFilter$Filter" "counters" "[I", Cond.methodLink RX1 37 yX1_hasBitOf, Cond.instanceMethod yX1_hasBitOf, Cond.selects RX1 yX1_hasBitOf yX1_hasBitOf, Cond.code yX1_hasBitOf cX1_hasBitOf 2 (some .boolean), Cond.fieldLink RX1 19 "SnoopFilter$Filter" "bits" "[Z", Cond.methodLink RX1 22 yX1_firstCounter, Cond.static yX1_firstCounter, Cond.code yX1_firstCounter cX1_firstCounter 1 (some .int), Cond.methodLink RX1 30 yX1_secondCounter, Cond.static yX1_secondCounter, Cond.code yX1_secondCounter cX1_secondCounter 1 (some .int), Cond.methodLink RX0 36 yX0_holds, Cond.methodLink RX3 46 yX3_writeBack]
def wsX4_runCommand_r3 : List Cond := [Cond.instanceMethod yX3_writeBack, Cond.selects RX3 yX3_writeBack yX3_writeBack, Cond.code yX3_writeBack cX3_writeBack 4 none, Cond.fieldLink RX3 97 "SnoopFilter$Core" "lines" "[I", Cond.fieldLink RX3 106 "SnoopFilter$Core" "dirty" "[Z", Cond.fieldLink RX3 110 "SnoopFilter$Machine" "writtenBack" "I", Cond.methodLink RX3 50 yX3_vacate, Cond.instanceMethod yX3_vacate, Cond.selects RX3 yX3_vacate yX3_vacate, Cond.code yX3_vacate cX3_vacate 4 none, Cond.methodLink RX3 71 yX0_release, Cond.instanceMethod yX0_release, Cond.selects RX0 yX0_release yX0_release, Cond.code yX0_release cX0_release 2 none, Cond.methodLink RX0 40 yX1_remove, Cond.instanceMethod yX1_remove, Cond.selects RX1 yX1_remove yX1_remove, Cond.code yX1_remove cX1_remove 2 none, Cond.methodLink RX1 33 yX1_lower, Cond.instanceMethod yX1_lower, Cond.selects RX1 yX1_lower yX1_lower, Cond.code yX1_lower cX1_lower 2 none, Cond.fieldLink RX1 15 "SnoopFilter$Filter" "stuck" "[Z", Cond.methodLink RX0 44 yX0_empty]
def wsX4_runCommand_r4 : List Cond := [Cond.instanceMethod yX0_empty, Cond.selects RX0 yX0_empty yX0_empty, Cond.code yX0_empty cX0_empty 2 none, Cond.fieldLink RX0 18 "SnoopFilter$Core" "dirty" "[Z", Cond.methodLink RX3 53 yX3_beginToHold, Cond.instanceMethod yX3_beginToHold, Cond.selects RX3 yX3_beginToHold yX3_beginToHold, Cond.code yX3_beginToHold cX3_beginToHold 5 none, Cond.fieldLink RX3 83 "SnoopFilter$Core" "filter" "LSnoopFilter$Filter;", Cond.fieldLink RX3 21 "SnoopFilter$Machine" "limit" "I", Cond.fieldLink RX3 25 "SnoopFilter$Machine" "fullFrom" "I", Cond.methodLink RX3 67 yX0_fill, Cond.instanceMethod yX0_fill, Cond.selects RX0 yX0_fill yX0_fill, Cond.code yX0_fill cX0_fill 5 none, Cond.fieldLink RX0 15 "SnoopFilter$Core" "values" "[I", Cond.methodLink RX3 87 yX1_add, Cond.instanceMethod yX1_add, Cond.selects RX1 yX1_add yX1_add, Cond.code yX1_add cX1_add 3 none, Cond.methodLink RX1 26 yX1_raise, Cond.instanceMethod yX1_raise, Cond.selects RX1 yX1_raise yX1_raise, Cond.code yX1_raise cX1_raise 3 none]
def wsX4_runCommand_r5 : List Cond := [Cond.methodLink RX3 93 yX1_countersAboveZero, Cond.instanceMethod yX1_countersAboveZero, Cond.selects RX1 yX1_countersAboveZero yX1_countersAboveZero, Cond.code yX1_countersAboveZero cX1_countersAboveZero 3 (some .int), Cond.methodLink RX3 79 yX3_forgetAllBut, Cond.instanceMethod yX3_forgetAllBut, Cond.selects RX3 yX3_forgetAllBut yX3_forgetAllBut, Cond.code yX3_forgetAllBut cX3_forgetAllBut 6 (some .int), Cond.methodLink RX3 100 yX0_empty, Cond.methodLink RX3 103 yX1_wipe, Cond.instanceMethod yX1_wipe, Cond.selects RX1 yX1_wipe yX1_wipe, Cond.code yX1_wipe cX1_wipe 2 none, Cond.methodLink RX4 62 yX3_writeLine, Cond.instanceMethod yX3_writeLine, Cond.selects RX3 yX3_writeLine yX3_writeLine, Cond.code yX3_writeLine cX3_writeLine 6 (some .int), Cond.fieldLink RX3 57 "SnoopFilter$Machine" "writings" "I", Cond.methodLink RX3 60 yX0_holdsDirty, Cond.instanceMethod yX0_holdsDirty, Cond.selects RX0 yX0_holdsDirty yX0_holdsDirty, Cond.code yX0_holdsDirty cX0_holdsDirty 2 (some .boolean), Cond.methodLink RX3 63 yX3_takeFromOthers, Cond.instanceMethod yX3_takeFromOthers]
def wsX4_runCommand_r6 : List Cond := [Cond.selects RX3 yX3_takeFromOthers yX3_takeFromOthers, Cond.code yX3_takeFromOthers cX3_takeFromOthers 6 (some .int), Cond.methodLink RX4 66 yX3_dropLine, Cond.instanceMethod yX3_dropLine, Cond.selects RX3 yX3_dropLine yX3_dropLine, Cond.code yX3_dropLine cX3_dropLine 5 (some .int), Cond.methodLink RX4 69 yX3_forgetOnPurpose, Cond.instanceMethod yX3_forgetOnPurpose, Cond.selects RX3 yX3_forgetOnPurpose yX3_forgetOnPurpose, Cond.code yX3_forgetOnPurpose cX3_forgetOnPurpose 3 (some .int), Cond.methodLink RX3 75 yX0_hasNothingToForget, Cond.instanceMethod yX0_hasNothingToForget, Cond.selects RX0 yX0_hasNothingToForget yX0_hasNothingToForget, Cond.code yX0_hasNothingToForget cX0_hasNothingToForget 1 (some .boolean), Cond.methodLink RX0 54 yX0_heldLines, Cond.instanceMethod yX0_heldLines, Cond.selects RX0 yX0_heldLines yX0_heldLines, Cond.code yX0_heldLines cX0_heldLines 3 (some .int), Cond.methodLink RX0 58 yX1_countersAboveZero, Cond.methodLink RX0 61 yX1_bitsThatAreOne, Cond.instanceMethod yX1_bitsThatAreOne, Cond.selects RX1 yX1_bitsThatAreOne yX1_bitsThatAreOne, Cond.code yX1_bitsThatAreOne cX1_bitsThatAreOne 1 (some .int), Cond.static yX5_howManyAreTrue]
def wsX4_runCommand_r7 : List Cond := [Cond.initialized RX5, Cond.code yX5_howManyAreTrue cX5_howManyAreTrue 6 (some .int)]
def wsX4_runCommand : List Cond := .code yX4_runCommand cX4_runCommand 6 (some .int) :: ((wsX4_runCommand_r1 ++ (wsX4_runCommand_r2 ++ (wsX4_runCommand_r3 ++ (wsX4_runCommand_r4 ++ (wsX4_runCommand_r5 ++ (wsX4_runCommand_r6 ++ wsX4_runCommand_r7)))))) ++ wsX40 ++ wsX30 ++ wsX00 ++ wsX10)
def wsX5_init_r1 : List Cond := [Cond.methodLink RX5 3 objectInit, Cond.instanceMethod objectInit, Cond.code objectInit ⟨#[0xb1]⟩ 1 none, Cond.classLink RX5 9 RX3, Cond.instantiable RX3 6, Cond.initialized RX3, Cond.fieldLink RX5 12 "SnoopFilter" "now" "LSnoopFilter$Machine;", Cond.fieldLink RX5 16 "SnoopFilter" "trial" "LSnoopFilter$Machine;", Cond.fieldLink RX5 19 "SnoopFilter" "snapshot" "LSnoopFilter$Machine;", Cond.classLink RX5 22 RX2, Cond.instantiable RX2 3, Cond.initialized RX2, Cond.fieldLink RX5 25 "SnoopFilter" "history" "LSnoopFilter$History;", Cond.classLink RX5 29 RX4, Cond.instantiable RX4 8, Cond.initialized RX4, Cond.fieldLink RX5 32 "SnoopFilter" "program" "LSnoopFilter$Program;", Cond.methodLink RX5 11 yX3_init, Cond.instanceMethod yX3_init, Cond.code yX3_init cX3_init 2 none, Cond.methodLink RX3 3 objectInit, Cond.arrayClass .int, Cond.fieldLink RX3 9 "SnoopFilter$Machine" "memory" "[I", Cond.classLink RX3 15 RX0]
def wsX5_init_r2 : List Cond := [Cond.fieldLink RX3 17 "SnoopFilter$Machine" "cores" "[LSnoopFilter$Core;", Cond.fieldLink RX3 21 "SnoopFilter$Machine" "limit" "I", Cond.fieldLink RX3 25 "SnoopFilter$Machine" "fullFrom" "I", Cond.instantiable RX0 5, Cond.initialized RX0, Cond.methodLink RX3 28 yX0_init, Cond.instanceMethod yX0_init, Cond.code yX0_init cX0_init 2 none, Cond.methodLink RX0 3 objectInit, Cond.fieldLink RX0 9 "SnoopFilter$Core" "lines" "[I", Cond.fieldLink RX0 15 "SnoopFilter$Core" "values" "[I", Cond.arrayClass .boolean, Cond.fieldLink RX0 18 "SnoopFilter$Core" "dirty" "[Z", Cond.fieldLink RX0 22 "SnoopFilter$Core" "tallies" "[I", Cond.classLink RX0 25 RX1, Cond.instantiable RX1 3, Cond.initialized RX1, Cond.fieldLink RX0 28 "SnoopFilter$Core" "filter" "LSnoopFilter$Filter;", Cond.instanceMethod yX1_init, Cond.code yX1_init cX1_init 1 none, Cond.methodLink RX1 3 objectInit, Cond.fieldLink RX1 9 "SnoopFilter$Filter" "counters" "[I", Cond.fieldLink RX1 15 "SnoopFilter$Filter" "stuck" "[Z", Cond.fieldLink RX1 19 "SnoopFilter$Filter" "bits" "[Z"]
def wsX5_init_r3 : List Cond := [Cond.methodLink RX5 24 yX2_init, Cond.instanceMethod yX2_init, Cond.code yX2_init cX2_init 2 none, Cond.methodLink RX2 3 objectInit, Cond.classLink RX2 9 RX3, Cond.fieldLink RX2 11 "SnoopFilter$History" "states" "[LSnoopFilter$Machine;", Cond.methodLink RX2 17 yX3_init, Cond.instanceMethod yX4_init, Cond.code yX4_init cX4_init 1 none, Cond.methodLink RX4 3 objectInit, Cond.arrayClass .char, Cond.fieldLink RX4 9 "SnoopFilter$Program" "text" "[C", Cond.fieldLink RX4 15 "SnoopFilter$Program" "kinds" "[C", Cond.fieldLink RX4 18 "SnoopFilter$Program" "coresOf" "[I", Cond.fieldLink RX4 22 "SnoopFilter$Program" "linesOf" "[I", Cond.fieldLink RX4 25 "SnoopFilter$Program" "valuesOf" "[I"]
def wsX5_init : List Cond := .code yX5_init cX5_init 1 none :: ((wsX5_init_r1 ++ (wsX5_init_r2 ++ wsX5_init_r3)) ++ wsX30 ++ wsX50 ++ wsX20 ++ wsX40 ++ wsX00 ++ wsX10)
def wsX5_isWithin : List Cond := .code yX5_isWithin cX5_isWithin 3 (some .boolean) :: ([])
def wsX5_isCore : List Cond := .code yX5_isCore cX5_isCore 1 (some .boolean) :: ([.methodLink RX5 51 yX5_isWithin, .static yX5_isWithin, .initialized RX5, .code yX5_isWithin cX5_isWithin 3 (some .boolean)])
def wsX5_isLine : List Cond := .code yX5_isLine cX5_isLine 1 (some .boolean) :: ([.methodLink RX5 51 yX5_isWithin, .static yX5_isWithin, .initialized RX5, .code yX5_isWithin cX5_isWithin 3 (some .boolean)])
def wsX5_read_r1 : List Cond := [Cond.fieldLink RX5 25 "SnoopFilter" "history" "LSnoopFilter$History;", Cond.fieldLink RX5 12 "SnoopFilter" "now" "LSnoopFilter$Machine;", Cond.methodLink RX5 36 yX5_isCore, Cond.static yX5_isCore, Cond.initialized RX5, Cond.code yX5_isCore cX5_isCore 1 (some .boolean), Cond.methodLink RX5 51 yX5_isWithin, Cond.static yX5_isWithin, Cond.code yX5_isWithin cX5_isWithin 3 (some .boolean), Cond.methodLink RX5 40 yX5_isLine, Cond.static yX5_isLine, Cond.code yX5_isLine cX5_isLine 1 (some .boolean), Cond.methodLink RX5 43 yX2_record, Cond.instanceMethod yX2_record, Cond.selects RX2 yX2_record yX2_record, Cond.initialized RX2, Cond.code yX2_record cX2_record 2 none, Cond.fieldLink RX2 11 "SnoopFilter$History" "states" "[LSnoopFilter$Machine;", Cond.fieldLink RX2 18 "SnoopFilter$History" "oldest" "I", Cond.fieldLink RX2 22 "SnoopFilter$History" "size" "I", Cond.methodLink RX2 25 yX3_copyFrom, Cond.instanceMethod yX3_copyFrom, Cond.selects RX3 yX3_copyFrom yX3_copyFrom, Cond.initialized RX3]
def wsX5_read_r2 : List Cond := [Cond.code yX3_copyFrom cX3_copyFrom 3 none, Cond.fieldLink RX3 9 "SnoopFilter$Machine" "memory" "[I", Cond.methodLink RX3 122 arraycopyName, Cond.native arraycopyName, Cond.static arraycopyName, Cond.initialized "java/lang/System", Cond.fieldLink RX3 17 "SnoopFilter$Machine" "cores" "[LSnoopFilter$Core;", Cond.fieldLink RX3 21 "SnoopFilter$Machine" "limit" "I", Cond.fieldLink RX3 25 "SnoopFilter$Machine" "fullFrom" "I", Cond.fieldLink RX3 110 "SnoopFilter$Machine" "writtenBack" "I", Cond.fieldLink RX3 57 "SnoopFilter$Machine" "writings" "I", Cond.methodLink RX3 128 yX0_copyFrom, Cond.instanceMethod yX0_copyFrom, Cond.selects RX0 yX0_copyFrom yX0_copyFrom, Cond.initialized RX0, Cond.code yX0_copyFrom cX0_copyFrom 2 none, Cond.fieldLink RX0 9 "SnoopFilter$Core" "lines" "[I", Cond.methodLink RX0 64 arraycopyName, Cond.fieldLink RX0 15 "SnoopFilter$Core" "values" "[I", Cond.fieldLink RX0 18 "SnoopFilter$Core" "dirty" "[Z", Cond.fieldLink RX0 22 "SnoopFilter$Core" "tallies" "[I", Cond.fieldLink RX0 28 "SnoopFilter$Core" "filter" "LSnoopFilter$Filter;", Cond.methodLink RX0 70 yX1_copyFrom, Cond.instanceMethod yX1_copyFrom]
def wsX5_read_r3 : List Cond := [Cond.selects RX1 yX1_copyFrom yX1_copyFrom, Cond.initialized RX1, Cond.code yX1_copyFrom cX1_copyFrom 2 none, Cond.fieldLink RX1 9 "SnoopFilter$Filter" "counters" "[I", Cond.methodLink RX1 45 arraycopyName, Cond.fieldLink RX1 15 "SnoopFilter$Filter" "stuck" "[Z", Cond.fieldLink RX1 19 "SnoopFilter$Filter" "bits" "[Z", Cond.methodLink RX5 47 yX3_readLine, Cond.instanceMethod yX3_readLine, Cond.selects RX3 yX3_readLine yX3_readLine, Cond.code yX3_readLine cX3_readLine 7 (some .int), Cond.fieldLink RX3 37 "SnoopFilter$Core" "tallies" "[I", Cond.fieldLink RX3 40 "SnoopFilter$Core" "values" "[I", Cond.methodLink RX3 29 yX0_placeOf, Cond.static yX0_placeOf, Cond.code yX0_placeOf cX0_placeOf 1 (some .int), Cond.methodLink RX3 33 yX0_holds, Cond.instanceMethod yX0_holds, Cond.selects RX0 yX0_holds yX0_holds, Cond.code yX0_holds cX0_holds 2 (some .boolean), Cond.methodLink RX0 32 yX0_placeOf, Cond.methodLink RX3 43 yX0_isReachedBySnoop, Cond.instanceMethod yX0_isReachedBySnoop, Cond.selects RX0 yX0_isReachedBySnoop yX0_isReachedBySnoop]
def wsX5_read_r4 : List Cond := [Cond.code yX0_isReachedBySnoop cX0_isReachedBySnoop 2 (some .boolean), Cond.methodLink RX0 47 yX1_mayHave, Cond.instanceMethod yX1_mayHave, Cond.selects RX1 yX1_mayHave yX1_mayHave, Cond.code yX1_mayHave cX1_mayHave 2 (some .boolean), Cond.methodLink RX1 37 yX1_hasBitOf, Cond.instanceMethod yX1_hasBitOf, Cond.selects RX1 yX1_hasBitOf yX1_hasBitOf, Cond.code yX1_hasBitOf cX1_hasBitOf 2 (some .boolean), Cond.methodLink RX1 22 yX1_firstCounter, Cond.static yX1_firstCounter, Cond.code yX1_firstCounter cX1_firstCounter 1 (some .int), Cond.methodLink RX1 30 yX1_secondCounter, Cond.static yX1_secondCounter, Cond.code yX1_secondCounter cX1_secondCounter 1 (some .int), Cond.methodLink RX0 36 yX0_holds, Cond.methodLink RX3 46 yX3_writeBack, Cond.instanceMethod yX3_writeBack, Cond.selects RX3 yX3_writeBack yX3_writeBack, Cond.code yX3_writeBack cX3_writeBack 4 none, Cond.fieldLink RX3 97 "SnoopFilter$Core" "lines" "[I", Cond.fieldLink RX3 106 "SnoopFilter$Core" "dirty" "[Z", Cond.methodLink RX3 50 yX3_vacate, Cond.instanceMethod yX3_vacate]
def wsX5_read_r5 : List Cond := [Cond.selects RX3 yX3_vacate yX3_vacate, Cond.code yX3_vacate cX3_vacate 4 none, Cond.methodLink RX3 71 yX0_release, Cond.instanceMethod yX0_release, Cond.selects RX0 yX0_release yX0_release, Cond.code yX0_release cX0_release 2 none, Cond.methodLink RX0 40 yX1_remove, Cond.instanceMethod yX1_remove, Cond.selects RX1 yX1_remove yX1_remove, Cond.code yX1_remove cX1_remove 2 none, Cond.methodLink RX1 33 yX1_lower, Cond.instanceMethod yX1_lower, Cond.selects RX1 yX1_lower yX1_lower, Cond.code yX1_lower cX1_lower 2 none, Cond.methodLink RX0 44 yX0_empty, Cond.instanceMethod yX0_empty, Cond.selects RX0 yX0_empty yX0_empty, Cond.code yX0_empty cX0_empty 2 none, Cond.methodLink RX3 53 yX3_beginToHold, Cond.instanceMethod yX3_beginToHold, Cond.selects RX3 yX3_beginToHold yX3_beginToHold, Cond.code yX3_beginToHold cX3_beginToHold 5 none, Cond.fieldLink RX3 83 "SnoopFilter$Core" "filter" "LSnoopFilter$Filter;", Cond.methodLink RX3 67 yX0_fill]
def wsX5_read_r6 : List Cond := [Cond.instanceMethod yX0_fill, Cond.selects RX0 yX0_fill yX0_fill, Cond.code yX0_fill cX0_fill 5 none, Cond.methodLink RX3 87 yX1_add, Cond.instanceMethod yX1_add, Cond.selects RX1 yX1_add yX1_add, Cond.code yX1_add cX1_add 3 none, Cond.methodLink RX1 26 yX1_raise, Cond.instanceMethod yX1_raise, Cond.selects RX1 yX1_raise yX1_raise, Cond.code yX1_raise cX1_raise 3 none, Cond.methodLink RX3 93 yX1_countersAboveZero, Cond.instanceMethod yX1_countersAboveZero, Cond.selects RX1 yX1_countersAboveZero yX1_countersAboveZero, Cond.code yX1_countersAboveZero cX1_countersAboveZero 3 (some .int), Cond.methodLink RX3 79 yX3_forgetAllBut, Cond.instanceMethod yX3_forgetAllBut, Cond.selects RX3 yX3_forgetAllBut yX3_forgetAllBut, Cond.code yX3_forgetAllBut cX3_forgetAllBut 6 (some .int), Cond.methodLink RX3 100 yX0_empty, Cond.methodLink RX3 103 yX1_wipe, Cond.instanceMethod yX1_wipe, Cond.selects RX1 yX1_wipe yX1_wipe, Cond.code yX1_wipe cX1_wipe 2 none]
def wsX5_read : List Cond := .code yX5_read cX5_read 3 (some .int) :: ((wsX5_read_r1 ++ (wsX5_read_r2 ++ (wsX5_read_r3 ++ (wsX5_read_r4 ++ (wsX5_read_r5 ++ wsX5_read_r6))))) ++ wsX50 ++ wsX20 ++ wsX30 ++ wsX00 ++ wsX10)
def wsX5_write_r1 : List Cond := [Cond.fieldLink RX5 25 "SnoopFilter" "history" "LSnoopFilter$History;", Cond.fieldLink RX5 12 "SnoopFilter" "now" "LSnoopFilter$Machine;", Cond.methodLink RX5 36 yX5_isCore, Cond.static yX5_isCore, Cond.initialized RX5, Cond.code yX5_isCore cX5_isCore 1 (some .boolean), Cond.methodLink RX5 51 yX5_isWithin, Cond.static yX5_isWithin, Cond.code yX5_isWithin cX5_isWithin 3 (some .boolean), Cond.methodLink RX5 40 yX5_isLine, Cond.static yX5_isLine, Cond.code yX5_isLine cX5_isLine 1 (some .boolean), Cond.methodLink RX5 43 yX2_record, Cond.instanceMethod yX2_record, Cond.selects RX2 yX2_record yX2_record, Cond.initialized RX2, Cond.code yX2_record cX2_record 2 none, Cond.fieldLink RX2 11 "SnoopFilter$History" "states" "[LSnoopFilter$Machine;", Cond.fieldLink RX2 18 "SnoopFilter$History" "oldest" "I", Cond.fieldLink RX2 22 "SnoopFilter$History" "size" "I", Cond.methodLink RX2 25 yX3_copyFrom, Cond.instanceMethod yX3_copyFrom, Cond.selects RX3 yX3_copyFrom yX3_copyFrom, Cond.initialized RX3]
def wsX5_write_r2 : List Cond := [Cond.code yX3_copyFrom cX3_copyFrom 3 none, Cond.fieldLink RX3 9 "SnoopFilter$Machine" "memory" "[I", Cond.methodLink RX3 122 arraycopyName, Cond.native arraycopyName, Cond.static arraycopyName, Cond.initialized "java/lang/System", Cond.fieldLink RX3 17 "SnoopFilter$Machine" "cores" "[LSnoopFilter$Core;", Cond.fieldLink RX3 21 "SnoopFilter$Machine" "limit" "I", Cond.fieldLink RX3 25 "SnoopFilter$Machine" "fullFrom" "I", Cond.fieldLink RX3 110 "SnoopFilter$Machine" "writtenBack" "I", Cond.fieldLink RX3 57 "SnoopFilter$Machine" "writings" "I", Cond.methodLink RX3 128 yX0_copyFrom, Cond.instanceMethod yX0_copyFrom, Cond.selects RX0 yX0_copyFrom yX0_copyFrom, Cond.initialized RX0, Cond.code yX0_copyFrom cX0_copyFrom 2 none, Cond.fieldLink RX0 9 "SnoopFilter$Core" "lines" "[I", Cond.methodLink RX0 64 arraycopyName, Cond.fieldLink RX0 15 "SnoopFilter$Core" "values" "[I", Cond.fieldLink RX0 18 "SnoopFilter$Core" "dirty" "[Z", Cond.fieldLink RX0 22 "SnoopFilter$Core" "tallies" "[I", Cond.fieldLink RX0 28 "SnoopFilter$Core" "filter" "LSnoopFilter$Filter;", Cond.methodLink RX0 70 yX1_copyFrom, Cond.instanceMethod yX1_copyFrom]
def wsX5_write_r3 : List Cond := [Cond.selects RX1 yX1_copyFrom yX1_copyFrom, Cond.initialized RX1, Cond.code yX1_copyFrom cX1_copyFrom 2 none, Cond.fieldLink RX1 9 "SnoopFilter$Filter" "counters" "[I", Cond.methodLink RX1 45 arraycopyName, Cond.fieldLink RX1 15 "SnoopFilter$Filter" "stuck" "[Z", Cond.fieldLink RX1 19 "SnoopFilter$Filter" "bits" "[Z", Cond.methodLink RX5 55 yX3_writeLine, Cond.instanceMethod yX3_writeLine, Cond.selects RX3 yX3_writeLine yX3_writeLine, Cond.code yX3_writeLine cX3_writeLine 6 (some .int), Cond.methodLink RX3 60 yX0_holdsDirty, Cond.instanceMethod yX0_holdsDirty, Cond.selects RX0 yX0_holdsDirty yX0_holdsDirty, Cond.code yX0_holdsDirty cX0_holdsDirty 2 (some .boolean), Cond.methodLink RX0 36 yX0_holds, Cond.instanceMethod yX0_holds, Cond.selects RX0 yX0_holds yX0_holds, Cond.code yX0_holds cX0_holds 2 (some .boolean), Cond.methodLink RX0 32 yX0_placeOf, Cond.static yX0_placeOf, Cond.code yX0_placeOf cX0_placeOf 1 (some .int), Cond.methodLink RX3 63 yX3_takeFromOthers, Cond.instanceMethod yX3_takeFromOthers]
def wsX5_write_r4 : List Cond := [Cond.selects RX3 yX3_takeFromOthers yX3_takeFromOthers, Cond.code yX3_takeFromOthers cX3_takeFromOthers 6 (some .int), Cond.methodLink RX3 43 yX0_isReachedBySnoop, Cond.instanceMethod yX0_isReachedBySnoop, Cond.selects RX0 yX0_isReachedBySnoop yX0_isReachedBySnoop, Cond.code yX0_isReachedBySnoop cX0_isReachedBySnoop 2 (some .boolean), Cond.methodLink RX0 47 yX1_mayHave, Cond.instanceMethod yX1_mayHave, Cond.selects RX1 yX1_mayHave yX1_mayHave, Cond.code yX1_mayHave cX1_mayHave 2 (some .boolean), Cond.methodLink RX1 37 yX1_hasBitOf, Cond.instanceMethod yX1_hasBitOf, Cond.selects RX1 yX1_hasBitOf yX1_hasBitOf, Cond.code yX1_hasBitOf cX1_hasBitOf 2 (some .boolean), Cond.methodLink RX1 22 yX1_firstCounter, Cond.static yX1_firstCounter, Cond.code yX1_firstCounter cX1_firstCounter 1 (some .int), Cond.methodLink RX1 30 yX1_secondCounter, Cond.static yX1_secondCounter, Cond.code yX1_secondCounter cX1_secondCounter 1 (some .int), Cond.methodLink RX3 33 yX0_holds, Cond.methodLink RX3 71 yX0_release, Cond.instanceMethod yX0_release, Cond.selects RX0 yX0_release yX0_release]
def wsX5_write_r5 : List Cond := [Cond.code yX0_release cX0_release 2 none, Cond.methodLink RX0 40 yX1_remove, Cond.instanceMethod yX1_remove, Cond.selects RX1 yX1_remove yX1_remove, Cond.code yX1_remove cX1_remove 2 none, Cond.methodLink RX1 33 yX1_lower, Cond.instanceMethod yX1_lower, Cond.selects RX1 yX1_lower yX1_lower, Cond.code yX1_lower cX1_lower 2 none, Cond.methodLink RX0 44 yX0_empty, Cond.instanceMethod yX0_empty, Cond.selects RX0 yX0_empty yX0_empty, Cond.code yX0_empty cX0_empty 2 none, Cond.methodLink RX3 67 yX0_fill, Cond.instanceMethod yX0_fill, Cond.selects RX0 yX0_fill yX0_fill, Cond.code yX0_fill cX0_fill 5 none, Cond.methodLink RX3 29 yX0_placeOf, Cond.methodLink RX3 50 yX3_vacate, Cond.instanceMethod yX3_vacate, Cond.selects RX3 yX3_vacate yX3_vacate, Cond.code yX3_vacate cX3_vacate 4 none, Cond.fieldLink RX3 97 "SnoopFilter$Core" "lines" "[I", Cond.methodLink RX3 46 yX3_writeBack]
def wsX5_write_r6 : List Cond := [Cond.instanceMethod yX3_writeBack, Cond.selects RX3 yX3_writeBack yX3_writeBack, Cond.code yX3_writeBack cX3_writeBack 4 none, Cond.fieldLink RX3 106 "SnoopFilter$Core" "dirty" "[Z", Cond.fieldLink RX3 40 "SnoopFilter$Core" "values" "[I", Cond.methodLink RX3 53 yX3_beginToHold, Cond.instanceMethod yX3_beginToHold, Cond.selects RX3 yX3_beginToHold yX3_beginToHold, Cond.code yX3_beginToHold cX3_beginToHold 5 none, Cond.fieldLink RX3 83 "SnoopFilter$Core" "filter" "LSnoopFilter$Filter;", Cond.methodLink RX3 87 yX1_add, Cond.instanceMethod yX1_add, Cond.selects RX1 yX1_add yX1_add, Cond.code yX1_add cX1_add 3 none, Cond.methodLink RX1 26 yX1_raise, Cond.instanceMethod yX1_raise, Cond.selects RX1 yX1_raise yX1_raise, Cond.code yX1_raise cX1_raise 3 none, Cond.methodLink RX3 93 yX1_countersAboveZero, Cond.instanceMethod yX1_countersAboveZero, Cond.selects RX1 yX1_countersAboveZero yX1_countersAboveZero, Cond.code yX1_countersAboveZero cX1_countersAboveZero 3 (some .int), Cond.methodLink RX3 79 yX3_forgetAllBut, Cond.instanceMethod yX3_forgetAllBut]
def wsX5_write_r7 : List Cond := [Cond.selects RX3 yX3_forgetAllBut yX3_forgetAllBut, Cond.code yX3_forgetAllBut cX3_forgetAllBut 6 (some .int), Cond.fieldLink RX3 37 "SnoopFilter$Core" "tallies" "[I", Cond.methodLink RX3 100 yX0_empty, Cond.methodLink RX3 103 yX1_wipe, Cond.instanceMethod yX1_wipe, Cond.selects RX1 yX1_wipe yX1_wipe, Cond.code yX1_wipe cX1_wipe 2 none]
def wsX5_write : List Cond := .code yX5_write cX5_write 4 (some .int) :: ((wsX5_write_r1 ++ (wsX5_write_r2 ++ (wsX5_write_r3 ++ (wsX5_write_r4 ++ (wsX5_write_r5 ++ (wsX5_write_r6 ++ wsX5_write_r7)))))) ++ wsX50 ++ wsX20 ++ wsX30 ++ wsX00 ++ wsX10)
def wsX5_drop_r1 : List Cond := [Cond.fieldLink RX5 12 "SnoopFilter" "now" "LSnoopFilter$Machine;", Cond.fieldLink RX5 59 "SnoopFilter$Machine" "cores" "[LSnoopFilter$Core;", Cond.fieldLink RX5 25 "SnoopFilter" "history" "LSnoopFilter$History;", Cond.methodLink RX5 36 yX5_isCore, Cond.static yX5_isCore, Cond.initialized RX5, Cond.code yX5_isCore cX5_isCore 1 (some .boolean), Cond.methodLink RX5 51 yX5_isWithin, Cond.static yX5_isWithin, Cond.code yX5_isWithin cX5_isWithin 3 (some .boolean), Cond.methodLink RX5 40 yX5_isLine, Cond.static yX5_isLine, Cond.code yX5_isLine cX5_isLine 1 (some .boolean), Cond.methodLink RX5 63 yX0_holds, Cond.instanceMethod yX0_holds, Cond.selects RX0 yX0_holds yX0_holds, Cond.initialized RX0, Cond.code yX0_holds cX0_holds 2 (some .boolean), Cond.fieldLink RX0 9 "SnoopFilter$Core" "lines" "[I", Cond.methodLink RX0 32 yX0_placeOf, Cond.static yX0_placeOf, Cond.code yX0_placeOf cX0_placeOf 1 (some .int), Cond.methodLink RX5 43 yX2_record, Cond.instanceMethod yX2_record]
def wsX5_drop_r2 : List Cond := [Cond.selects RX2 yX2_record yX2_record, Cond.initialized RX2, Cond.code yX2_record cX2_record 2 none, Cond.fieldLink RX2 11 "SnoopFilter$History" "states" "[LSnoopFilter$Machine;", Cond.fieldLink RX2 18 "SnoopFilter$History" "oldest" "I", Cond.fieldLink RX2 22 "SnoopFilter$History" "size" "I", Cond.methodLink RX2 25 yX3_copyFrom, Cond.instanceMethod yX3_copyFrom, Cond.selects RX3 yX3_copyFrom yX3_copyFrom, Cond.initialized RX3, Cond.code yX3_copyFrom cX3_copyFrom 3 none, Cond.fieldLink RX3 9 "SnoopFilter$Machine" "memory" "[I", Cond.methodLink RX3 122 arraycopyName, Cond.native arraycopyName, Cond.static arraycopyName, Cond.initialized "java/lang/System", Cond.fieldLink RX3 17 "SnoopFilter$Machine" "cores" "[LSnoopFilter$Core;", Cond.fieldLink RX3 21 "SnoopFilter$Machine" "limit" "I", Cond.fieldLink RX3 25 "SnoopFilter$Machine" "fullFrom" "I", Cond.fieldLink RX3 110 "SnoopFilter$Machine" "writtenBack" "I", Cond.fieldLink RX3 57 "SnoopFilter$Machine" "writings" "I", Cond.methodLink RX3 128 yX0_copyFrom, Cond.instanceMethod yX0_copyFrom, Cond.selects RX0 yX0_copyFrom yX0_copyFrom]
def wsX5_drop_r3 : List Cond := [Cond.code yX0_copyFrom cX0_copyFrom 2 none, Cond.methodLink RX0 64 arraycopyName, Cond.fieldLink RX0 15 "SnoopFilter$Core" "values" "[I", Cond.fieldLink RX0 18 "SnoopFilter$Core" "dirty" "[Z", Cond.fieldLink RX0 22 "SnoopFilter$Core" "tallies" "[I", Cond.fieldLink RX0 28 "SnoopFilter$Core" "filter" "LSnoopFilter$Filter;", Cond.methodLink RX0 70 yX1_copyFrom, Cond.instanceMethod yX1_copyFrom, Cond.selects RX1 yX1_copyFrom yX1_copyFrom, Cond.initialized RX1, Cond.code yX1_copyFrom cX1_copyFrom 2 none, Cond.fieldLink RX1 9 "SnoopFilter$Filter" "counters" "[I", Cond.methodLink RX1 45 arraycopyName, Cond.fieldLink RX1 15 "SnoopFilter$Filter" "stuck" "[Z", Cond.fieldLink RX1 19 "SnoopFilter$Filter" "bits" "[Z", Cond.methodLink RX5 68 yX3_dropLine, Cond.instanceMethod yX3_dropLine, Cond.selects RX3 yX3_dropLine yX3_dropLine, Cond.code yX3_dropLine cX3_dropLine 5 (some .int), Cond.methodLink RX3 33 yX0_holds, Cond.methodLink RX3 60 yX0_holdsDirty, Cond.instanceMethod yX0_holdsDirty, Cond.selects RX0 yX0_holdsDirty yX0_holdsDirty, Cond.code yX0_holdsDirty cX0_holdsDirty 2 (some .boolean)]
def wsX5_drop_r4 : List Cond := [Cond.methodLink RX0 36 yX0_holds, Cond.methodLink RX3 29 yX0_placeOf, Cond.methodLink RX3 50 yX3_vacate, Cond.instanceMethod yX3_vacate, Cond.selects RX3 yX3_vacate yX3_vacate, Cond.code yX3_vacate cX3_vacate 4 none, Cond.fieldLink RX3 97 "SnoopFilter$Core" "lines" "[I", Cond.methodLink RX3 46 yX3_writeBack, Cond.instanceMethod yX3_writeBack, Cond.selects RX3 yX3_writeBack yX3_writeBack, Cond.code yX3_writeBack cX3_writeBack 4 none, Cond.fieldLink RX3 106 "SnoopFilter$Core" "dirty" "[Z", Cond.fieldLink RX3 40 "SnoopFilter$Core" "values" "[I", Cond.methodLink RX3 71 yX0_release, Cond.instanceMethod yX0_release, Cond.selects RX0 yX0_release yX0_release, Cond.code yX0_release cX0_release 2 none, Cond.methodLink RX0 40 yX1_remove, Cond.instanceMethod yX1_remove, Cond.selects RX1 yX1_remove yX1_remove, Cond.code yX1_remove cX1_remove 2 none, Cond.methodLink RX1 22 yX1_firstCounter, Cond.static yX1_firstCounter, Cond.code yX1_firstCounter cX1_firstCounter 1 (some .int)]
def wsX5_drop_r5 : List Cond := [Cond.methodLink RX1 33 yX1_lower, Cond.instanceMethod yX1_lower, Cond.selects RX1 yX1_lower yX1_lower, Cond.code yX1_lower cX1_lower 2 none, Cond.methodLink RX1 30 yX1_secondCounter, Cond.static yX1_secondCounter, Cond.code yX1_secondCounter cX1_secondCounter 1 (some .int), Cond.methodLink RX0 44 yX0_empty, Cond.instanceMethod yX0_empty, Cond.selects RX0 yX0_empty yX0_empty, Cond.code yX0_empty cX0_empty 2 none]
def wsX5_drop : List Cond := .code yX5_drop cX5_drop 3 (some .int) :: ((wsX5_drop_r1 ++ (wsX5_drop_r2 ++ (wsX5_drop_r3 ++ (wsX5_drop_r4 ++ wsX5_drop_r5)))) ++ wsX50 ++ wsX30 ++ wsX00 ++ wsX20 ++ wsX10)
def wsX5_forget_r1 : List Cond := [Cond.fieldLink RX5 12 "SnoopFilter" "now" "LSnoopFilter$Machine;", Cond.fieldLink RX5 59 "SnoopFilter$Machine" "cores" "[LSnoopFilter$Core;", Cond.fieldLink RX5 25 "SnoopFilter" "history" "LSnoopFilter$History;", Cond.methodLink RX5 36 yX5_isCore, Cond.static yX5_isCore, Cond.initialized RX5, Cond.code yX5_isCore cX5_isCore 1 (some .boolean), Cond.methodLink RX5 51 yX5_isWithin, Cond.static yX5_isWithin, Cond.code yX5_isWithin cX5_isWithin 3 (some .boolean), Cond.methodLink RX5 71 yX0_hasNothingToForget, Cond.instanceMethod yX0_hasNothingToForget, Cond.selects RX0 yX0_hasNothingToForget yX0_hasNothingToForget, Cond.initialized RX0, Cond.code yX0_hasNothingToForget cX0_hasNothingToForget 1 (some .boolean), Cond.fieldLink RX0 28 "SnoopFilter$Core" "filter" "LSnoopFilter$Filter;", Cond.methodLink RX0 54 yX0_heldLines, Cond.instanceMethod yX0_heldLines, Cond.selects RX0 yX0_heldLines yX0_heldLines, Cond.code yX0_heldLines cX0_heldLines 3 (some .int), Cond.fieldLink RX0 9 "SnoopFilter$Core" "lines" "[I", Cond.methodLink RX0 58 yX1_countersAboveZero, Cond.instanceMethod yX1_countersAboveZero, Cond.selects RX1 yX1_countersAboveZero yX1_countersAboveZero]
def wsX5_forget_r2 : List Cond := [Cond.initialized RX1, Cond.code yX1_countersAboveZero cX1_countersAboveZero 3 (some .int), Cond.fieldLink RX1 9 "SnoopFilter$Filter" "counters" "[I", Cond.methodLink RX0 61 yX1_bitsThatAreOne, Cond.instanceMethod yX1_bitsThatAreOne, Cond.selects RX1 yX1_bitsThatAreOne yX1_bitsThatAreOne, Cond.code yX1_bitsThatAreOne cX1_bitsThatAreOne 1 (some .int), Cond.fieldLink RX1 19 "SnoopFilter$Filter" "bits" "[Z", Cond.static yX5_howManyAreTrue, Cond.code yX5_howManyAreTrue cX5_howManyAreTrue 6 (some .int), Cond.methodLink RX5 43 yX2_record, Cond.instanceMethod yX2_record, Cond.selects RX2 yX2_record yX2_record, Cond.initialized RX2, Cond.code yX2_record cX2_record 2 none, Cond.fieldLink RX2 11 "SnoopFilter$History" "states" "[LSnoopFilter$Machine;", Cond.fieldLink RX2 18 "SnoopFilter$History" "oldest" "I", Cond.fieldLink RX2 22 "SnoopFilter$History" "size" "I", Cond.methodLink RX2 25 yX3_copyFrom, Cond.instanceMethod yX3_copyFrom, Cond.selects RX3 yX3_copyFrom yX3_copyFrom, Cond.initialized RX3, Cond.code yX3_copyFrom cX3_copyFrom 3 none, Cond.fieldLink RX3 9 "SnoopFilter$Machine" "memory" "[I"]
def wsX5_forget_r3 : List Cond := [Cond.methodLink RX3 122 arraycopyName, Cond.native arraycopyName, Cond.static arraycopyName, Cond.initialized "java/lang/System", Cond.fieldLink RX3 17 "SnoopFilter$Machine" "cores" "[LSnoopFilter$Core;", Cond.fieldLink RX3 21 "SnoopFilter$Machine" "limit" "I", Cond.fieldLink RX3 25 "SnoopFilter$Machine" "fullFrom" "I", Cond.fieldLink RX3 110 "SnoopFilter$Machine" "writtenBack" "I", Cond.fieldLink RX3 57 "SnoopFilter$Machine" "writings" "I", Cond.methodLink RX3 128 yX0_copyFrom, Cond.instanceMethod yX0_copyFrom, Cond.selects RX0 yX0_copyFrom yX0_copyFrom, Cond.code yX0_copyFrom cX0_copyFrom 2 none, Cond.methodLink RX0 64 arraycopyName, Cond.fieldLink RX0 15 "SnoopFilter$Core" "values" "[I", Cond.fieldLink RX0 18 "SnoopFilter$Core" "dirty" "[Z", Cond.fieldLink RX0 22 "SnoopFilter$Core" "tallies" "[I", Cond.methodLink RX0 70 yX1_copyFrom, Cond.instanceMethod yX1_copyFrom, Cond.selects RX1 yX1_copyFrom yX1_copyFrom, Cond.code yX1_copyFrom cX1_copyFrom 2 none, Cond.methodLink RX1 45 arraycopyName, Cond.fieldLink RX1 15 "SnoopFilter$Filter" "stuck" "[Z", Cond.methodLink RX5 75 yX3_forgetOnPurpose]
def wsX5_forget_r4 : List Cond := [Cond.instanceMethod yX3_forgetOnPurpose, Cond.selects RX3 yX3_forgetOnPurpose yX3_forgetOnPurpose, Cond.code yX3_forgetOnPurpose cX3_forgetOnPurpose 3 (some .int), Cond.methodLink RX3 75 yX0_hasNothingToForget, Cond.methodLink RX3 79 yX3_forgetAllBut, Cond.instanceMethod yX3_forgetAllBut, Cond.selects RX3 yX3_forgetAllBut yX3_forgetAllBut, Cond.code yX3_forgetAllBut cX3_forgetAllBut 6 (some .int), Cond.fieldLink RX3 97 "SnoopFilter$Core" "lines" "[I", Cond.fieldLink RX3 83 "SnoopFilter$Core" "filter" "LSnoopFilter$Filter;", Cond.fieldLink RX3 37 "SnoopFilter$Core" "tallies" "[I", Cond.methodLink RX3 46 yX3_writeBack, Cond.instanceMethod yX3_writeBack, Cond.selects RX3 yX3_writeBack yX3_writeBack, Cond.code yX3_writeBack cX3_writeBack 4 none, Cond.fieldLink RX3 106 "SnoopFilter$Core" "dirty" "[Z", Cond.fieldLink RX3 40 "SnoopFilter$Core" "values" "[I", Cond.methodLink RX3 100 yX0_empty, Cond.instanceMethod yX0_empty, Cond.selects RX0 yX0_empty yX0_empty, Cond.code yX0_empty cX0_empty 2 none, Cond.methodLink RX3 103 yX1_wipe, Cond.instanceMethod yX1_wipe, Cond.selects RX1 yX1_wipe yX1_wipe]
def wsX5_forget_r5 : List Cond := [Cond.code yX1_wipe cX1_wipe 2 none]
def wsX5_forget : List Cond := .code yX5_forget cX5_forget 2 (some .int) :: ((wsX5_forget_r1 ++ (wsX5_forget_r2 ++ (wsX5_forget_r3 ++ (wsX5_forget_r4 ++ wsX5_forget_r5)))) ++ wsX50 ++ wsX30 ++ wsX00 ++ wsX10 ++ wsX20)
def wsX5_set_r1 : List Cond := [Cond.fieldLink RX5 12 "SnoopFilter" "now" "LSnoopFilter$Machine;", Cond.fieldLink RX5 79 "SnoopFilter$Machine" "limit" "I", Cond.fieldLink RX5 83 "SnoopFilter$Machine" "fullFrom" "I", Cond.fieldLink RX5 25 "SnoopFilter" "history" "LSnoopFilter$History;", Cond.methodLink RX5 51 yX5_isWithin, Cond.static yX5_isWithin, Cond.initialized RX5, Cond.code yX5_isWithin cX5_isWithin 3 (some .boolean), Cond.methodLink RX5 43 yX2_record, Cond.instanceMethod yX2_record, Cond.selects RX2 yX2_record yX2_record, Cond.initialized RX2, Cond.code yX2_record cX2_record 2 none, Cond.fieldLink RX2 11 "SnoopFilter$History" "states" "[LSnoopFilter$Machine;", Cond.fieldLink RX2 18 "SnoopFilter$History" "oldest" "I", Cond.fieldLink RX2 22 "SnoopFilter$History" "size" "I", Cond.methodLink RX2 25 yX3_copyFrom, Cond.instanceMethod yX3_copyFrom, Cond.selects RX3 yX3_copyFrom yX3_copyFrom, Cond.initialized RX3, Cond.code yX3_copyFrom cX3_copyFrom 3 none, Cond.fieldLink RX3 9 "SnoopFilter$Machine" "memory" "[I", Cond.methodLink RX3 122 arraycopyName, Cond.native arraycopyName]
def wsX5_set_r2 : List Cond := [Cond.static arraycopyName, Cond.initialized "java/lang/System", Cond.fieldLink RX3 17 "SnoopFilter$Machine" "cores" "[LSnoopFilter$Core;", Cond.fieldLink RX3 21 "SnoopFilter$Machine" "limit" "I", Cond.fieldLink RX3 25 "SnoopFilter$Machine" "fullFrom" "I", Cond.fieldLink RX3 110 "SnoopFilter$Machine" "writtenBack" "I", Cond.fieldLink RX3 57 "SnoopFilter$Machine" "writings" "I", Cond.methodLink RX3 128 yX0_copyFrom, Cond.instanceMethod yX0_copyFrom, Cond.selects RX0 yX0_copyFrom yX0_copyFrom, Cond.initialized RX0, Cond.code yX0_copyFrom cX0_copyFrom 2 none, Cond.fieldLink RX0 9 "SnoopFilter$Core" "lines" "[I", Cond.methodLink RX0 64 arraycopyName, Cond.fieldLink RX0 15 "SnoopFilter$Core" "values" "[I", Cond.fieldLink RX0 18 "SnoopFilter$Core" "dirty" "[Z", Cond.fieldLink RX0 22 "SnoopFilter$Core" "tallies" "[I", Cond.fieldLink RX0 28 "SnoopFilter$Core" "filter" "LSnoopFilter$Filter;", Cond.methodLink RX0 70 yX1_copyFrom, Cond.instanceMethod yX1_copyFrom, Cond.selects RX1 yX1_copyFrom yX1_copyFrom, Cond.initialized RX1, Cond.code yX1_copyFrom cX1_copyFrom 2 none, Cond.fieldLink RX1 9 "SnoopFilter$Filter" "counters" "[I"]
def wsX5_set_r3 : List Cond := [Cond.methodLink RX1 45 arraycopyName, Cond.fieldLink RX1 15 "SnoopFilter$Filter" "stuck" "[Z", Cond.fieldLink RX1 19 "SnoopFilter$Filter" "bits" "[Z"]
def wsX5_set : List Cond := .code yX5_set cX5_set 4 (some .int) :: ((wsX5_set_r1 ++ (wsX5_set_r2 ++ wsX5_set_r3)) ++ wsX50 ++ wsX30 ++ wsX20 ++ wsX00 ++ wsX10)
def wsX5_type : List Cond := .code yX5_type cX5_type 2 (some .int) :: ([.fieldLink RX5 32 "SnoopFilter" "program" "LSnoopFilter$Program;", .fieldLink RX5 90 "SnoopFilter$Program" "length" "I", .methodLink RX5 86 yX4_append, .instanceMethod yX4_append, .selects RX4 yX4_append yX4_append, .initialized RX4, .code yX4_append cX4_append 2 (some .boolean), .fieldLink RX4 28 "SnoopFilter$Program" "length" "I", .fieldLink RX4 9 "SnoopFilter$Program" "text" "[C"] ++ wsX50 ++ wsX40)
def wsX5_clearText : List Cond := .code yX5_clearText cX5_clearText 2 (some .int) :: ([.fieldLink RX5 32 "SnoopFilter" "program" "LSnoopFilter$Program;", .fieldLink RX5 90 "SnoopFilter$Program" "length" "I"] ++ wsX50 ++ wsX40)
def wsX5_noteStop : List Cond := .code yX5_noteStop cX5_noteStop 3 none :: ([.fieldLink RX5 114 "SnoopFilter" "hasStop" "Z", .fieldLink RX5 118 "SnoopFilter" "stopNumber" "I", .fieldLink RX5 121 "SnoopFilter" "stopError" "I"] ++ wsX50)
def wsX5_perform_r1 : List Cond := [Cond.fieldLink RX5 32 "SnoopFilter" "program" "LSnoopFilter$Program;", Cond.fieldLink RX5 16 "SnoopFilter" "trial" "LSnoopFilter$Machine;", Cond.fieldLink RX5 12 "SnoopFilter" "now" "LSnoopFilter$Machine;", Cond.fieldLink RX5 100 "SnoopFilter$Program" "commands" "I", Cond.fieldLink RX5 25 "SnoopFilter" "history" "LSnoopFilter$History;", Cond.methodLink RX5 93 yX4_findFault, Cond.instanceMethod yX4_findFault, Cond.selects RX4 yX4_findFault yX4_findFault, Cond.initialized RX4, Cond.code yX4_findFault cX4_findFault 1 (some .int), Cond.fieldLink RX4 32 "SnoopFilter$Program" "at" "I", Cond.fieldLink RX4 35 "SnoopFilter$Program" "commands" "I", Cond.fieldLink RX4 28 "SnoopFilter$Program" "length" "I", Cond.methodLink RX4 38 yX4_takesCommand, Cond.instanceMethod yX4_takesCommand, Cond.selects RX4 yX4_takesCommand yX4_takesCommand, Cond.code yX4_takesCommand cX4_takesCommand 3 (some .boolean), Cond.fieldLink RX4 9 "SnoopFilter$Program" "text" "[C", Cond.fieldLink RX4 15 "SnoopFilter$Program" "kinds" "[C", Cond.fieldLink RX4 18 "SnoopFilter$Program" "coresOf" "[I", Cond.methodLink RX4 46 yX4_isDigitUpTo, Cond.instanceMethod yX4_isDigitUpTo, Cond.selects RX4 yX4_isDigitUpTo yX4_isDigitUpTo, Cond.code yX4_isDigitUpTo cX4_isDigitUpTo 2 (some .boolean)]
def wsX5_perform_r2 : List Cond := [Cond.methodLink RX4 49 yX4_takeNumber, Cond.instanceMethod yX4_takeNumber, Cond.selects RX4 yX4_takeNumber yX4_takeNumber, Cond.code yX4_takeNumber cX4_takeNumber 4 (some .int), Cond.methodLink RX4 53 yX4_takesLineAndValue, Cond.instanceMethod yX4_takesLineAndValue, Cond.selects RX4 yX4_takesLineAndValue yX4_takesLineAndValue, Cond.code yX4_takesLineAndValue cX4_takesLineAndValue 2 (some .boolean), Cond.fieldLink RX4 22 "SnoopFilter$Program" "linesOf" "[I", Cond.fieldLink RX4 25 "SnoopFilter$Program" "valuesOf" "[I", Cond.methodLink RX4 42 yX4_takes, Cond.instanceMethod yX4_takes, Cond.selects RX4 yX4_takes yX4_takes, Cond.code yX4_takes cX4_takes 2 (some .boolean), Cond.methodLink RX5 97 yX3_copyFrom, Cond.instanceMethod yX3_copyFrom, Cond.selects RX3 yX3_copyFrom yX3_copyFrom, Cond.initialized RX3, Cond.code yX3_copyFrom cX3_copyFrom 3 none, Cond.fieldLink RX3 9 "SnoopFilter$Machine" "memory" "[I", Cond.methodLink RX3 122 arraycopyName, Cond.native arraycopyName, Cond.static arraycopyName, Cond.initialized "java/lang/System"]
def wsX5_perform_r3 : List Cond := [Cond.fieldLink RX3 17 "SnoopFilter$Machine" "cores" "[LSnoopFilter$Core;", Cond.fieldLink RX3 21 "SnoopFilter$Machine" "limit" "I", Cond.fieldLink RX3 25 "SnoopFilter$Machine" "fullFrom" "I", Cond.fieldLink RX3 110 "SnoopFilter$Machine" "writtenBack" "I", Cond.fieldLink RX3 57 "SnoopFilter$Machine" "writings" "I", Cond.methodLink RX3 128 yX0_copyFrom, Cond.instanceMethod yX0_copyFrom, Cond.selects RX0 yX0_copyFrom yX0_copyFrom, Cond.initialized RX0, Cond.code yX0_copyFrom cX0_copyFrom 2 none, Cond.fieldLink RX0 9 "SnoopFilter$Core" "lines" "[I", Cond.methodLink RX0 64 arraycopyName, Cond.fieldLink RX0 15 "SnoopFilter$Core" "values" "[I", Cond.fieldLink RX0 18 "SnoopFilter$Core" "dirty" "[Z", Cond.fieldLink RX0 22 "SnoopFilter$Core" "tallies" "[I", Cond.fieldLink RX0 28 "SnoopFilter$Core" "filter" "LSnoopFilter$Filter;", Cond.methodLink RX0 70 yX1_copyFrom, Cond.instanceMethod yX1_copyFrom, Cond.selects RX1 yX1_copyFrom yX1_copyFrom, Cond.initialized RX1, Cond.code yX1_copyFrom cX1_copyFrom 2 none, Cond.fieldLink RX1 9 "SnoopFilter$Filter" "counters" "[I", Cond.methodLink RX1 45 arraycopyName, Cond.fieldLink RX1 15 "SnoopFilter$Filter" "stuck" "[Z"]
def wsX5_perform_r4 : List Cond := [Cond.fieldLink RX1 19 "SnoopFilter$Filter" "bits" "[Z", Cond.methodLink RX5 103 yX4_runCommand, Cond.instanceMethod yX4_runCommand, Cond.selects RX4 yX4_runCommand yX4_runCommand, Cond.code yX4_runCommand cX4_runCommand 6 (some .int), Cond.methodLink RX4 56 yX3_readLine, Cond.instanceMethod yX3_readLine, Cond.selects RX3 yX3_readLine yX3_readLine, Cond.code yX3_readLine cX3_readLine 7 (some .int), Cond.fieldLink RX3 37 "SnoopFilter$Core" "tallies" "[I", Cond.fieldLink RX3 40 "SnoopFilter$Core" "values" "[I", Cond.methodLink RX3 29 yX0_placeOf, Cond.static yX0_placeOf, Cond.code yX0_placeOf cX0_placeOf 1 (some .int), Cond.methodLink RX3 33 yX0_holds, Cond.instanceMethod yX0_holds, Cond.selects RX0 yX0_holds yX0_holds, Cond.code yX0_holds cX0_holds 2 (some .boolean), Cond.methodLink RX0 32 yX0_placeOf, Cond.methodLink RX3 43 yX0_isReachedBySnoop, Cond.instanceMethod yX0_isReachedBySnoop, Cond.selects RX0 yX0_isReachedBySnoop yX0_isReachedBySnoop, Cond.code yX0_isReachedBySnoop cX0_isReachedBySnoop 2 (some .boolean), Cond.methodLink RX0 47 yX1_mayHave]
def wsX5_perform_r5 : List Cond := [Cond.instanceMethod yX1_mayHave, Cond.selects RX1 yX1_mayHave yX1_mayHave, Cond.code yX1_mayHave cX1_mayHave 2 (some .boolean), Cond.methodLink RX1 37 yX1_hasBitOf, Cond.instanceMethod yX1_hasBitOf, Cond.selects RX1 yX1_hasBitOf yX1_hasBitOf, Cond.code yX1_hasBitOf cX1_hasBitOf 2 (some .boolean), Cond.methodLink RX1 22 yX1_firstCounter, Cond.static yX1_firstCounter, Cond.code yX1_firstCounter cX1_firstCounter 1 (some .int), Cond.methodLink RX1 30 yX1_secondCounter, Cond.static yX1_secondCounter, Cond.code yX1_secondCounter cX1_secondCounter 1 (some .int), Cond.methodLink RX0 36 yX0_holds, Cond.methodLink RX3 46 yX3_writeBack, Cond.instanceMethod yX3_writeBack, Cond.selects RX3 yX3_writeBack yX3_writeBack, Cond.code yX3_writeBack cX3_writeBack 4 none, Cond.fieldLink RX3 97 "SnoopFilter$Core" "lines" "[I", Cond.fieldLink RX3 106 "SnoopFilter$Core" "dirty" "[Z", Cond.methodLink RX3 50 yX3_vacate, Cond.instanceMethod yX3_vacate, Cond.selects RX3 yX3_vacate yX3_vacate, Cond.code yX3_vacate cX3_vacate 4 none]
def wsX5_perform_r6 : List Cond := [Cond.methodLink RX3 71 yX0_release, Cond.instanceMethod yX0_release, Cond.selects RX0 yX0_release yX0_release, Cond.code yX0_release cX0_release 2 none, Cond.methodLink RX0 40 yX1_remove, Cond.instanceMethod yX1_remove, Cond.selects RX1 yX1_remove yX1_remove, Cond.code yX1_remove cX1_remove 2 none, Cond.methodLink RX1 33 yX1_lower, Cond.instanceMethod yX1_lower, Cond.selects RX1 yX1_lower yX1_lower, Cond.code yX1_lower cX1_lower 2 none, Cond.methodLink RX0 44 yX0_empty, Cond.instanceMethod yX0_empty, Cond.selects RX0 yX0_empty yX0_empty, Cond.code yX0_empty cX0_empty 2 none, Cond.methodLink RX3 53 yX3_beginToHold, Cond.instanceMethod yX3_beginToHold, Cond.selects RX3 yX3_beginToHold yX3_beginToHold, Cond.code yX3_beginToHold cX3_beginToHold 5 none, Cond.fieldLink RX3 83 "SnoopFilter$Core" "filter" "LSnoopFilter$Filter;", Cond.methodLink RX3 67 yX0_fill, Cond.instanceMethod yX0_fill, Cond.selects RX0 yX0_fill yX0_fill]
def wsX5_perform_r7 : List Cond := [Cond.code yX0_fill cX0_fill 5 none, Cond.methodLink RX3 87 yX1_add, Cond.instanceMethod yX1_add, Cond.selects RX1 yX1_add yX1_add, Cond.code yX1_add cX1_add 3 none, Cond.methodLink RX1 26 yX1_raise, Cond.instanceMethod yX1_raise, Cond.selects RX1 yX1_raise yX1_raise, Cond.code yX1_raise cX1_raise 3 none, Cond.methodLink RX3 93 yX1_countersAboveZero, Cond.instanceMethod yX1_countersAboveZero, Cond.selects RX1 yX1_countersAboveZero yX1_countersAboveZero, Cond.code yX1_countersAboveZero cX1_countersAboveZero 3 (some .int), Cond.methodLink RX3 79 yX3_forgetAllBut, Cond.instanceMethod yX3_forgetAllBut, Cond.selects RX3 yX3_forgetAllBut yX3_forgetAllBut, Cond.code yX3_forgetAllBut cX3_forgetAllBut 6 (some .int), Cond.methodLink RX3 100 yX0_empty, Cond.methodLink RX3 103 yX1_wipe, Cond.instanceMethod yX1_wipe, Cond.selects RX1 yX1_wipe yX1_wipe, Cond.code yX1_wipe cX1_wipe 2 none, Cond.methodLink RX4 62 yX3_writeLine, Cond.instanceMethod yX3_writeLine]
def wsX5_perform_r8 : List Cond := [Cond.selects RX3 yX3_writeLine yX3_writeLine, Cond.code yX3_writeLine cX3_writeLine 6 (some .int), Cond.methodLink RX3 60 yX0_holdsDirty, Cond.instanceMethod yX0_holdsDirty, Cond.selects RX0 yX0_holdsDirty yX0_holdsDirty, Cond.code yX0_holdsDirty cX0_holdsDirty 2 (some .boolean), Cond.methodLink RX3 63 yX3_takeFromOthers, Cond.instanceMethod yX3_takeFromOthers, Cond.selects RX3 yX3_takeFromOthers yX3_takeFromOthers, Cond.code yX3_takeFromOthers cX3_takeFromOthers 6 (some .int), Cond.methodLink RX4 66 yX3_dropLine, Cond.instanceMethod yX3_dropLine, Cond.selects RX3 yX3_dropLine yX3_dropLine, Cond.code yX3_dropLine cX3_dropLine 5 (some .int), Cond.methodLink RX4 69 yX3_forgetOnPurpose, Cond.instanceMethod yX3_forgetOnPurpose, Cond.selects RX3 yX3_forgetOnPurpose yX3_forgetOnPurpose, Cond.code yX3_forgetOnPurpose cX3_forgetOnPurpose 3 (some .int), Cond.methodLink RX3 75 yX0_hasNothingToForget, Cond.instanceMethod yX0_hasNothingToForget, Cond.selects RX0 yX0_hasNothingToForget yX0_hasNothingToForget, Cond.code yX0_hasNothingToForget cX0_hasNothingToForget 1 (some .boolean), Cond.methodLink RX0 54 yX0_heldLines, Cond.instanceMethod yX0_heldLines]
def wsX5_perform_r9 : List Cond := [Cond.selects RX0 yX0_heldLines yX0_heldLines, Cond.code yX0_heldLines cX0_heldLines 3 (some .int), Cond.methodLink RX0 58 yX1_countersAboveZero, Cond.methodLink RX0 61 yX1_bitsThatAreOne, Cond.instanceMethod yX1_bitsThatAreOne, Cond.selects RX1 yX1_bitsThatAreOne yX1_bitsThatAreOne, Cond.code yX1_bitsThatAreOne cX1_bitsThatAreOne 1 (some .int), Cond.static yX5_howManyAreTrue, Cond.initialized RX5, Cond.code yX5_howManyAreTrue cX5_howManyAreTrue 6 (some .int), Cond.methodLink RX5 107 yX5_noteStop, Cond.instanceMethod yX5_noteStop, Cond.selects RX5 yX5_noteStop yX5_noteStop, Cond.code yX5_noteStop cX5_noteStop 3 none, Cond.fieldLink RX5 114 "SnoopFilter" "hasStop" "Z", Cond.fieldLink RX5 118 "SnoopFilter" "stopNumber" "I", Cond.fieldLink RX5 121 "SnoopFilter" "stopError" "I", Cond.methodLink RX5 111 yX4_isReading, Cond.instanceMethod yX4_isReading, Cond.selects RX4 yX4_isReading yX4_isReading, Cond.code yX4_isReading cX4_isReading 2 (some .boolean), Cond.methodLink RX5 43 yX2_record, Cond.instanceMethod yX2_record, Cond.selects RX2 yX2_record yX2_record]
def wsX5_perform_r10 : List Cond := [Cond.initialized RX2, Cond.code yX2_record cX2_record 2 none, Cond.fieldLink RX2 11 "SnoopFilter$History" "states" "[LSnoopFilter$Machine;", Cond.fieldLink RX2 18 "SnoopFilter$History" "oldest" "I", Cond.fieldLink RX2 22 "SnoopFilter$History" "size" "I", Cond.methodLink RX2 25 yX3_copyFrom]
def wsX5_perform : List Cond := .code yX5_perform cX5_perform 5 (some .int) :: ((wsX5_perform_r1 ++ (wsX5_perform_r2 ++ (wsX5_perform_r3 ++ (wsX5_perform_r4 ++ (wsX5_perform_r5 ++ (wsX5_perform_r6 ++ (wsX5_perform_r7 ++ (wsX5_perform_r8 ++ (wsX5_perform_r9 ++ wsX5_perform_r10))))))))) ++ wsX50 ++ wsX40 ++ wsX30 ++ wsX00 ++ wsX10 ++ wsX20)
def wsX5_stopped : List Cond := .code yX5_stopped cX5_stopped 2 (some .int) :: ([.fieldLink RX5 114 "SnoopFilter" "hasStop" "Z", .fieldLink RX5 118 "SnoopFilter" "stopNumber" "I", .fieldLink RX5 121 "SnoopFilter" "stopError" "I", .methodLink RX5 51 yX5_isWithin, .static yX5_isWithin, .initialized RX5, .code yX5_isWithin cX5_isWithin 3 (some .boolean)] ++ wsX50)
def wsX5_undo_r1 : List Cond := [Cond.fieldLink RX5 25 "SnoopFilter" "history" "LSnoopFilter$History;", Cond.fieldLink RX5 124 "SnoopFilter$History" "size" "I", Cond.fieldLink RX5 12 "SnoopFilter" "now" "LSnoopFilter$Machine;", Cond.methodLink RX5 127 yX2_takeLatest, Cond.instanceMethod yX2_takeLatest, Cond.selects RX2 yX2_takeLatest yX2_takeLatest, Cond.initialized RX2, Cond.code yX2_takeLatest cX2_takeLatest 2 none, Cond.fieldLink RX2 22 "SnoopFilter$History" "size" "I", Cond.fieldLink RX2 11 "SnoopFilter$History" "states" "[LSnoopFilter$Machine;", Cond.fieldLink RX2 18 "SnoopFilter$History" "oldest" "I", Cond.methodLink RX2 25 yX3_copyFrom, Cond.instanceMethod yX3_copyFrom, Cond.selects RX3 yX3_copyFrom yX3_copyFrom, Cond.initialized RX3, Cond.code yX3_copyFrom cX3_copyFrom 3 none, Cond.fieldLink RX3 9 "SnoopFilter$Machine" "memory" "[I", Cond.methodLink RX3 122 arraycopyName, Cond.native arraycopyName, Cond.static arraycopyName, Cond.initialized "java/lang/System", Cond.fieldLink RX3 17 "SnoopFilter$Machine" "cores" "[LSnoopFilter$Core;", Cond.fieldLink RX3 21 "SnoopFilter$Machine" "limit" "I", Cond.fieldLink RX3 25 "SnoopFilter$Machine" "fullFrom" "I"]
def wsX5_undo_r2 : List Cond := [Cond.fieldLink RX3 110 "SnoopFilter$Machine" "writtenBack" "I", Cond.fieldLink RX3 57 "SnoopFilter$Machine" "writings" "I", Cond.methodLink RX3 128 yX0_copyFrom, Cond.instanceMethod yX0_copyFrom, Cond.selects RX0 yX0_copyFrom yX0_copyFrom, Cond.initialized RX0, Cond.code yX0_copyFrom cX0_copyFrom 2 none, Cond.fieldLink RX0 9 "SnoopFilter$Core" "lines" "[I", Cond.methodLink RX0 64 arraycopyName, Cond.fieldLink RX0 15 "SnoopFilter$Core" "values" "[I", Cond.fieldLink RX0 18 "SnoopFilter$Core" "dirty" "[Z", Cond.fieldLink RX0 22 "SnoopFilter$Core" "tallies" "[I", Cond.fieldLink RX0 28 "SnoopFilter$Core" "filter" "LSnoopFilter$Filter;", Cond.methodLink RX0 70 yX1_copyFrom, Cond.instanceMethod yX1_copyFrom, Cond.selects RX1 yX1_copyFrom yX1_copyFrom, Cond.initialized RX1, Cond.code yX1_copyFrom cX1_copyFrom 2 none, Cond.fieldLink RX1 9 "SnoopFilter$Filter" "counters" "[I", Cond.methodLink RX1 45 arraycopyName, Cond.fieldLink RX1 15 "SnoopFilter$Filter" "stuck" "[Z", Cond.fieldLink RX1 19 "SnoopFilter$Filter" "bits" "[Z"]
def wsX5_undo : List Cond := .code yX5_undo cX5_undo 1 (some .int) :: ((wsX5_undo_r1 ++ wsX5_undo_r2) ++ wsX50 ++ wsX20 ++ wsX30 ++ wsX00 ++ wsX10)
def wsX5_keep_r1 : List Cond := [Cond.fieldLink RX5 19 "SnoopFilter" "snapshot" "LSnoopFilter$Machine;", Cond.fieldLink RX5 12 "SnoopFilter" "now" "LSnoopFilter$Machine;", Cond.fieldLink RX5 130 "SnoopFilter" "hasSnapshot" "Z", Cond.methodLink RX5 97 yX3_copyFrom, Cond.instanceMethod yX3_copyFrom, Cond.selects RX3 yX3_copyFrom yX3_copyFrom, Cond.initialized RX3, Cond.code yX3_copyFrom cX3_copyFrom 3 none, Cond.fieldLink RX3 9 "SnoopFilter$Machine" "memory" "[I", Cond.methodLink RX3 122 arraycopyName, Cond.native arraycopyName, Cond.static arraycopyName, Cond.initialized "java/lang/System", Cond.fieldLink RX3 17 "SnoopFilter$Machine" "cores" "[LSnoopFilter$Core;", Cond.fieldLink RX3 21 "SnoopFilter$Machine" "limit" "I", Cond.fieldLink RX3 25 "SnoopFilter$Machine" "fullFrom" "I", Cond.fieldLink RX3 110 "SnoopFilter$Machine" "writtenBack" "I", Cond.fieldLink RX3 57 "SnoopFilter$Machine" "writings" "I", Cond.methodLink RX3 128 yX0_copyFrom, Cond.instanceMethod yX0_copyFrom, Cond.selects RX0 yX0_copyFrom yX0_copyFrom, Cond.initialized RX0, Cond.code yX0_copyFrom cX0_copyFrom 2 none, Cond.fieldLink RX0 9 "SnoopFilter$Core" "lines" "[I"]
def wsX5_keep_r2 : List Cond := [Cond.methodLink RX0 64 arraycopyName, Cond.fieldLink RX0 15 "SnoopFilter$Core" "values" "[I", Cond.fieldLink RX0 18 "SnoopFilter$Core" "dirty" "[Z", Cond.fieldLink RX0 22 "SnoopFilter$Core" "tallies" "[I", Cond.fieldLink RX0 28 "SnoopFilter$Core" "filter" "LSnoopFilter$Filter;", Cond.methodLink RX0 70 yX1_copyFrom, Cond.instanceMethod yX1_copyFrom, Cond.selects RX1 yX1_copyFrom yX1_copyFrom, Cond.initialized RX1, Cond.code yX1_copyFrom cX1_copyFrom 2 none, Cond.fieldLink RX1 9 "SnoopFilter$Filter" "counters" "[I", Cond.methodLink RX1 45 arraycopyName, Cond.fieldLink RX1 15 "SnoopFilter$Filter" "stuck" "[Z", Cond.fieldLink RX1 19 "SnoopFilter$Filter" "bits" "[Z", Cond.methodLink RX5 133 yX3_heldByAll, Cond.instanceMethod yX3_heldByAll, Cond.selects RX3 yX3_heldByAll yX3_heldByAll, Cond.code yX3_heldByAll cX3_heldByAll 3 (some .int), Cond.methodLink RX3 116 yX0_heldLines, Cond.instanceMethod yX0_heldLines, Cond.selects RX0 yX0_heldLines yX0_heldLines, Cond.code yX0_heldLines cX0_heldLines 3 (some .int)]
def wsX5_keep : List Cond := .code yX5_keep cX5_keep 1 (some .int) :: ((wsX5_keep_r1 ++ wsX5_keep_r2) ++ wsX50 ++ wsX30 ++ wsX00 ++ wsX10)
def wsX5_restore_r1 : List Cond := [Cond.fieldLink RX5 130 "SnoopFilter" "hasSnapshot" "Z", Cond.fieldLink RX5 25 "SnoopFilter" "history" "LSnoopFilter$History;", Cond.fieldLink RX5 12 "SnoopFilter" "now" "LSnoopFilter$Machine;", Cond.fieldLink RX5 19 "SnoopFilter" "snapshot" "LSnoopFilter$Machine;", Cond.methodLink RX5 43 yX2_record, Cond.instanceMethod yX2_record, Cond.selects RX2 yX2_record yX2_record, Cond.initialized RX2, Cond.code yX2_record cX2_record 2 none, Cond.fieldLink RX2 11 "SnoopFilter$History" "states" "[LSnoopFilter$Machine;", Cond.fieldLink RX2 18 "SnoopFilter$History" "oldest" "I", Cond.fieldLink RX2 22 "SnoopFilter$History" "size" "I", Cond.methodLink RX2 25 yX3_copyFrom, Cond.instanceMethod yX3_copyFrom, Cond.selects RX3 yX3_copyFrom yX3_copyFrom, Cond.initialized RX3, Cond.code yX3_copyFrom cX3_copyFrom 3 none, Cond.fieldLink RX3 9 "SnoopFilter$Machine" "memory" "[I", Cond.methodLink RX3 122 arraycopyName, Cond.native arraycopyName, Cond.static arraycopyName, Cond.initialized "java/lang/System", Cond.fieldLink RX3 17 "SnoopFilter$Machine" "cores" "[LSnoopFilter$Core;", Cond.fieldLink RX3 21 "SnoopFilter$Machine" "limit" "I"]
def wsX5_restore_r2 : List Cond := [Cond.fieldLink RX3 25 "SnoopFilter$Machine" "fullFrom" "I", Cond.fieldLink RX3 110 "SnoopFilter$Machine" "writtenBack" "I", Cond.fieldLink RX3 57 "SnoopFilter$Machine" "writings" "I", Cond.methodLink RX3 128 yX0_copyFrom, Cond.instanceMethod yX0_copyFrom, Cond.selects RX0 yX0_copyFrom yX0_copyFrom, Cond.initialized RX0, Cond.code yX0_copyFrom cX0_copyFrom 2 none, Cond.fieldLink RX0 9 "SnoopFilter$Core" "lines" "[I", Cond.methodLink RX0 64 arraycopyName, Cond.fieldLink RX0 15 "SnoopFilter$Core" "values" "[I", Cond.fieldLink RX0 18 "SnoopFilter$Core" "dirty" "[Z", Cond.fieldLink RX0 22 "SnoopFilter$Core" "tallies" "[I", Cond.fieldLink RX0 28 "SnoopFilter$Core" "filter" "LSnoopFilter$Filter;", Cond.methodLink RX0 70 yX1_copyFrom, Cond.instanceMethod yX1_copyFrom, Cond.selects RX1 yX1_copyFrom yX1_copyFrom, Cond.initialized RX1, Cond.code yX1_copyFrom cX1_copyFrom 2 none, Cond.fieldLink RX1 9 "SnoopFilter$Filter" "counters" "[I", Cond.methodLink RX1 45 arraycopyName, Cond.fieldLink RX1 15 "SnoopFilter$Filter" "stuck" "[Z", Cond.fieldLink RX1 19 "SnoopFilter$Filter" "bits" "[Z", Cond.methodLink RX5 97 yX3_copyFrom]
def wsX5_restore_r3 : List Cond := [Cond.methodLink RX5 133 yX3_heldByAll, Cond.instanceMethod yX3_heldByAll, Cond.selects RX3 yX3_heldByAll yX3_heldByAll, Cond.code yX3_heldByAll cX3_heldByAll 3 (some .int), Cond.methodLink RX3 116 yX0_heldLines, Cond.instanceMethod yX0_heldLines, Cond.selects RX0 yX0_heldLines yX0_heldLines, Cond.code yX0_heldLines cX0_heldLines 3 (some .int)]
def wsX5_restore : List Cond := .code yX5_restore cX5_restore 1 (some .int) :: ((wsX5_restore_r1 ++ (wsX5_restore_r2 ++ wsX5_restore_r3)) ++ wsX50 ++ wsX20 ++ wsX30 ++ wsX00 ++ wsX10)
def wsX5_core_r1 : List Cond := [Cond.fieldLink RX5 12 "SnoopFilter" "now" "LSnoopFilter$Machine;", Cond.fieldLink RX5 59 "SnoopFilter$Machine" "cores" "[LSnoopFilter$Core;", Cond.fieldLink RX5 142 "SnoopFilter$Core" "filter" "LSnoopFilter$Filter;", Cond.fieldLink RX5 157 "SnoopFilter$Core" "tallies" "[I", Cond.methodLink RX5 36 yX5_isCore, Cond.static yX5_isCore, Cond.initialized RX5, Cond.code yX5_isCore cX5_isCore 1 (some .boolean), Cond.methodLink RX5 51 yX5_isWithin, Cond.static yX5_isWithin, Cond.code yX5_isWithin cX5_isWithin 3 (some .boolean), Cond.methodLink RX5 136 yX0_heldLines, Cond.instanceMethod yX0_heldLines, Cond.selects RX0 yX0_heldLines yX0_heldLines, Cond.initialized RX0, Cond.code yX0_heldLines cX0_heldLines 3 (some .int), Cond.fieldLink RX0 9 "SnoopFilter$Core" "lines" "[I", Cond.methodLink RX5 139 yX0_dirtyLines, Cond.instanceMethod yX0_dirtyLines, Cond.selects RX0 yX0_dirtyLines yX0_dirtyLines, Cond.code yX0_dirtyLines cX0_dirtyLines 1 (some .int), Cond.fieldLink RX0 18 "SnoopFilter$Core" "dirty" "[Z", Cond.static yX5_howManyAreTrue, Cond.code yX5_howManyAreTrue cX5_howManyAreTrue 6 (some .int)]
def wsX5_core_r2 : List Cond := [Cond.methodLink RX5 146 yX1_countersAboveZero, Cond.instanceMethod yX1_countersAboveZero, Cond.selects RX1 yX1_countersAboveZero yX1_countersAboveZero, Cond.initialized RX1, Cond.code yX1_countersAboveZero cX1_countersAboveZero 3 (some .int), Cond.fieldLink RX1 9 "SnoopFilter$Filter" "counters" "[I", Cond.methodLink RX5 151 yX1_stuckCounters, Cond.instanceMethod yX1_stuckCounters, Cond.selects RX1 yX1_stuckCounters yX1_stuckCounters, Cond.code yX1_stuckCounters cX1_stuckCounters 1 (some .int), Cond.fieldLink RX1 15 "SnoopFilter$Filter" "stuck" "[Z", Cond.methodLink RX5 154 yX1_bitsThatAreOne, Cond.instanceMethod yX1_bitsThatAreOne, Cond.selects RX1 yX1_bitsThatAreOne yX1_bitsThatAreOne, Cond.code yX1_bitsThatAreOne cX1_bitsThatAreOne 1 (some .int), Cond.fieldLink RX1 19 "SnoopFilter$Filter" "bits" "[Z"]
def wsX5_core : List Cond := .code yX5_core cX5_core 4 (some .int) :: ((wsX5_core_r1 ++ wsX5_core_r2) ++ wsX50 ++ wsX30 ++ wsX00 ++ wsX10)
def wsX5_held : List Cond := .code yX5_held cX5_held 5 (some .int) :: ([.fieldLink RX5 12 "SnoopFilter" "now" "LSnoopFilter$Machine;", .fieldLink RX5 59 "SnoopFilter$Machine" "cores" "[LSnoopFilter$Core;", .fieldLink RX5 161 "SnoopFilter$Core" "lines" "[I", .fieldLink RX5 164 "SnoopFilter$Core" "values" "[I", .fieldLink RX5 167 "SnoopFilter$Core" "dirty" "[Z", .methodLink RX5 36 yX5_isCore, .static yX5_isCore, .initialized RX5, .code yX5_isCore cX5_isCore 1 (some .boolean), .methodLink RX5 51 yX5_isWithin, .static yX5_isWithin, .code yX5_isWithin cX5_isWithin 3 (some .boolean)] ++ wsX50 ++ wsX30 ++ wsX00)
def wsX5_counter : List Cond := .code yX5_counter cX5_counter 3 (some .int) :: ([.fieldLink RX5 12 "SnoopFilter" "now" "LSnoopFilter$Machine;", .fieldLink RX5 59 "SnoopFilter$Machine" "cores" "[LSnoopFilter$Core;", .fieldLink RX5 142 "SnoopFilter$Core" "filter" "LSnoopFilter$Filter;", .fieldLink RX5 171 "SnoopFilter$Filter" "counters" "[I", .methodLink RX5 36 yX5_isCore, .static yX5_isCore, .initialized RX5, .code yX5_isCore cX5_isCore 1 (some .boolean), .methodLink RX5 51 yX5_isWithin, .static yX5_isWithin, .code yX5_isWithin cX5_isWithin 3 (some .boolean)] ++ wsX50 ++ wsX30 ++ wsX00 ++ wsX10)
def wsX5_bit : List Cond := .code yX5_bit cX5_bit 3 (some .int) :: ([.fieldLink RX5 12 "SnoopFilter" "now" "LSnoopFilter$Machine;", .fieldLink RX5 59 "SnoopFilter$Machine" "cores" "[LSnoopFilter$Core;", .fieldLink RX5 142 "SnoopFilter$Core" "filter" "LSnoopFilter$Filter;", .fieldLink RX5 174 "SnoopFilter$Filter" "bits" "[Z", .methodLink RX5 36 yX5_isCore, .static yX5_isCore, .initialized RX5, .code yX5_isCore cX5_isCore 1 (some .boolean), .methodLink RX5 51 yX5_isWithin, .static yX5_isWithin, .code yX5_isWithin cX5_isWithin 3 (some .boolean)] ++ wsX50 ++ wsX30 ++ wsX00 ++ wsX10)
def wsX5_line_r1 : List Cond := [Cond.fieldLink RX5 12 "SnoopFilter" "now" "LSnoopFilter$Machine;", Cond.fieldLink RX5 177 "SnoopFilter$Machine" "memory" "[I", Cond.methodLink RX5 40 yX5_isLine, Cond.static yX5_isLine, Cond.initialized RX5, Cond.code yX5_isLine cX5_isLine 1 (some .boolean), Cond.methodLink RX5 51 yX5_isWithin, Cond.static yX5_isWithin, Cond.code yX5_isWithin cX5_isWithin 3 (some .boolean), Cond.methodLink RX5 180 yX3_valueForReader, Cond.instanceMethod yX3_valueForReader, Cond.selects RX3 yX3_valueForReader yX3_valueForReader, Cond.initialized RX3, Cond.code yX3_valueForReader cX3_valueForReader 3 (some .int), Cond.fieldLink RX3 17 "SnoopFilter$Machine" "cores" "[LSnoopFilter$Core;", Cond.fieldLink RX3 40 "SnoopFilter$Core" "values" "[I", Cond.fieldLink RX3 9 "SnoopFilter$Machine" "memory" "[I", Cond.methodLink RX3 33 yX0_holds, Cond.instanceMethod yX0_holds, Cond.selects RX0 yX0_holds yX0_holds, Cond.initialized RX0, Cond.code yX0_holds cX0_holds 2 (some .boolean), Cond.fieldLink RX0 9 "SnoopFilter$Core" "lines" "[I", Cond.methodLink RX0 32 yX0_placeOf]
def wsX5_line_r2 : List Cond := [Cond.static yX0_placeOf, Cond.code yX0_placeOf cX0_placeOf 1 (some .int), Cond.methodLink RX3 29 yX0_placeOf, Cond.methodLink RX5 183 yX3_holdersOf, Cond.instanceMethod yX3_holdersOf, Cond.selects RX3 yX3_holdersOf yX3_holdersOf, Cond.code yX3_holdersOf cX3_holdersOf 4 (some .int), Cond.methodLink RX5 186 yX3_coresThatMayHave, Cond.instanceMethod yX3_coresThatMayHave, Cond.selects RX3 yX3_coresThatMayHave yX3_coresThatMayHave, Cond.code yX3_coresThatMayHave cX3_coresThatMayHave 4 (some .int), Cond.fieldLink RX3 83 "SnoopFilter$Core" "filter" "LSnoopFilter$Filter;", Cond.methodLink RX3 113 yX1_mayHave, Cond.instanceMethod yX1_mayHave, Cond.selects RX1 yX1_mayHave yX1_mayHave, Cond.initialized RX1, Cond.code yX1_mayHave cX1_mayHave 2 (some .boolean), Cond.fieldLink RX1 9 "SnoopFilter$Filter" "counters" "[I", Cond.methodLink RX1 37 yX1_hasBitOf, Cond.instanceMethod yX1_hasBitOf, Cond.selects RX1 yX1_hasBitOf yX1_hasBitOf, Cond.code yX1_hasBitOf cX1_hasBitOf 2 (some .boolean), Cond.fieldLink RX1 19 "SnoopFilter$Filter" "bits" "[Z", Cond.methodLink RX1 22 yX1_firstCounter]
def wsX5_line_r3 : List Cond := [Cond.static yX1_firstCounter, Cond.code yX1_firstCounter cX1_firstCounter 1 (some .int), Cond.methodLink RX1 30 yX1_secondCounter, Cond.static yX1_secondCounter, Cond.code yX1_secondCounter cX1_secondCounter 1 (some .int), Cond.methodLink RX5 189 yX1_firstCounter, Cond.methodLink RX5 192 yX1_secondCounter]
def wsX5_line : List Cond := .code yX5_line cX5_line 3 (some .int) :: ((wsX5_line_r1 ++ (wsX5_line_r2 ++ wsX5_line_r3)) ++ wsX50 ++ wsX30 ++ wsX00 ++ wsX10)
def wsX5_reason_r1 : List Cond := [Cond.fieldLink RX5 12 "SnoopFilter" "now" "LSnoopFilter$Machine;", Cond.fieldLink RX5 59 "SnoopFilter$Machine" "cores" "[LSnoopFilter$Core;", Cond.fieldLink RX5 142 "SnoopFilter$Core" "filter" "LSnoopFilter$Filter;", Cond.methodLink RX5 36 yX5_isCore, Cond.static yX5_isCore, Cond.initialized RX5, Cond.code yX5_isCore cX5_isCore 1 (some .boolean), Cond.methodLink RX5 51 yX5_isWithin, Cond.static yX5_isWithin, Cond.code yX5_isWithin cX5_isWithin 3 (some .boolean), Cond.methodLink RX5 40 yX5_isLine, Cond.static yX5_isLine, Cond.code yX5_isLine cX5_isLine 1 (some .boolean), Cond.methodLink RX5 63 yX0_holds, Cond.instanceMethod yX0_holds, Cond.selects RX0 yX0_holds yX0_holds, Cond.initialized RX0, Cond.code yX0_holds cX0_holds 2 (some .boolean), Cond.fieldLink RX0 9 "SnoopFilter$Core" "lines" "[I", Cond.methodLink RX0 32 yX0_placeOf, Cond.static yX0_placeOf, Cond.code yX0_placeOf cX0_placeOf 1 (some .int), Cond.methodLink RX5 195 yX1_mayHave, Cond.instanceMethod yX1_mayHave]
def wsX5_reason_r2 : List Cond := [Cond.selects RX1 yX1_mayHave yX1_mayHave, Cond.initialized RX1, Cond.code yX1_mayHave cX1_mayHave 2 (some .boolean), Cond.fieldLink RX1 9 "SnoopFilter$Filter" "counters" "[I", Cond.methodLink RX1 37 yX1_hasBitOf, Cond.instanceMethod yX1_hasBitOf, Cond.selects RX1 yX1_hasBitOf yX1_hasBitOf, Cond.code yX1_hasBitOf cX1_hasBitOf 2 (some .boolean), Cond.fieldLink RX1 19 "SnoopFilter$Filter" "bits" "[Z", Cond.methodLink RX1 22 yX1_firstCounter, Cond.static yX1_firstCounter, Cond.code yX1_firstCounter cX1_firstCounter 1 (some .int), Cond.methodLink RX1 30 yX1_secondCounter, Cond.static yX1_secondCounter, Cond.code yX1_secondCounter cX1_secondCounter 1 (some .int), Cond.methodLink RX5 198 yX1_hasBitOf]
def wsX5_reason : List Cond := .code yX5_reason cX5_reason 4 (some .int) :: ((wsX5_reason_r1 ++ wsX5_reason_r2) ++ wsX50 ++ wsX30 ++ wsX00 ++ wsX10)
def wsX5_cost_r1 : List Cond := [Cond.fieldLink RX5 16 "SnoopFilter" "trial" "LSnoopFilter$Machine;", Cond.fieldLink RX5 12 "SnoopFilter" "now" "LSnoopFilter$Machine;", Cond.fieldLink RX5 204 "SnoopFilter$Machine" "writtenBack" "I", Cond.methodLink RX5 36 yX5_isCore, Cond.static yX5_isCore, Cond.initialized RX5, Cond.code yX5_isCore cX5_isCore 1 (some .boolean), Cond.methodLink RX5 51 yX5_isWithin, Cond.static yX5_isWithin, Cond.code yX5_isWithin cX5_isWithin 3 (some .boolean), Cond.methodLink RX5 40 yX5_isLine, Cond.static yX5_isLine, Cond.code yX5_isLine cX5_isLine 1 (some .boolean), Cond.methodLink RX5 97 yX3_copyFrom, Cond.instanceMethod yX3_copyFrom, Cond.selects RX3 yX3_copyFrom yX3_copyFrom, Cond.initialized RX3, Cond.code yX3_copyFrom cX3_copyFrom 3 none, Cond.fieldLink RX3 9 "SnoopFilter$Machine" "memory" "[I", Cond.methodLink RX3 122 arraycopyName, Cond.native arraycopyName, Cond.static arraycopyName, Cond.initialized "java/lang/System", Cond.fieldLink RX3 17 "SnoopFilter$Machine" "cores" "[LSnoopFilter$Core;"]
def wsX5_cost_r2 : List Cond := [Cond.fieldLink RX3 21 "SnoopFilter$Machine" "limit" "I", Cond.fieldLink RX3 25 "SnoopFilter$Machine" "fullFrom" "I", Cond.fieldLink RX3 110 "SnoopFilter$Machine" "writtenBack" "I", Cond.fieldLink RX3 57 "SnoopFilter$Machine" "writings" "I", Cond.methodLink RX3 128 yX0_copyFrom, Cond.instanceMethod yX0_copyFrom, Cond.selects RX0 yX0_copyFrom yX0_copyFrom, Cond.initialized RX0, Cond.code yX0_copyFrom cX0_copyFrom 2 none, Cond.fieldLink RX0 9 "SnoopFilter$Core" "lines" "[I", Cond.methodLink RX0 64 arraycopyName, Cond.fieldLink RX0 15 "SnoopFilter$Core" "values" "[I", Cond.fieldLink RX0 18 "SnoopFilter$Core" "dirty" "[Z", Cond.fieldLink RX0 22 "SnoopFilter$Core" "tallies" "[I", Cond.fieldLink RX0 28 "SnoopFilter$Core" "filter" "LSnoopFilter$Filter;", Cond.methodLink RX0 70 yX1_copyFrom, Cond.instanceMethod yX1_copyFrom, Cond.selects RX1 yX1_copyFrom yX1_copyFrom, Cond.initialized RX1, Cond.code yX1_copyFrom cX1_copyFrom 2 none, Cond.fieldLink RX1 9 "SnoopFilter$Filter" "counters" "[I", Cond.methodLink RX1 45 arraycopyName, Cond.fieldLink RX1 15 "SnoopFilter$Filter" "stuck" "[Z", Cond.fieldLink RX1 19 "SnoopFilter$Filter" "bits" "[Z"]
def wsX5_cost_r3 : List Cond := [Cond.methodLink RX5 55 yX3_writeLine, Cond.instanceMethod yX3_writeLine, Cond.selects RX3 yX3_writeLine yX3_writeLine, Cond.code yX3_writeLine cX3_writeLine 6 (some .int), Cond.methodLink RX3 60 yX0_holdsDirty, Cond.instanceMethod yX0_holdsDirty, Cond.selects RX0 yX0_holdsDirty yX0_holdsDirty, Cond.code yX0_holdsDirty cX0_holdsDirty 2 (some .boolean), Cond.methodLink RX0 36 yX0_holds, Cond.instanceMethod yX0_holds, Cond.selects RX0 yX0_holds yX0_holds, Cond.code yX0_holds cX0_holds 2 (some .boolean), Cond.methodLink RX0 32 yX0_placeOf, Cond.static yX0_placeOf, Cond.code yX0_placeOf cX0_placeOf 1 (some .int), Cond.methodLink RX3 63 yX3_takeFromOthers, Cond.instanceMethod yX3_takeFromOthers, Cond.selects RX3 yX3_takeFromOthers yX3_takeFromOthers, Cond.code yX3_takeFromOthers cX3_takeFromOthers 6 (some .int), Cond.methodLink RX3 43 yX0_isReachedBySnoop, Cond.instanceMethod yX0_isReachedBySnoop, Cond.selects RX0 yX0_isReachedBySnoop yX0_isReachedBySnoop, Cond.code yX0_isReachedBySnoop cX0_isReachedBySnoop 2 (some .boolean), Cond.methodLink RX0 47 yX1_mayHave]
def wsX5_cost_r4 : List Cond := [Cond.instanceMethod yX1_mayHave, Cond.selects RX1 yX1_mayHave yX1_mayHave, Cond.code yX1_mayHave cX1_mayHave 2 (some .boolean), Cond.methodLink RX1 37 yX1_hasBitOf, Cond.instanceMethod yX1_hasBitOf, Cond.selects RX1 yX1_hasBitOf yX1_hasBitOf, Cond.code yX1_hasBitOf cX1_hasBitOf 2 (some .boolean), Cond.methodLink RX1 22 yX1_firstCounter, Cond.static yX1_firstCounter, Cond.code yX1_firstCounter cX1_firstCounter 1 (some .int), Cond.methodLink RX1 30 yX1_secondCounter, Cond.static yX1_secondCounter, Cond.code yX1_secondCounter cX1_secondCounter 1 (some .int), Cond.methodLink RX3 33 yX0_holds, Cond.methodLink RX3 71 yX0_release, Cond.instanceMethod yX0_release, Cond.selects RX0 yX0_release yX0_release, Cond.code yX0_release cX0_release 2 none, Cond.methodLink RX0 40 yX1_remove, Cond.instanceMethod yX1_remove, Cond.selects RX1 yX1_remove yX1_remove, Cond.code yX1_remove cX1_remove 2 none, Cond.methodLink RX1 33 yX1_lower, Cond.instanceMethod yX1_lower]
def wsX5_cost_r5 : List Cond := [Cond.selects RX1 yX1_lower yX1_lower, Cond.code yX1_lower cX1_lower 2 none, Cond.methodLink RX0 44 yX0_empty, Cond.instanceMethod yX0_empty, Cond.selects RX0 yX0_empty yX0_empty, Cond.code yX0_empty cX0_empty 2 none, Cond.methodLink RX3 67 yX0_fill, Cond.instanceMethod yX0_fill, Cond.selects RX0 yX0_fill yX0_fill, Cond.code yX0_fill cX0_fill 5 none, Cond.methodLink RX3 29 yX0_placeOf, Cond.methodLink RX3 50 yX3_vacate, Cond.instanceMethod yX3_vacate, Cond.selects RX3 yX3_vacate yX3_vacate, Cond.code yX3_vacate cX3_vacate 4 none, Cond.fieldLink RX3 97 "SnoopFilter$Core" "lines" "[I", Cond.methodLink RX3 46 yX3_writeBack, Cond.instanceMethod yX3_writeBack, Cond.selects RX3 yX3_writeBack yX3_writeBack, Cond.code yX3_writeBack cX3_writeBack 4 none, Cond.fieldLink RX3 106 "SnoopFilter$Core" "dirty" "[Z", Cond.fieldLink RX3 40 "SnoopFilter$Core" "values" "[I", Cond.methodLink RX3 53 yX3_beginToHold, Cond.instanceMethod yX3_beginToHold]
def wsX5_cost_r6 : List Cond := [Cond.selects RX3 yX3_beginToHold yX3_beginToHold, Cond.code yX3_beginToHold cX3_beginToHold 5 none, Cond.fieldLink RX3 83 "SnoopFilter$Core" "filter" "LSnoopFilter$Filter;", Cond.methodLink RX3 87 yX1_add, Cond.instanceMethod yX1_add, Cond.selects RX1 yX1_add yX1_add, Cond.code yX1_add cX1_add 3 none, Cond.methodLink RX1 26 yX1_raise, Cond.instanceMethod yX1_raise, Cond.selects RX1 yX1_raise yX1_raise, Cond.code yX1_raise cX1_raise 3 none, Cond.methodLink RX3 93 yX1_countersAboveZero, Cond.instanceMethod yX1_countersAboveZero, Cond.selects RX1 yX1_countersAboveZero yX1_countersAboveZero, Cond.code yX1_countersAboveZero cX1_countersAboveZero 3 (some .int), Cond.methodLink RX3 79 yX3_forgetAllBut, Cond.instanceMethod yX3_forgetAllBut, Cond.selects RX3 yX3_forgetAllBut yX3_forgetAllBut, Cond.code yX3_forgetAllBut cX3_forgetAllBut 6 (some .int), Cond.fieldLink RX3 37 "SnoopFilter$Core" "tallies" "[I", Cond.methodLink RX3 100 yX0_empty, Cond.methodLink RX3 103 yX1_wipe, Cond.instanceMethod yX1_wipe, Cond.selects RX1 yX1_wipe yX1_wipe]
def wsX5_cost_r7 : List Cond := [Cond.code yX1_wipe cX1_wipe 2 none, Cond.methodLink RX5 47 yX3_readLine, Cond.instanceMethod yX3_readLine, Cond.selects RX3 yX3_readLine yX3_readLine, Cond.code yX3_readLine cX3_readLine 7 (some .int), Cond.methodLink RX5 201 yX3_sumOf, Cond.instanceMethod yX3_sumOf, Cond.selects RX3 yX3_sumOf yX3_sumOf, Cond.code yX3_sumOf cX3_sumOf 4 (some .int)]
def wsX5_cost : List Cond := .code yX5_cost cX5_cost 5 (some .int) :: ((wsX5_cost_r1 ++ (wsX5_cost_r2 ++ (wsX5_cost_r3 ++ (wsX5_cost_r4 ++ (wsX5_cost_r5 ++ (wsX5_cost_r6 ++ wsX5_cost_r7)))))) ++ wsX50 ++ wsX30 ++ wsX00 ++ wsX10)
def wsX5_vain_r1 : List Cond := [Cond.fieldLink RX5 12 "SnoopFilter" "now" "LSnoopFilter$Machine;", Cond.fieldLink RX5 59 "SnoopFilter$Machine" "cores" "[LSnoopFilter$Core;", Cond.fieldLink RX5 142 "SnoopFilter$Core" "filter" "LSnoopFilter$Filter;", Cond.methodLink RX5 36 yX5_isCore, Cond.static yX5_isCore, Cond.initialized RX5, Cond.code yX5_isCore cX5_isCore 1 (some .boolean), Cond.methodLink RX5 51 yX5_isWithin, Cond.static yX5_isWithin, Cond.code yX5_isWithin cX5_isWithin 3 (some .boolean), Cond.methodLink RX5 195 yX1_mayHave, Cond.instanceMethod yX1_mayHave, Cond.selects RX1 yX1_mayHave yX1_mayHave, Cond.initialized RX1, Cond.code yX1_mayHave cX1_mayHave 2 (some .boolean), Cond.fieldLink RX1 9 "SnoopFilter$Filter" "counters" "[I", Cond.methodLink RX1 37 yX1_hasBitOf, Cond.instanceMethod yX1_hasBitOf, Cond.selects RX1 yX1_hasBitOf yX1_hasBitOf, Cond.code yX1_hasBitOf cX1_hasBitOf 2 (some .boolean), Cond.fieldLink RX1 19 "SnoopFilter$Filter" "bits" "[Z", Cond.methodLink RX1 22 yX1_firstCounter, Cond.static yX1_firstCounter, Cond.code yX1_firstCounter cX1_firstCounter 1 (some .int)]
def wsX5_vain_r2 : List Cond := [Cond.methodLink RX1 30 yX1_secondCounter, Cond.static yX1_secondCounter, Cond.code yX1_secondCounter cX1_secondCounter 1 (some .int), Cond.methodLink RX5 63 yX0_holds, Cond.instanceMethod yX0_holds, Cond.selects RX0 yX0_holds yX0_holds, Cond.initialized RX0, Cond.code yX0_holds cX0_holds 2 (some .boolean), Cond.fieldLink RX0 9 "SnoopFilter$Core" "lines" "[I", Cond.methodLink RX0 32 yX0_placeOf, Cond.static yX0_placeOf, Cond.code yX0_placeOf cX0_placeOf 1 (some .int)]
def wsX5_vain : List Cond := .code yX5_vain cX5_vain 5 (some .int) :: ((wsX5_vain_r1 ++ wsX5_vain_r2) ++ wsX50 ++ wsX30 ++ wsX00 ++ wsX10)
def wsX5_worst : List Cond := .code yX5_worst cX5_worst 5 (some .int) :: ([.fieldLink RX5 12 "SnoopFilter" "now" "LSnoopFilter$Machine;", .fieldLink RX5 59 "SnoopFilter$Machine" "cores" "[LSnoopFilter$Core;", .fieldLink RX5 157 "SnoopFilter$Core" "tallies" "[I"] ++ wsX50 ++ wsX30 ++ wsX00)
def wsX5_count_r1 : List Cond := [Cond.fieldLink RX5 12 "SnoopFilter" "now" "LSnoopFilter$Machine;", Cond.fieldLink RX5 204 "SnoopFilter$Machine" "writtenBack" "I", Cond.fieldLink RX5 210 "SnoopFilter$Machine" "writings" "I", Cond.fieldLink RX5 79 "SnoopFilter$Machine" "limit" "I", Cond.fieldLink RX5 83 "SnoopFilter$Machine" "fullFrom" "I", Cond.fieldLink RX5 25 "SnoopFilter" "history" "LSnoopFilter$History;", Cond.fieldLink RX5 124 "SnoopFilter$History" "size" "I", Cond.fieldLink RX5 32 "SnoopFilter" "program" "LSnoopFilter$Program;", Cond.fieldLink RX5 90 "SnoopFilter$Program" "length" "I", Cond.methodLink RX5 133 yX3_heldByAll, Cond.instanceMethod yX3_heldByAll, Cond.selects RX3 yX3_heldByAll yX3_heldByAll, Cond.initialized RX3, Cond.code yX3_heldByAll cX3_heldByAll 3 (some .int), Cond.fieldLink RX3 17 "SnoopFilter$Machine" "cores" "[LSnoopFilter$Core;", Cond.methodLink RX3 116 yX0_heldLines, Cond.instanceMethod yX0_heldLines, Cond.selects RX0 yX0_heldLines yX0_heldLines, Cond.initialized RX0, Cond.code yX0_heldLines cX0_heldLines 3 (some .int), Cond.fieldLink RX0 9 "SnoopFilter$Core" "lines" "[I", Cond.methodLink RX5 207 yX3_dirtyOfAll, Cond.instanceMethod yX3_dirtyOfAll, Cond.selects RX3 yX3_dirtyOfAll yX3_dirtyOfAll]
def wsX5_count_r2 : List Cond := [Cond.code yX3_dirtyOfAll cX3_dirtyOfAll 3 (some .int), Cond.methodLink RX3 119 yX0_dirtyLines, Cond.instanceMethod yX0_dirtyLines, Cond.selects RX0 yX0_dirtyLines yX0_dirtyLines, Cond.code yX0_dirtyLines cX0_dirtyLines 1 (some .int), Cond.fieldLink RX0 18 "SnoopFilter$Core" "dirty" "[Z", Cond.static yX5_howManyAreTrue, Cond.initialized RX5, Cond.code yX5_howManyAreTrue cX5_howManyAreTrue 6 (some .int), Cond.methodLink RX5 201 yX3_sumOf, Cond.instanceMethod yX3_sumOf, Cond.selects RX3 yX3_sumOf yX3_sumOf, Cond.code yX3_sumOf cX3_sumOf 4 (some .int), Cond.fieldLink RX3 37 "SnoopFilter$Core" "tallies" "[I"]
def wsX5_count : List Cond := .code yX5_count cX5_count 2 (some .int) :: ((wsX5_count_r1 ++ wsX5_count_r2) ++ wsX50 ++ wsX30 ++ wsX20 ++ wsX40 ++ wsX00)
def wsX6_init : List Cond := .code yX6_init cX6_init 2 none :: ([.methodLink RX6 1 objectInit, .instanceMethod objectInit, .code objectInit ⟨#[0xb1]⟩ 1 none, .arrayClass .int, .fieldLink RX6 7 "SnoopFilterModel" "s" "[I", .fieldLink RX6 13 "SnoopFilterModel" "aside" "[I", .fieldLink RX6 16 "SnoopFilterModel" "history" "[I", .fieldLink RX6 19 "SnoopFilterModel" "snapshot" "[I", .fieldLink RX6 22 "SnoopFilterModel" "text" "[I", .fieldLink RX6 25 "SnoopFilterModel" "stop" "I"] ++ wsX60)
def wsX6_in : List Cond := .code yX6_in cX6_in 3 (some .boolean) :: ([])
def wsX6_isCore : List Cond := .code yX6_isCore cX6_isCore 1 (some .boolean) :: ([.methodLink RX6 29 yX6_in, .static yX6_in, .initialized RX6, .code yX6_in cX6_in 3 (some .boolean)])
def wsX6_isLine : List Cond := .code yX6_isLine cX6_isLine 1 (some .boolean) :: ([.methodLink RX6 29 yX6_in, .static yX6_in, .initialized RX6, .code yX6_in cX6_in 3 (some .boolean)])
def wsX6_placeOf : List Cond := .code yX6_placeOf cX6_placeOf 2 (some .int) :: ([])
def wsX6_told : List Cond := .code yX6_told cX6_told 2 (some .int) :: ([])
def wsX6_record : List Cond := .code yX6_record cX6_record 2 none :: ([.fieldLink RX6 33 "SnoopFilterModel" "known" "I", .fieldLink RX6 16 "SnoopFilterModel" "history" "[I", .fieldLink RX6 7 "SnoopFilterModel" "s" "[I"] ++ wsX60)
def wsX6_putAside : List Cond := .code yX6_putAside cX6_putAside 2 none :: ([.fieldLink RX6 13 "SnoopFilterModel" "aside" "[I", .fieldLink RX6 7 "SnoopFilterModel" "s" "[I"] ++ wsX60)
def wsX6_putBack : List Cond := .code yX6_putBack cX6_putBack 2 none :: ([.fieldLink RX6 7 "SnoopFilterModel" "s" "[I", .fieldLink RX6 13 "SnoopFilterModel" "aside" "[I"] ++ wsX60)
def wsX6_counterOf : List Cond := .code yX6_counterOf cX6_counterOf 2 (some .int) :: ([])
def wsX6_counterAt : List Cond := .code yX6_counterAt cX6_counterAt 4 (some .int) :: ([.methodLink RX6 36 yX6_counterOf, .static yX6_counterOf, .initialized RX6, .code yX6_counterOf cX6_counterOf 2 (some .int)])
def wsX6_counts : List Cond := .code yX6_counts cX6_counts 7 none :: ([.fieldLink RX6 7 "SnoopFilterModel" "s" "[I", .methodLink RX6 40 yX6_counterAt, .instanceMethod yX6_counterAt, .selects RX6 yX6_counterAt yX6_counterAt, .initialized RX6, .code yX6_counterAt cX6_counterAt 4 (some .int), .methodLink RX6 36 yX6_counterOf, .static yX6_counterOf, .code yX6_counterOf cX6_counterOf 2 (some .int)] ++ wsX60)
def wsX6_stuckOf : List Cond := .code yX6_stuckOf cX6_stuckOf 4 (some .int) :: ([.fieldLink RX6 7 "SnoopFilterModel" "s" "[I"] ++ wsX60)
def wsX6_isBit : List Cond := .code yX6_isBit cX6_isBit 3 (some .boolean) :: ([.fieldLink RX6 7 "SnoopFilterModel" "s" "[I"] ++ wsX60)
def wsX6_mayHave : List Cond := .code yX6_mayHave cX6_mayHave 5 (some .boolean) :: ([.fieldLink RX6 7 "SnoopFilterModel" "s" "[I", .methodLink RX6 44 yX6_isBit, .instanceMethod yX6_isBit, .selects RX6 yX6_isBit yX6_isBit, .initialized RX6, .code yX6_isBit cX6_isBit 3 (some .boolean), .methodLink RX6 40 yX6_counterAt, .instanceMethod yX6_counterAt, .selects RX6 yX6_counterAt yX6_counterAt, .code yX6_counterAt cX6_counterAt 4 (some .int), .methodLink RX6 36 yX6_counterOf, .static yX6_counterOf, .code yX6_counterOf cX6_counterOf 2 (some .int)] ++ wsX60)
def wsX6_countersFrom : List Cond := .code yX6_countersFrom cX6_countersFrom 5 (some .int) :: ([.fieldLink RX6 7 "SnoopFilterModel" "s" "[I"] ++ wsX60)
def wsX6_bits : List Cond := .code yX6_bits cX6_bits 4 (some .int) :: ([.fieldLink RX6 7 "SnoopFilterModel" "s" "[I"] ++ wsX60)
def wsX6_clears : List Cond := .code yX6_clears cX6_clears 3 none :: ([.fieldLink RX6 7 "SnoopFilterModel" "s" "[I"] ++ wsX60)
def wsX6_holds : List Cond := .code yX6_holds cX6_holds 3 (some .boolean) :: ([.fieldLink RX6 7 "SnoopFilterModel" "s" "[I", .methodLink RX6 48 yX6_placeOf, .static yX6_placeOf, .initialized RX6, .code yX6_placeOf cX6_placeOf 2 (some .int)] ++ wsX60)
def wsX6_writesBack : List Cond := .code yX6_writesBack cX6_writesBack 2 none :: ([.fieldLink RX6 7 "SnoopFilterModel" "s" "[I"] ++ wsX60)
def wsX6_leaves : List Cond := .code yX6_leaves cX6_leaves 4 none :: ([.fieldLink RX6 7 "SnoopFilterModel" "s" "[I", .methodLink RX6 51 yX6_counts, .instanceMethod yX6_counts, .selects RX6 yX6_counts yX6_counts, .initialized RX6, .code yX6_counts cX6_counts 7 none, .methodLink RX6 40 yX6_counterAt, .instanceMethod yX6_counterAt, .selects RX6 yX6_counterAt yX6_counterAt, .code yX6_counterAt cX6_counterAt 4 (some .int), .methodLink RX6 36 yX6_counterOf, .static yX6_counterOf, .code yX6_counterOf cX6_counterOf 2 (some .int)] ++ wsX60)
def wsX6_notes : List Cond := .code yX6_notes cX6_notes 3 none :: ([.fieldLink RX6 7 "SnoopFilterModel" "s" "[I", .methodLink RX6 51 yX6_counts, .instanceMethod yX6_counts, .selects RX6 yX6_counts yX6_counts, .initialized RX6, .code yX6_counts cX6_counts 7 none, .methodLink RX6 40 yX6_counterAt, .instanceMethod yX6_counterAt, .selects RX6 yX6_counterAt yX6_counterAt, .code yX6_counterAt cX6_counterAt 4 (some .int), .methodLink RX6 36 yX6_counterOf, .static yX6_counterOf, .code yX6_counterOf cX6_counterOf 2 (some .int)] ++ wsX60)
def wsX6_forgets_r1 : List Cond := [Cond.fieldLink RX6 7 "SnoopFilterModel" "s" "[I", Cond.methodLink RX6 55 yX6_writesBack, Cond.instanceMethod yX6_writesBack, Cond.selects RX6 yX6_writesBack yX6_writesBack, Cond.initialized RX6, Cond.code yX6_writesBack cX6_writesBack 2 none, Cond.methodLink RX6 59 yX6_leaves, Cond.instanceMethod yX6_leaves, Cond.selects RX6 yX6_leaves yX6_leaves, Cond.code yX6_leaves cX6_leaves 4 none, Cond.methodLink RX6 51 yX6_counts, Cond.instanceMethod yX6_counts, Cond.selects RX6 yX6_counts yX6_counts, Cond.code yX6_counts cX6_counts 7 none, Cond.methodLink RX6 40 yX6_counterAt, Cond.instanceMethod yX6_counterAt, Cond.selects RX6 yX6_counterAt yX6_counterAt, Cond.code yX6_counterAt cX6_counterAt 4 (some .int), Cond.methodLink RX6 36 yX6_counterOf, Cond.static yX6_counterOf, Cond.code yX6_counterOf cX6_counterOf 2 (some .int), Cond.methodLink RX6 63 yX6_clears, Cond.instanceMethod yX6_clears, Cond.selects RX6 yX6_clears yX6_clears]
def wsX6_forgets_r2 : List Cond := [Cond.code yX6_clears cX6_clears 3 none, Cond.methodLink RX6 66 yX6_told, Cond.static yX6_told, Cond.code yX6_told cX6_told 2 (some .int)]
def wsX6_forgets : List Cond := .code yX6_forgets cX6_forgets 6 (some .int) :: ((wsX6_forgets_r1 ++ wsX6_forgets_r2) ++ wsX60)
def wsX6_begins_r1 : List Cond := [Cond.fieldLink RX6 7 "SnoopFilterModel" "s" "[I", Cond.methodLink RX6 48 yX6_placeOf, Cond.static yX6_placeOf, Cond.initialized RX6, Cond.code yX6_placeOf cX6_placeOf 2 (some .int), Cond.methodLink RX6 55 yX6_writesBack, Cond.instanceMethod yX6_writesBack, Cond.selects RX6 yX6_writesBack yX6_writesBack, Cond.code yX6_writesBack cX6_writesBack 2 none, Cond.methodLink RX6 59 yX6_leaves, Cond.instanceMethod yX6_leaves, Cond.selects RX6 yX6_leaves yX6_leaves, Cond.code yX6_leaves cX6_leaves 4 none, Cond.methodLink RX6 51 yX6_counts, Cond.instanceMethod yX6_counts, Cond.selects RX6 yX6_counts yX6_counts, Cond.code yX6_counts cX6_counts 7 none, Cond.methodLink RX6 40 yX6_counterAt, Cond.instanceMethod yX6_counterAt, Cond.selects RX6 yX6_counterAt yX6_counterAt, Cond.code yX6_counterAt cX6_counterAt 4 (some .int), Cond.methodLink RX6 36 yX6_counterOf, Cond.static yX6_counterOf, Cond.code yX6_counterOf cX6_counterOf 2 (some .int)]
def wsX6_begins_r2 : List Cond := [Cond.methodLink RX6 69 yX6_notes, Cond.instanceMethod yX6_notes, Cond.selects RX6 yX6_notes yX6_notes, Cond.code yX6_notes cX6_notes 3 none, Cond.methodLink RX6 72 yX6_countersFrom, Cond.instanceMethod yX6_countersFrom, Cond.selects RX6 yX6_countersFrom yX6_countersFrom, Cond.code yX6_countersFrom cX6_countersFrom 5 (some .int), Cond.methodLink RX6 75 yX6_forgets, Cond.instanceMethod yX6_forgets, Cond.selects RX6 yX6_forgets yX6_forgets, Cond.code yX6_forgets cX6_forgets 6 (some .int), Cond.methodLink RX6 63 yX6_clears, Cond.instanceMethod yX6_clears, Cond.selects RX6 yX6_clears yX6_clears, Cond.code yX6_clears cX6_clears 3 none, Cond.methodLink RX6 66 yX6_told, Cond.static yX6_told, Cond.code yX6_told cX6_told 2 (some .int)]
def wsX6_begins : List Cond := .code yX6_begins cX6_begins 7 none :: ((wsX6_begins_r1 ++ wsX6_begins_r2) ++ wsX60)
def wsX6_isSnooped_r1 : List Cond := [Cond.fieldLink RX6 7 "SnoopFilterModel" "s" "[I", Cond.methodLink RX6 78 yX6_mayHave, Cond.instanceMethod yX6_mayHave, Cond.selects RX6 yX6_mayHave yX6_mayHave, Cond.initialized RX6, Cond.code yX6_mayHave cX6_mayHave 5 (some .boolean), Cond.methodLink RX6 44 yX6_isBit, Cond.instanceMethod yX6_isBit, Cond.selects RX6 yX6_isBit yX6_isBit, Cond.code yX6_isBit cX6_isBit 3 (some .boolean), Cond.methodLink RX6 40 yX6_counterAt, Cond.instanceMethod yX6_counterAt, Cond.selects RX6 yX6_counterAt yX6_counterAt, Cond.code yX6_counterAt cX6_counterAt 4 (some .int), Cond.methodLink RX6 36 yX6_counterOf, Cond.static yX6_counterOf, Cond.code yX6_counterOf cX6_counterOf 2 (some .int), Cond.methodLink RX6 66 yX6_told, Cond.static yX6_told, Cond.code yX6_told cX6_told 2 (some .int), Cond.methodLink RX6 81 yX6_holds, Cond.instanceMethod yX6_holds, Cond.selects RX6 yX6_holds yX6_holds, Cond.code yX6_holds cX6_holds 3 (some .boolean)]
def wsX6_isSnooped_r2 : List Cond := [Cond.methodLink RX6 48 yX6_placeOf, Cond.static yX6_placeOf, Cond.code yX6_placeOf cX6_placeOf 2 (some .int), Cond.methodLink RX6 59 yX6_leaves, Cond.instanceMethod yX6_leaves, Cond.selects RX6 yX6_leaves yX6_leaves, Cond.code yX6_leaves cX6_leaves 4 none, Cond.methodLink RX6 51 yX6_counts, Cond.instanceMethod yX6_counts, Cond.selects RX6 yX6_counts yX6_counts, Cond.code yX6_counts cX6_counts 7 none, Cond.methodLink RX6 55 yX6_writesBack, Cond.instanceMethod yX6_writesBack, Cond.selects RX6 yX6_writesBack yX6_writesBack, Cond.code yX6_writesBack cX6_writesBack 2 none]
def wsX6_isSnooped : List Cond := .code yX6_isSnooped cX6_isSnooped 4 (some .boolean) :: ((wsX6_isSnooped_r1 ++ wsX6_isSnooped_r2) ++ wsX60)
def wsX6_snoops_r1 : List Cond := [Cond.methodLink RX6 84 yX6_isSnooped, Cond.instanceMethod yX6_isSnooped, Cond.selects RX6 yX6_isSnooped yX6_isSnooped, Cond.initialized RX6, Cond.code yX6_isSnooped cX6_isSnooped 4 (some .boolean), Cond.fieldLink RX6 7 "SnoopFilterModel" "s" "[I", Cond.methodLink RX6 78 yX6_mayHave, Cond.instanceMethod yX6_mayHave, Cond.selects RX6 yX6_mayHave yX6_mayHave, Cond.code yX6_mayHave cX6_mayHave 5 (some .boolean), Cond.methodLink RX6 44 yX6_isBit, Cond.instanceMethod yX6_isBit, Cond.selects RX6 yX6_isBit yX6_isBit, Cond.code yX6_isBit cX6_isBit 3 (some .boolean), Cond.methodLink RX6 40 yX6_counterAt, Cond.instanceMethod yX6_counterAt, Cond.selects RX6 yX6_counterAt yX6_counterAt, Cond.code yX6_counterAt cX6_counterAt 4 (some .int), Cond.methodLink RX6 36 yX6_counterOf, Cond.static yX6_counterOf, Cond.code yX6_counterOf cX6_counterOf 2 (some .int), Cond.methodLink RX6 66 yX6_told, Cond.static yX6_told, Cond.code yX6_told cX6_told 2 (some .int)]
def wsX6_snoops_r2 : List Cond := [Cond.methodLink RX6 81 yX6_holds, Cond.instanceMethod yX6_holds, Cond.selects RX6 yX6_holds yX6_holds, Cond.code yX6_holds cX6_holds 3 (some .boolean), Cond.methodLink RX6 48 yX6_placeOf, Cond.static yX6_placeOf, Cond.code yX6_placeOf cX6_placeOf 2 (some .int), Cond.methodLink RX6 59 yX6_leaves, Cond.instanceMethod yX6_leaves, Cond.selects RX6 yX6_leaves yX6_leaves, Cond.code yX6_leaves cX6_leaves 4 none, Cond.methodLink RX6 51 yX6_counts, Cond.instanceMethod yX6_counts, Cond.selects RX6 yX6_counts yX6_counts, Cond.code yX6_counts cX6_counts 7 none, Cond.methodLink RX6 55 yX6_writesBack, Cond.instanceMethod yX6_writesBack, Cond.selects RX6 yX6_writesBack yX6_writesBack, Cond.code yX6_writesBack cX6_writesBack 2 none]
def wsX6_snoops : List Cond := .code yX6_snoops cX6_snoops 6 (some .int) :: ((wsX6_snoops_r1 ++ wsX6_snoops_r2) ++ wsX60)
def wsX6_reads_r1 : List Cond := [Cond.fieldLink RX6 7 "SnoopFilterModel" "s" "[I", Cond.methodLink RX6 81 yX6_holds, Cond.instanceMethod yX6_holds, Cond.selects RX6 yX6_holds yX6_holds, Cond.initialized RX6, Cond.code yX6_holds cX6_holds 3 (some .boolean), Cond.methodLink RX6 48 yX6_placeOf, Cond.static yX6_placeOf, Cond.code yX6_placeOf cX6_placeOf 2 (some .int), Cond.methodLink RX6 66 yX6_told, Cond.static yX6_told, Cond.code yX6_told cX6_told 2 (some .int), Cond.methodLink RX6 88 yX6_snoops, Cond.instanceMethod yX6_snoops, Cond.selects RX6 yX6_snoops yX6_snoops, Cond.code yX6_snoops cX6_snoops 6 (some .int), Cond.methodLink RX6 84 yX6_isSnooped, Cond.instanceMethod yX6_isSnooped, Cond.selects RX6 yX6_isSnooped yX6_isSnooped, Cond.code yX6_isSnooped cX6_isSnooped 4 (some .boolean), Cond.methodLink RX6 78 yX6_mayHave, Cond.instanceMethod yX6_mayHave, Cond.selects RX6 yX6_mayHave yX6_mayHave, Cond.code yX6_mayHave cX6_mayHave 5 (some .boolean)]
def wsX6_reads_r2 : List Cond := [Cond.methodLink RX6 44 yX6_isBit, Cond.instanceMethod yX6_isBit, Cond.selects RX6 yX6_isBit yX6_isBit, Cond.code yX6_isBit cX6_isBit 3 (some .boolean), Cond.methodLink RX6 40 yX6_counterAt, Cond.instanceMethod yX6_counterAt, Cond.selects RX6 yX6_counterAt yX6_counterAt, Cond.code yX6_counterAt cX6_counterAt 4 (some .int), Cond.methodLink RX6 36 yX6_counterOf, Cond.static yX6_counterOf, Cond.code yX6_counterOf cX6_counterOf 2 (some .int), Cond.methodLink RX6 59 yX6_leaves, Cond.instanceMethod yX6_leaves, Cond.selects RX6 yX6_leaves yX6_leaves, Cond.code yX6_leaves cX6_leaves 4 none, Cond.methodLink RX6 51 yX6_counts, Cond.instanceMethod yX6_counts, Cond.selects RX6 yX6_counts yX6_counts, Cond.code yX6_counts cX6_counts 7 none, Cond.methodLink RX6 55 yX6_writesBack, Cond.instanceMethod yX6_writesBack, Cond.selects RX6 yX6_writesBack yX6_writesBack, Cond.code yX6_writesBack cX6_writesBack 2 none, Cond.methodLink RX6 92 yX6_begins]
def wsX6_reads_r3 : List Cond := [Cond.instanceMethod yX6_begins, Cond.selects RX6 yX6_begins yX6_begins, Cond.code yX6_begins cX6_begins 7 none, Cond.methodLink RX6 69 yX6_notes, Cond.instanceMethod yX6_notes, Cond.selects RX6 yX6_notes yX6_notes, Cond.code yX6_notes cX6_notes 3 none, Cond.methodLink RX6 72 yX6_countersFrom, Cond.instanceMethod yX6_countersFrom, Cond.selects RX6 yX6_countersFrom yX6_countersFrom, Cond.code yX6_countersFrom cX6_countersFrom 5 (some .int), Cond.methodLink RX6 75 yX6_forgets, Cond.instanceMethod yX6_forgets, Cond.selects RX6 yX6_forgets yX6_forgets, Cond.code yX6_forgets cX6_forgets 6 (some .int), Cond.methodLink RX6 63 yX6_clears, Cond.instanceMethod yX6_clears, Cond.selects RX6 yX6_clears yX6_clears, Cond.code yX6_clears cX6_clears 3 none]
def wsX6_reads : List Cond := .code yX6_reads cX6_reads 4 (some .int) :: ((wsX6_reads_r1 ++ (wsX6_reads_r2 ++ wsX6_reads_r3)) ++ wsX60)
def wsX6_writes_r1 : List Cond := [Cond.fieldLink RX6 7 "SnoopFilterModel" "s" "[I", Cond.methodLink RX6 48 yX6_placeOf, Cond.static yX6_placeOf, Cond.initialized RX6, Cond.code yX6_placeOf cX6_placeOf 2 (some .int), Cond.methodLink RX6 81 yX6_holds, Cond.instanceMethod yX6_holds, Cond.selects RX6 yX6_holds yX6_holds, Cond.code yX6_holds cX6_holds 3 (some .boolean), Cond.methodLink RX6 88 yX6_snoops, Cond.instanceMethod yX6_snoops, Cond.selects RX6 yX6_snoops yX6_snoops, Cond.code yX6_snoops cX6_snoops 6 (some .int), Cond.methodLink RX6 84 yX6_isSnooped, Cond.instanceMethod yX6_isSnooped, Cond.selects RX6 yX6_isSnooped yX6_isSnooped, Cond.code yX6_isSnooped cX6_isSnooped 4 (some .boolean), Cond.methodLink RX6 78 yX6_mayHave, Cond.instanceMethod yX6_mayHave, Cond.selects RX6 yX6_mayHave yX6_mayHave, Cond.code yX6_mayHave cX6_mayHave 5 (some .boolean), Cond.methodLink RX6 44 yX6_isBit, Cond.instanceMethod yX6_isBit, Cond.selects RX6 yX6_isBit yX6_isBit]
def wsX6_writes_r2 : List Cond := [Cond.code yX6_isBit cX6_isBit 3 (some .boolean), Cond.methodLink RX6 40 yX6_counterAt, Cond.instanceMethod yX6_counterAt, Cond.selects RX6 yX6_counterAt yX6_counterAt, Cond.code yX6_counterAt cX6_counterAt 4 (some .int), Cond.methodLink RX6 36 yX6_counterOf, Cond.static yX6_counterOf, Cond.code yX6_counterOf cX6_counterOf 2 (some .int), Cond.methodLink RX6 66 yX6_told, Cond.static yX6_told, Cond.code yX6_told cX6_told 2 (some .int), Cond.methodLink RX6 59 yX6_leaves, Cond.instanceMethod yX6_leaves, Cond.selects RX6 yX6_leaves yX6_leaves, Cond.code yX6_leaves cX6_leaves 4 none, Cond.methodLink RX6 51 yX6_counts, Cond.instanceMethod yX6_counts, Cond.selects RX6 yX6_counts yX6_counts, Cond.code yX6_counts cX6_counts 7 none, Cond.methodLink RX6 55 yX6_writesBack, Cond.instanceMethod yX6_writesBack, Cond.selects RX6 yX6_writesBack yX6_writesBack, Cond.code yX6_writesBack cX6_writesBack 2 none, Cond.methodLink RX6 92 yX6_begins]
def wsX6_writes_r3 : List Cond := [Cond.instanceMethod yX6_begins, Cond.selects RX6 yX6_begins yX6_begins, Cond.code yX6_begins cX6_begins 7 none, Cond.methodLink RX6 69 yX6_notes, Cond.instanceMethod yX6_notes, Cond.selects RX6 yX6_notes yX6_notes, Cond.code yX6_notes cX6_notes 3 none, Cond.methodLink RX6 72 yX6_countersFrom, Cond.instanceMethod yX6_countersFrom, Cond.selects RX6 yX6_countersFrom yX6_countersFrom, Cond.code yX6_countersFrom cX6_countersFrom 5 (some .int), Cond.methodLink RX6 75 yX6_forgets, Cond.instanceMethod yX6_forgets, Cond.selects RX6 yX6_forgets yX6_forgets, Cond.code yX6_forgets cX6_forgets 6 (some .int), Cond.methodLink RX6 63 yX6_clears, Cond.instanceMethod yX6_clears, Cond.selects RX6 yX6_clears yX6_clears, Cond.code yX6_clears cX6_clears 3 none]
def wsX6_writes : List Cond := .code yX6_writes cX6_writes 6 (some .int) :: ((wsX6_writes_r1 ++ (wsX6_writes_r2 ++ wsX6_writes_r3)) ++ wsX60)
def wsX6_drops : List Cond := .code yX6_drops cX6_drops 5 (some .int) :: ([.fieldLink RX6 7 "SnoopFilterModel" "s" "[I", .methodLink RX6 48 yX6_placeOf, .static yX6_placeOf, .initialized RX6, .code yX6_placeOf cX6_placeOf 2 (some .int), .methodLink RX6 55 yX6_writesBack, .instanceMethod yX6_writesBack, .selects RX6 yX6_writesBack yX6_writesBack, .code yX6_writesBack cX6_writesBack 2 none, .methodLink RX6 59 yX6_leaves, .instanceMethod yX6_leaves, .selects RX6 yX6_leaves yX6_leaves, .code yX6_leaves cX6_leaves 4 none, .methodLink RX6 51 yX6_counts, .instanceMethod yX6_counts, .selects RX6 yX6_counts yX6_counts, .code yX6_counts cX6_counts 7 none, .methodLink RX6 40 yX6_counterAt, .instanceMethod yX6_counterAt, .selects RX6 yX6_counterAt yX6_counterAt, .code yX6_counterAt cX6_counterAt 4 (some .int), .methodLink RX6 36 yX6_counterOf, .static yX6_counterOf, .code yX6_counterOf cX6_counterOf 2 (some .int)] ++ wsX60)
def wsX6_linesOf : List Cond := .code yX6_linesOf cX6_linesOf 4 (some .int) :: ([.fieldLink RX6 7 "SnoopFilterModel" "s" "[I"] ++ wsX60)
def wsX6_isEmpty : List Cond := .code yX6_isEmpty cX6_isEmpty 2 (some .boolean) :: ([.methodLink RX6 96 yX6_linesOf, .instanceMethod yX6_linesOf, .selects RX6 yX6_linesOf yX6_linesOf, .initialized RX6, .code yX6_linesOf cX6_linesOf 4 (some .int), .fieldLink RX6 7 "SnoopFilterModel" "s" "[I", .methodLink RX6 72 yX6_countersFrom, .instanceMethod yX6_countersFrom, .selects RX6 yX6_countersFrom yX6_countersFrom, .code yX6_countersFrom cX6_countersFrom 5 (some .int), .methodLink RX6 100 yX6_bits, .instanceMethod yX6_bits, .selects RX6 yX6_bits yX6_bits, .code yX6_bits cX6_bits 4 (some .int)] ++ wsX60)
def wsX6_read_r1 : List Cond := [Cond.methodLink RX6 103 yX6_isCore, Cond.static yX6_isCore, Cond.initialized RX6, Cond.code yX6_isCore cX6_isCore 1 (some .boolean), Cond.methodLink RX6 29 yX6_in, Cond.static yX6_in, Cond.code yX6_in cX6_in 3 (some .boolean), Cond.methodLink RX6 107 yX6_isLine, Cond.static yX6_isLine, Cond.code yX6_isLine cX6_isLine 1 (some .boolean), Cond.methodLink RX6 110 yX6_record, Cond.instanceMethod yX6_record, Cond.selects RX6 yX6_record yX6_record, Cond.code yX6_record cX6_record 2 none, Cond.fieldLink RX6 33 "SnoopFilterModel" "known" "I", Cond.fieldLink RX6 16 "SnoopFilterModel" "history" "[I", Cond.fieldLink RX6 7 "SnoopFilterModel" "s" "[I", Cond.methodLink RX6 113 yX6_reads, Cond.instanceMethod yX6_reads, Cond.selects RX6 yX6_reads yX6_reads, Cond.code yX6_reads cX6_reads 4 (some .int), Cond.methodLink RX6 81 yX6_holds, Cond.instanceMethod yX6_holds, Cond.selects RX6 yX6_holds yX6_holds]
def wsX6_read_r2 : List Cond := [Cond.code yX6_holds cX6_holds 3 (some .boolean), Cond.methodLink RX6 48 yX6_placeOf, Cond.static yX6_placeOf, Cond.code yX6_placeOf cX6_placeOf 2 (some .int), Cond.methodLink RX6 66 yX6_told, Cond.static yX6_told, Cond.code yX6_told cX6_told 2 (some .int), Cond.methodLink RX6 88 yX6_snoops, Cond.instanceMethod yX6_snoops, Cond.selects RX6 yX6_snoops yX6_snoops, Cond.code yX6_snoops cX6_snoops 6 (some .int), Cond.methodLink RX6 84 yX6_isSnooped, Cond.instanceMethod yX6_isSnooped, Cond.selects RX6 yX6_isSnooped yX6_isSnooped, Cond.code yX6_isSnooped cX6_isSnooped 4 (some .boolean), Cond.methodLink RX6 78 yX6_mayHave, Cond.instanceMethod yX6_mayHave, Cond.selects RX6 yX6_mayHave yX6_mayHave, Cond.code yX6_mayHave cX6_mayHave 5 (some .boolean), Cond.methodLink RX6 44 yX6_isBit, Cond.instanceMethod yX6_isBit, Cond.selects RX6 yX6_isBit yX6_isBit, Cond.code yX6_isBit cX6_isBit 3 (some .boolean), Cond.methodLink RX6 40 yX6_counterAt]
def wsX6_read_r3 : List Cond := [Cond.instanceMethod yX6_counterAt, Cond.selects RX6 yX6_counterAt yX6_counterAt, Cond.code yX6_counterAt cX6_counterAt 4 (some .int), Cond.methodLink RX6 36 yX6_counterOf, Cond.static yX6_counterOf, Cond.code yX6_counterOf cX6_counterOf 2 (some .int), Cond.methodLink RX6 59 yX6_leaves, Cond.instanceMethod yX6_leaves, Cond.selects RX6 yX6_leaves yX6_leaves, Cond.code yX6_leaves cX6_leaves 4 none, Cond.methodLink RX6 51 yX6_counts, Cond.instanceMethod yX6_counts, Cond.selects RX6 yX6_counts yX6_counts, Cond.code yX6_counts cX6_counts 7 none, Cond.methodLink RX6 55 yX6_writesBack, Cond.instanceMethod yX6_writesBack, Cond.selects RX6 yX6_writesBack yX6_writesBack, Cond.code yX6_writesBack cX6_writesBack 2 none, Cond.methodLink RX6 92 yX6_begins, Cond.instanceMethod yX6_begins, Cond.selects RX6 yX6_begins yX6_begins, Cond.code yX6_begins cX6_begins 7 none, Cond.methodLink RX6 69 yX6_notes, Cond.instanceMethod yX6_notes]
def wsX6_read_r4 : List Cond := [Cond.selects RX6 yX6_notes yX6_notes, Cond.code yX6_notes cX6_notes 3 none, Cond.methodLink RX6 72 yX6_countersFrom, Cond.instanceMethod yX6_countersFrom, Cond.selects RX6 yX6_countersFrom yX6_countersFrom, Cond.code yX6_countersFrom cX6_countersFrom 5 (some .int), Cond.methodLink RX6 75 yX6_forgets, Cond.instanceMethod yX6_forgets, Cond.selects RX6 yX6_forgets yX6_forgets, Cond.code yX6_forgets cX6_forgets 6 (some .int), Cond.methodLink RX6 63 yX6_clears, Cond.instanceMethod yX6_clears, Cond.selects RX6 yX6_clears yX6_clears, Cond.code yX6_clears cX6_clears 3 none]
def wsX6_read : List Cond := .code yX6_read cX6_read 3 (some .int) :: ((wsX6_read_r1 ++ (wsX6_read_r2 ++ (wsX6_read_r3 ++ wsX6_read_r4))) ++ wsX60)
def wsX6_write_r1 : List Cond := [Cond.methodLink RX6 103 yX6_isCore, Cond.static yX6_isCore, Cond.initialized RX6, Cond.code yX6_isCore cX6_isCore 1 (some .boolean), Cond.methodLink RX6 29 yX6_in, Cond.static yX6_in, Cond.code yX6_in cX6_in 3 (some .boolean), Cond.methodLink RX6 107 yX6_isLine, Cond.static yX6_isLine, Cond.code yX6_isLine cX6_isLine 1 (some .boolean), Cond.methodLink RX6 110 yX6_record, Cond.instanceMethod yX6_record, Cond.selects RX6 yX6_record yX6_record, Cond.code yX6_record cX6_record 2 none, Cond.fieldLink RX6 33 "SnoopFilterModel" "known" "I", Cond.fieldLink RX6 16 "SnoopFilterModel" "history" "[I", Cond.fieldLink RX6 7 "SnoopFilterModel" "s" "[I", Cond.methodLink RX6 116 yX6_writes, Cond.instanceMethod yX6_writes, Cond.selects RX6 yX6_writes yX6_writes, Cond.code yX6_writes cX6_writes 6 (some .int), Cond.methodLink RX6 48 yX6_placeOf, Cond.static yX6_placeOf, Cond.code yX6_placeOf cX6_placeOf 2 (some .int)]
def wsX6_write_r2 : List Cond := [Cond.methodLink RX6 81 yX6_holds, Cond.instanceMethod yX6_holds, Cond.selects RX6 yX6_holds yX6_holds, Cond.code yX6_holds cX6_holds 3 (some .boolean), Cond.methodLink RX6 88 yX6_snoops, Cond.instanceMethod yX6_snoops, Cond.selects RX6 yX6_snoops yX6_snoops, Cond.code yX6_snoops cX6_snoops 6 (some .int), Cond.methodLink RX6 84 yX6_isSnooped, Cond.instanceMethod yX6_isSnooped, Cond.selects RX6 yX6_isSnooped yX6_isSnooped, Cond.code yX6_isSnooped cX6_isSnooped 4 (some .boolean), Cond.methodLink RX6 78 yX6_mayHave, Cond.instanceMethod yX6_mayHave, Cond.selects RX6 yX6_mayHave yX6_mayHave, Cond.code yX6_mayHave cX6_mayHave 5 (some .boolean), Cond.methodLink RX6 44 yX6_isBit, Cond.instanceMethod yX6_isBit, Cond.selects RX6 yX6_isBit yX6_isBit, Cond.code yX6_isBit cX6_isBit 3 (some .boolean), Cond.methodLink RX6 40 yX6_counterAt, Cond.instanceMethod yX6_counterAt, Cond.selects RX6 yX6_counterAt yX6_counterAt, Cond.code yX6_counterAt cX6_counterAt 4 (some .int)]
def wsX6_write_r3 : List Cond := [Cond.methodLink RX6 36 yX6_counterOf, Cond.static yX6_counterOf, Cond.code yX6_counterOf cX6_counterOf 2 (some .int), Cond.methodLink RX6 66 yX6_told, Cond.static yX6_told, Cond.code yX6_told cX6_told 2 (some .int), Cond.methodLink RX6 59 yX6_leaves, Cond.instanceMethod yX6_leaves, Cond.selects RX6 yX6_leaves yX6_leaves, Cond.code yX6_leaves cX6_leaves 4 none, Cond.methodLink RX6 51 yX6_counts, Cond.instanceMethod yX6_counts, Cond.selects RX6 yX6_counts yX6_counts, Cond.code yX6_counts cX6_counts 7 none, Cond.methodLink RX6 55 yX6_writesBack, Cond.instanceMethod yX6_writesBack, Cond.selects RX6 yX6_writesBack yX6_writesBack, Cond.code yX6_writesBack cX6_writesBack 2 none, Cond.methodLink RX6 92 yX6_begins, Cond.instanceMethod yX6_begins, Cond.selects RX6 yX6_begins yX6_begins, Cond.code yX6_begins cX6_begins 7 none, Cond.methodLink RX6 69 yX6_notes, Cond.instanceMethod yX6_notes]
def wsX6_write_r4 : List Cond := [Cond.selects RX6 yX6_notes yX6_notes, Cond.code yX6_notes cX6_notes 3 none, Cond.methodLink RX6 72 yX6_countersFrom, Cond.instanceMethod yX6_countersFrom, Cond.selects RX6 yX6_countersFrom yX6_countersFrom, Cond.code yX6_countersFrom cX6_countersFrom 5 (some .int), Cond.methodLink RX6 75 yX6_forgets, Cond.instanceMethod yX6_forgets, Cond.selects RX6 yX6_forgets yX6_forgets, Cond.code yX6_forgets cX6_forgets 6 (some .int), Cond.methodLink RX6 63 yX6_clears, Cond.instanceMethod yX6_clears, Cond.selects RX6 yX6_clears yX6_clears, Cond.code yX6_clears cX6_clears 3 none]
def wsX6_write : List Cond := .code yX6_write cX6_write 4 (some .int) :: ((wsX6_write_r1 ++ (wsX6_write_r2 ++ (wsX6_write_r3 ++ wsX6_write_r4))) ++ wsX60)
def wsX6_drop_r1 : List Cond := [Cond.methodLink RX6 103 yX6_isCore, Cond.static yX6_isCore, Cond.initialized RX6, Cond.code yX6_isCore cX6_isCore 1 (some .boolean), Cond.methodLink RX6 29 yX6_in, Cond.static yX6_in, Cond.code yX6_in cX6_in 3 (some .boolean), Cond.methodLink RX6 107 yX6_isLine, Cond.static yX6_isLine, Cond.code yX6_isLine cX6_isLine 1 (some .boolean), Cond.methodLink RX6 81 yX6_holds, Cond.instanceMethod yX6_holds, Cond.selects RX6 yX6_holds yX6_holds, Cond.code yX6_holds cX6_holds 3 (some .boolean), Cond.fieldLink RX6 7 "SnoopFilterModel" "s" "[I", Cond.methodLink RX6 48 yX6_placeOf, Cond.static yX6_placeOf, Cond.code yX6_placeOf cX6_placeOf 2 (some .int), Cond.methodLink RX6 110 yX6_record, Cond.instanceMethod yX6_record, Cond.selects RX6 yX6_record yX6_record, Cond.code yX6_record cX6_record 2 none, Cond.fieldLink RX6 33 "SnoopFilterModel" "known" "I", Cond.fieldLink RX6 16 "SnoopFilterModel" "history" "[I"]
def wsX6_drop_r2 : List Cond := [Cond.methodLink RX6 119 yX6_drops, Cond.instanceMethod yX6_drops, Cond.selects RX6 yX6_drops yX6_drops, Cond.code yX6_drops cX6_drops 5 (some .int), Cond.methodLink RX6 55 yX6_writesBack, Cond.instanceMethod yX6_writesBack, Cond.selects RX6 yX6_writesBack yX6_writesBack, Cond.code yX6_writesBack cX6_writesBack 2 none, Cond.methodLink RX6 59 yX6_leaves, Cond.instanceMethod yX6_leaves, Cond.selects RX6 yX6_leaves yX6_leaves, Cond.code yX6_leaves cX6_leaves 4 none, Cond.methodLink RX6 51 yX6_counts, Cond.instanceMethod yX6_counts, Cond.selects RX6 yX6_counts yX6_counts, Cond.code yX6_counts cX6_counts 7 none, Cond.methodLink RX6 40 yX6_counterAt, Cond.instanceMethod yX6_counterAt, Cond.selects RX6 yX6_counterAt yX6_counterAt, Cond.code yX6_counterAt cX6_counterAt 4 (some .int), Cond.methodLink RX6 36 yX6_counterOf, Cond.static yX6_counterOf, Cond.code yX6_counterOf cX6_counterOf 2 (some .int)]
def wsX6_drop : List Cond := .code yX6_drop cX6_drop 3 (some .int) :: ((wsX6_drop_r1 ++ wsX6_drop_r2) ++ wsX60)
def wsX6_forget_r1 : List Cond := [Cond.methodLink RX6 103 yX6_isCore, Cond.static yX6_isCore, Cond.initialized RX6, Cond.code yX6_isCore cX6_isCore 1 (some .boolean), Cond.methodLink RX6 29 yX6_in, Cond.static yX6_in, Cond.code yX6_in cX6_in 3 (some .boolean), Cond.methodLink RX6 122 yX6_isEmpty, Cond.instanceMethod yX6_isEmpty, Cond.selects RX6 yX6_isEmpty yX6_isEmpty, Cond.code yX6_isEmpty cX6_isEmpty 2 (some .boolean), Cond.methodLink RX6 96 yX6_linesOf, Cond.instanceMethod yX6_linesOf, Cond.selects RX6 yX6_linesOf yX6_linesOf, Cond.code yX6_linesOf cX6_linesOf 4 (some .int), Cond.fieldLink RX6 7 "SnoopFilterModel" "s" "[I", Cond.methodLink RX6 72 yX6_countersFrom, Cond.instanceMethod yX6_countersFrom, Cond.selects RX6 yX6_countersFrom yX6_countersFrom, Cond.code yX6_countersFrom cX6_countersFrom 5 (some .int), Cond.methodLink RX6 100 yX6_bits, Cond.instanceMethod yX6_bits, Cond.selects RX6 yX6_bits yX6_bits, Cond.code yX6_bits cX6_bits 4 (some .int)]
def wsX6_forget_r2 : List Cond := [Cond.methodLink RX6 110 yX6_record, Cond.instanceMethod yX6_record, Cond.selects RX6 yX6_record yX6_record, Cond.code yX6_record cX6_record 2 none, Cond.fieldLink RX6 33 "SnoopFilterModel" "known" "I", Cond.fieldLink RX6 16 "SnoopFilterModel" "history" "[I", Cond.methodLink RX6 75 yX6_forgets, Cond.instanceMethod yX6_forgets, Cond.selects RX6 yX6_forgets yX6_forgets, Cond.code yX6_forgets cX6_forgets 6 (some .int), Cond.methodLink RX6 55 yX6_writesBack, Cond.instanceMethod yX6_writesBack, Cond.selects RX6 yX6_writesBack yX6_writesBack, Cond.code yX6_writesBack cX6_writesBack 2 none, Cond.methodLink RX6 59 yX6_leaves, Cond.instanceMethod yX6_leaves, Cond.selects RX6 yX6_leaves yX6_leaves, Cond.code yX6_leaves cX6_leaves 4 none, Cond.methodLink RX6 51 yX6_counts, Cond.instanceMethod yX6_counts, Cond.selects RX6 yX6_counts yX6_counts, Cond.code yX6_counts cX6_counts 7 none, Cond.methodLink RX6 40 yX6_counterAt, Cond.instanceMethod yX6_counterAt]
def wsX6_forget_r3 : List Cond := [Cond.selects RX6 yX6_counterAt yX6_counterAt, Cond.code yX6_counterAt cX6_counterAt 4 (some .int), Cond.methodLink RX6 36 yX6_counterOf, Cond.static yX6_counterOf, Cond.code yX6_counterOf cX6_counterOf 2 (some .int), Cond.methodLink RX6 63 yX6_clears, Cond.instanceMethod yX6_clears, Cond.selects RX6 yX6_clears yX6_clears, Cond.code yX6_clears cX6_clears 3 none, Cond.methodLink RX6 66 yX6_told, Cond.static yX6_told, Cond.code yX6_told cX6_told 2 (some .int)]
def wsX6_forget : List Cond := .code yX6_forget cX6_forget 2 (some .int) :: ((wsX6_forget_r1 ++ (wsX6_forget_r2 ++ wsX6_forget_r3)) ++ wsX60)
def wsX6_set : List Cond := .code yX6_set cX6_set 4 (some .int) :: ([.fieldLink RX6 7 "SnoopFilterModel" "s" "[I", .methodLink RX6 29 yX6_in, .static yX6_in, .initialized RX6, .code yX6_in cX6_in 3 (some .boolean), .methodLink RX6 110 yX6_record, .instanceMethod yX6_record, .selects RX6 yX6_record yX6_record, .code yX6_record cX6_record 2 none, .fieldLink RX6 33 "SnoopFilterModel" "known" "I", .fieldLink RX6 16 "SnoopFilterModel" "history" "[I"] ++ wsX60)
def wsX6_type : List Cond := .code yX6_type cX6_type 2 (some .int) :: ([.fieldLink RX6 125 "SnoopFilterModel" "length" "I", .fieldLink RX6 22 "SnoopFilterModel" "text" "[I"] ++ wsX60)
def wsX6_clearText : List Cond := .code yX6_clearText cX6_clearText 2 (some .int) :: ([.fieldLink RX6 125 "SnoopFilterModel" "length" "I"] ++ wsX60)
def wsX6_isNext : List Cond := .code yX6_isNext cX6_isNext 3 (some .boolean) :: ([.fieldLink RX6 128 "SnoopFilterModel" "isWrong" "Z", .fieldLink RX6 132 "SnoopFilterModel" "spot" "I", .fieldLink RX6 125 "SnoopFilterModel" "length" "I", .fieldLink RX6 22 "SnoopFilterModel" "text" "[I", .methodLink RX6 29 yX6_in, .static yX6_in, .initialized RX6, .code yX6_in cX6_in 3 (some .boolean)] ++ wsX60)
def wsX6_needs : List Cond := .code yX6_needs cX6_needs 3 none :: ([.fieldLink RX6 132 "SnoopFilterModel" "spot" "I", .fieldLink RX6 128 "SnoopFilterModel" "isWrong" "Z", .methodLink RX6 135 yX6_isNext, .instanceMethod yX6_isNext, .selects RX6 yX6_isNext yX6_isNext, .initialized RX6, .code yX6_isNext cX6_isNext 3 (some .boolean), .fieldLink RX6 125 "SnoopFilterModel" "length" "I", .fieldLink RX6 22 "SnoopFilterModel" "text" "[I", .methodLink RX6 29 yX6_in, .static yX6_in, .code yX6_in cX6_in 3 (some .boolean)] ++ wsX60)
def wsX6_number : List Cond := .code yX6_number cX6_number 3 (some .int) :: ([.fieldLink RX6 128 "SnoopFilterModel" "isWrong" "Z", .fieldLink RX6 22 "SnoopFilterModel" "text" "[I", .fieldLink RX6 132 "SnoopFilterModel" "spot" "I", .methodLink RX6 135 yX6_isNext, .instanceMethod yX6_isNext, .selects RX6 yX6_isNext yX6_isNext, .initialized RX6, .code yX6_isNext cX6_isNext 3 (some .boolean), .fieldLink RX6 125 "SnoopFilterModel" "length" "I", .methodLink RX6 29 yX6_in, .static yX6_in, .code yX6_in cX6_in 3 (some .boolean)] ++ wsX60)
def wsX6_readsDeed : List Cond := .code yX6_readsDeed cX6_readsDeed 1 none :: ([.fieldLink RX6 22 "SnoopFilterModel" "text" "[I", .fieldLink RX6 132 "SnoopFilterModel" "spot" "I", .fieldLink RX6 138 "SnoopFilterModel" "letter" "I", .fieldLink RX6 128 "SnoopFilterModel" "isWrong" "Z", .fieldLink RX6 144 "SnoopFilterModel" "deedCore" "I", .fieldLink RX6 150 "SnoopFilterModel" "deedLine" "I", .fieldLink RX6 153 "SnoopFilterModel" "deedValue" "I", .methodLink RX6 135 yX6_isNext, .instanceMethod yX6_isNext, .selects RX6 yX6_isNext yX6_isNext, .initialized RX6, .code yX6_isNext cX6_isNext 3 (some .boolean), .fieldLink RX6 125 "SnoopFilterModel" "length" "I", .methodLink RX6 29 yX6_in, .static yX6_in, .code yX6_in cX6_in 3 (some .boolean), .methodLink RX6 141 yX6_number, .instanceMethod yX6_number, .selects RX6 yX6_number yX6_number, .code yX6_number cX6_number 3 (some .int), .methodLink RX6 147 yX6_needs, .instanceMethod yX6_needs, .selects RX6 yX6_needs yX6_needs, .code yX6_needs cX6_needs 3 none] ++ wsX60)
def wsX6_isDone_r1 : List Cond := [Cond.fieldLink RX6 138 "SnoopFilterModel" "letter" "I", Cond.fieldLink RX6 144 "SnoopFilterModel" "deedCore" "I", Cond.fieldLink RX6 150 "SnoopFilterModel" "deedLine" "I", Cond.fieldLink RX6 156 "SnoopFilterModel" "sum" "I", Cond.fieldLink RX6 153 "SnoopFilterModel" "deedValue" "I", Cond.methodLink RX6 81 yX6_holds, Cond.instanceMethod yX6_holds, Cond.selects RX6 yX6_holds yX6_holds, Cond.initialized RX6, Cond.code yX6_holds cX6_holds 3 (some .boolean), Cond.fieldLink RX6 7 "SnoopFilterModel" "s" "[I", Cond.methodLink RX6 48 yX6_placeOf, Cond.static yX6_placeOf, Cond.code yX6_placeOf cX6_placeOf 2 (some .int), Cond.methodLink RX6 113 yX6_reads, Cond.instanceMethod yX6_reads, Cond.selects RX6 yX6_reads yX6_reads, Cond.code yX6_reads cX6_reads 4 (some .int), Cond.methodLink RX6 66 yX6_told, Cond.static yX6_told, Cond.code yX6_told cX6_told 2 (some .int), Cond.methodLink RX6 88 yX6_snoops, Cond.instanceMethod yX6_snoops, Cond.selects RX6 yX6_snoops yX6_snoops]
def wsX6_isDone_r2 : List Cond := [Cond.code yX6_snoops cX6_snoops 6 (some .int), Cond.methodLink RX6 84 yX6_isSnooped, Cond.instanceMethod yX6_isSnooped, Cond.selects RX6 yX6_isSnooped yX6_isSnooped, Cond.code yX6_isSnooped cX6_isSnooped 4 (some .boolean), Cond.methodLink RX6 78 yX6_mayHave, Cond.instanceMethod yX6_mayHave, Cond.selects RX6 yX6_mayHave yX6_mayHave, Cond.code yX6_mayHave cX6_mayHave 5 (some .boolean), Cond.methodLink RX6 44 yX6_isBit, Cond.instanceMethod yX6_isBit, Cond.selects RX6 yX6_isBit yX6_isBit, Cond.code yX6_isBit cX6_isBit 3 (some .boolean), Cond.methodLink RX6 40 yX6_counterAt, Cond.instanceMethod yX6_counterAt, Cond.selects RX6 yX6_counterAt yX6_counterAt, Cond.code yX6_counterAt cX6_counterAt 4 (some .int), Cond.methodLink RX6 36 yX6_counterOf, Cond.static yX6_counterOf, Cond.code yX6_counterOf cX6_counterOf 2 (some .int), Cond.methodLink RX6 59 yX6_leaves, Cond.instanceMethod yX6_leaves, Cond.selects RX6 yX6_leaves yX6_leaves, Cond.code yX6_leaves cX6_leaves 4 none]
def wsX6_isDone_r3 : List Cond := [Cond.methodLink RX6 51 yX6_counts, Cond.instanceMethod yX6_counts, Cond.selects RX6 yX6_counts yX6_counts, Cond.code yX6_counts cX6_counts 7 none, Cond.methodLink RX6 55 yX6_writesBack, Cond.instanceMethod yX6_writesBack, Cond.selects RX6 yX6_writesBack yX6_writesBack, Cond.code yX6_writesBack cX6_writesBack 2 none, Cond.methodLink RX6 92 yX6_begins, Cond.instanceMethod yX6_begins, Cond.selects RX6 yX6_begins yX6_begins, Cond.code yX6_begins cX6_begins 7 none, Cond.methodLink RX6 69 yX6_notes, Cond.instanceMethod yX6_notes, Cond.selects RX6 yX6_notes yX6_notes, Cond.code yX6_notes cX6_notes 3 none, Cond.methodLink RX6 72 yX6_countersFrom, Cond.instanceMethod yX6_countersFrom, Cond.selects RX6 yX6_countersFrom yX6_countersFrom, Cond.code yX6_countersFrom cX6_countersFrom 5 (some .int), Cond.methodLink RX6 75 yX6_forgets, Cond.instanceMethod yX6_forgets, Cond.selects RX6 yX6_forgets yX6_forgets, Cond.code yX6_forgets cX6_forgets 6 (some .int)]
def wsX6_isDone_r4 : List Cond := [Cond.methodLink RX6 63 yX6_clears, Cond.instanceMethod yX6_clears, Cond.selects RX6 yX6_clears yX6_clears, Cond.code yX6_clears cX6_clears 3 none, Cond.methodLink RX6 116 yX6_writes, Cond.instanceMethod yX6_writes, Cond.selects RX6 yX6_writes yX6_writes, Cond.code yX6_writes cX6_writes 6 (some .int), Cond.methodLink RX6 119 yX6_drops, Cond.instanceMethod yX6_drops, Cond.selects RX6 yX6_drops yX6_drops, Cond.code yX6_drops cX6_drops 5 (some .int), Cond.methodLink RX6 122 yX6_isEmpty, Cond.instanceMethod yX6_isEmpty, Cond.selects RX6 yX6_isEmpty yX6_isEmpty, Cond.code yX6_isEmpty cX6_isEmpty 2 (some .boolean), Cond.methodLink RX6 96 yX6_linesOf, Cond.instanceMethod yX6_linesOf, Cond.selects RX6 yX6_linesOf yX6_linesOf, Cond.code yX6_linesOf cX6_linesOf 4 (some .int), Cond.methodLink RX6 100 yX6_bits, Cond.instanceMethod yX6_bits, Cond.selects RX6 yX6_bits yX6_bits, Cond.code yX6_bits cX6_bits 4 (some .int)]
def wsX6_isDone : List Cond := .code yX6_isDone cX6_isDone 2 (some .boolean) :: ((wsX6_isDone_r1 ++ (wsX6_isDone_r2 ++ (wsX6_isDone_r3 ++ wsX6_isDone_r4))) ++ wsX60)
def wsX6_readsProgram_r1 : List Cond := [Cond.fieldLink RX6 132 "SnoopFilterModel" "spot" "I", Cond.fieldLink RX6 128 "SnoopFilterModel" "isWrong" "Z", Cond.fieldLink RX6 156 "SnoopFilterModel" "sum" "I", Cond.fieldLink RX6 159 "SnoopFilterModel" "stopNow" "I", Cond.fieldLink RX6 125 "SnoopFilterModel" "length" "I", Cond.methodLink RX6 162 yX6_readsDeed, Cond.instanceMethod yX6_readsDeed, Cond.selects RX6 yX6_readsDeed yX6_readsDeed, Cond.initialized RX6, Cond.code yX6_readsDeed cX6_readsDeed 1 none, Cond.fieldLink RX6 22 "SnoopFilterModel" "text" "[I", Cond.fieldLink RX6 138 "SnoopFilterModel" "letter" "I", Cond.fieldLink RX6 144 "SnoopFilterModel" "deedCore" "I", Cond.fieldLink RX6 150 "SnoopFilterModel" "deedLine" "I", Cond.fieldLink RX6 153 "SnoopFilterModel" "deedValue" "I", Cond.methodLink RX6 135 yX6_isNext, Cond.instanceMethod yX6_isNext, Cond.selects RX6 yX6_isNext yX6_isNext, Cond.code yX6_isNext cX6_isNext 3 (some .boolean), Cond.methodLink RX6 29 yX6_in, Cond.static yX6_in, Cond.code yX6_in cX6_in 3 (some .boolean), Cond.methodLink RX6 141 yX6_number, Cond.instanceMethod yX6_number]
def wsX6_readsProgram_r2 : List Cond := [Cond.selects RX6 yX6_number yX6_number, Cond.code yX6_number cX6_number 3 (some .int), Cond.methodLink RX6 147 yX6_needs, Cond.instanceMethod yX6_needs, Cond.selects RX6 yX6_needs yX6_needs, Cond.code yX6_needs cX6_needs 3 none, Cond.methodLink RX6 165 yX6_isDone, Cond.instanceMethod yX6_isDone, Cond.selects RX6 yX6_isDone yX6_isDone, Cond.code yX6_isDone cX6_isDone 2 (some .boolean), Cond.methodLink RX6 81 yX6_holds, Cond.instanceMethod yX6_holds, Cond.selects RX6 yX6_holds yX6_holds, Cond.code yX6_holds cX6_holds 3 (some .boolean), Cond.fieldLink RX6 7 "SnoopFilterModel" "s" "[I", Cond.methodLink RX6 48 yX6_placeOf, Cond.static yX6_placeOf, Cond.code yX6_placeOf cX6_placeOf 2 (some .int), Cond.methodLink RX6 113 yX6_reads, Cond.instanceMethod yX6_reads, Cond.selects RX6 yX6_reads yX6_reads, Cond.code yX6_reads cX6_reads 4 (some .int), Cond.methodLink RX6 66 yX6_told, Cond.static yX6_told]
def wsX6_readsProgram_r3 : List Cond := [Cond.code yX6_told cX6_told 2 (some .int), Cond.methodLink RX6 88 yX6_snoops, Cond.instanceMethod yX6_snoops, Cond.selects RX6 yX6_snoops yX6_snoops, Cond.code yX6_snoops cX6_snoops 6 (some .int), Cond.methodLink RX6 84 yX6_isSnooped, Cond.instanceMethod yX6_isSnooped, Cond.selects RX6 yX6_isSnooped yX6_isSnooped, Cond.code yX6_isSnooped cX6_isSnooped 4 (some .boolean), Cond.methodLink RX6 78 yX6_mayHave, Cond.instanceMethod yX6_mayHave, Cond.selects RX6 yX6_mayHave yX6_mayHave, Cond.code yX6_mayHave cX6_mayHave 5 (some .boolean), Cond.methodLink RX6 44 yX6_isBit, Cond.instanceMethod yX6_isBit, Cond.selects RX6 yX6_isBit yX6_isBit, Cond.code yX6_isBit cX6_isBit 3 (some .boolean), Cond.methodLink RX6 40 yX6_counterAt, Cond.instanceMethod yX6_counterAt, Cond.selects RX6 yX6_counterAt yX6_counterAt, Cond.code yX6_counterAt cX6_counterAt 4 (some .int), Cond.methodLink RX6 36 yX6_counterOf, Cond.static yX6_counterOf, Cond.code yX6_counterOf cX6_counterOf 2 (some .int)]
def wsX6_readsProgram_r4 : List Cond := [Cond.methodLink RX6 59 yX6_leaves, Cond.instanceMethod yX6_leaves, Cond.selects RX6 yX6_leaves yX6_leaves, Cond.code yX6_leaves cX6_leaves 4 none, Cond.methodLink RX6 51 yX6_counts, Cond.instanceMethod yX6_counts, Cond.selects RX6 yX6_counts yX6_counts, Cond.code yX6_counts cX6_counts 7 none, Cond.methodLink RX6 55 yX6_writesBack, Cond.instanceMethod yX6_writesBack, Cond.selects RX6 yX6_writesBack yX6_writesBack, Cond.code yX6_writesBack cX6_writesBack 2 none, Cond.methodLink RX6 92 yX6_begins, Cond.instanceMethod yX6_begins, Cond.selects RX6 yX6_begins yX6_begins, Cond.code yX6_begins cX6_begins 7 none, Cond.methodLink RX6 69 yX6_notes, Cond.instanceMethod yX6_notes, Cond.selects RX6 yX6_notes yX6_notes, Cond.code yX6_notes cX6_notes 3 none, Cond.methodLink RX6 72 yX6_countersFrom, Cond.instanceMethod yX6_countersFrom, Cond.selects RX6 yX6_countersFrom yX6_countersFrom, Cond.code yX6_countersFrom cX6_countersFrom 5 (some .int)]
def wsX6_readsProgram_r5 : List Cond := [Cond.methodLink RX6 75 yX6_forgets, Cond.instanceMethod yX6_forgets, Cond.selects RX6 yX6_forgets yX6_forgets, Cond.code yX6_forgets cX6_forgets 6 (some .int), Cond.methodLink RX6 63 yX6_clears, Cond.instanceMethod yX6_clears, Cond.selects RX6 yX6_clears yX6_clears, Cond.code yX6_clears cX6_clears 3 none, Cond.methodLink RX6 116 yX6_writes, Cond.instanceMethod yX6_writes, Cond.selects RX6 yX6_writes yX6_writes, Cond.code yX6_writes cX6_writes 6 (some .int), Cond.methodLink RX6 119 yX6_drops, Cond.instanceMethod yX6_drops, Cond.selects RX6 yX6_drops yX6_drops, Cond.code yX6_drops cX6_drops 5 (some .int), Cond.methodLink RX6 122 yX6_isEmpty, Cond.instanceMethod yX6_isEmpty, Cond.selects RX6 yX6_isEmpty yX6_isEmpty, Cond.code yX6_isEmpty cX6_isEmpty 2 (some .boolean), Cond.methodLink RX6 96 yX6_linesOf, Cond.instanceMethod yX6_linesOf, Cond.selects RX6 yX6_linesOf yX6_linesOf, Cond.code yX6_linesOf cX6_linesOf 4 (some .int)]
def wsX6_readsProgram_r6 : List Cond := [Cond.methodLink RX6 100 yX6_bits, Cond.instanceMethod yX6_bits, Cond.selects RX6 yX6_bits yX6_bits, Cond.code yX6_bits cX6_bits 4 (some .int)]
def wsX6_readsProgram : List Cond := .code yX6_readsProgram cX6_readsProgram 4 (some .int) :: ((wsX6_readsProgram_r1 ++ (wsX6_readsProgram_r2 ++ (wsX6_readsProgram_r3 ++ (wsX6_readsProgram_r4 ++ (wsX6_readsProgram_r5 ++ wsX6_readsProgram_r6))))) ++ wsX60)
def wsX6_perform_r1 : List Cond := [Cond.fieldLink RX6 156 "SnoopFilterModel" "sum" "I", Cond.fieldLink RX6 159 "SnoopFilterModel" "stopNow" "I", Cond.fieldLink RX6 7 "SnoopFilterModel" "s" "[I", Cond.fieldLink RX6 13 "SnoopFilterModel" "aside" "[I", Cond.fieldLink RX6 25 "SnoopFilterModel" "stop" "I", Cond.fieldLink RX6 176 "SnoopFilterModel" "stopError" "I", Cond.methodLink RX6 169 yX6_readsProgram, Cond.instanceMethod yX6_readsProgram, Cond.selects RX6 yX6_readsProgram yX6_readsProgram, Cond.initialized RX6, Cond.code yX6_readsProgram cX6_readsProgram 4 (some .int), Cond.fieldLink RX6 132 "SnoopFilterModel" "spot" "I", Cond.fieldLink RX6 128 "SnoopFilterModel" "isWrong" "Z", Cond.fieldLink RX6 125 "SnoopFilterModel" "length" "I", Cond.methodLink RX6 162 yX6_readsDeed, Cond.instanceMethod yX6_readsDeed, Cond.selects RX6 yX6_readsDeed yX6_readsDeed, Cond.code yX6_readsDeed cX6_readsDeed 1 none, Cond.fieldLink RX6 22 "SnoopFilterModel" "text" "[I", Cond.fieldLink RX6 138 "SnoopFilterModel" "letter" "I", Cond.fieldLink RX6 144 "SnoopFilterModel" "deedCore" "I", Cond.fieldLink RX6 150 "SnoopFilterModel" "deedLine" "I", Cond.fieldLink RX6 153 "SnoopFilterModel" "deedValue" "I", Cond.methodLink RX6 135 yX6_isNext]
def wsX6_perform_r2 : List Cond := [Cond.instanceMethod yX6_isNext, Cond.selects RX6 yX6_isNext yX6_isNext, Cond.code yX6_isNext cX6_isNext 3 (some .boolean), Cond.methodLink RX6 29 yX6_in, Cond.static yX6_in, Cond.code yX6_in cX6_in 3 (some .boolean), Cond.methodLink RX6 141 yX6_number, Cond.instanceMethod yX6_number, Cond.selects RX6 yX6_number yX6_number, Cond.code yX6_number cX6_number 3 (some .int), Cond.methodLink RX6 147 yX6_needs, Cond.instanceMethod yX6_needs, Cond.selects RX6 yX6_needs yX6_needs, Cond.code yX6_needs cX6_needs 3 none, Cond.methodLink RX6 165 yX6_isDone, Cond.instanceMethod yX6_isDone, Cond.selects RX6 yX6_isDone yX6_isDone, Cond.code yX6_isDone cX6_isDone 2 (some .boolean), Cond.methodLink RX6 81 yX6_holds, Cond.instanceMethod yX6_holds, Cond.selects RX6 yX6_holds yX6_holds, Cond.code yX6_holds cX6_holds 3 (some .boolean), Cond.methodLink RX6 48 yX6_placeOf, Cond.static yX6_placeOf]
def wsX6_perform_r3 : List Cond := [Cond.code yX6_placeOf cX6_placeOf 2 (some .int), Cond.methodLink RX6 113 yX6_reads, Cond.instanceMethod yX6_reads, Cond.selects RX6 yX6_reads yX6_reads, Cond.code yX6_reads cX6_reads 4 (some .int), Cond.methodLink RX6 66 yX6_told, Cond.static yX6_told, Cond.code yX6_told cX6_told 2 (some .int), Cond.methodLink RX6 88 yX6_snoops, Cond.instanceMethod yX6_snoops, Cond.selects RX6 yX6_snoops yX6_snoops, Cond.code yX6_snoops cX6_snoops 6 (some .int), Cond.methodLink RX6 84 yX6_isSnooped, Cond.instanceMethod yX6_isSnooped, Cond.selects RX6 yX6_isSnooped yX6_isSnooped, Cond.code yX6_isSnooped cX6_isSnooped 4 (some .boolean), Cond.methodLink RX6 78 yX6_mayHave, Cond.instanceMethod yX6_mayHave, Cond.selects RX6 yX6_mayHave yX6_mayHave, Cond.code yX6_mayHave cX6_mayHave 5 (some .boolean), Cond.methodLink RX6 44 yX6_isBit, Cond.instanceMethod yX6_isBit, Cond.selects RX6 yX6_isBit yX6_isBit, Cond.code yX6_isBit cX6_isBit 3 (some .boolean)]
def wsX6_perform_r4 : List Cond := [Cond.methodLink RX6 40 yX6_counterAt, Cond.instanceMethod yX6_counterAt, Cond.selects RX6 yX6_counterAt yX6_counterAt, Cond.code yX6_counterAt cX6_counterAt 4 (some .int), Cond.methodLink RX6 36 yX6_counterOf, Cond.static yX6_counterOf, Cond.code yX6_counterOf cX6_counterOf 2 (some .int), Cond.methodLink RX6 59 yX6_leaves, Cond.instanceMethod yX6_leaves, Cond.selects RX6 yX6_leaves yX6_leaves, Cond.code yX6_leaves cX6_leaves 4 none, Cond.methodLink RX6 51 yX6_counts, Cond.instanceMethod yX6_counts, Cond.selects RX6 yX6_counts yX6_counts, Cond.code yX6_counts cX6_counts 7 none, Cond.methodLink RX6 55 yX6_writesBack, Cond.instanceMethod yX6_writesBack, Cond.selects RX6 yX6_writesBack yX6_writesBack, Cond.code yX6_writesBack cX6_writesBack 2 none, Cond.methodLink RX6 92 yX6_begins, Cond.instanceMethod yX6_begins, Cond.selects RX6 yX6_begins yX6_begins, Cond.code yX6_begins cX6_begins 7 none, Cond.methodLink RX6 69 yX6_notes]
def wsX6_perform_r5 : List Cond := [Cond.instanceMethod yX6_notes, Cond.selects RX6 yX6_notes yX6_notes, Cond.code yX6_notes cX6_notes 3 none, Cond.methodLink RX6 72 yX6_countersFrom, Cond.instanceMethod yX6_countersFrom, Cond.selects RX6 yX6_countersFrom yX6_countersFrom, Cond.code yX6_countersFrom cX6_countersFrom 5 (some .int), Cond.methodLink RX6 75 yX6_forgets, Cond.instanceMethod yX6_forgets, Cond.selects RX6 yX6_forgets yX6_forgets, Cond.code yX6_forgets cX6_forgets 6 (some .int), Cond.methodLink RX6 63 yX6_clears, Cond.instanceMethod yX6_clears, Cond.selects RX6 yX6_clears yX6_clears, Cond.code yX6_clears cX6_clears 3 none, Cond.methodLink RX6 116 yX6_writes, Cond.instanceMethod yX6_writes, Cond.selects RX6 yX6_writes yX6_writes, Cond.code yX6_writes cX6_writes 6 (some .int), Cond.methodLink RX6 119 yX6_drops, Cond.instanceMethod yX6_drops, Cond.selects RX6 yX6_drops yX6_drops, Cond.code yX6_drops cX6_drops 5 (some .int), Cond.methodLink RX6 122 yX6_isEmpty]
def wsX6_perform_r6 : List Cond := [Cond.instanceMethod yX6_isEmpty, Cond.selects RX6 yX6_isEmpty yX6_isEmpty, Cond.code yX6_isEmpty cX6_isEmpty 2 (some .boolean), Cond.methodLink RX6 96 yX6_linesOf, Cond.instanceMethod yX6_linesOf, Cond.selects RX6 yX6_linesOf yX6_linesOf, Cond.code yX6_linesOf cX6_linesOf 4 (some .int), Cond.methodLink RX6 100 yX6_bits, Cond.instanceMethod yX6_bits, Cond.selects RX6 yX6_bits yX6_bits, Cond.code yX6_bits cX6_bits 4 (some .int), Cond.methodLink RX6 173 yX6_putAside, Cond.instanceMethod yX6_putAside, Cond.selects RX6 yX6_putAside yX6_putAside, Cond.code yX6_putAside cX6_putAside 2 none, Cond.methodLink RX6 110 yX6_record, Cond.instanceMethod yX6_record, Cond.selects RX6 yX6_record yX6_record, Cond.code yX6_record cX6_record 2 none, Cond.fieldLink RX6 33 "SnoopFilterModel" "known" "I", Cond.fieldLink RX6 16 "SnoopFilterModel" "history" "[I", Cond.methodLink RX6 179 yX6_putBack, Cond.instanceMethod yX6_putBack, Cond.selects RX6 yX6_putBack yX6_putBack]
def wsX6_perform_r7 : List Cond := [Cond.code yX6_putBack cX6_putBack 2 none]
def wsX6_perform : List Cond := .code yX6_perform cX6_perform 6 (some .int) :: ((wsX6_perform_r1 ++ (wsX6_perform_r2 ++ (wsX6_perform_r3 ++ (wsX6_perform_r4 ++ (wsX6_perform_r5 ++ (wsX6_perform_r6 ++ wsX6_perform_r7)))))) ++ wsX60)
def wsX6_stopped : List Cond := .code yX6_stopped cX6_stopped 2 (some .int) :: ([.fieldLink RX6 25 "SnoopFilterModel" "stop" "I", .fieldLink RX6 176 "SnoopFilterModel" "stopError" "I", .methodLink RX6 29 yX6_in, .static yX6_in, .initialized RX6, .code yX6_in cX6_in 3 (some .boolean)] ++ wsX60)
def wsX6_lines : List Cond := .code yX6_lines cX6_lines 1 (some .int) :: ([.methodLink RX6 96 yX6_linesOf, .instanceMethod yX6_linesOf, .selects RX6 yX6_linesOf yX6_linesOf, .initialized RX6, .code yX6_linesOf cX6_linesOf 4 (some .int), .fieldLink RX6 7 "SnoopFilterModel" "s" "[I"] ++ wsX60)
def wsX6_undo : List Cond := .code yX6_undo cX6_undo 2 (some .int) :: ([.fieldLink RX6 33 "SnoopFilterModel" "known" "I", .fieldLink RX6 7 "SnoopFilterModel" "s" "[I", .fieldLink RX6 16 "SnoopFilterModel" "history" "[I"] ++ wsX60)
def wsX6_keep : List Cond := .code yX6_keep cX6_keep 2 (some .int) :: ([.fieldLink RX6 19 "SnoopFilterModel" "snapshot" "[I", .fieldLink RX6 7 "SnoopFilterModel" "s" "[I", .fieldLink RX6 182 "SnoopFilterModel" "isKept" "Z", .methodLink RX6 185 yX6_lines, .instanceMethod yX6_lines, .selects RX6 yX6_lines yX6_lines, .initialized RX6, .code yX6_lines cX6_lines 1 (some .int), .methodLink RX6 96 yX6_linesOf, .instanceMethod yX6_linesOf, .selects RX6 yX6_linesOf yX6_linesOf, .code yX6_linesOf cX6_linesOf 4 (some .int)] ++ wsX60)
def wsX6_restore : List Cond := .code yX6_restore cX6_restore 2 (some .int) :: ([.fieldLink RX6 182 "SnoopFilterModel" "isKept" "Z", .fieldLink RX6 7 "SnoopFilterModel" "s" "[I", .fieldLink RX6 19 "SnoopFilterModel" "snapshot" "[I", .methodLink RX6 110 yX6_record, .instanceMethod yX6_record, .selects RX6 yX6_record yX6_record, .initialized RX6, .code yX6_record cX6_record 2 none, .fieldLink RX6 33 "SnoopFilterModel" "known" "I", .fieldLink RX6 16 "SnoopFilterModel" "history" "[I", .methodLink RX6 185 yX6_lines, .instanceMethod yX6_lines, .selects RX6 yX6_lines yX6_lines, .code yX6_lines cX6_lines 1 (some .int), .methodLink RX6 96 yX6_linesOf, .instanceMethod yX6_linesOf, .selects RX6 yX6_linesOf yX6_linesOf, .code yX6_linesOf cX6_linesOf 4 (some .int)] ++ wsX60)
def wsX6_dirtyOf : List Cond := .code yX6_dirtyOf cX6_dirtyOf 4 (some .int) :: ([.fieldLink RX6 7 "SnoopFilterModel" "s" "[I"] ++ wsX60)
def wsX6_core_r1 : List Cond := [Cond.fieldLink RX6 7 "SnoopFilterModel" "s" "[I", Cond.methodLink RX6 103 yX6_isCore, Cond.static yX6_isCore, Cond.initialized RX6, Cond.code yX6_isCore cX6_isCore 1 (some .boolean), Cond.methodLink RX6 29 yX6_in, Cond.static yX6_in, Cond.code yX6_in cX6_in 3 (some .boolean), Cond.methodLink RX6 96 yX6_linesOf, Cond.instanceMethod yX6_linesOf, Cond.selects RX6 yX6_linesOf yX6_linesOf, Cond.code yX6_linesOf cX6_linesOf 4 (some .int), Cond.methodLink RX6 189 yX6_dirtyOf, Cond.instanceMethod yX6_dirtyOf, Cond.selects RX6 yX6_dirtyOf yX6_dirtyOf, Cond.code yX6_dirtyOf cX6_dirtyOf 4 (some .int), Cond.methodLink RX6 72 yX6_countersFrom, Cond.instanceMethod yX6_countersFrom, Cond.selects RX6 yX6_countersFrom yX6_countersFrom, Cond.code yX6_countersFrom cX6_countersFrom 5 (some .int), Cond.methodLink RX6 192 yX6_stuckOf, Cond.instanceMethod yX6_stuckOf, Cond.selects RX6 yX6_stuckOf yX6_stuckOf, Cond.code yX6_stuckOf cX6_stuckOf 4 (some .int)]
def wsX6_core_r2 : List Cond := [Cond.methodLink RX6 100 yX6_bits, Cond.instanceMethod yX6_bits, Cond.selects RX6 yX6_bits yX6_bits, Cond.code yX6_bits cX6_bits 4 (some .int), Cond.methodLink RX6 66 yX6_told, Cond.static yX6_told, Cond.code yX6_told cX6_told 2 (some .int)]
def wsX6_core : List Cond := .code yX6_core cX6_core 3 (some .int) :: ((wsX6_core_r1 ++ wsX6_core_r2) ++ wsX60)
def wsX6_held : List Cond := .code yX6_held cX6_held 5 (some .int) :: ([.fieldLink RX6 7 "SnoopFilterModel" "s" "[I", .methodLink RX6 103 yX6_isCore, .static yX6_isCore, .initialized RX6, .code yX6_isCore cX6_isCore 1 (some .boolean), .methodLink RX6 29 yX6_in, .static yX6_in, .code yX6_in cX6_in 3 (some .boolean)] ++ wsX60)
def wsX6_counter : List Cond := .code yX6_counter cX6_counter 3 (some .int) :: ([.fieldLink RX6 7 "SnoopFilterModel" "s" "[I", .methodLink RX6 103 yX6_isCore, .static yX6_isCore, .initialized RX6, .code yX6_isCore cX6_isCore 1 (some .boolean), .methodLink RX6 29 yX6_in, .static yX6_in, .code yX6_in cX6_in 3 (some .boolean)] ++ wsX60)
def wsX6_bit : List Cond := .code yX6_bit cX6_bit 3 (some .int) :: ([.fieldLink RX6 7 "SnoopFilterModel" "s" "[I", .methodLink RX6 103 yX6_isCore, .static yX6_isCore, .initialized RX6, .code yX6_isCore cX6_isCore 1 (some .boolean), .methodLink RX6 29 yX6_in, .static yX6_in, .code yX6_in cX6_in 3 (some .boolean)] ++ wsX60)
def wsX6_wouldRead : List Cond := .code yX6_wouldRead cX6_wouldRead 5 (some .int) :: ([.fieldLink RX6 7 "SnoopFilterModel" "s" "[I", .methodLink RX6 48 yX6_placeOf, .static yX6_placeOf, .initialized RX6, .code yX6_placeOf cX6_placeOf 2 (some .int), .methodLink RX6 78 yX6_mayHave, .instanceMethod yX6_mayHave, .selects RX6 yX6_mayHave yX6_mayHave, .code yX6_mayHave cX6_mayHave 5 (some .boolean), .methodLink RX6 44 yX6_isBit, .instanceMethod yX6_isBit, .selects RX6 yX6_isBit yX6_isBit, .code yX6_isBit cX6_isBit 3 (some .boolean), .methodLink RX6 40 yX6_counterAt, .instanceMethod yX6_counterAt, .selects RX6 yX6_counterAt yX6_counterAt, .code yX6_counterAt cX6_counterAt 4 (some .int), .methodLink RX6 36 yX6_counterOf, .static yX6_counterOf, .code yX6_counterOf cX6_counterOf 2 (some .int), .methodLink RX6 81 yX6_holds, .instanceMethod yX6_holds, .selects RX6 yX6_holds yX6_holds, .code yX6_holds cX6_holds 3 (some .boolean)] ++ wsX60)
def wsX6_coresWith : List Cond := .code yX6_coresWith cX6_coresWith 5 (some .int) :: ([.methodLink RX6 81 yX6_holds, .instanceMethod yX6_holds, .selects RX6 yX6_holds yX6_holds, .initialized RX6, .code yX6_holds cX6_holds 3 (some .boolean), .fieldLink RX6 7 "SnoopFilterModel" "s" "[I", .methodLink RX6 48 yX6_placeOf, .static yX6_placeOf, .code yX6_placeOf cX6_placeOf 2 (some .int), .methodLink RX6 78 yX6_mayHave, .instanceMethod yX6_mayHave, .selects RX6 yX6_mayHave yX6_mayHave, .code yX6_mayHave cX6_mayHave 5 (some .boolean), .methodLink RX6 44 yX6_isBit, .instanceMethod yX6_isBit, .selects RX6 yX6_isBit yX6_isBit, .code yX6_isBit cX6_isBit 3 (some .boolean), .methodLink RX6 40 yX6_counterAt, .instanceMethod yX6_counterAt, .selects RX6 yX6_counterAt yX6_counterAt, .code yX6_counterAt cX6_counterAt 4 (some .int), .methodLink RX6 36 yX6_counterOf, .static yX6_counterOf, .code yX6_counterOf cX6_counterOf 2 (some .int)] ++ wsX60)
def wsX6_line_r1 : List Cond := [Cond.fieldLink RX6 7 "SnoopFilterModel" "s" "[I", Cond.methodLink RX6 107 yX6_isLine, Cond.static yX6_isLine, Cond.initialized RX6, Cond.code yX6_isLine cX6_isLine 1 (some .boolean), Cond.methodLink RX6 29 yX6_in, Cond.static yX6_in, Cond.code yX6_in cX6_in 3 (some .boolean), Cond.methodLink RX6 195 yX6_wouldRead, Cond.instanceMethod yX6_wouldRead, Cond.selects RX6 yX6_wouldRead yX6_wouldRead, Cond.code yX6_wouldRead cX6_wouldRead 5 (some .int), Cond.methodLink RX6 48 yX6_placeOf, Cond.static yX6_placeOf, Cond.code yX6_placeOf cX6_placeOf 2 (some .int), Cond.methodLink RX6 78 yX6_mayHave, Cond.instanceMethod yX6_mayHave, Cond.selects RX6 yX6_mayHave yX6_mayHave, Cond.code yX6_mayHave cX6_mayHave 5 (some .boolean), Cond.methodLink RX6 44 yX6_isBit, Cond.instanceMethod yX6_isBit, Cond.selects RX6 yX6_isBit yX6_isBit, Cond.code yX6_isBit cX6_isBit 3 (some .boolean), Cond.methodLink RX6 40 yX6_counterAt]
def wsX6_line_r2 : List Cond := [Cond.instanceMethod yX6_counterAt, Cond.selects RX6 yX6_counterAt yX6_counterAt, Cond.code yX6_counterAt cX6_counterAt 4 (some .int), Cond.methodLink RX6 36 yX6_counterOf, Cond.static yX6_counterOf, Cond.code yX6_counterOf cX6_counterOf 2 (some .int), Cond.methodLink RX6 81 yX6_holds, Cond.instanceMethod yX6_holds, Cond.selects RX6 yX6_holds yX6_holds, Cond.code yX6_holds cX6_holds 3 (some .boolean), Cond.methodLink RX6 198 yX6_coresWith, Cond.instanceMethod yX6_coresWith, Cond.selects RX6 yX6_coresWith yX6_coresWith, Cond.code yX6_coresWith cX6_coresWith 5 (some .int)]
def wsX6_line : List Cond := .code yX6_line cX6_line 3 (some .int) :: ((wsX6_line_r1 ++ wsX6_line_r2) ++ wsX60)
def wsX6_reason_r1 : List Cond := [Cond.methodLink RX6 103 yX6_isCore, Cond.static yX6_isCore, Cond.initialized RX6, Cond.code yX6_isCore cX6_isCore 1 (some .boolean), Cond.methodLink RX6 29 yX6_in, Cond.static yX6_in, Cond.code yX6_in cX6_in 3 (some .boolean), Cond.methodLink RX6 107 yX6_isLine, Cond.static yX6_isLine, Cond.code yX6_isLine cX6_isLine 1 (some .boolean), Cond.methodLink RX6 78 yX6_mayHave, Cond.instanceMethod yX6_mayHave, Cond.selects RX6 yX6_mayHave yX6_mayHave, Cond.code yX6_mayHave cX6_mayHave 5 (some .boolean), Cond.fieldLink RX6 7 "SnoopFilterModel" "s" "[I", Cond.methodLink RX6 44 yX6_isBit, Cond.instanceMethod yX6_isBit, Cond.selects RX6 yX6_isBit yX6_isBit, Cond.code yX6_isBit cX6_isBit 3 (some .boolean), Cond.methodLink RX6 40 yX6_counterAt, Cond.instanceMethod yX6_counterAt, Cond.selects RX6 yX6_counterAt yX6_counterAt, Cond.code yX6_counterAt cX6_counterAt 4 (some .int), Cond.methodLink RX6 36 yX6_counterOf]
def wsX6_reason_r2 : List Cond := [Cond.static yX6_counterOf, Cond.code yX6_counterOf cX6_counterOf 2 (some .int), Cond.methodLink RX6 81 yX6_holds, Cond.instanceMethod yX6_holds, Cond.selects RX6 yX6_holds yX6_holds, Cond.code yX6_holds cX6_holds 3 (some .boolean), Cond.methodLink RX6 48 yX6_placeOf, Cond.static yX6_placeOf, Cond.code yX6_placeOf cX6_placeOf 2 (some .int)]
def wsX6_reason : List Cond := .code yX6_reason cX6_reason 3 (some .int) :: ((wsX6_reason_r1 ++ wsX6_reason_r2) ++ wsX60)
def wsX6_sumOf : List Cond := .code yX6_sumOf cX6_sumOf 4 (some .int) :: ([.fieldLink RX6 7 "SnoopFilterModel" "s" "[I", .methodLink RX6 66 yX6_told, .static yX6_told, .initialized RX6, .code yX6_told cX6_told 2 (some .int)] ++ wsX60)
def wsX6_cost_r1 : List Cond := [Cond.fieldLink RX6 7 "SnoopFilterModel" "s" "[I", Cond.methodLink RX6 103 yX6_isCore, Cond.static yX6_isCore, Cond.initialized RX6, Cond.code yX6_isCore cX6_isCore 1 (some .boolean), Cond.methodLink RX6 29 yX6_in, Cond.static yX6_in, Cond.code yX6_in cX6_in 3 (some .boolean), Cond.methodLink RX6 107 yX6_isLine, Cond.static yX6_isLine, Cond.code yX6_isLine cX6_isLine 1 (some .boolean), Cond.methodLink RX6 173 yX6_putAside, Cond.instanceMethod yX6_putAside, Cond.selects RX6 yX6_putAside yX6_putAside, Cond.code yX6_putAside cX6_putAside 2 none, Cond.fieldLink RX6 13 "SnoopFilterModel" "aside" "[I", Cond.methodLink RX6 202 yX6_sumOf, Cond.instanceMethod yX6_sumOf, Cond.selects RX6 yX6_sumOf yX6_sumOf, Cond.code yX6_sumOf cX6_sumOf 4 (some .int), Cond.methodLink RX6 66 yX6_told, Cond.static yX6_told, Cond.code yX6_told cX6_told 2 (some .int), Cond.methodLink RX6 116 yX6_writes]
def wsX6_cost_r2 : List Cond := [Cond.instanceMethod yX6_writes, Cond.selects RX6 yX6_writes yX6_writes, Cond.code yX6_writes cX6_writes 6 (some .int), Cond.methodLink RX6 48 yX6_placeOf, Cond.static yX6_placeOf, Cond.code yX6_placeOf cX6_placeOf 2 (some .int), Cond.methodLink RX6 81 yX6_holds, Cond.instanceMethod yX6_holds, Cond.selects RX6 yX6_holds yX6_holds, Cond.code yX6_holds cX6_holds 3 (some .boolean), Cond.methodLink RX6 88 yX6_snoops, Cond.instanceMethod yX6_snoops, Cond.selects RX6 yX6_snoops yX6_snoops, Cond.code yX6_snoops cX6_snoops 6 (some .int), Cond.methodLink RX6 84 yX6_isSnooped, Cond.instanceMethod yX6_isSnooped, Cond.selects RX6 yX6_isSnooped yX6_isSnooped, Cond.code yX6_isSnooped cX6_isSnooped 4 (some .boolean), Cond.methodLink RX6 78 yX6_mayHave, Cond.instanceMethod yX6_mayHave, Cond.selects RX6 yX6_mayHave yX6_mayHave, Cond.code yX6_mayHave cX6_mayHave 5 (some .boolean), Cond.methodLink RX6 44 yX6_isBit, Cond.instanceMethod yX6_isBit]
def wsX6_cost_r3 : List Cond := [Cond.selects RX6 yX6_isBit yX6_isBit, Cond.code yX6_isBit cX6_isBit 3 (some .boolean), Cond.methodLink RX6 40 yX6_counterAt, Cond.instanceMethod yX6_counterAt, Cond.selects RX6 yX6_counterAt yX6_counterAt, Cond.code yX6_counterAt cX6_counterAt 4 (some .int), Cond.methodLink RX6 36 yX6_counterOf, Cond.static yX6_counterOf, Cond.code yX6_counterOf cX6_counterOf 2 (some .int), Cond.methodLink RX6 59 yX6_leaves, Cond.instanceMethod yX6_leaves, Cond.selects RX6 yX6_leaves yX6_leaves, Cond.code yX6_leaves cX6_leaves 4 none, Cond.methodLink RX6 51 yX6_counts, Cond.instanceMethod yX6_counts, Cond.selects RX6 yX6_counts yX6_counts, Cond.code yX6_counts cX6_counts 7 none, Cond.methodLink RX6 55 yX6_writesBack, Cond.instanceMethod yX6_writesBack, Cond.selects RX6 yX6_writesBack yX6_writesBack, Cond.code yX6_writesBack cX6_writesBack 2 none, Cond.methodLink RX6 92 yX6_begins, Cond.instanceMethod yX6_begins, Cond.selects RX6 yX6_begins yX6_begins]
def wsX6_cost_r4 : List Cond := [Cond.code yX6_begins cX6_begins 7 none, Cond.methodLink RX6 69 yX6_notes, Cond.instanceMethod yX6_notes, Cond.selects RX6 yX6_notes yX6_notes, Cond.code yX6_notes cX6_notes 3 none, Cond.methodLink RX6 72 yX6_countersFrom, Cond.instanceMethod yX6_countersFrom, Cond.selects RX6 yX6_countersFrom yX6_countersFrom, Cond.code yX6_countersFrom cX6_countersFrom 5 (some .int), Cond.methodLink RX6 75 yX6_forgets, Cond.instanceMethod yX6_forgets, Cond.selects RX6 yX6_forgets yX6_forgets, Cond.code yX6_forgets cX6_forgets 6 (some .int), Cond.methodLink RX6 63 yX6_clears, Cond.instanceMethod yX6_clears, Cond.selects RX6 yX6_clears yX6_clears, Cond.code yX6_clears cX6_clears 3 none, Cond.methodLink RX6 113 yX6_reads, Cond.instanceMethod yX6_reads, Cond.selects RX6 yX6_reads yX6_reads, Cond.code yX6_reads cX6_reads 4 (some .int), Cond.methodLink RX6 179 yX6_putBack, Cond.instanceMethod yX6_putBack, Cond.selects RX6 yX6_putBack yX6_putBack]
def wsX6_cost_r5 : List Cond := [Cond.code yX6_putBack cX6_putBack 2 none]
def wsX6_cost : List Cond := .code yX6_cost cX6_cost 8 (some .int) :: ((wsX6_cost_r1 ++ (wsX6_cost_r2 ++ (wsX6_cost_r3 ++ (wsX6_cost_r4 ++ wsX6_cost_r5)))) ++ wsX60)
def wsX6_vain_r1 : List Cond := [Cond.methodLink RX6 103 yX6_isCore, Cond.static yX6_isCore, Cond.initialized RX6, Cond.code yX6_isCore cX6_isCore 1 (some .boolean), Cond.methodLink RX6 29 yX6_in, Cond.static yX6_in, Cond.code yX6_in cX6_in 3 (some .boolean), Cond.methodLink RX6 78 yX6_mayHave, Cond.instanceMethod yX6_mayHave, Cond.selects RX6 yX6_mayHave yX6_mayHave, Cond.code yX6_mayHave cX6_mayHave 5 (some .boolean), Cond.fieldLink RX6 7 "SnoopFilterModel" "s" "[I", Cond.methodLink RX6 44 yX6_isBit, Cond.instanceMethod yX6_isBit, Cond.selects RX6 yX6_isBit yX6_isBit, Cond.code yX6_isBit cX6_isBit 3 (some .boolean), Cond.methodLink RX6 40 yX6_counterAt, Cond.instanceMethod yX6_counterAt, Cond.selects RX6 yX6_counterAt yX6_counterAt, Cond.code yX6_counterAt cX6_counterAt 4 (some .int), Cond.methodLink RX6 36 yX6_counterOf, Cond.static yX6_counterOf, Cond.code yX6_counterOf cX6_counterOf 2 (some .int), Cond.methodLink RX6 81 yX6_holds]
def wsX6_vain_r2 : List Cond := [Cond.instanceMethod yX6_holds, Cond.selects RX6 yX6_holds yX6_holds, Cond.code yX6_holds cX6_holds 3 (some .boolean), Cond.methodLink RX6 48 yX6_placeOf, Cond.static yX6_placeOf, Cond.code yX6_placeOf cX6_placeOf 2 (some .int)]
def wsX6_vain : List Cond := .code yX6_vain cX6_vain 4 (some .int) :: ((wsX6_vain_r1 ++ wsX6_vain_r2) ++ wsX60)
def wsX6_worst : List Cond := .code yX6_worst cX6_worst 5 (some .int) :: ([.fieldLink RX6 7 "SnoopFilterModel" "s" "[I", .methodLink RX6 66 yX6_told, .static yX6_told, .initialized RX6, .code yX6_told cX6_told 2 (some .int)] ++ wsX60)
def wsX6_count : List Cond := .code yX6_count cX6_count 2 (some .int) :: ([.fieldLink RX6 7 "SnoopFilterModel" "s" "[I", .fieldLink RX6 33 "SnoopFilterModel" "known" "I", .fieldLink RX6 125 "SnoopFilterModel" "length" "I", .methodLink RX6 185 yX6_lines, .instanceMethod yX6_lines, .selects RX6 yX6_lines yX6_lines, .initialized RX6, .code yX6_lines cX6_lines 1 (some .int), .methodLink RX6 96 yX6_linesOf, .instanceMethod yX6_linesOf, .selects RX6 yX6_linesOf yX6_linesOf, .code yX6_linesOf cX6_linesOf 4 (some .int), .methodLink RX6 189 yX6_dirtyOf, .instanceMethod yX6_dirtyOf, .selects RX6 yX6_dirtyOf yX6_dirtyOf, .code yX6_dirtyOf cX6_dirtyOf 4 (some .int), .methodLink RX6 202 yX6_sumOf, .instanceMethod yX6_sumOf, .selects RX6 yX6_sumOf yX6_sumOf, .code yX6_sumOf cX6_sumOf 4 (some .int), .methodLink RX6 66 yX6_told, .static yX6_told, .code yX6_told cX6_told 2 (some .int)] ++ wsX60)
def wsL_law_r1 : List Cond := [Cond.classLink RL 7 RX5, Cond.instantiable RX5 9, Cond.initialized RX5, Cond.classLink RL 10 RX6, Cond.instantiable RX6 18, Cond.initialized RX6, Cond.methodLink RL 9 yX5_init, Cond.instanceMethod yX5_init, Cond.code yX5_init cX5_init 1 none, Cond.methodLink RX5 3 objectInit, Cond.instanceMethod objectInit, Cond.code objectInit ⟨#[0xb1]⟩ 1 none, Cond.classLink RX5 9 RX3, Cond.instantiable RX3 6, Cond.initialized RX3, Cond.fieldLink RX5 12 "SnoopFilter" "now" "LSnoopFilter$Machine;", Cond.fieldLink RX5 16 "SnoopFilter" "trial" "LSnoopFilter$Machine;", Cond.fieldLink RX5 19 "SnoopFilter" "snapshot" "LSnoopFilter$Machine;", Cond.classLink RX5 22 RX2, Cond.instantiable RX2 3, Cond.initialized RX2, Cond.fieldLink RX5 25 "SnoopFilter" "history" "LSnoopFilter$History;", Cond.classLink RX5 29 RX4, Cond.instantiable RX4 8]
def wsL_law_r2 : List Cond := [Cond.initialized RX4, Cond.fieldLink RX5 32 "SnoopFilter" "program" "LSnoopFilter$Program;", Cond.methodLink RX5 11 yX3_init, Cond.instanceMethod yX3_init, Cond.code yX3_init cX3_init 2 none, Cond.methodLink RX3 3 objectInit, Cond.arrayClass .int, Cond.fieldLink RX3 9 "SnoopFilter$Machine" "memory" "[I", Cond.classLink RX3 15 RX0, Cond.fieldLink RX3 17 "SnoopFilter$Machine" "cores" "[LSnoopFilter$Core;", Cond.fieldLink RX3 21 "SnoopFilter$Machine" "limit" "I", Cond.fieldLink RX3 25 "SnoopFilter$Machine" "fullFrom" "I", Cond.instantiable RX0 5, Cond.initialized RX0, Cond.methodLink RX3 28 yX0_init, Cond.instanceMethod yX0_init, Cond.code yX0_init cX0_init 2 none, Cond.methodLink RX0 3 objectInit, Cond.fieldLink RX0 9 "SnoopFilter$Core" "lines" "[I", Cond.fieldLink RX0 15 "SnoopFilter$Core" "values" "[I", Cond.arrayClass .boolean, Cond.fieldLink RX0 18 "SnoopFilter$Core" "dirty" "[Z", Cond.fieldLink RX0 22 "SnoopFilter$Core" "tallies" "[I", Cond.classLink RX0 25 RX1]
def wsL_law_r3 : List Cond := [Cond.instantiable RX1 3, Cond.initialized RX1, Cond.fieldLink RX0 28 "SnoopFilter$Core" "filter" "LSnoopFilter$Filter;", Cond.instanceMethod yX1_init, Cond.code yX1_init cX1_init 1 none, Cond.methodLink RX1 3 objectInit, Cond.fieldLink RX1 9 "SnoopFilter$Filter" "counters" "[I", Cond.fieldLink RX1 15 "SnoopFilter$Filter" "stuck" "[Z", Cond.fieldLink RX1 19 "SnoopFilter$Filter" "bits" "[Z", Cond.methodLink RX5 24 yX2_init, Cond.instanceMethod yX2_init, Cond.code yX2_init cX2_init 2 none, Cond.methodLink RX2 3 objectInit, Cond.classLink RX2 9 RX3, Cond.fieldLink RX2 11 "SnoopFilter$History" "states" "[LSnoopFilter$Machine;", Cond.methodLink RX2 17 yX3_init, Cond.instanceMethod yX4_init, Cond.code yX4_init cX4_init 1 none, Cond.methodLink RX4 3 objectInit, Cond.arrayClass .char, Cond.fieldLink RX4 9 "SnoopFilter$Program" "text" "[C", Cond.fieldLink RX4 15 "SnoopFilter$Program" "kinds" "[C", Cond.fieldLink RX4 18 "SnoopFilter$Program" "coresOf" "[I", Cond.fieldLink RX4 22 "SnoopFilter$Program" "linesOf" "[I"]
def wsL_law_r4 : List Cond := [Cond.fieldLink RX4 25 "SnoopFilter$Program" "valuesOf" "[I", Cond.methodLink RL 12 yX6_init, Cond.instanceMethod yX6_init, Cond.code yX6_init cX6_init 2 none, Cond.methodLink RX6 1 objectInit, Cond.fieldLink RX6 7 "SnoopFilterModel" "s" "[I", Cond.fieldLink RX6 13 "SnoopFilterModel" "aside" "[I", Cond.fieldLink RX6 16 "SnoopFilterModel" "history" "[I", Cond.fieldLink RX6 19 "SnoopFilterModel" "snapshot" "[I", Cond.fieldLink RX6 22 "SnoopFilterModel" "text" "[I", Cond.fieldLink RX6 25 "SnoopFilterModel" "stop" "I", Cond.methodLink RL 13 yX5_read, Cond.instanceMethod yX5_read, Cond.selects RX5 yX5_read yX5_read, Cond.code yX5_read cX5_read 3 (some .int), Cond.methodLink RX5 36 yX5_isCore, Cond.static yX5_isCore, Cond.code yX5_isCore cX5_isCore 1 (some .boolean), Cond.methodLink RX5 51 yX5_isWithin, Cond.static yX5_isWithin, Cond.code yX5_isWithin cX5_isWithin 3 (some .boolean), Cond.methodLink RX5 40 yX5_isLine, Cond.static yX5_isLine, Cond.code yX5_isLine cX5_isLine 1 (some .boolean)]
def wsL_law_r5 : List Cond := [Cond.methodLink RX5 43 yX2_record, Cond.instanceMethod yX2_record, Cond.selects RX2 yX2_record yX2_record, Cond.code yX2_record cX2_record 2 none, Cond.fieldLink RX2 18 "SnoopFilter$History" "oldest" "I", Cond.fieldLink RX2 22 "SnoopFilter$History" "size" "I", Cond.methodLink RX2 25 yX3_copyFrom, Cond.instanceMethod yX3_copyFrom, Cond.selects RX3 yX3_copyFrom yX3_copyFrom, Cond.code yX3_copyFrom cX3_copyFrom 3 none, Cond.methodLink RX3 122 arraycopyName, Cond.native arraycopyName, Cond.static arraycopyName, Cond.initialized "java/lang/System", Cond.fieldLink RX3 110 "SnoopFilter$Machine" "writtenBack" "I", Cond.fieldLink RX3 57 "SnoopFilter$Machine" "writings" "I", Cond.methodLink RX3 128 yX0_copyFrom, Cond.instanceMethod yX0_copyFrom, Cond.selects RX0 yX0_copyFrom yX0_copyFrom, Cond.code yX0_copyFrom cX0_copyFrom 2 none, Cond.methodLink RX0 64 arraycopyName, Cond.methodLink RX0 70 yX1_copyFrom, Cond.instanceMethod yX1_copyFrom, Cond.selects RX1 yX1_copyFrom yX1_copyFrom]
def wsL_law_r6 : List Cond := [Cond.code yX1_copyFrom cX1_copyFrom 2 none, Cond.methodLink RX1 45 arraycopyName, Cond.methodLink RX5 47 yX3_readLine, Cond.instanceMethod yX3_readLine, Cond.selects RX3 yX3_readLine yX3_readLine, Cond.code yX3_readLine cX3_readLine 7 (some .int), Cond.fieldLink RX3 37 "SnoopFilter$Core" "tallies" "[I", Cond.fieldLink RX3 40 "SnoopFilter$Core" "values" "[I", Cond.methodLink RX3 29 yX0_placeOf, Cond.static yX0_placeOf, Cond.code yX0_placeOf cX0_placeOf 1 (some .int), Cond.methodLink RX3 33 yX0_holds, Cond.instanceMethod yX0_holds, Cond.selects RX0 yX0_holds yX0_holds, Cond.code yX0_holds cX0_holds 2 (some .boolean), Cond.methodLink RX0 32 yX0_placeOf, Cond.methodLink RX3 43 yX0_isReachedBySnoop, Cond.instanceMethod yX0_isReachedBySnoop, Cond.selects RX0 yX0_isReachedBySnoop yX0_isReachedBySnoop, Cond.code yX0_isReachedBySnoop cX0_isReachedBySnoop 2 (some .boolean), Cond.methodLink RX0 47 yX1_mayHave, Cond.instanceMethod yX1_mayHave, Cond.selects RX1 yX1_mayHave yX1_mayHave, Cond.code yX1_mayHave cX1_mayHave 2 (some .boolean)]
def wsL_law_r7 : List Cond := [Cond.methodLink RX1 37 yX1_hasBitOf, Cond.instanceMethod yX1_hasBitOf, Cond.selects RX1 yX1_hasBitOf yX1_hasBitOf, Cond.code yX1_hasBitOf cX1_hasBitOf 2 (some .boolean), Cond.methodLink RX1 22 yX1_firstCounter, Cond.static yX1_firstCounter, Cond.code yX1_firstCounter cX1_firstCounter 1 (some .int), Cond.methodLink RX1 30 yX1_secondCounter, Cond.static yX1_secondCounter, Cond.code yX1_secondCounter cX1_secondCounter 1 (some .int), Cond.methodLink RX0 36 yX0_holds, Cond.methodLink RX3 46 yX3_writeBack, Cond.instanceMethod yX3_writeBack, Cond.selects RX3 yX3_writeBack yX3_writeBack, Cond.code yX3_writeBack cX3_writeBack 4 none, Cond.fieldLink RX3 97 "SnoopFilter$Core" "lines" "[I", Cond.fieldLink RX3 106 "SnoopFilter$Core" "dirty" "[Z", Cond.methodLink RX3 50 yX3_vacate, Cond.instanceMethod yX3_vacate, Cond.selects RX3 yX3_vacate yX3_vacate, Cond.code yX3_vacate cX3_vacate 4 none, Cond.methodLink RX3 71 yX0_release, Cond.instanceMethod yX0_release, Cond.selects RX0 yX0_release yX0_release]
def wsL_law_r8 : List Cond := [Cond.code yX0_release cX0_release 2 none, Cond.methodLink RX0 40 yX1_remove, Cond.instanceMethod yX1_remove, Cond.selects RX1 yX1_remove yX1_remove, Cond.code yX1_remove cX1_remove 2 none, Cond.methodLink RX1 33 yX1_lower, Cond.instanceMethod yX1_lower, Cond.selects RX1 yX1_lower yX1_lower, Cond.code yX1_lower cX1_lower 2 none, Cond.methodLink RX0 44 yX0_empty, Cond.instanceMethod yX0_empty, Cond.selects RX0 yX0_empty yX0_empty, Cond.code yX0_empty cX0_empty 2 none, Cond.methodLink RX3 53 yX3_beginToHold, Cond.instanceMethod yX3_beginToHold, Cond.selects RX3 yX3_beginToHold yX3_beginToHold, Cond.code yX3_beginToHold cX3_beginToHold 5 none, Cond.fieldLink RX3 83 "SnoopFilter$Core" "filter" "LSnoopFilter$Filter;", Cond.methodLink RX3 67 yX0_fill, Cond.instanceMethod yX0_fill, Cond.selects RX0 yX0_fill yX0_fill, Cond.code yX0_fill cX0_fill 5 none, Cond.methodLink RX3 87 yX1_add, Cond.instanceMethod yX1_add]
def wsL_law_r9 : List Cond := [Cond.selects RX1 yX1_add yX1_add, Cond.code yX1_add cX1_add 3 none, Cond.methodLink RX1 26 yX1_raise, Cond.instanceMethod yX1_raise, Cond.selects RX1 yX1_raise yX1_raise, Cond.code yX1_raise cX1_raise 3 none, Cond.methodLink RX3 93 yX1_countersAboveZero, Cond.instanceMethod yX1_countersAboveZero, Cond.selects RX1 yX1_countersAboveZero yX1_countersAboveZero, Cond.code yX1_countersAboveZero cX1_countersAboveZero 3 (some .int), Cond.methodLink RX3 79 yX3_forgetAllBut, Cond.instanceMethod yX3_forgetAllBut, Cond.selects RX3 yX3_forgetAllBut yX3_forgetAllBut, Cond.code yX3_forgetAllBut cX3_forgetAllBut 6 (some .int), Cond.methodLink RX3 100 yX0_empty, Cond.methodLink RX3 103 yX1_wipe, Cond.instanceMethod yX1_wipe, Cond.selects RX1 yX1_wipe yX1_wipe, Cond.code yX1_wipe cX1_wipe 2 none, Cond.methodLink RL 17 yX6_read, Cond.instanceMethod yX6_read, Cond.selects RX6 yX6_read yX6_read, Cond.code yX6_read cX6_read 3 (some .int), Cond.methodLink RX6 103 yX6_isCore]
def wsL_law_r10 : List Cond := [Cond.static yX6_isCore, Cond.code yX6_isCore cX6_isCore 1 (some .boolean), Cond.methodLink RX6 29 yX6_in, Cond.static yX6_in, Cond.code yX6_in cX6_in 3 (some .boolean), Cond.methodLink RX6 107 yX6_isLine, Cond.static yX6_isLine, Cond.code yX6_isLine cX6_isLine 1 (some .boolean), Cond.methodLink RX6 110 yX6_record, Cond.instanceMethod yX6_record, Cond.selects RX6 yX6_record yX6_record, Cond.code yX6_record cX6_record 2 none, Cond.fieldLink RX6 33 "SnoopFilterModel" "known" "I", Cond.methodLink RX6 113 yX6_reads, Cond.instanceMethod yX6_reads, Cond.selects RX6 yX6_reads yX6_reads, Cond.code yX6_reads cX6_reads 4 (some .int), Cond.methodLink RX6 81 yX6_holds, Cond.instanceMethod yX6_holds, Cond.selects RX6 yX6_holds yX6_holds, Cond.code yX6_holds cX6_holds 3 (some .boolean), Cond.methodLink RX6 48 yX6_placeOf, Cond.static yX6_placeOf, Cond.code yX6_placeOf cX6_placeOf 2 (some .int)]
def wsL_law_r11 : List Cond := [Cond.methodLink RX6 66 yX6_told, Cond.static yX6_told, Cond.code yX6_told cX6_told 2 (some .int), Cond.methodLink RX6 88 yX6_snoops, Cond.instanceMethod yX6_snoops, Cond.selects RX6 yX6_snoops yX6_snoops, Cond.code yX6_snoops cX6_snoops 6 (some .int), Cond.methodLink RX6 84 yX6_isSnooped, Cond.instanceMethod yX6_isSnooped, Cond.selects RX6 yX6_isSnooped yX6_isSnooped, Cond.code yX6_isSnooped cX6_isSnooped 4 (some .boolean), Cond.methodLink RX6 78 yX6_mayHave, Cond.instanceMethod yX6_mayHave, Cond.selects RX6 yX6_mayHave yX6_mayHave, Cond.code yX6_mayHave cX6_mayHave 5 (some .boolean), Cond.methodLink RX6 44 yX6_isBit, Cond.instanceMethod yX6_isBit, Cond.selects RX6 yX6_isBit yX6_isBit, Cond.code yX6_isBit cX6_isBit 3 (some .boolean), Cond.methodLink RX6 40 yX6_counterAt, Cond.instanceMethod yX6_counterAt, Cond.selects RX6 yX6_counterAt yX6_counterAt, Cond.code yX6_counterAt cX6_counterAt 4 (some .int), Cond.methodLink RX6 36 yX6_counterOf]
def wsL_law_r12 : List Cond := [Cond.static yX6_counterOf, Cond.code yX6_counterOf cX6_counterOf 2 (some .int), Cond.methodLink RX6 59 yX6_leaves, Cond.instanceMethod yX6_leaves, Cond.selects RX6 yX6_leaves yX6_leaves, Cond.code yX6_leaves cX6_leaves 4 none, Cond.methodLink RX6 51 yX6_counts, Cond.instanceMethod yX6_counts, Cond.selects RX6 yX6_counts yX6_counts, Cond.code yX6_counts cX6_counts 7 none, Cond.methodLink RX6 55 yX6_writesBack, Cond.instanceMethod yX6_writesBack, Cond.selects RX6 yX6_writesBack yX6_writesBack, Cond.code yX6_writesBack cX6_writesBack 2 none, Cond.methodLink RX6 92 yX6_begins, Cond.instanceMethod yX6_begins, Cond.selects RX6 yX6_begins yX6_begins, Cond.code yX6_begins cX6_begins 7 none, Cond.methodLink RX6 69 yX6_notes, Cond.instanceMethod yX6_notes, Cond.selects RX6 yX6_notes yX6_notes, Cond.code yX6_notes cX6_notes 3 none, Cond.methodLink RX6 72 yX6_countersFrom, Cond.instanceMethod yX6_countersFrom]
def wsL_law_r13 : List Cond := [Cond.selects RX6 yX6_countersFrom yX6_countersFrom, Cond.code yX6_countersFrom cX6_countersFrom 5 (some .int), Cond.methodLink RX6 75 yX6_forgets, Cond.instanceMethod yX6_forgets, Cond.selects RX6 yX6_forgets yX6_forgets, Cond.code yX6_forgets cX6_forgets 6 (some .int), Cond.methodLink RX6 63 yX6_clears, Cond.instanceMethod yX6_clears, Cond.selects RX6 yX6_clears yX6_clears, Cond.code yX6_clears cX6_clears 3 none, Cond.methodLink RL 18 yX5_write, Cond.instanceMethod yX5_write, Cond.selects RX5 yX5_write yX5_write, Cond.code yX5_write cX5_write 4 (some .int), Cond.methodLink RX5 55 yX3_writeLine, Cond.instanceMethod yX3_writeLine, Cond.selects RX3 yX3_writeLine yX3_writeLine, Cond.code yX3_writeLine cX3_writeLine 6 (some .int), Cond.methodLink RX3 60 yX0_holdsDirty, Cond.instanceMethod yX0_holdsDirty, Cond.selects RX0 yX0_holdsDirty yX0_holdsDirty, Cond.code yX0_holdsDirty cX0_holdsDirty 2 (some .boolean), Cond.methodLink RX3 63 yX3_takeFromOthers, Cond.instanceMethod yX3_takeFromOthers]
def wsL_law_r14 : List Cond := [Cond.selects RX3 yX3_takeFromOthers yX3_takeFromOthers, Cond.code yX3_takeFromOthers cX3_takeFromOthers 6 (some .int), Cond.methodLink RL 22 yX6_write, Cond.instanceMethod yX6_write, Cond.selects RX6 yX6_write yX6_write, Cond.code yX6_write cX6_write 4 (some .int), Cond.methodLink RX6 116 yX6_writes, Cond.instanceMethod yX6_writes, Cond.selects RX6 yX6_writes yX6_writes, Cond.code yX6_writes cX6_writes 6 (some .int), Cond.methodLink RL 23 yX5_drop, Cond.instanceMethod yX5_drop, Cond.selects RX5 yX5_drop yX5_drop, Cond.code yX5_drop cX5_drop 3 (some .int), Cond.fieldLink RX5 59 "SnoopFilter$Machine" "cores" "[LSnoopFilter$Core;", Cond.methodLink RX5 63 yX0_holds, Cond.methodLink RX5 68 yX3_dropLine, Cond.instanceMethod yX3_dropLine, Cond.selects RX3 yX3_dropLine yX3_dropLine, Cond.code yX3_dropLine cX3_dropLine 5 (some .int), Cond.methodLink RL 26 yX6_drop, Cond.instanceMethod yX6_drop, Cond.selects RX6 yX6_drop yX6_drop, Cond.code yX6_drop cX6_drop 3 (some .int)]
def wsL_law_r15 : List Cond := [Cond.methodLink RX6 119 yX6_drops, Cond.instanceMethod yX6_drops, Cond.selects RX6 yX6_drops yX6_drops, Cond.code yX6_drops cX6_drops 5 (some .int), Cond.methodLink RL 27 yX5_forget, Cond.instanceMethod yX5_forget, Cond.selects RX5 yX5_forget yX5_forget, Cond.code yX5_forget cX5_forget 2 (some .int), Cond.methodLink RX5 71 yX0_hasNothingToForget, Cond.instanceMethod yX0_hasNothingToForget, Cond.selects RX0 yX0_hasNothingToForget yX0_hasNothingToForget, Cond.code yX0_hasNothingToForget cX0_hasNothingToForget 1 (some .boolean), Cond.methodLink RX0 54 yX0_heldLines, Cond.instanceMethod yX0_heldLines, Cond.selects RX0 yX0_heldLines yX0_heldLines, Cond.code yX0_heldLines cX0_heldLines 3 (some .int), Cond.methodLink RX0 58 yX1_countersAboveZero, Cond.methodLink RX0 61 yX1_bitsThatAreOne, Cond.instanceMethod yX1_bitsThatAreOne, Cond.selects RX1 yX1_bitsThatAreOne yX1_bitsThatAreOne, Cond.code yX1_bitsThatAreOne cX1_bitsThatAreOne 1 (some .int), Cond.static yX5_howManyAreTrue, Cond.code yX5_howManyAreTrue cX5_howManyAreTrue 6 (some .int), Cond.methodLink RX5 75 yX3_forgetOnPurpose]
def wsL_law_r16 : List Cond := [Cond.instanceMethod yX3_forgetOnPurpose, Cond.selects RX3 yX3_forgetOnPurpose yX3_forgetOnPurpose, Cond.code yX3_forgetOnPurpose cX3_forgetOnPurpose 3 (some .int), Cond.methodLink RX3 75 yX0_hasNothingToForget, Cond.methodLink RL 31 yX6_forget, Cond.instanceMethod yX6_forget, Cond.selects RX6 yX6_forget yX6_forget, Cond.code yX6_forget cX6_forget 2 (some .int), Cond.methodLink RX6 122 yX6_isEmpty, Cond.instanceMethod yX6_isEmpty, Cond.selects RX6 yX6_isEmpty yX6_isEmpty, Cond.code yX6_isEmpty cX6_isEmpty 2 (some .boolean), Cond.methodLink RX6 96 yX6_linesOf, Cond.instanceMethod yX6_linesOf, Cond.selects RX6 yX6_linesOf yX6_linesOf, Cond.code yX6_linesOf cX6_linesOf 4 (some .int), Cond.methodLink RX6 100 yX6_bits, Cond.instanceMethod yX6_bits, Cond.selects RX6 yX6_bits yX6_bits, Cond.code yX6_bits cX6_bits 4 (some .int), Cond.methodLink RL 32 yX5_set, Cond.instanceMethod yX5_set, Cond.selects RX5 yX5_set yX5_set, Cond.code yX5_set cX5_set 4 (some .int)]
def wsL_law_r17 : List Cond := [Cond.fieldLink RX5 79 "SnoopFilter$Machine" "limit" "I", Cond.fieldLink RX5 83 "SnoopFilter$Machine" "fullFrom" "I", Cond.methodLink RL 35 yX6_set, Cond.instanceMethod yX6_set, Cond.selects RX6 yX6_set yX6_set, Cond.code yX6_set cX6_set 4 (some .int), Cond.methodLink RL 36 yX5_type, Cond.instanceMethod yX5_type, Cond.selects RX5 yX5_type yX5_type, Cond.code yX5_type cX5_type 2 (some .int), Cond.fieldLink RX5 90 "SnoopFilter$Program" "length" "I", Cond.methodLink RX5 86 yX4_append, Cond.instanceMethod yX4_append, Cond.selects RX4 yX4_append yX4_append, Cond.code yX4_append cX4_append 2 (some .boolean), Cond.fieldLink RX4 28 "SnoopFilter$Program" "length" "I", Cond.methodLink RL 40 yX6_type, Cond.instanceMethod yX6_type, Cond.selects RX6 yX6_type yX6_type, Cond.code yX6_type cX6_type 2 (some .int), Cond.fieldLink RX6 125 "SnoopFilterModel" "length" "I", Cond.methodLink RL 41 yX5_clearText, Cond.instanceMethod yX5_clearText, Cond.selects RX5 yX5_clearText yX5_clearText]
def wsL_law_r18 : List Cond := [Cond.code yX5_clearText cX5_clearText 2 (some .int), Cond.methodLink RL 45 yX6_clearText, Cond.instanceMethod yX6_clearText, Cond.selects RX6 yX6_clearText yX6_clearText, Cond.code yX6_clearText cX6_clearText 2 (some .int), Cond.methodLink RL 46 yX5_perform, Cond.instanceMethod yX5_perform, Cond.selects RX5 yX5_perform yX5_perform, Cond.code yX5_perform cX5_perform 5 (some .int), Cond.fieldLink RX5 100 "SnoopFilter$Program" "commands" "I", Cond.methodLink RX5 93 yX4_findFault, Cond.instanceMethod yX4_findFault, Cond.selects RX4 yX4_findFault yX4_findFault, Cond.code yX4_findFault cX4_findFault 1 (some .int), Cond.fieldLink RX4 32 "SnoopFilter$Program" "at" "I", Cond.fieldLink RX4 35 "SnoopFilter$Program" "commands" "I", Cond.methodLink RX4 38 yX4_takesCommand, Cond.instanceMethod yX4_takesCommand, Cond.selects RX4 yX4_takesCommand yX4_takesCommand, Cond.code yX4_takesCommand cX4_takesCommand 3 (some .boolean), Cond.methodLink RX4 46 yX4_isDigitUpTo, Cond.instanceMethod yX4_isDigitUpTo, Cond.selects RX4 yX4_isDigitUpTo yX4_isDigitUpTo, Cond.code yX4_isDigitUpTo cX4_isDigitUpTo 2 (some .boolean)]
def wsL_law_r19 : List Cond := [Cond.methodLink RX4 49 yX4_takeNumber, Cond.instanceMethod yX4_takeNumber, Cond.selects RX4 yX4_takeNumber yX4_takeNumber, Cond.code yX4_takeNumber cX4_takeNumber 4 (some .int), Cond.methodLink RX4 53 yX4_takesLineAndValue, Cond.instanceMethod yX4_takesLineAndValue, Cond.selects RX4 yX4_takesLineAndValue yX4_takesLineAndValue, Cond.code yX4_takesLineAndValue cX4_takesLineAndValue 2 (some .boolean), Cond.methodLink RX4 42 yX4_takes, Cond.instanceMethod yX4_takes, Cond.selects RX4 yX4_takes yX4_takes, Cond.code yX4_takes cX4_takes 2 (some .boolean), Cond.methodLink RX5 97 yX3_copyFrom, Cond.methodLink RX5 103 yX4_runCommand, Cond.instanceMethod yX4_runCommand, Cond.selects RX4 yX4_runCommand yX4_runCommand, Cond.code yX4_runCommand cX4_runCommand 6 (some .int), Cond.methodLink RX4 56 yX3_readLine, Cond.methodLink RX4 62 yX3_writeLine, Cond.methodLink RX4 66 yX3_dropLine, Cond.methodLink RX4 69 yX3_forgetOnPurpose, Cond.methodLink RX5 107 yX5_noteStop, Cond.instanceMethod yX5_noteStop, Cond.selects RX5 yX5_noteStop yX5_noteStop]
def wsL_law_r20 : List Cond := [Cond.code yX5_noteStop cX5_noteStop 3 none, Cond.fieldLink RX5 114 "SnoopFilter" "hasStop" "Z", Cond.fieldLink RX5 118 "SnoopFilter" "stopNumber" "I", Cond.fieldLink RX5 121 "SnoopFilter" "stopError" "I", Cond.methodLink RX5 111 yX4_isReading, Cond.instanceMethod yX4_isReading, Cond.selects RX4 yX4_isReading yX4_isReading, Cond.code yX4_isReading cX4_isReading 2 (some .boolean), Cond.methodLink RL 49 yX6_perform, Cond.instanceMethod yX6_perform, Cond.selects RX6 yX6_perform yX6_perform, Cond.code yX6_perform cX6_perform 6 (some .int), Cond.fieldLink RX6 156 "SnoopFilterModel" "sum" "I", Cond.fieldLink RX6 159 "SnoopFilterModel" "stopNow" "I", Cond.fieldLink RX6 176 "SnoopFilterModel" "stopError" "I", Cond.methodLink RX6 169 yX6_readsProgram, Cond.instanceMethod yX6_readsProgram, Cond.selects RX6 yX6_readsProgram yX6_readsProgram, Cond.code yX6_readsProgram cX6_readsProgram 4 (some .int), Cond.fieldLink RX6 132 "SnoopFilterModel" "spot" "I", Cond.fieldLink RX6 128 "SnoopFilterModel" "isWrong" "Z", Cond.methodLink RX6 162 yX6_readsDeed, Cond.instanceMethod yX6_readsDeed, Cond.selects RX6 yX6_readsDeed yX6_readsDeed]
def wsL_law_r21 : List Cond := [Cond.code yX6_readsDeed cX6_readsDeed 1 none, Cond.fieldLink RX6 138 "SnoopFilterModel" "letter" "I", Cond.fieldLink RX6 144 "SnoopFilterModel" "deedCore" "I", Cond.fieldLink RX6 150 "SnoopFilterModel" "deedLine" "I", Cond.fieldLink RX6 153 "SnoopFilterModel" "deedValue" "I", Cond.methodLink RX6 135 yX6_isNext, Cond.instanceMethod yX6_isNext, Cond.selects RX6 yX6_isNext yX6_isNext, Cond.code yX6_isNext cX6_isNext 3 (some .boolean), Cond.methodLink RX6 141 yX6_number, Cond.instanceMethod yX6_number, Cond.selects RX6 yX6_number yX6_number, Cond.code yX6_number cX6_number 3 (some .int), Cond.methodLink RX6 147 yX6_needs, Cond.instanceMethod yX6_needs, Cond.selects RX6 yX6_needs yX6_needs, Cond.code yX6_needs cX6_needs 3 none, Cond.methodLink RX6 165 yX6_isDone, Cond.instanceMethod yX6_isDone, Cond.selects RX6 yX6_isDone yX6_isDone, Cond.code yX6_isDone cX6_isDone 2 (some .boolean), Cond.methodLink RX6 173 yX6_putAside, Cond.instanceMethod yX6_putAside, Cond.selects RX6 yX6_putAside yX6_putAside]
def wsL_law_r22 : List Cond := [Cond.code yX6_putAside cX6_putAside 2 none, Cond.methodLink RX6 179 yX6_putBack, Cond.instanceMethod yX6_putBack, Cond.selects RX6 yX6_putBack yX6_putBack, Cond.code yX6_putBack cX6_putBack 2 none, Cond.methodLink RL 50 yX5_stopped, Cond.instanceMethod yX5_stopped, Cond.selects RX5 yX5_stopped yX5_stopped, Cond.code yX5_stopped cX5_stopped 2 (some .int), Cond.methodLink RL 53 yX6_stopped, Cond.instanceMethod yX6_stopped, Cond.selects RX6 yX6_stopped yX6_stopped, Cond.code yX6_stopped cX6_stopped 2 (some .int), Cond.methodLink RL 54 yX5_undo, Cond.instanceMethod yX5_undo, Cond.selects RX5 yX5_undo yX5_undo, Cond.code yX5_undo cX5_undo 1 (some .int), Cond.fieldLink RX5 124 "SnoopFilter$History" "size" "I", Cond.methodLink RX5 127 yX2_takeLatest, Cond.instanceMethod yX2_takeLatest, Cond.selects RX2 yX2_takeLatest yX2_takeLatest, Cond.code yX2_takeLatest cX2_takeLatest 2 none, Cond.methodLink RL 57 yX6_undo, Cond.instanceMethod yX6_undo]
def wsL_law_r23 : List Cond := [Cond.selects RX6 yX6_undo yX6_undo, Cond.code yX6_undo cX6_undo 2 (some .int), Cond.methodLink RL 58 yX5_keep, Cond.instanceMethod yX5_keep, Cond.selects RX5 yX5_keep yX5_keep, Cond.code yX5_keep cX5_keep 1 (some .int), Cond.fieldLink RX5 130 "SnoopFilter" "hasSnapshot" "Z", Cond.methodLink RX5 133 yX3_heldByAll, Cond.instanceMethod yX3_heldByAll, Cond.selects RX3 yX3_heldByAll yX3_heldByAll, Cond.code yX3_heldByAll cX3_heldByAll 3 (some .int), Cond.methodLink RX3 116 yX0_heldLines, Cond.methodLink RL 61 yX6_keep, Cond.instanceMethod yX6_keep, Cond.selects RX6 yX6_keep yX6_keep, Cond.code yX6_keep cX6_keep 2 (some .int), Cond.fieldLink RX6 182 "SnoopFilterModel" "isKept" "Z", Cond.methodLink RX6 185 yX6_lines, Cond.instanceMethod yX6_lines, Cond.selects RX6 yX6_lines yX6_lines, Cond.code yX6_lines cX6_lines 1 (some .int), Cond.methodLink RL 62 yX5_restore, Cond.instanceMethod yX5_restore, Cond.selects RX5 yX5_restore yX5_restore]
def wsL_law_r24 : List Cond := [Cond.code yX5_restore cX5_restore 1 (some .int), Cond.methodLink RL 65 yX6_restore, Cond.instanceMethod yX6_restore, Cond.selects RX6 yX6_restore yX6_restore, Cond.code yX6_restore cX6_restore 2 (some .int), Cond.methodLink RL 66 yX5_core, Cond.instanceMethod yX5_core, Cond.selects RX5 yX5_core yX5_core, Cond.code yX5_core cX5_core 4 (some .int), Cond.fieldLink RX5 142 "SnoopFilter$Core" "filter" "LSnoopFilter$Filter;", Cond.fieldLink RX5 157 "SnoopFilter$Core" "tallies" "[I", Cond.methodLink RX5 136 yX0_heldLines, Cond.methodLink RX5 139 yX0_dirtyLines, Cond.instanceMethod yX0_dirtyLines, Cond.selects RX0 yX0_dirtyLines yX0_dirtyLines, Cond.code yX0_dirtyLines cX0_dirtyLines 1 (some .int), Cond.methodLink RX5 146 yX1_countersAboveZero, Cond.methodLink RX5 151 yX1_stuckCounters, Cond.instanceMethod yX1_stuckCounters, Cond.selects RX1 yX1_stuckCounters yX1_stuckCounters, Cond.code yX1_stuckCounters cX1_stuckCounters 1 (some .int), Cond.methodLink RX5 154 yX1_bitsThatAreOne, Cond.methodLink RL 69 yX6_core, Cond.instanceMethod yX6_core]
def wsL_law_r25 : List Cond := [Cond.selects RX6 yX6_core yX6_core, Cond.code yX6_core cX6_core 3 (some .int), Cond.methodLink RX6 189 yX6_dirtyOf, Cond.instanceMethod yX6_dirtyOf, Cond.selects RX6 yX6_dirtyOf yX6_dirtyOf, Cond.code yX6_dirtyOf cX6_dirtyOf 4 (some .int), Cond.methodLink RX6 192 yX6_stuckOf, Cond.instanceMethod yX6_stuckOf, Cond.selects RX6 yX6_stuckOf yX6_stuckOf, Cond.code yX6_stuckOf cX6_stuckOf 4 (some .int), Cond.methodLink RL 70 yX5_held, Cond.instanceMethod yX5_held, Cond.selects RX5 yX5_held yX5_held, Cond.code yX5_held cX5_held 5 (some .int), Cond.fieldLink RX5 161 "SnoopFilter$Core" "lines" "[I", Cond.fieldLink RX5 164 "SnoopFilter$Core" "values" "[I", Cond.fieldLink RX5 167 "SnoopFilter$Core" "dirty" "[Z", Cond.methodLink RL 73 yX6_held, Cond.instanceMethod yX6_held, Cond.selects RX6 yX6_held yX6_held, Cond.code yX6_held cX6_held 5 (some .int), Cond.methodLink RL 74 yX5_counter, Cond.instanceMethod yX5_counter, Cond.selects RX5 yX5_counter yX5_counter]
def wsL_law_r26 : List Cond := [Cond.code yX5_counter cX5_counter 3 (some .int), Cond.fieldLink RX5 171 "SnoopFilter$Filter" "counters" "[I", Cond.methodLink RL 77 yX6_counter, Cond.instanceMethod yX6_counter, Cond.selects RX6 yX6_counter yX6_counter, Cond.code yX6_counter cX6_counter 3 (some .int), Cond.methodLink RL 78 yX5_bit, Cond.instanceMethod yX5_bit, Cond.selects RX5 yX5_bit yX5_bit, Cond.code yX5_bit cX5_bit 3 (some .int), Cond.fieldLink RX5 174 "SnoopFilter$Filter" "bits" "[Z", Cond.methodLink RL 81 yX6_bit, Cond.instanceMethod yX6_bit, Cond.selects RX6 yX6_bit yX6_bit, Cond.code yX6_bit cX6_bit 3 (some .int), Cond.methodLink RL 82 yX5_line, Cond.instanceMethod yX5_line, Cond.selects RX5 yX5_line yX5_line, Cond.code yX5_line cX5_line 3 (some .int), Cond.fieldLink RX5 177 "SnoopFilter$Machine" "memory" "[I", Cond.methodLink RX5 180 yX3_valueForReader, Cond.instanceMethod yX3_valueForReader, Cond.selects RX3 yX3_valueForReader yX3_valueForReader, Cond.code yX3_valueForReader cX3_valueForReader 3 (some .int)]
def wsL_law_r27 : List Cond := [Cond.methodLink RX5 183 yX3_holdersOf, Cond.instanceMethod yX3_holdersOf, Cond.selects RX3 yX3_holdersOf yX3_holdersOf, Cond.code yX3_holdersOf cX3_holdersOf 4 (some .int), Cond.methodLink RX5 186 yX3_coresThatMayHave, Cond.instanceMethod yX3_coresThatMayHave, Cond.selects RX3 yX3_coresThatMayHave yX3_coresThatMayHave, Cond.code yX3_coresThatMayHave cX3_coresThatMayHave 4 (some .int), Cond.methodLink RX3 113 yX1_mayHave, Cond.methodLink RX5 189 yX1_firstCounter, Cond.methodLink RX5 192 yX1_secondCounter, Cond.methodLink RL 85 yX6_line, Cond.instanceMethod yX6_line, Cond.selects RX6 yX6_line yX6_line, Cond.code yX6_line cX6_line 3 (some .int), Cond.methodLink RX6 195 yX6_wouldRead, Cond.instanceMethod yX6_wouldRead, Cond.selects RX6 yX6_wouldRead yX6_wouldRead, Cond.code yX6_wouldRead cX6_wouldRead 5 (some .int), Cond.methodLink RX6 198 yX6_coresWith, Cond.instanceMethod yX6_coresWith, Cond.selects RX6 yX6_coresWith yX6_coresWith, Cond.code yX6_coresWith cX6_coresWith 5 (some .int), Cond.methodLink RL 86 yX5_reason]
def wsL_law_r28 : List Cond := [Cond.instanceMethod yX5_reason, Cond.selects RX5 yX5_reason yX5_reason, Cond.code yX5_reason cX5_reason 4 (some .int), Cond.methodLink RX5 195 yX1_mayHave, Cond.methodLink RX5 198 yX1_hasBitOf, Cond.methodLink RL 89 yX6_reason, Cond.instanceMethod yX6_reason, Cond.selects RX6 yX6_reason yX6_reason, Cond.code yX6_reason cX6_reason 3 (some .int), Cond.methodLink RL 90 yX5_cost, Cond.instanceMethod yX5_cost, Cond.selects RX5 yX5_cost yX5_cost, Cond.code yX5_cost cX5_cost 5 (some .int), Cond.fieldLink RX5 204 "SnoopFilter$Machine" "writtenBack" "I", Cond.methodLink RX5 201 yX3_sumOf, Cond.instanceMethod yX3_sumOf, Cond.selects RX3 yX3_sumOf yX3_sumOf, Cond.code yX3_sumOf cX3_sumOf 4 (some .int), Cond.methodLink RL 94 yX6_cost, Cond.instanceMethod yX6_cost, Cond.selects RX6 yX6_cost yX6_cost, Cond.code yX6_cost cX6_cost 8 (some .int), Cond.methodLink RX6 202 yX6_sumOf, Cond.instanceMethod yX6_sumOf]
def wsL_law_r29 : List Cond := [Cond.selects RX6 yX6_sumOf yX6_sumOf, Cond.code yX6_sumOf cX6_sumOf 4 (some .int), Cond.methodLink RL 95 yX5_vain, Cond.instanceMethod yX5_vain, Cond.selects RX5 yX5_vain yX5_vain, Cond.code yX5_vain cX5_vain 5 (some .int), Cond.methodLink RL 98 yX6_vain, Cond.instanceMethod yX6_vain, Cond.selects RX6 yX6_vain yX6_vain, Cond.code yX6_vain cX6_vain 4 (some .int), Cond.methodLink RL 99 yX5_worst, Cond.instanceMethod yX5_worst, Cond.selects RX5 yX5_worst yX5_worst, Cond.code yX5_worst cX5_worst 5 (some .int), Cond.methodLink RL 102 yX6_worst, Cond.instanceMethod yX6_worst, Cond.selects RX6 yX6_worst yX6_worst, Cond.code yX6_worst cX6_worst 5 (some .int), Cond.methodLink RL 103 yX5_count, Cond.instanceMethod yX5_count, Cond.selects RX5 yX5_count yX5_count, Cond.code yX5_count cX5_count 2 (some .int), Cond.fieldLink RX5 210 "SnoopFilter$Machine" "writings" "I", Cond.methodLink RX5 207 yX3_dirtyOfAll]
def wsL_law_r30 : List Cond := [Cond.instanceMethod yX3_dirtyOfAll, Cond.selects RX3 yX3_dirtyOfAll yX3_dirtyOfAll, Cond.code yX3_dirtyOfAll cX3_dirtyOfAll 3 (some .int), Cond.methodLink RX3 119 yX0_dirtyLines, Cond.methodLink RL 106 yX6_count, Cond.instanceMethod yX6_count, Cond.selects RX6 yX6_count yX6_count, Cond.code yX6_count cX6_count 2 (some .int)]
def wsL_law : List Cond := (wsL_law_r1 ++ (wsL_law_r2 ++ (wsL_law_r3 ++ (wsL_law_r4 ++ (wsL_law_r5 ++ (wsL_law_r6 ++ (wsL_law_r7 ++ (wsL_law_r8 ++ (wsL_law_r9 ++ (wsL_law_r10 ++ (wsL_law_r11 ++ (wsL_law_r12 ++ (wsL_law_r13 ++ (wsL_law_r14 ++ (wsL_law_r15 ++ (wsL_law_r16 ++ (wsL_law_r17 ++ (wsL_law_r18 ++ (wsL_law_r19 ++ (wsL_law_r20 ++ (wsL_law_r21 ++ (wsL_law_r22 ++ (wsL_law_r23 ++ (wsL_law_r24 ++ (wsL_law_r25 ++ (wsL_law_r26 ++ (wsL_law_r27 ++ (wsL_law_r28 ++ (wsL_law_r29 ++ wsL_law_r30))))))))))))))))))))))))))))) ++ wsX50 ++ wsX60 ++ wsX30 ++ wsX20 ++ wsX40 ++ wsX00 ++ wsX10 ++ ([] : List Cond)
abbrev vwCl : List vw_C := [(RX0, TX0, 5), (RX1, TX1, 3), (RX2, TX2, 3), (RX3, TX3, 6), (RX4, TX4, 8), (RX5, TX5, 9), (RX6, TX6, 18)]
end
section
/-! ===== BASE: worlds of fixed cells, a judgement over (world, locals, pc, stack), and its rows ===== -/
abbrev ET : Type := va_G × (Nat → ClassId)
abbrev tysE (E : ET) : List (ClassId × FieldType) := [(E.2 0, .int), (E.2 1, .boolean), (E.2 2, .char), (E.2 3, .object RX0), (E.2 4, .object RX3)]
def nsts : List Cond := [.methodLinkNest RX0 27 yX1_init "SnoopFilter", .methodLinkNest RX5 31 yX4_init "SnoopFilter", .methodLinkNest RX1 41 yX5_howManyAreTrue "SnoopFilter", .methodLinkNest RX0 50 yX5_howManyAreTrue "SnoopFilter"]
def Nst (U : State) : Prop := ∀ w ∈ nsts, va_Nw w U
theorem Nst.warm {s U : State} (hW : s.WarmedH U.vm) (h : Nst s) : Nst U := by
  intro w hw
  have hh := h w hw
  simp only [nsts, List.mem_cons, List.not_mem_nil, or_false] at hw
  rcases hw with rfl | rfl | rfl | rfl <;> exact va_Nw.warmM hW hh
theorem Nst.same {u U : State} (hv : u.vm = U.vm) (h : Nst u) : Nst U := by
  intro w hw
  have hh := h w hw
  simp only [nsts, List.mem_cons, List.not_mem_nil, or_false] at hw
  rcases hw with rfl | rfl | rfl | rfl <;> exact va_Nw.same rfl hv hh
abbrev mPc (E : ET) (av : List Value) (sz : Nat) (ws : va_W) : Array Value → State → Prop := va_Pc av (fun U => U.heap.size = sz ∧ va_P E.1 vwCl ws U.heap ∧ va_K E.1 vwCl (tysE E) U ∧ va_D (fun _ => True) ws ∧ Nst U)
abbrev mQi (E : ET) (r : Int32) (ws ws' : va_W) (sz : Nat) : Array Value → State → Outcome → State → Prop := va_Qi (fun (r' : Int32) (_ : Unit) => r' = r) (fun _ t => va_P E.1 vwCl ws' t.heap) (va_A ws sz)
abbrev mQv (E : ET) (ws ws' : va_W) (sz : Nat) : Array Value → State → Outcome → State → Prop := va_Qv (fun (_ : Unit) => True) (fun _ t => va_P E.1 vwCl ws' t.heap) (va_A ws sz)
def li : Nat → List Value → List (Nat × Value)
  | _, [] => []
  | k, v :: t => (k, v) :: li (k + 1) t
def lset : List Value → Nat → Value → List Value
  | [], _, v => [v]
  | _ :: t, 0, v => v :: t
  | a :: t, i + 1, v => a :: lset t i v
theorem li_get : ∀ (lv : List Value) (b k : Nat), (li b lv)[k]? = (lv[k]?).map (fun v => (b + k, v))
  | [], b, k => by simp [li]
  | v :: t, b, 0 => by simp [li]
  | v :: t, b, k + 1 => by
    simp only [li, List.getElem?_cons_succ]
    rw [li_get t (b + 1) k]
    cases t[k]? with
    | none => rfl
    | some w => simp only [Option.map]; rw [show b + 1 + k = b + (k + 1) from by omega]
theorem li_mem {lv : List Value} {q : Nat × Value} (h : q ∈ li 0 lv) : lv[q.1]? = some q.2 := by
  obtain ⟨k, hk⟩ := List.getElem?_of_mem h
  rw [li_get] at hk
  cases hv : lv[k]? with
  | none => rw [hv] at hk; cases hk
  | some w =>
    rw [hv] at hk
    simp only [Option.map] at hk
    cases hk
    simp only [Nat.zero_add]
    exact hv
theorem lset_get : ∀ (lv : List Value) (i j : Nat) (v w : Value), i ≤ lv.length → (lset lv i v)[j]? = some w → (j = i ∧ w = v) ∨ (j ≠ i ∧ lv[j]? = some w)
  | [], i, j, v, w, h, hw => by
    have hi : i = 0 := by simpa using h
    subst hi
    cases j with
    | zero => simp [lset] at hw; exact Or.inl ⟨rfl, hw.symm⟩
    | succ j => simp [lset] at hw
  | a :: t, 0, 0, v, w, _, hw => by simp [lset] at hw; exact Or.inl ⟨rfl, hw.symm⟩
  | a :: t, 0, j + 1, v, w, _, hw => by simp [lset] at hw; exact Or.inr ⟨by omega, by simpa using hw⟩
  | a :: t, i + 1, 0, v, w, _, hw => by simp [lset] at hw; exact Or.inr ⟨by omega, by simpa using hw⟩
  | a :: t, i + 1, j + 1, v, w, h, hw => by
    simp only [lset, List.getElem?_cons_succ] at hw
    rcases lset_get t i j v w (by simpa using h) hw with ⟨h1, h2⟩ | ⟨h1, h2⟩
    · exact Or.inl ⟨by omega, h2⟩
    · exact Or.inr ⟨by omega, by simpa using h2⟩
theorem li_has {ls : Array Slot} {n : Nat} {lv : List Value} (h : lv_has ls n (li 0 lv)) {i : Nat} {v : Value} (hi : lv[i]? = some v) : ls[i]? = some (.val v) := by
  refine h.2.2 (i, v) (List.mem_of_getElem? (i := i) ?_)
  rw [li_get, hi]
  simp
theorem li_store {ls : Array Slot} {n : Nat} {lv : List Value} {i : Nat} {v : Value} (hi : i ≤ lv.length) (hc : (lv.all fun w => w.category == 1) = true) {l' : List (Nat × Value)}
    (hl' : (i, v) :: (li 0 lv).filter (fun q => !(q.1 == i) && !(q.1 + 1 == i && q.2.category == 2)) = l') (h : lv_has ls n l') : lv_has ls n (li 0 (lset lv i v)) := by
  refine ⟨h.1, h.2.1, fun q hq => h.2.2 q ?_⟩
  have hg := li_mem hq
  rw [← hl']
  rcases lset_get lv i q.1 v q.2 hi hg with ⟨h1, h2⟩ | ⟨h1, h2⟩
  · obtain ⟨a, b⟩ := q
    simp only at h1 h2
    subst h1; subst h2
    exact List.mem_cons_self
  · refine List.mem_cons_of_mem _ (List.mem_filter.mpr ⟨?_, ?_⟩)
    · refine List.mem_of_getElem? (i := q.1) ?_
      rw [li_get, h2]
      simp
    · have hcat : q.2.category = 1 := by
        have := List.all_eq_true.mp hc q.2 (List.mem_of_getElem? h2)
        simpa using this
      simp [h1, hcat]
def V (p : Program) (l : Launch) (e : Env) (R : Room) (s : State) (m : MethodId) (args : Array Value) (below : List Frame) (meth : Method) (c : Code) (E : ET) (nL : Nat) (A : Nat → Prop) (Q : State → Prop) (ws : va_W) (lv : List Value) (pc : Nat) (st : List Value) : Prop :=
  ∀ (H : Heap) (locs : List Loc) (ls : Array Slot), va_P E.1 vwCl ws H → va_D A ws → va_S A s.heap H locs → lv_has ls nL (li 0 lv) → W p l e R s m args below meth c H locs 0 0 Q (F0 m pc ls st)
def Xc (p : Program) (s : State) (m : MethodId) (args : Array Value) (meth : Method) (c : Code) (E : ET) (nL : Nat) (A : Nat → Prop) (cc : ByteArray) (own : String) (Ts : List Cond) : Prop :=
  p.tables.exec = Jvm.exec ∧ c.code = cc ∧ c.maxLocals = nL ∧ s.vm.findClass own = some m.cls ∧ (∀ w ∈ Ts, w.before args s = true) ∧ va_K E.1 vwCl (tysE E) s ∧ (∀ q, s.heap.size ≤ q → A q) ∧ meth.locks = false ∧ Nst s
section VB
variable {p : Program} {l : Launch} {e : Env} {R : Room} {s : State} {m : MethodId} {args : Array Value} {below : List Frame} {meth : Method} {c : Code} {E : ET} {nL : Nat} {A : Nat → Prop} {Q : State → Prop} {cc : ByteArray} {own : String} {Ts : List Cond} {ws ws' : va_W} {lv : List Value} {pc : Nat} {st : List Value}
theorem v_start {y : MethodName} {wsy wsy' : List Cond} {rm : Room} {maxL : Nat} {ret : Option FieldType} {av : List Value} {sz : Nat} {Qc : Array Value → State → Outcome → State → Prop} (hy : plainName y.cls = true) (hw : wsy = Cond.code y cc maxL ret :: wsy') (hav : (lg_sl av).length ≤ maxL) (hli : lv_args 0 av = li 0 av)
    (body : ∀ (p : Program) (e : Env) (s : State) (m : MethodId) (args : Array Value) (below : List Frame) (meth : Method) (c : Code), s.heap.size = sz → meth.sig.returnType = ret → Xc p s m args meth c E maxL (va_A ws sz) cc y.cls wsy → V p l e rm s m args below meth c E maxL (va_A ws sz) (MQ below Qc args s 0 0 (va_A ws sz)) ws av 0 []) :
    Met l y wsy rm (mPc E av sz ws) Qc 0 0 (va_A ws sz) := by
  refine Met.ofW (cc := cc) (maxL := maxL) (ret := ret) hy hw ?_
  intro p e s m args below meth c s₁ B hml hv
  obtain ⟨rfl, hsz, hP, hK, hD0, hN⟩ := hv
  rw [lg_entry_eq]
  have h := body p e s m av.toArray below meth c hsz B.returns ⟨B.exec, B.bytes, hml, findClass_of_methodNamed B.named, atoms_spec (ws := wsy) B.pre, hK, fun q h => Or.inr (by rw [← hsz]; exact h), B.notSynchronized, hN⟩
  refine h s.heap [] _ hP (hD0.self) va_S.rf ?_
  rw [← hli]
  exact lv_entry av hav
theorem v_iload (hX : Xc p s m args meth c E nL A cc own Ts) {i : Nat} {x : Int32} (hd : decode cc pc = .ok (.iload i, 2)) (hl : lv[i]? = some (.int x)) (k : V p l e R s m args below meth c E nL A Q ws lv (pc + 2) (.int x :: st)) : V p l e R s m args below meth c E nL A Q ws lv pc st :=
  fun H locs ls hP hD hS h => lv_iload hX.1 hX.2.1 hd (li_has h hl) (k H locs ls hP hD hS h)
theorem v_iload_n (hX : Xc p s m args meth c E nL A cc own Ts) {i : Fin 4} {x : Int32} (hd : decode cc pc = .ok (.iload_n i, 1)) (hl : lv[(i : Nat)]? = some (.int x)) (k : V p l e R s m args below meth c E nL A Q ws lv (pc + 1) (.int x :: st)) : V p l e R s m args below meth c E nL A Q ws lv pc st :=
  fun H locs ls hP hD hS h => lv_iload_n hX.1 hX.2.1 hd rfl (li_has h hl) (k H locs ls hP hD hS h)
theorem v_aload (hX : Xc p s m args meth c E nL A cc own Ts) {i : Nat} {x : Nat} (hd : decode cc pc = .ok (.aload i, 2)) (hl : lv[i]? = some (.ref x)) (k : V p l e R s m args below meth c E nL A Q ws lv (pc + 2) (.ref x :: st)) : V p l e R s m args below meth c E nL A Q ws lv pc st :=
  fun H locs ls hP hD hS h => lv_aload hX.1 hX.2.1 hd (li_has h hl) (k H locs ls hP hD hS h)
theorem v_aload_n (hX : Xc p s m args meth c E nL A cc own Ts) {i : Fin 4} {x : Nat} (hd : decode cc pc = .ok (.aload_n i, 1)) (hl : lv[(i : Nat)]? = some (.ref x)) (k : V p l e R s m args below meth c E nL A Q ws lv (pc + 1) (.ref x :: st)) : V p l e R s m args below meth c E nL A Q ws lv pc st :=
  fun H locs ls hP hD hS h => lv_aload_n hX.1 hX.2.1 hd rfl (li_has h hl) (k H locs ls hP hD hS h)
theorem v_istore (hX : Xc p s m args meth c E nL A cc own Ts) {i : Nat} {x : Int32} {lv' : List Value} (hd : decode cc pc = .ok (.istore i, 2)) (hi : i < nL) (hi2 : i ≤ lv.length) (hc : (lv.all fun w => w.category == 1) = true) (hl : lset lv i (.int x) = lv') (k : V p l e R s m args below meth c E nL A Q ws lv' (pc + 2) st) : V p l e R s m args below meth c E nL A Q ws lv pc (.int x :: st) :=
  fun H locs ls hP hD hS h => lv_istore hX.1 hX.2.1 hd h hi rfl (fun ls' h' => k H locs ls' hP hD hS (hl ▸ li_store hi2 hc rfl h'))
theorem v_istore_n (hX : Xc p s m args meth c E nL A cc own Ts) {i : Fin 4} {x : Int32} {lv' : List Value} (hd : decode cc pc = .ok (.istore_n i, 1)) (hi : (i : Nat) < nL) (hi2 : (i : Nat) ≤ lv.length) (hc : (lv.all fun w => w.category == 1) = true) (hl : lset lv (i : Nat) (.int x) = lv') (k : V p l e R s m args below meth c E nL A Q ws lv' (pc + 1) st) : V p l e R s m args below meth c E nL A Q ws lv pc (.int x :: st) :=
  fun H locs ls hP hD hS h => lv_istore_n hX.1 hX.2.1 hd rfl h hi rfl (fun ls' h' => k H locs ls' hP hD hS (hl ▸ li_store hi2 hc rfl h'))
theorem v_astore (hX : Xc p s m args meth c E nL A cc own Ts) {i : Nat} {x : Nat} {lv' : List Value} (hd : decode cc pc = .ok (.astore i, 2)) (hi : i < nL) (hi2 : i ≤ lv.length) (hc : (lv.all fun w => w.category == 1) = true) (hl : lset lv i (.ref x) = lv') (k : V p l e R s m args below meth c E nL A Q ws lv' (pc + 2) st) : V p l e R s m args below meth c E nL A Q ws lv pc (.ref x :: st) :=
  fun H locs ls hP hD hS h => lv_astore hX.1 hX.2.1 hd h hi rfl (fun ls' h' => k H locs ls' hP hD hS (hl ▸ li_store hi2 hc rfl h'))
theorem v_astore_n (hX : Xc p s m args meth c E nL A cc own Ts) {i : Fin 4} {x : Nat} {lv' : List Value} (hd : decode cc pc = .ok (.astore_n i, 1)) (hi : (i : Nat) < nL) (hi2 : (i : Nat) ≤ lv.length) (hc : (lv.all fun w => w.category == 1) = true) (hl : lset lv (i : Nat) (.ref x) = lv') (k : V p l e R s m args below meth c E nL A Q ws lv' (pc + 1) st) : V p l e R s m args below meth c E nL A Q ws lv pc (.ref x :: st) :=
  fun H locs ls hP hD hS h => lv_astore_n hX.1 hX.2.1 hd rfl h hi rfl (fun ls' h' => k H locs ls' hP hD hS (hl ▸ li_store hi2 hc rfl h'))
theorem v_iinc (hX : Xc p s m args meth c E nL A cc own Ts) {i : Nat} {n : Int} {x y : Int32} {lv' : List Value} (hd : decode cc pc = .ok (.iinc i n, 3)) (hx : lv[i]? = some (.int x)) (hv : x + Int32.ofInt n = y) (hi : i < nL) (hi2 : i ≤ lv.length) (hc : (lv.all fun w => w.category == 1) = true) (hl : lset lv i (.int y) = lv') (k : V p l e R s m args below meth c E nL A Q ws lv' (pc + 3) st) : V p l e R s m args below meth c E nL A Q ws lv pc st :=
  fun H locs ls hP hD hS h => lv_iinc hX.1 hX.2.1 hd h (k := i) (by rw [li_get, hx]; simp) hv hi rfl (fun ls' h' => k H locs ls' hP hD hS (hl ▸ li_store hi2 hc rfl h'))
theorem v_iconst (hX : Xc p s m args meth c E nL A cc own Ts) {n : Int} {x : Int32} (hd : decode cc pc = .ok (.iconst n, 1)) (hv : Int32.ofInt n = x) (k : V p l e R s m args below meth c E nL A Q ws lv (pc + 1) (.int x :: st)) : V p l e R s m args below meth c E nL A Q ws lv pc st :=
  fun H locs ls hP hD hS h => lv_iconst hX.1 hX.2.1 hd hv (k H locs ls hP hD hS h)
theorem v_bipush (hX : Xc p s m args meth c E nL A cc own Ts) {n : Int} {x : Int32} (hd : decode cc pc = .ok (.bipush n, 2)) (hv : (Int8.ofInt n).toInt32 = x) (k : V p l e R s m args below meth c E nL A Q ws lv (pc + 2) (.int x :: st)) : V p l e R s m args below meth c E nL A Q ws lv pc st :=
  fun H locs ls hP hD hS h => lv_bipush hX.1 hX.2.1 hd hv (k H locs ls hP hD hS h)
theorem v_sipush (hX : Xc p s m args meth c E nL A cc own Ts) {n : Int} {x : Int32} (hd : decode cc pc = .ok (.sipush n, 3)) (hv : (Int16.ofInt n).toInt32 = x) (k : V p l e R s m args below meth c E nL A Q ws lv (pc + 3) (.int x :: st)) : V p l e R s m args below meth c E nL A Q ws lv pc st :=
  fun H locs ls hP hD hS h => lv_sipush hX.1 hX.2.1 hd hv (k H locs ls hP hD hS h)
theorem v_iadd (hX : Xc p s m args meth c E nL A cc own Ts) {x y z : Int32} (hd : decode cc pc = .ok (.iadd, 1)) (hz : x + y = z) (k : V p l e R s m args below meth c E nL A Q ws lv (pc + 1) (.int z :: st)) : V p l e R s m args below meth c E nL A Q ws lv pc (.int y :: .int x :: st) :=
  fun H locs ls hP hD hS h => lv_iadd hX.1 hX.2.1 hd (by rw [hz]; exact k H locs ls hP hD hS h)
theorem v_isub (hX : Xc p s m args meth c E nL A cc own Ts) {x y z : Int32} (hd : decode cc pc = .ok (.isub, 1)) (hz : x - y = z) (k : V p l e R s m args below meth c E nL A Q ws lv (pc + 1) (.int z :: st)) : V p l e R s m args below meth c E nL A Q ws lv pc (.int y :: .int x :: st) :=
  fun H locs ls hP hD hS h => lv_isub hX.1 hX.2.1 hd (by rw [hz]; exact k H locs ls hP hD hS h)
theorem v_imul (hX : Xc p s m args meth c E nL A cc own Ts) {x y z : Int32} (hd : decode cc pc = .ok (.imul, 1)) (hz : x * y = z) (k : V p l e R s m args below meth c E nL A Q ws lv (pc + 1) (.int z :: st)) : V p l e R s m args below meth c E nL A Q ws lv pc (.int y :: .int x :: st) :=
  fun H locs ls hP hD hS h => lv_imul hX.1 hX.2.1 hd (by rw [hz]; exact k H locs ls hP hD hS h)
theorem v_iand (hX : Xc p s m args meth c E nL A cc own Ts) {x y z : Int32} (hd : decode cc pc = .ok (.iand, 1)) (hz : x &&& y = z) (k : V p l e R s m args below meth c E nL A Q ws lv (pc + 1) (.int z :: st)) : V p l e R s m args below meth c E nL A Q ws lv pc (.int y :: .int x :: st) :=
  fun H locs ls hP hD hS h => lv_iand hX.1 hX.2.1 hd (by rw [hz]; exact k H locs ls hP hD hS h)
theorem v_ior (hX : Xc p s m args meth c E nL A cc own Ts) {x y z : Int32} (hd : decode cc pc = .ok (.ior, 1)) (hz : x ||| y = z) (k : V p l e R s m args below meth c E nL A Q ws lv (pc + 1) (.int z :: st)) : V p l e R s m args below meth c E nL A Q ws lv pc (.int y :: .int x :: st) :=
  fun H locs ls hP hD hS h => lv_ior hX.1 hX.2.1 hd (by rw [hz]; exact k H locs ls hP hD hS h)
theorem v_ishl (hX : Xc p s m args meth c E nL A cc own Ts) {x y z : Int32} (hd : decode cc pc = .ok (.ishl, 1)) (hz : x <<< (y &&& 31) = z) (k : V p l e R s m args below meth c E nL A Q ws lv (pc + 1) (.int z :: st)) : V p l e R s m args below meth c E nL A Q ws lv pc (.int y :: .int x :: st) :=
  fun H locs ls hP hD hS h => lv_ishl hX.1 hX.2.1 hd (by rw [hz]; exact k H locs ls hP hD hS h)
theorem v_ishr (hX : Xc p s m args meth c E nL A cc own Ts) {x y z : Int32} (hd : decode cc pc = .ok (.ishr, 1)) (hz : x >>> (y &&& 31) = z) (k : V p l e R s m args below meth c E nL A Q ws lv (pc + 1) (.int z :: st)) : V p l e R s m args below meth c E nL A Q ws lv pc (.int y :: .int x :: st) :=
  fun H locs ls hP hD hS h => lv_ishr hX.1 hX.2.1 hd (by rw [hz]; exact k H locs ls hP hD hS h)
theorem v_irem (hX : Xc p s m args meth c E nL A cc own Ts) {x y z : Int32} (hd : decode cc pc = .ok (.irem, 1)) (hne : ¬ y = 0) (hz : x - x / y * y = z) (k : V p l e R s m args below meth c E nL A Q ws lv (pc + 1) (.int z :: st)) : V p l e R s m args below meth c E nL A Q ws lv pc (.int y :: .int x :: st) :=
  fun H locs ls hP hD hS h => lv_irem hX.1 hX.2.1 hd hne (by rw [hz]; exact k H locs ls hP hD hS h)
theorem v_idiv (hX : Xc p s m args meth c E nL A cc own Ts) {x y z : Int32} (hd : decode cc pc = .ok (.idiv, 1)) (hne : ¬ y = 0) (hz : x / y = z) (k : V p l e R s m args below meth c E nL A Q ws lv (pc + 1) (.int z :: st)) : V p l e R s m args below meth c E nL A Q ws lv pc (.int y :: .int x :: st) :=
  fun H locs ls hP hD hS h => lv_idiv hX.1 hX.2.1 hd hne (by rw [hz]; exact k H locs ls hP hD hS h)
theorem v_i2c (hX : Xc p s m args meth c E nL A cc own Ts) {x z : Int32} (hd : decode cc pc = .ok (.i2c, 1)) (hz : (x.toUInt32 % 65536).toInt32 = z) (k : V p l e R s m args below meth c E nL A Q ws lv (pc + 1) (.int z :: st)) : V p l e R s m args below meth c E nL A Q ws lv pc (.int x :: st) :=
  fun H locs ls hP hD hS h => lv_i2c hX.1 hX.2.1 hd hz (k H locs ls hP hD hS h)
theorem v_dup (hX : Xc p s m args meth c E nL A cc own Ts) {v : Value} (hd : decode cc pc = .ok (.dup, 1)) (hc : v.category = 1) (k : V p l e R s m args below meth c E nL A Q ws lv (pc + 1) (v :: v :: st)) : V p l e R s m args below meth c E nL A Q ws lv pc (v :: st) :=
  fun H locs ls hP hD hS h => lv_dup hX.1 hX.2.1 hd hc (k H locs ls hP hD hS h)
theorem v_pop (hX : Xc p s m args meth c E nL A cc own Ts) {v : Value} (hd : decode cc pc = .ok (.pop, 1)) (hc : v.category = 1) (k : V p l e R s m args below meth c E nL A Q ws lv (pc + 1) st) : V p l e R s m args below meth c E nL A Q ws lv pc (v :: st) :=
  fun H locs ls hP hD hS h => lv_pop hX.1 hX.2.1 hd hc (k H locs ls hP hD hS h)
theorem v_dup2 (hX : Xc p s m args meth c E nL A cc own Ts) {v w : Value} (hd : decode cc pc = .ok (.dup2, 1)) (hc : v.category = 1) (hc2 : w.category = 1) (k : V p l e R s m args below meth c E nL A Q ws lv (pc + 1) (v :: w :: v :: w :: st)) : V p l e R s m args below meth c E nL A Q ws lv pc (v :: w :: st) :=
  fun H locs ls hP hD hS h => lv_dup2_11 hX.1 hX.2.1 hd hc hc2 (k H locs ls hP hD hS h)
theorem v_dup_x1 (hX : Xc p s m args meth c E nL A cc own Ts) {v w : Value} (hd : decode cc pc = .ok (.dup_x1, 1)) (hc : v.category = 1) (hc2 : w.category = 1) (k : V p l e R s m args below meth c E nL A Q ws lv (pc + 1) (v :: w :: v :: st)) : V p l e R s m args below meth c E nL A Q ws lv pc (v :: w :: st) :=
  fun H locs ls hP hD hS h => lv_dup_x1 hX.1 hX.2.1 hd hc hc2 (k H locs ls hP hD hS h)
theorem v_goto (hX : Xc p s m args meth c E nL A cc own Ts) {off : Int} {tgt : Nat} (hd : decode cc pc = .ok (.goto off, 3)) (ht : (pc : Int) + off = (tgt : Int)) (k : V p l e R s m args below meth c E nL A Q ws lv tgt st) : V p l e R s m args below meth c E nL A Q ws lv pc st :=
  fun H locs ls hP hD hS h => lv_goto hX.1 hX.2.1 hd ht (k H locs ls hP hD hS h)
theorem v_if_eq (hX : Xc p s m args meth c E nL A cc own Ts) {x : Int32} {off : Int} {tgt : Nat} (hd : decode cc pc = .ok (.ifCond .eq off, 3)) (ht : (pc : Int) + off = (tgt : Int)) (kt : x = 0 → V p l e R s m args below meth c E nL A Q ws lv tgt st) (kf : ¬ x = 0 → V p l e R s m args below meth c E nL A Q ws lv (pc + 3) st) : V p l e R s m args below meth c E nL A Q ws lv pc (.int x :: st) :=
  fun H locs ls hP hD hS h => lv_if_eq hX.1 hX.2.1 hd ht (fun q => kt q H locs ls hP hD hS h) (fun q => kf q H locs ls hP hD hS h)
theorem v_if_ne (hX : Xc p s m args meth c E nL A cc own Ts) {x : Int32} {off : Int} {tgt : Nat} (hd : decode cc pc = .ok (.ifCond .ne off, 3)) (ht : (pc : Int) + off = (tgt : Int)) (kt : ¬ x = 0 → V p l e R s m args below meth c E nL A Q ws lv tgt st) (kf : x = 0 → V p l e R s m args below meth c E nL A Q ws lv (pc + 3) st) : V p l e R s m args below meth c E nL A Q ws lv pc (.int x :: st) :=
  fun H locs ls hP hD hS h => lv_if_ne hX.1 hX.2.1 hd ht (fun q => kt q H locs ls hP hD hS h) (fun q => kf q H locs ls hP hD hS h)
theorem v_if_lt (hX : Xc p s m args meth c E nL A cc own Ts) {x : Int32} {off : Int} {tgt : Nat} (hd : decode cc pc = .ok (.ifCond .lt off, 3)) (ht : (pc : Int) + off = (tgt : Int)) (kt : x < 0 → V p l e R s m args below meth c E nL A Q ws lv tgt st) (kf : ¬ x < 0 → V p l e R s m args below meth c E nL A Q ws lv (pc + 3) st) : V p l e R s m args below meth c E nL A Q ws lv pc (.int x :: st) :=
  fun H locs ls hP hD hS h => lv_if_lt hX.1 hX.2.1 hd ht (fun q => kt q H locs ls hP hD hS h) (fun q => kf q H locs ls hP hD hS h)
theorem v_if_ge (hX : Xc p s m args meth c E nL A cc own Ts) {x : Int32} {off : Int} {tgt : Nat} (hd : decode cc pc = .ok (.ifCond .ge off, 3)) (ht : (pc : Int) + off = (tgt : Int)) (kt : 0 ≤ x → V p l e R s m args below meth c E nL A Q ws lv tgt st) (kf : ¬ 0 ≤ x → V p l e R s m args below meth c E nL A Q ws lv (pc + 3) st) : V p l e R s m args below meth c E nL A Q ws lv pc (.int x :: st) :=
  fun H locs ls hP hD hS h => lv_if_ge hX.1 hX.2.1 hd ht (fun q => kt q H locs ls hP hD hS h) (fun q => kf q H locs ls hP hD hS h)
theorem v_if_gt (hX : Xc p s m args meth c E nL A cc own Ts) {x : Int32} {off : Int} {tgt : Nat} (hd : decode cc pc = .ok (.ifCond .gt off, 3)) (ht : (pc : Int) + off = (tgt : Int)) (kt : 0 < x → V p l e R s m args below meth c E nL A Q ws lv tgt st) (kf : ¬ 0 < x → V p l e R s m args below meth c E nL A Q ws lv (pc + 3) st) : V p l e R s m args below meth c E nL A Q ws lv pc (.int x :: st) :=
  fun H locs ls hP hD hS h => lv_if_gt hX.1 hX.2.1 hd ht (fun q => kt q H locs ls hP hD hS h) (fun q => kf q H locs ls hP hD hS h)
theorem v_if_le (hX : Xc p s m args meth c E nL A cc own Ts) {x : Int32} {off : Int} {tgt : Nat} (hd : decode cc pc = .ok (.ifCond .le off, 3)) (ht : (pc : Int) + off = (tgt : Int)) (kt : x ≤ 0 → V p l e R s m args below meth c E nL A Q ws lv tgt st) (kf : ¬ x ≤ 0 → V p l e R s m args below meth c E nL A Q ws lv (pc + 3) st) : V p l e R s m args below meth c E nL A Q ws lv pc (.int x :: st) :=
  fun H locs ls hP hD hS h => lv_if_le hX.1 hX.2.1 hd ht (fun q => kt q H locs ls hP hD hS h) (fun q => kf q H locs ls hP hD hS h)
theorem v_icmp_eq (hX : Xc p s m args meth c E nL A cc own Ts) {x y : Int32} {off : Int} {tgt : Nat} (hd : decode cc pc = .ok (.if_icmp .eq off, 3)) (ht : (pc : Int) + off = (tgt : Int)) (kt : x = y → V p l e R s m args below meth c E nL A Q ws lv tgt st) (kf : ¬ x = y → V p l e R s m args below meth c E nL A Q ws lv (pc + 3) st) : V p l e R s m args below meth c E nL A Q ws lv pc (.int y :: .int x :: st) :=
  fun H locs ls hP hD hS h => lv_icmp_eq hX.1 hX.2.1 hd ht (fun q => kt q H locs ls hP hD hS h) (fun q => kf q H locs ls hP hD hS h)
theorem v_icmp_ne (hX : Xc p s m args meth c E nL A cc own Ts) {x y : Int32} {off : Int} {tgt : Nat} (hd : decode cc pc = .ok (.if_icmp .ne off, 3)) (ht : (pc : Int) + off = (tgt : Int)) (kt : ¬ x = y → V p l e R s m args below meth c E nL A Q ws lv tgt st) (kf : x = y → V p l e R s m args below meth c E nL A Q ws lv (pc + 3) st) : V p l e R s m args below meth c E nL A Q ws lv pc (.int y :: .int x :: st) :=
  fun H locs ls hP hD hS h => lv_icmp_ne hX.1 hX.2.1 hd ht (fun q => kt q H locs ls hP hD hS h) (fun q => kf q H locs ls hP hD hS h)
theorem v_icmp_lt (hX : Xc p s m args meth c E nL A cc own Ts) {x y : Int32} {off : Int} {tgt : Nat} (hd : decode cc pc = .ok (.if_icmp .lt off, 3)) (ht : (pc : Int) + off = (tgt : Int)) (kt : x < y → V p l e R s m args below meth c E nL A Q ws lv tgt st) (kf : ¬ x < y → V p l e R s m args below meth c E nL A Q ws lv (pc + 3) st) : V p l e R s m args below meth c E nL A Q ws lv pc (.int y :: .int x :: st) :=
  fun H locs ls hP hD hS h => lv_icmp_lt hX.1 hX.2.1 hd ht (fun q => kt q H locs ls hP hD hS h) (fun q => kf q H locs ls hP hD hS h)
theorem v_icmp_ge (hX : Xc p s m args meth c E nL A cc own Ts) {x y : Int32} {off : Int} {tgt : Nat} (hd : decode cc pc = .ok (.if_icmp .ge off, 3)) (ht : (pc : Int) + off = (tgt : Int)) (kt : y ≤ x → V p l e R s m args below meth c E nL A Q ws lv tgt st) (kf : ¬ y ≤ x → V p l e R s m args below meth c E nL A Q ws lv (pc + 3) st) : V p l e R s m args below meth c E nL A Q ws lv pc (.int y :: .int x :: st) :=
  fun H locs ls hP hD hS h => lv_icmp_ge hX.1 hX.2.1 hd ht (fun q => kt q H locs ls hP hD hS h) (fun q => kf q H locs ls hP hD hS h)
theorem v_icmp_gt (hX : Xc p s m args meth c E nL A cc own Ts) {x y : Int32} {off : Int} {tgt : Nat} (hd : decode cc pc = .ok (.if_icmp .gt off, 3)) (ht : (pc : Int) + off = (tgt : Int)) (kt : y < x → V p l e R s m args below meth c E nL A Q ws lv tgt st) (kf : ¬ y < x → V p l e R s m args below meth c E nL A Q ws lv (pc + 3) st) : V p l e R s m args below meth c E nL A Q ws lv pc (.int y :: .int x :: st) :=
  fun H locs ls hP hD hS h => lv_icmp_gt hX.1 hX.2.1 hd ht (fun q => kt q H locs ls hP hD hS h) (fun q => kf q H locs ls hP hD hS h)
theorem v_icmp_le (hX : Xc p s m args meth c E nL A cc own Ts) {x y : Int32} {off : Int} {tgt : Nat} (hd : decode cc pc = .ok (.if_icmp .le off, 3)) (ht : (pc : Int) + off = (tgt : Int)) (kt : x ≤ y → V p l e R s m args below meth c E nL A Q ws lv tgt st) (kf : ¬ x ≤ y → V p l e R s m args below meth c E nL A Q ws lv (pc + 3) st) : V p l e R s m args below meth c E nL A Q ws lv pc (.int y :: .int x :: st) :=
  fun H locs ls hP hD hS h => lv_icmp_le hX.1 hX.2.1 hd ht (fun q => kt q H locs ls hP hD hS h) (fun q => kf q H locs ls hP hD hS h)
theorem v_tableOut (hX : Xc p s m args meth c E nL A cc own Ts) {dflt lo hi : Int} {offs : Array Int} {len : Nat} {x : Int32} {tgt : Nat} (hd : decode cc pc = .ok (.tableswitch dflt lo hi offs, len)) (h : x.toInt < lo ∨ hi < x.toInt) (ht : (pc : Int) + dflt = (tgt : Int)) (k : V p l e R s m args below meth c E nL A Q ws lv tgt st) : V p l e R s m args below meth c E nL A Q ws lv pc (.int x :: st) :=
  fun H locs ls hP hD hS hl => lv_tableOut hX.1 hX.2.1 hd h ht (k H locs ls hP hD hS hl)
theorem v_tableIn (hX : Xc p s m args meth c E nL A cc own Ts) {dflt lo hi : Int} {offs : Array Int} {len : Nat} {x : Int32} {off : Int} {tgt : Nat} (hd : decode cc pc = .ok (.tableswitch dflt lo hi offs, len)) (h1 : ¬ x.toInt < lo) (h2 : ¬ hi < x.toInt) (ho : offs[(x.toInt - lo).toNat]? = some off) (ht : (pc : Int) + off = (tgt : Int)) (k : V p l e R s m args below meth c E nL A Q ws lv tgt st) : V p l e R s m args below meth c E nL A Q ws lv pc (.int x :: st) :=
  fun H locs ls hP hD hS hl => lv_tableIn hX.1 hX.2.1 hd h1 h2 ho ht (k H locs ls hP hD hS hl)
theorem v_get (hX : Xc p s m args meth c E nL A cc own Ts) {ref C : String} {T : u_T} {N ci index a : Nat} (hin : ∀ w ∈ u_ws C T N, w ∈ Ts) (q0 : Nat) {fs : List Value} (he : ws[q0]? = some (a, .inr (ci, fs))) (hc : vwCl[ci]? = some (C, T, N)) (k : Nat) (hk : k < N) (hlink : Cond.fieldLink own index ref (T k).2.1 (T k).2.2.1 ∈ Ts) (hr : (T k).1 = ref) {v : Value} (hv : fs[k]? = some v) (hd : decode cc pc = .ok (.getfield index, 3))
    (kk : V p l e R s m args below meth c E nL A Q ws lv (pc + 3) (v :: st)) : V p l e R s m args below meth c E nL A Q ws lv pc (.ref a :: st) :=
  fun H locs ls hP hD hS h => va_get hX.1 hX.2.1 hX.2.2.2.2.1 hin hX.2.2.2.1 hX.2.2.2.2.2.1 hP q0 he hc k hk (hX.2.2.2.2.1 _ hlink) (fun _ h9 => hr ▸ h9) hv hd (kk H locs ls hP hD hS h)
theorem v_put (hX : Xc p s m args meth c E nL A cc own Ts) {ref C : String} {T : u_T} {N ci index a : Nat} (hin : ∀ w ∈ u_ws C T N, w ∈ Ts) (ty0 : Nat → FieldType) (hty : ∀ k, k < N → parseFieldDescriptor (T k).2.2.1 = some (ty0 k)) (hnm : ∀ a, a < N → ∀ b, b < N → a ≠ b → (T a).2.1 ≠ (T b).2.1) (q0 : Nat) {fs : List Value} (he : ws[q0]? = some (a, .inr (ci, fs))) (hc : vwCl[ci]? = some (C, T, N)) (k : Nat) (hk : k < N) (hlink : Cond.fieldLink own index ref (T k).2.1 (T k).2.2.1 ∈ Ts) (hr : (T k).1 = ref) (hfin : (T k).2.2.2 = false) {ty : FieldType} {v : Value} (hd0 : parseFieldDescriptor (T k).2.2.1 = some ty) (hn : narrow ty v = v) (hfit : fits ty v = true) (hl : k < fs.length) (hd : decode cc pc = .ok (.putfield index, 3)) (hw : ws.set q0 (a, .inr (ci, fs.set k v)) = ws')
    (kk : V p l e R s m args below meth c E nL A Q ws' lv (pc + 3) st) : V p l e R s m args below meth c E nL A Q ws lv pc (v :: .ref a :: st) :=
  fun H locs ls hP hD hS h => va_put hX.1 hX.2.1 hX.2.2.2.2.1 hin ty0 hty hnm hX.2.2.2.1 hX.2.2.2.2.2.1 hP hD hS q0 he hc k hk (hX.2.2.2.2.1 _ hlink) (fun _ h9 => hr ▸ h9) hfin hd0 hn hfit hl hd (fun H1 locs1 hP1 hD1 hS1 => kk H1 locs1 ls (hw ▸ hP1) (hw ▸ hD1) hS1 h)
theorem v_iald (hX : Xc p s m args meth c E nL A cc own Ts) (q0 : Nat) {a n : Nat} {f : Nat → Int32} (ha : ws[q0]? = some (a, .inl (E.2 0, n, .inl f))) {i z : Int32} (hin : vp_in i n) (hz : f i.toNatClampNeg = z) (hd : decode cc pc = .ok (.iaload, 1))
    (k : V p l e R s m args below meth c E nL A Q ws lv (pc + 1) (.int z :: st)) : V p l e R s m args below meth c E nL A Q ws lv pc (.int i :: .ref a :: st) :=
  fun H locs ls hP hD hS h => va_iald hX.1 hX.2.1 hX.2.2.2.2.2.1 hP q0 0 ha rfl hin hd (by rw [hz]; exact k H locs ls hP hD hS h)
theorem v_zald (hX : Xc p s m args meth c E nL A cc own Ts) (q0 : Nat) {a n : Nat} {f : Nat → Int32} (ha : ws[q0]? = some (a, .inl (E.2 1, n, .inl f))) {i z : Int32} (hin : vp_in i n) (hz : f i.toNatClampNeg = z) (hd : decode cc pc = .ok (.baload, 1))
    (k : V p l e R s m args below meth c E nL A Q ws lv (pc + 1) (.int z :: st)) : V p l e R s m args below meth c E nL A Q ws lv pc (.int i :: .ref a :: st) :=
  fun H locs ls hP hD hS h => va_zald hX.1 hX.2.1 hX.2.2.2.2.2.1 hP q0 1 ha rfl hin hd (by rw [hz]; exact k H locs ls hP hD hS h)
theorem v_cald (hX : Xc p s m args meth c E nL A cc own Ts) (q0 : Nat) {a n : Nat} {f : Nat → Int32} (ha : ws[q0]? = some (a, .inl (E.2 2, n, .inl f))) {i z : Int32} (hin : vp_in i n) (hz : f i.toNatClampNeg = z) (hd : decode cc pc = .ok (.caload, 1))
    (k : V p l e R s m args below meth c E nL A Q ws lv (pc + 1) (.int z :: st)) : V p l e R s m args below meth c E nL A Q ws lv pc (.int i :: .ref a :: st) :=
  fun H locs ls hP hD hS h => va_cald hX.1 hX.2.1 hX.2.2.2.2.2.1 hP q0 2 ha rfl hin hd (by rw [hz]; exact k H locs ls hP hD hS h)
theorem v_aaldK (hX : Xc p s m args meth c E nL A cc own Ts) (q0 : Nat) {a n b : Nat} {f : Nat → Option Nat} (ha : ws[q0]? = some (a, .inl (E.2 3, n, .inr (.inr (.inr (.inr f)))))) {i : Int32} (hin : vp_in i n) (hz : f i.toNatClampNeg = some b) (hd : decode cc pc = .ok (.aaload, 1))
    (k : V p l e R s m args below meth c E nL A Q ws lv (pc + 1) (.ref b :: st)) : V p l e R s m args below meth c E nL A Q ws lv pc (.int i :: .ref a :: st) :=
  fun H locs ls hP hD hS h => va_aldq hX.1 hX.2.1 hX.2.2.2.2.2.1 hP q0 3 ha rfl hin hd (by rw [hz]; exact k H locs ls hP hD hS h)
theorem v_aaldM (hX : Xc p s m args meth c E nL A cc own Ts) (q0 : Nat) {a n b : Nat} {f : Nat → Option Nat} (ha : ws[q0]? = some (a, .inl (E.2 4, n, .inr (.inr (.inr (.inr f)))))) {i : Int32} (hin : vp_in i n) (hz : f i.toNatClampNeg = some b) (hd : decode cc pc = .ok (.aaload, 1))
    (k : V p l e R s m args below meth c E nL A Q ws lv (pc + 1) (.ref b :: st)) : V p l e R s m args below meth c E nL A Q ws lv pc (.int i :: .ref a :: st) :=
  fun H locs ls hP hD hS h => va_aldq hX.1 hX.2.1 hX.2.2.2.2.2.1 hP q0 4 ha rfl hin hd (by rw [hz]; exact k H locs ls hP hD hS h)
theorem v_alen (hX : Xc p s m args meth c E nL A cc own Ts) (q0 : Nat) {a t0 n : Nat} {cA : ClassId} {ty : FieldType} {f : (Nat → Int32) ⊕ (Nat → Int64) ⊕ (Nat → UInt32) ⊕ (Nat → UInt64) ⊕ (Nat → Option Nat)} (ha : ws[q0]? = some (a, .inl (cA, n, f))) (ht : (tysE E)[t0]? = some (cA, ty)) {z : Int32} (hz : Int32.ofNat n = z) (hd : decode cc pc = .ok (.arraylength, 1))
    (k : V p l e R s m args below meth c E nL A Q ws lv (pc + 1) (.int z :: st)) : V p l e R s m args below meth c E nL A Q ws lv pc (.ref a :: st) :=
  fun H locs ls hP hD hS h => va_alen hX.1 hX.2.1 hX.2.2.2.2.2.1 hP q0 t0 ha ht hz hd (k H locs ls hP hD hS h)
theorem v_iast (hX : Xc p s m args meth c E nL A cc own Ts) (q0 : Nat) {a n : Nat} {f : Nat → Int32} (ha : ws[q0]? = some (a, .inl (E.2 0, n, .inl f))) {i x : Int32} (hin : vp_in i n) (hw : ws.set q0 (a, .inl (E.2 0, n, .inl (upd f i.toNatClampNeg x))) = ws') (hd : decode cc pc = .ok (.iastore, 1))
    (k : V p l e R s m args below meth c E nL A Q ws' lv (pc + 1) st) : V p l e R s m args below meth c E nL A Q ws lv pc (.int x :: .int i :: .ref a :: st) :=
  fun H locs ls hP hD hS h => va_iast hX.1 hX.2.1 hX.2.2.2.2.2.1 hP hD hS q0 0 ha rfl hin hd (fun H1 locs1 hP1 hD1 hS1 => k H1 locs1 ls (hw ▸ hP1) (hw ▸ hD1) hS1 h)
theorem v_zast (hX : Xc p s m args meth c E nL A cc own Ts) (q0 : Nat) {a n : Nat} {f : Nat → Int32} (ha : ws[q0]? = some (a, .inl (E.2 1, n, .inl f))) {i x : Int32} (hin : vp_in i n) (hw : ws.set q0 (a, .inl (E.2 1, n, .inl (upd f i.toNatClampNeg (vp_nar .boolean x)))) = ws') (hd : decode cc pc = .ok (.bastore, 1))
    (k : V p l e R s m args below meth c E nL A Q ws' lv (pc + 1) st) : V p l e R s m args below meth c E nL A Q ws lv pc (.int x :: .int i :: .ref a :: st) :=
  fun H locs ls hP hD hS h => va_zast hX.1 hX.2.1 hX.2.2.2.2.2.1 hP hD hS q0 1 ha rfl hin hd (fun H1 locs1 hP1 hD1 hS1 => k H1 locs1 ls (hw ▸ hP1) (hw ▸ hD1) hS1 h)
theorem v_cast (hX : Xc p s m args meth c E nL A cc own Ts) (q0 : Nat) {a n : Nat} {f : Nat → Int32} (ha : ws[q0]? = some (a, .inl (E.2 2, n, .inl f))) {i x : Int32} (hin : vp_in i n) (hw : ws.set q0 (a, .inl (E.2 2, n, .inl (upd f i.toNatClampNeg (vp_nar .char x)))) = ws') (hd : decode cc pc = .ok (.castore, 1))
    (k : V p l e R s m args below meth c E nL A Q ws' lv (pc + 1) st) : V p l e R s m args below meth c E nL A Q ws lv pc (.int x :: .int i :: .ref a :: st) :=
  fun H locs ls hP hD hS h => va_cast hX.1 hX.2.1 hX.2.2.2.2.2.1 hP hD hS q0 2 ha rfl hin hd (fun H1 locs1 hP1 hD1 hS1 => k H1 locs1 ls (hw ▸ hP1) (hw ▸ hD1) hS1 h)
theorem v_copy (hX : Xc p s m args meth c E nL A cc own Ts) {index : Nat} (hlink : Cond.methodLink own index arraycopyName ∈ Ts) (hnat : Cond.native arraycopyName ∈ Ts) (hstat : Cond.static arraycopyName ∈ Ts) (hini : Cond.initialized "java/lang/System" ∈ Ts) (q0 q1 t0 : Nat) {a a0 : Nat} {ca : ClassId} {n0 n1 : Nat} {f g : Nat → Int32} {ty : FieldType} (ha0 : ws[q0]? = some (a0, .inl (ca, n0, .inl f))) (ha1 : ws[q1]? = some (a, .inl (ca, n1, .inl g))) (ht : (tysE E)[t0]? = some (ca, ty)) (hprim : refKind ty = false)
    {sp dp n : Int32} (h1 : ¬ sp < 0) (h2 : ¬ dp < 0) (h3 : ¬ n < 0) (h4 : sp.toNatClampNeg + n.toNatClampNeg ≤ n0) (h5 : dp.toNatClampNeg + n.toNatClampNeg ≤ n1) (hfit : ∀ i, i < n.toNatClampNeg → fits ty (.int (f (sp.toNatClampNeg + i))) = true)
    (hframes : 1 ≤ R.frames) (hlocals : (st.map fun v => v.category).sum + (nativeFrameWords "java/lang/System" "arraycopy" 5 + 11) ≤ R.locals) (hd : decode cc pc = .ok (.invokestatic index, 3))
    (hw : ws.set q1 (a, .inl (ca, n1, .inl (va_cpy f g sp.toNatClampNeg dp.toNatClampNeg n.toNatClampNeg))) = ws')
    (kk : V p l e R s m args below meth c E nL A Q ws' lv (pc + 3) st) : V p l e R s m args below meth c E nL A Q ws lv pc (.int n :: .int dp :: .ref a :: .int sp :: .ref a0 :: st) :=
  fun H locs ls hP hD hS h => va_copyi hX.1 hX.2.1 (hX.2.2.1.trans h.1.symm) hX.2.2.2.1 (hX.2.2.2.2.1 _ hlink) (hX.2.2.2.2.1 _ hnat) (hX.2.2.2.2.1 _ hstat) (hX.2.2.2.2.1 _ hini) hX.2.2.2.2.2.1 hP hD hS q0 q1 t0 t0 ha0 ha1 ht ht hprim h1 h2 h3 h4 h5 hfit hframes hlocals hd (fun H1 locs1 hP1 hD1 hS1 => kk H1 locs1 ls (hw ▸ hP1) (hw ▸ hD1) hS1 h)
theorem v_iret (hX : Xc p s m args meth c E nL A cc own Ts) (hr : meth.sig.returnType = some .int) {r r' : Int32} {ws0 : va_W} {sz : Nat} {fr : Addr → Prop} (hsz : s.heap.size = sz) (hd : decode cc pc = .ok (.ireturn, 1)) (hA : A = va_A ws0 sz) (hfr : fr = va_A ws0 sz) (e1 : r' = r) (e2 : ws = ws') :
    V p l e R s m args below meth c E nL A (MQ below (mQi E r ws0 ws' sz) args s 0 0 fr) ws lv pc [.int r'] := by
  intro H locs ls hP hD hS h
  subst hA; subst hfr; subst e1; subst e2
  exact W.iret hX.1 hX.2.1 hr (fun t ht hW => ⟨⟨r', (), rfl, rfl, by show va_P E.1 vwCl ws t.heap; rw [ht]; exact hP⟩, hS.F ht⟩) hS.2.2 hd hX.2.2.2.2.2.2.2.1
theorem v_zret (hX : Xc p s m args meth c E nL A cc own Ts) (hr : meth.sig.returnType = some .boolean) {r r' : Int32} {ws0 : va_W} {sz : Nat} {fr : Addr → Prop} (hsz : s.heap.size = sz) (hd : decode cc pc = .ok (.ireturn, 1)) (hA : A = va_A ws0 sz) (hfr : fr = va_A ws0 sz) (hn : narrow .boolean (.int r') = .int r') (e1 : r' = r) (e2 : ws = ws') :
    V p l e R s m args below meth c E nL A (MQ below (mQi E r ws0 ws' sz) args s 0 0 fr) ws lv pc [.int r'] := by
  intro H locs ls hP hD hS h
  subst hA; subst hfr; subst e1; subst e2
  exact W.zret hX.1 hX.2.1 hr hn (fun t ht hW => ⟨⟨r', (), rfl, rfl, by show va_P E.1 vwCl ws t.heap; rw [ht]; exact hP⟩, hS.F ht⟩) hS.2.2 hd hX.2.2.2.2.2.2.2.1
theorem v_vret (hX : Xc p s m args meth c E nL A cc own Ts) (hr : meth.sig.returnType = none) {ws0 : va_W} {sz : Nat} {fr : Addr → Prop} (hsz : s.heap.size = sz) (hd : decode cc pc = .ok (.return_, 1)) (hA : A = va_A ws0 sz) (hfr : fr = va_A ws0 sz) (e2 : ws = ws') :
    V p l e R s m args below meth c E nL A (MQ below (mQv E ws0 ws' sz) args s 0 0 fr) ws lv pc [] := by
  intro H locs ls hP hD hS h
  subst hA; subst hfr; subst e2
  exact W.vret hX.1 hX.2.1 hr (fun t ht hW => ⟨⟨(), rfl, trivial, by show va_P E.1 vwCl ws t.heap; rw [ht]; exact hP⟩, hS.F ht⟩) hS.2.2 hd hX.2.2.2.2.2.2.2.1
end VB
theorem fst_get {ws ws' : va_W} (h : ws'.map Prod.fst = ws.map Prod.fst) {i : Nat} {q : Nat × va_E} (hi : ws'[i]? = some q) : ∃ q0, ws[i]? = some q0 ∧ q0.1 = q.1 := by
  have h1 : (ws'.map Prod.fst)[i]? = some q.1 := by rw [List.getElem?_map, hi]; rfl
  rw [h, List.getElem?_map] at h1
  cases hw : ws[i]? with
  | none => rw [hw] at h1; cases h1
  | some q0 => rw [hw] at h1; exact ⟨q0, rfl, Option.some.inj h1⟩
theorem vD_fst {A : Nat → Prop} {ws ws' : va_W} (hD : va_D A ws) (h : ws'.map Prod.fst = ws.map Prod.fst) : va_D A ws' := by
  refine ⟨fun i j x y hi hj hxy => ?_, fun k q hk => ?_⟩
  · obtain ⟨x0, h1, h2⟩ := fst_get h hi
    obtain ⟨y0, h3, h4⟩ := fst_get h hj
    exact hD.1 i j x0 y0 h1 h3 (h2.trans (hxy.trans h4.symm))
  · obtain ⟨q0, h1, h2⟩ := fst_get h hk
    rw [← h2]
    exact hD.2 k q0 h1
theorem vD_mid {A : Nat → Prop} {pre wc post : va_W} (hD : va_D A (pre ++ (wc ++ post))) {B : Nat → Prop} (hB : ∀ q, B q) : va_D B wc := by
  have at' : ∀ (k : Nat) (q : Nat × va_E), wc[k]? = some q → (pre ++ (wc ++ post))[pre.length + k]? = some q := by
    intro k q hk
    have hl := (List.getElem?_eq_some_iff.mp hk).1
    rw [List.getElem?_append_right (by omega), Nat.add_sub_cancel_left, List.getElem?_append_left hl]
    exact hk
  refine ⟨fun i j x y hi hj hxy => ?_, fun k q _ => hB q.1⟩
  have := hD.1 _ _ x y (at' i x hi) (at' j y hj) hxy
  omega
theorem vP_mid {D : va_G} {cl : List vw_C} {pre wc post : va_W} {H : Heap} (hP : va_P D cl (pre ++ (wc ++ post)) H) : va_P D cl wc H := by
  intro k q hk
  have hm : q ∈ pre ++ (wc ++ post) := List.mem_append_right _ (List.mem_append_left _ (List.mem_of_getElem? hk))
  obtain ⟨i, hi⟩ := List.getElem?_of_mem hm
  exact hP i q hi
theorem vA_mid {A0 : Nat → Prop} {pre wc post : va_W} {H0 H : Heap} {locs : List Loc} (hD : va_D A0 (pre ++ (wc ++ post))) (hS : va_S A0 H0 H locs) (hA : ∀ q, H0.size ≤ q → A0 q) : ∀ q, va_A wc H.size q → A0 q := by
  intro q h
  rcases h with ⟨k, e, h⟩ | h
  · have hm : (q, e) ∈ pre ++ (wc ++ post) := List.mem_append_right _ (List.mem_append_left _ (List.mem_of_getElem? h))
    obtain ⟨i, hi⟩ := List.getElem?_of_mem hm
    exact hD.2 i (q, e) hi
  · exact hA q (Nat.le_trans hS.1 h)
theorem jn {A0 : Nat → Prop} {D : va_G} {cl : List vw_C} {pre wc post wc' : va_W} {H H1 : Heap} (hP : va_P D cl (pre ++ (wc ++ post)) H) (hD : va_D A0 (pre ++ (wc ++ post))) (hk : ∀ q : Nat, q < H.size → ¬ va_A wc H.size q → H1[q]? = H[q]?) (hP1 : va_P D cl wc' H1) (ha : wc'.map Prod.fst = wc.map Prod.fst) :
    va_P D cl (pre ++ (wc' ++ post)) H1 ∧ va_D A0 (pre ++ (wc' ++ post)) := by
  have hlen : wc'.length = wc.length := by have := congrArg List.length ha; simpa using this
  refine ⟨?_, vD_fst hD (by simp [ha])⟩
  have keep : ∀ (i : Nat) (q : Nat × va_E), (pre ++ (wc ++ post))[i]? = some q → (i < pre.length ∨ pre.length + wc.length ≤ i) → va_at D cl q H1 := by
    intro i q hi hout
    have hat := hP i q hi
    refine hat.kept (hk q.1 hat.lt ?_)
    rintro (⟨k, e, h⟩ | h)
    · have hl := (List.getElem?_eq_some_iff.mp h).1
      have h2 : (pre ++ (wc ++ post))[pre.length + k]? = some (q.1, e) := by
        rw [List.getElem?_append_right (by omega), Nat.add_sub_cancel_left, List.getElem?_append_left hl]
        exact h
      have := hD.1 i _ q (q.1, e) hi h2 rfl
      omega
    · have := hat.lt
      omega
  intro k q hq
  by_cases h1 : k < pre.length
  · rw [List.getElem?_append_left h1] at hq
    exact keep k q (by rw [List.getElem?_append_left h1]; exact hq) (Or.inl h1)
  · rw [List.getElem?_append_right (by omega)] at hq
    by_cases h2 : k - pre.length < wc'.length
    · rw [List.getElem?_append_left h2] at hq
      exact hP1 _ q hq
    · rw [List.getElem?_append_right (by omega)] at hq
      refine keep k q ?_ (Or.inr (by omega))
      rw [List.getElem?_append_right (by omega), List.getElem?_append_right (by omega), ← hlen]
      exact hq
theorem blind_mPc (E : ET) (av : List Value) (sz : Nat) (ws : va_W) : FrameBlind (mPc E av sz ws) := fun a U g mk q => by
  obtain ⟨q0, q1, qP, qK, qD, qN⟩ := q
  exact ⟨q0, q1, qP, va_K.moved (u := U) (U := U.calling g mk a) (Vm.Alike.refl U.vm) qK, qD, Nst.same (u := U) rfl qN⟩
section VC
variable {p : Program} {l : Launch} {e : Env} {R : Room} {s : State} {m : MethodId} {args : Array Value} {below : List Frame} {meth : Method} {c : Code} {E : ET} {nL : Nat} {A : Nat → Prop} {Q : State → Prop} {cc : ByteArray} {own : String} {Ts : List Cond} {ws ws' : va_W} {lv : List Value} {pc : Nat} {st rest : List Value}
variable {y : MethodName} {bytes : ByteArray} {maxL n index : Nat} {ret : Option FieldType} {wsy : List Cond} {rm : Room} {pre wc wc' post : va_W} {As : List Value} {b : Nat} {r : Int32} {C : String} {host : String}
theorem preW (hX : Xc p s m args meth c E nL A cc own Ts) {H : Heap} (hP : va_P E.1 vwCl (pre ++ (wc ++ post)) H) (hD : va_D A (pre ++ (wc ++ post))) {av : List Value} : ∀ U : State, U.heap = H → s.WarmedH U.vm → mPc E av H.size wc av.toArray U :=
  fun U hU hW => ⟨rfl, by rw [hU], by rw [hU]; exact vP_mid hP, va_K.moved hW.alike hX.2.2.2.2.2.1, vD_mid hD (fun _ => trivial), hX.2.2.2.2.2.2.2.2.warm hW⟩
theorem v_callVi (hX : Xc p s m args meth c E nL A cc own Ts) (hM : ∀ sz, Met l y wsy rm (mPc E (.ref b :: As) sz wc) (mQi E r wc wc' sz) 0 0 (va_A wc sz)) (cw : CallW R s args own C index y bytes maxL ret wsy rm 0 0 n)
    (pre post : va_W) (hs : ws = pre ++ (wc ++ post)) (hs' : pre ++ (wc' ++ post) = ws') (ha : wc'.map Prod.fst = wc.map Prod.fst) {ci q0 : Nat} {k : vw_C} {fs : List Value} (hc : vwCl[ci]? = some k) (hkC : k.1 = C) (he : wc[q0]? = some (b, .inr (ci, fs)))
    (hn : As.length = n) (hst : st = As.reverse ++ .ref b :: rest) (hcat : (rest.map fun v => v.category).sum ≤ 8) (hd : decode cc pc = .ok (.invokevirtual index, 3)) (kk : V p l e R s m args below meth c E nL A Q ws' lv (pc + 3) (.int r :: rest)) : V p l e R s m args below meth c E nL A Q ws lv pc st := by
  intro H locs ls hP hD hS h
  subst hs; subst hs'; subst hkC
  refine va_calli (va_runV (As := As) (rest := rest) ⟨hX.1, hX.2.1, hX.2.2.1, hX.2.2.2.1, hX.2.2.2.2.1⟩ (hM H.size) cw ⟨blind_mPc _ _ _ _, va_recv hX.2.2.2.2.2.1 (vP_mid hP) hc he, preW hX hP hD⟩ rfl hn h.1 hst (lv_room hcat) hd ⟨Nat.zero_le _, Nat.zero_le _⟩) hS (fun q _ h => vA_mid hD hS hX.2.2.2.2.2.2.1 q h) (vA_mid hD hS hX.2.2.2.2.2.2.1) (fun r1 u t H1 locs1 ht hvm hw hB hz1 hk1 hS1 => ?_)
  subst hw
  rw [ht] at hB
  obtain ⟨hP1, hD1⟩ := jn hP hD hk1 hB ha
  exact kk H1 locs1 ls hP1 hD1 hS1 h
theorem v_callVv (hX : Xc p s m args meth c E nL A cc own Ts) (hM : ∀ sz, Met l y wsy rm (mPc E (.ref b :: As) sz wc) (mQv E wc wc' sz) 0 0 (va_A wc sz)) (cw : CallW R s args own C index y bytes maxL ret wsy rm 0 0 n)
    (pre post : va_W) (hs : ws = pre ++ (wc ++ post)) (hs' : pre ++ (wc' ++ post) = ws') (ha : wc'.map Prod.fst = wc.map Prod.fst) {ci q0 : Nat} {k : vw_C} {fs : List Value} (hc : vwCl[ci]? = some k) (hkC : k.1 = C) (he : wc[q0]? = some (b, .inr (ci, fs)))
    (hn : As.length = n) (hst : st = As.reverse ++ .ref b :: rest) (hcat : (rest.map fun v => v.category).sum ≤ 8) (hd : decode cc pc = .ok (.invokevirtual index, 3)) (kk : V p l e R s m args below meth c E nL A Q ws' lv (pc + 3) rest) : V p l e R s m args below meth c E nL A Q ws lv pc st := by
  intro H locs ls hP hD hS h
  subst hs; subst hs'; subst hkC
  refine va_callv (va_runV (As := As) (rest := rest) ⟨hX.1, hX.2.1, hX.2.2.1, hX.2.2.2.1, hX.2.2.2.2.1⟩ (hM H.size) cw ⟨blind_mPc _ _ _ _, va_recv hX.2.2.2.2.2.1 (vP_mid hP) hc he, preW hX hP hD⟩ rfl hn h.1 hst (lv_room hcat) hd ⟨Nat.zero_le _, Nat.zero_le _⟩) hS (fun q _ h => vA_mid hD hS hX.2.2.2.2.2.2.1 q h) (vA_mid hD hS hX.2.2.2.2.2.2.1) (fun u t H1 locs1 ht hvm hw hB hz1 hk1 hS1 => ?_)
  rw [ht] at hB
  obtain ⟨hP1, hD1⟩ := jn hP hD hk1 hB ha
  exact kk H1 locs1 ls hP1 hD1 hS1 h
theorem v_callSi (hX : Xc p s m args meth c E nL A cc own Ts) (hM : ∀ sz, Met l y wsy rm (mPc E As sz wc) (mQi E r wc wc' sz) 0 0 (va_A wc sz)) (cw : CallB R s args own index y bytes maxL ret wsy rm 0 0 n ∧ (Cond.static y).before args s = true)
    (pre post : va_W) (hs : ws = pre ++ (wc ++ post)) (hs' : pre ++ (wc' ++ post) = ws') (ha : wc'.map Prod.fst = wc.map Prod.fst)
    (hn : As.length = n) (hst : st = As.reverse ++ rest) (hcat : (rest.map fun v => v.category).sum ≤ 8) (hd : decode cc pc = .ok (.invokestatic index, 3)) (kk : V p l e R s m args below meth c E nL A Q ws' lv (pc + 3) (.int r :: rest)) : V p l e R s m args below meth c E nL A Q ws lv pc st := by
  intro H locs ls hP hD hS h
  subst hs; subst hs'
  refine va_calli (va_runS (As := As) (rest := rest) ⟨hX.1, hX.2.1, hX.2.2.1, hX.2.2.2.1, hX.2.2.2.2.1⟩ (hM H.size) cw ⟨blind_mPc _ _ _ _, preW hX hP hD⟩ rfl hn h.1 hst (lv_room hcat) hd ⟨Nat.zero_le _, Nat.zero_le _⟩) hS (fun q _ h => vA_mid hD hS hX.2.2.2.2.2.2.1 q h) (vA_mid hD hS hX.2.2.2.2.2.2.1) (fun r1 u t H1 locs1 ht hvm hw hB hz1 hk1 hS1 => ?_)
  subst hw
  rw [ht] at hB
  obtain ⟨hP1, hD1⟩ := jn hP hD hk1 hB ha
  exact kk H1 locs1 ls hP1 hD1 hS1 h
theorem v_callSNi (hX : Xc p s m args meth c E nL A cc own Ts) (hM : ∀ sz, Met l y wsy rm (mPc E As sz wc) (mQi E r wc wc' sz) 0 0 (va_A wc sz)) (cw : va_CN R s args own index y host bytes maxL ret wsy rm 0 0 n ∧ (Cond.static y).before args s = true ∧ True)
    (pre post : va_W) (hs : ws = pre ++ (wc ++ post)) (hs' : pre ++ (wc' ++ post) = ws') (ha : wc'.map Prod.fst = wc.map Prod.fst)
    (hn : As.length = n) (hst : st = As.reverse ++ rest) (hcat : (rest.map fun v => v.category).sum ≤ 8) (hd : decode cc pc = .ok (.invokestatic index, 3)) (kk : V p l e R s m args below meth c E nL A Q ws' lv (pc + 3) (.int r :: rest)) : V p l e R s m args below meth c E nL A Q ws lv pc st := by
  intro H locs ls hP hD hS h
  subst hs; subst hs'
  refine va_calli (va_runSN (As := As) (rest := rest) ⟨hX.1, hX.2.1, hX.2.2.1, hX.2.2.2.1, hX.2.2.2.2.1⟩ (hM H.size) cw ⟨blind_mPc _ _ _ _, preW hX hP hD⟩ rfl hn h.1 hst (lv_room hcat) hd ⟨Nat.zero_le _, Nat.zero_le _⟩) hS (fun q _ h => vA_mid hD hS hX.2.2.2.2.2.2.1 q h) (vA_mid hD hS hX.2.2.2.2.2.2.1) (fun r1 u t H1 locs1 ht hvm hw hB hz1 hk1 hS1 => ?_)
  subst hw
  rw [ht] at hB
  obtain ⟨hP1, hD1⟩ := jn hP hD hk1 hB ha
  exact kk H1 locs1 ls hP1 hD1 hS1 h
theorem vD_perm {A : Nat → Prop} {w1 w2 : va_W} (hD : va_D A w1) (hp : w1.Perm w2) : va_D A w2 := by
  have n1 : (w1.map Prod.fst).Nodup := by
    refine List.pairwise_iff_getElem.mpr ?_
    intro i j h1 h2 hij h
    rw [List.length_map] at h1 h2
    rw [List.getElem_map, List.getElem_map] at h
    have := hD.1 i j w1[i] w1[j] (List.getElem?_eq_getElem h1) (List.getElem?_eq_getElem h2) h
    omega
  have n2 : (w2.map Prod.fst).Nodup := (hp.map Prod.fst).nodup_iff.mp n1
  have n3 := List.pairwise_iff_getElem.mp n2
  have n4 : ∀ (i j : Nat) (x z : Nat × va_E), w2[i]? = some x → w2[j]? = some z → i < j → x.1 ≠ z.1 := by
    intro i j x z hi hj hij h
    obtain ⟨l1, e1⟩ := List.getElem?_eq_some_iff.mp hi
    obtain ⟨l2, e2⟩ := List.getElem?_eq_some_iff.mp hj
    refine n3 i j (by rw [List.length_map]; exact l1) (by rw [List.length_map]; exact l2) hij ?_
    rw [List.getElem_map, List.getElem_map, e1, e2]
    exact h
  refine ⟨fun i j x z hi hj hxz => ?_, fun k q hk => ?_⟩
  · rcases Nat.lt_trichotomy i j with h | h | h
    · exact absurd hxz (n4 i j x z hi hj h)
    · exact h
    · exact absurd hxz.symm (n4 j i z x hj hi h)
  · have hm := hp.symm.subset (List.mem_of_getElem? hk)
    obtain ⟨i, hi⟩ := List.getElem?_of_mem hm
    exact hD.2 i q hi
theorem vP_perm {D : va_G} {cl : List vw_C} {w1 w2 : va_W} {H : Heap} (hP : va_P D cl w1 H) (hp : w1.Perm w2) : va_P D cl w2 H := by
  intro k q hk
  have hm := hp.symm.subset (List.mem_of_getElem? hk)
  obtain ⟨i, hi⟩ := List.getElem?_of_mem hm
  exact hP i q hi
theorem v_perm {w2 : va_W} (hp : ws.Perm w2) (k : V p l e R s m args below meth c E nL A Q w2 lv pc st) : V p l e R s m args below meth c E nL A Q ws lv pc st :=
  fun H locs ls hP hD hS h => k H locs ls (vP_perm hP hp) (vD_perm hD hp) hS h
/-- worlds whose cells are the same cells -/
def wEq (w1 w2 : va_W) : Prop := w1.map (fun q => (q.1, match q.2 with | .inl a => (Sum.inl (vp_cell a.1 a.2) : Cell ⊕ (Nat × List Value)) | .inr o => Sum.inr o)) = w2.map (fun q => (q.1, match q.2 with | .inl a => (Sum.inl (vp_cell a.1 a.2) : Cell ⊕ (Nat × List Value)) | .inr o => Sum.inr o))
theorem wEq_at {w1 w2 : va_W} (h : wEq w1 w2) {k : Nat} {q : Nat × va_E} (hk : w2[k]? = some q) : ∃ q0, w1[k]? = some q0 ∧ q0.1 = q.1 ∧ ∀ (D : va_G) (cl : List vw_C) (H : Heap), va_at D cl q0 H → va_at D cl q H := by
  have h1 := congrArg (fun w => w[k]?) h
  simp only [List.getElem?_map, hk] at h1
  cases hw : w1[k]? with
  | none => rw [hw] at h1; cases h1
  | some q0 =>
    rw [hw] at h1
    refine ⟨q0, rfl, ?_, ?_⟩
    · have := congrArg Prod.fst (Option.some.inj h1)
      exact this
    · intro D cl H ha
      obtain ⟨a0, e0⟩ := q0
      obtain ⟨a1, e1⟩ := q
      have e := Option.some.inj h1
      cases e0 <;> cases e1 <;> simp only [Prod.mk.injEq, Sum.inl.injEq, Sum.inr.injEq, reduceCtorEq, and_false] at e
      · obtain ⟨rfl, e⟩ := e
        show H[_]? = some _
        rw [← e]; exact ha
      · obtain ⟨rfl, rfl⟩ := e
        exact ha
theorem wEq_P {w1 w2 : va_W} (h : wEq w1 w2) {D : va_G} {cl : List vw_C} {H : Heap} (hP : va_P D cl w1 H) : va_P D cl w2 H := by
  intro k q hk
  obtain ⟨q0, h1, -, h3⟩ := wEq_at h hk
  exact h3 D cl H (hP k q0 h1)
theorem wEq_D {w1 w2 : va_W} (h : wEq w1 w2) {A : Nat → Prop} (hD : va_D A w1) : va_D A w2 := by
  refine ⟨fun i j x z hi hj hxz => ?_, fun k q hk => ?_⟩
  · obtain ⟨x0, h1, h2, -⟩ := wEq_at h hi
    obtain ⟨y0, h3, h4, -⟩ := wEq_at h hj
    exact hD.1 i j x0 y0 h1 h3 (h2.trans (hxz.trans h4.symm))
  · obtain ⟨q0, h1, h2, -⟩ := wEq_at h hk
    rw [← h2]
    exact hD.2 k q0 h1
theorem v_weq {w2 : va_W} (hp : wEq ws w2) (k : V p l e R s m args below meth c E nL A Q w2 lv pc st) : V p l e R s m args below meth c E nL A Q ws lv pc st :=
  fun H locs ls hP hD hS h => k H locs ls (wEq_P hp hP) (wEq_D hp hD) hS h
theorem cell_congr {c : ClassId} {n : Nat} {f g : Nat → Int32} (h : ∀ j, j < n → f j = g j) : vp_cell c (n, .inl f) = vp_cell c (n, .inl g) := by
  have e : (Array.ofFn (n := n) fun j => Value.int (f j.val)) = Array.ofFn (n := n) fun j => Value.int (g j.val) := by
    congr 1
    funext j
    rw [h j.val j.isLt]
  show arrV c n (fun j => .int (f j)) = arrV c n (fun j => .int (g j))
  simp only [arrV, e]
end VC
end
section
/-! ===== the state in words: values of a filter, a core, a machine; their worlds ===== -/
def bI (b : Bool) : Int32 := if b = true then 1 else 0
def encL (x : Option (Fin 256)) : Int32 := match x with
  | none => -1
  | some n => nI n.val
theorem bI_0 {b : Bool} : bI b = 0 ↔ b = false := by cases b <;> decide
theorem bI_n0 {b : Bool} : ¬ bI b = 0 ↔ b = true := by cases b <;> decide
theorem bI_nar (b : Bool) : vp_nar .boolean (bI b) = bI b := by cases b <;> decide
theorem bI_narrow (b : Bool) : narrow .boolean (.int (bI b)) = .int (bI b) := by cases b <;> decide
theorem bI_fits (b : Bool) : fits .boolean (.int (bI b)) = true := by cases b <;> decide
theorem bI_st (s : Nat → Bool) (k : Nat) (b : Bool) : upd (fun j => bI (s j)) k (vp_nar .boolean (bI b)) = fun j => bI (va_up s k b j) := by
  funext j
  rw [bI_nar]
  by_cases h : j = k <;> simp [upd, va_up, h]
theorem nI_m1 {n : Nat} (h : n < 2 ^ 31) : ¬ nI n = -1 := by
  intro q
  have a := nI_toInt h
  rw [q] at a
  exact absurd a (by rw [show (-1 : Int32).toInt = -1 from by decide]; omega)
theorem encL_m1 {x : Option (Fin 256)} : encL x = -1 ↔ x = none := by
  cases x with
  | none => simp [encL]
  | some n => simp only [encL, reduceCtorEq, iff_false]; exact nI_m1 (by have := n.isLt; omega)
theorem encL_ex {x : Option (Fin 256)} (h : ¬ encL x = -1) : ∃ n : Fin 256, x = some n := by
  cases x with
  | none => exact absurd rfl h
  | some n => exact ⟨n, rfl⟩
theorem encL_eq {x : Option (Fin 256)} {n : Fin 256} : encL x = nI n.val ↔ x = some n := by
  have hn := n.isLt
  cases x with
  | none => simp only [encL, reduceCtorEq, iff_false]; exact fun q => nI_m1 (n := n.val) (by omega) q.symm
  | some k =>
    have hk := k.isLt
    simp only [encL, Option.some.injEq]
    rw [nI_eq (by omega) (by omega)]
    exact Fin.val_inj
theorem encL_st (s : Nat → Option (Fin 256)) (k : Nat) (x : Option (Fin 256)) : upd (fun j => encL (s j)) k (encL x) = fun j => encL (va_up s k x j) := by
  funext j
  by_cases h : j = k <;> simp [upd, va_up, h]
theorem cl {α : Type} {k : Nat} (h : k < 2 ^ 31) (f : Nat → α) : f (nI k).toNatClampNeg = f k := by rw [nI_clamp h]
theorem rem_c (a c : Nat) (ha : a < 2 ^ 31) (h0 : 0 < c) (hc : c < 2 ^ 31) : nI a - nI a / nI c * nI c = nI (a % c) := pk_rem ha h0 hc
theorem div_c (a c : Nat) (ha : a < 2 ^ 31) (h0 : 0 < c) (hc : c < 2 ^ 31) : nI a / nI c = nI (a / c) := pk_div ha h0 hc
theorem nI_inc (n : Nat) : nI n + Int32.ofInt 1 = nI (n + 1) := nI_1 n
def it {σ : Type} (f : Nat → σ → σ) : Nat → σ → σ
  | 0, x => x
  | n + 1, x => f n (it f n x)
abbrev FV : Type := (Nat → Int32) × (Nat → Bool) × (Nat → Bool)
abbrev KV : Type := (Nat → Option (Fin 256)) × (Nat → Int32) × (Nat → Bool) × (Nat → Int32) × FV
abbrev MV : Type := (Nat → Int32) × (Nat → KV) × Int32 × Int32 × Int32 × Int32
def wF (E : ET) (a : Nat → Nat) (v : FV) : va_W := [(a 0, .inr (1, [.ref (a 1), .ref (a 2), .ref (a 3)])), (a 1, .inl (E.2 0, 24, .inl v.1)), (a 2, .inl (E.2 1, 24, .inl (fun j => bI (v.2.1 j)))), (a 3, .inl (E.2 1, 16, .inl (fun j => bI (v.2.2 j))))]
def w5 (E : ET) (a : Nat → Nat) (v : KV) : va_W := [(a 0, .inr (0, [.ref (a 1), .ref (a 2), .ref (a 3), .ref (a 4), .ref (a 5)])), (a 1, .inl (E.2 0, 8, .inl (fun j => encL (v.1 j)))), (a 2, .inl (E.2 0, 8, .inl v.2.1)), (a 3, .inl (E.2 1, 8, .inl (fun j => bI (v.2.2.1 j)))), (a 4, .inl (E.2 0, 6, .inl v.2.2.2.1))]
abbrev fA (a : Nat → Nat) : Nat → Nat := fun j => a (5 + j)
def wK (E : ET) (a : Nat → Nat) (v : KV) : va_W := w5 E a v ++ (wF E (fA a) v.2.2.2.2 ++ [])
abbrev kA (a : Nat → Nat) (i : Nat) : Nat → Nat := fun j => a (3 + 9 * i + j)
def w3 (E : ET) (a : Nat → Nat) (v : MV) : va_W := [(a 0, .inr (3, [.ref (a 1), .ref (a 2), .int v.2.2.1, .int v.2.2.2.1, .int v.2.2.2.2.1, .int v.2.2.2.2.2])), (a 1, .inl (E.2 0, 256, .inl v.1)), (a 2, .inl (E.2 3, 4, .inr (.inr (.inr (.inr (fun j => some (a (3 + 9 * j))))))))]
def wM (E : ET) (a : Nat → Nat) (v : MV) : va_W := w3 E a v ++ (wK E (kA a 0) (v.2.1 0) ++ (wK E (kA a 1) (v.2.1 1) ++ (wK E (kA a 2) (v.2.1 2) ++ wK E (kA a 3) (v.2.1 3))))
-- setters
def F_setC (v : FV) (k : Nat) (x : Int32) : FV := (upd v.1 k x, v.2.1, v.2.2)
def F_setS (v : FV) (k : Nat) (b : Bool) : FV := (v.1, va_up v.2.1 k b, v.2.2)
def F_setB (v : FV) (k : Nat) (b : Bool) : FV := (v.1, v.2.1, va_up v.2.2 k b)
def K_setL (v : KV) (k : Nat) (x : Option (Fin 256)) : KV := (va_up v.1 k x, v.2.1, v.2.2.1, v.2.2.2.1, v.2.2.2.2)
def K_setV (v : KV) (k : Nat) (x : Int32) : KV := (v.1, upd v.2.1 k x, v.2.2.1, v.2.2.2.1, v.2.2.2.2)
def K_setD (v : KV) (k : Nat) (b : Bool) : KV := (v.1, v.2.1, va_up v.2.2.1 k b, v.2.2.2.1, v.2.2.2.2)
def K_setT (v : KV) (k : Nat) (x : Int32) : KV := (v.1, v.2.1, v.2.2.1, upd v.2.2.2.1 k x, v.2.2.2.2)
def K_setF (v : KV) (f : FV) : KV := (v.1, v.2.1, v.2.2.1, v.2.2.2.1, f)
def M_setMem (v : MV) (k : Nat) (x : Int32) : MV := (upd v.1 k x, v.2.1, v.2.2.1, v.2.2.2.1, v.2.2.2.2.1, v.2.2.2.2.2)
def M_setK (v : MV) (i : Nat) (k : KV) : MV := (v.1, va_up v.2.1 i k, v.2.2.1, v.2.2.2.1, v.2.2.2.2.1, v.2.2.2.2.2)
def M_setLim (v : MV) (x : Int32) : MV := (v.1, v.2.1, x, v.2.2.2.1, v.2.2.2.2.1, v.2.2.2.2.2)
def M_setFull (v : MV) (x : Int32) : MV := (v.1, v.2.1, v.2.2.1, x, v.2.2.2.2.1, v.2.2.2.2.2)
def M_setBack (v : MV) (x : Int32) : MV := (v.1, v.2.1, v.2.2.1, v.2.2.2.1, x, v.2.2.2.2.2)
def M_setWr (v : MV) (x : Int32) : MV := (v.1, v.2.1, v.2.2.1, v.2.2.2.1, v.2.2.2.2.1, x)
-- what a store into a row makes of the world
theorem sF_C (E : ET) (a : Nat → Nat) (v : FV) {k : Nat} (hk : k < 2 ^ 31) (x : Int32) : (wF E a v).set 1 (a 1, .inl (E.2 0, 24, .inl (upd v.1 (nI k).toNatClampNeg x))) = wF E a (F_setC v k x) := by rw [nI_clamp hk]; rfl
theorem sF_S (E : ET) (a : Nat → Nat) (v : FV) {k : Nat} (hk : k < 2 ^ 31) (b : Bool) : (wF E a v).set 2 (a 2, .inl (E.2 1, 24, .inl (upd (fun j => bI (v.2.1 j)) (nI k).toNatClampNeg (vp_nar .boolean (bI b))))) = wF E a (F_setS v k b) := by rw [nI_clamp hk, bI_st]; rfl
theorem sF_B (E : ET) (a : Nat → Nat) (v : FV) {k : Nat} (hk : k < 2 ^ 31) (b : Bool) : (wF E a v).set 3 (a 3, .inl (E.2 1, 16, .inl (upd (fun j => bI (v.2.2 j)) (nI k).toNatClampNeg (vp_nar .boolean (bI b))))) = wF E a (F_setB v k b) := by rw [nI_clamp hk, bI_st]; rfl
theorem sK_L (E : ET) (a : Nat → Nat) (v : KV) {k : Nat} (hk : k < 2 ^ 31) (x : Option (Fin 256)) : (wK E a v).set 1 (a 1, .inl (E.2 0, 8, .inl (upd (fun j => encL (v.1 j)) (nI k).toNatClampNeg (encL x)))) = wK E a (K_setL v k x) := by rw [nI_clamp hk, encL_st]; rfl
theorem sK_V (E : ET) (a : Nat → Nat) (v : KV) {k : Nat} (hk : k < 2 ^ 31) (x : Int32) : (wK E a v).set 2 (a 2, .inl (E.2 0, 8, .inl (upd v.2.1 (nI k).toNatClampNeg x))) = wK E a (K_setV v k x) := by rw [nI_clamp hk]; rfl
theorem sK_D (E : ET) (a : Nat → Nat) (v : KV) {k : Nat} (hk : k < 2 ^ 31) (b : Bool) : (wK E a v).set 3 (a 3, .inl (E.2 1, 8, .inl (upd (fun j => bI (v.2.2.1 j)) (nI k).toNatClampNeg (vp_nar .boolean (bI b))))) = wK E a (K_setD v k b) := by rw [nI_clamp hk, bI_st]; rfl
theorem sK_T (E : ET) (a : Nat → Nat) (v : KV) {k : Nat} (hk : k < 2 ^ 31) (x : Int32) : (wK E a v).set 4 (a 4, .inl (E.2 0, 6, .inl (upd v.2.2.2.1 (nI k).toNatClampNeg x))) = wK E a (K_setT v k x) := by rw [nI_clamp hk]; rfl
theorem four {P : Nat → Prop} (h0 : P 0) (h1 : P 1) (h2 : P 2) (h3 : P 3) {i : Nat} (h : i < 4) : P i := by
  match i, h with
  | 0, _ => exact h0
  | 1, _ => exact h1
  | 2, _ => exact h2
  | 3, _ => exact h3
-- a machine's world, cut at the core i
def mPre (E : ET) (a : Nat → Nat) (v : MV) (i : Nat) : va_W := w3 E a v ++ (match i with
  | 0 => []
  | 1 => wK E (kA a 0) (v.2.1 0)
  | 2 => wK E (kA a 0) (v.2.1 0) ++ wK E (kA a 1) (v.2.1 1)
  | _ => wK E (kA a 0) (v.2.1 0) ++ (wK E (kA a 1) (v.2.1 1) ++ wK E (kA a 2) (v.2.1 2)))
def mPost (E : ET) (a : Nat → Nat) (v : MV) (i : Nat) : va_W := match i with
  | 0 => wK E (kA a 1) (v.2.1 1) ++ (wK E (kA a 2) (v.2.1 2) ++ wK E (kA a 3) (v.2.1 3))
  | 1 => wK E (kA a 2) (v.2.1 2) ++ wK E (kA a 3) (v.2.1 3)
  | 2 => wK E (kA a 3) (v.2.1 3)
  | _ => []
theorem wM_cut (E : ET) (a : Nat → Nat) (v : MV) {i : Nat} (hi : i < 4) : wM E a v = mPre E a v i ++ (wK E (kA a i) (v.2.1 i) ++ mPost E a v i) := by
  refine four (P := fun i => wM E a v = mPre E a v i ++ (wK E (kA a i) (v.2.1 i) ++ mPost E a v i)) ?_ ?_ ?_ ?_ hi <;> simp [wM, mPre, mPost]
theorem wM_put (E : ET) (a : Nat → Nat) (v : MV) {i : Nat} (hi : i < 4) (k : KV) : mPre E a v i ++ (wK E (kA a i) k ++ mPost E a v i) = wM E a (M_setK v i k) := by
  refine four (P := fun i => mPre E a v i ++ (wK E (kA a i) k ++ mPost E a v i) = wM E a (M_setK v i k)) ?_ ?_ ?_ ?_ hi <;> simp [wM, mPre, mPost, M_setK, w3, va_up]
def fPre (E : ET) (a : Nat → Nat) (v : MV) (i : Nat) : va_W := mPre E a v i ++ w5 E (kA a i) (v.2.1 i)
theorem wM_cutF (E : ET) (a : Nat → Nat) (v : MV) {i : Nat} (hi : i < 4) : wM E a v = fPre E a v i ++ (wF E (fA (kA a i)) (v.2.1 i).2.2.2.2 ++ mPost E a v i) := by
  rw [wM_cut E a v hi, fPre, wK]; simp
theorem wM_putF (E : ET) (a : Nat → Nat) (v : MV) {i : Nat} (hi : i < 4) (f : FV) : fPre E a v i ++ (wF E (fA (kA a i)) f ++ mPost E a v i) = wM E a (M_setK v i (K_setF (v.2.1 i) f)) := by
  rw [← wM_put E a v hi, fPre, wK]; simp [w5, K_setF]
theorem wF_fst (E : ET) (a : Nat → Nat) (v w : FV) : (wF E a v).map Prod.fst = (wF E a w).map Prod.fst := rfl
theorem wK_fst (E : ET) (a : Nat → Nat) (v w : KV) : (wK E a v).map Prod.fst = (wK E a w).map Prod.fst := rfl
theorem wM_fst (E : ET) (a : Nat → Nat) (v w : MV) : (wM E a v).map Prod.fst = (wM E a w).map Prod.fst := rfl
-- the cells of the core i in a machine's world
theorem mAt (E : ET) (a : Nat → Nat) (v : MV) {i : Nat} (hi : i < 4) (j : Nat) {q : Nat × va_E} (h : (wK E (kA a i) (v.2.1 i))[j]? = some q) : (wM E a v)[3 + 9 * i + j]? = some q := by
  have hl : j < 9 := (List.getElem?_eq_some_iff.mp h).1
  rw [wM_cut E a v hi]
  have hp : (mPre E a v i).length = 3 + 9 * i := by refine four (P := fun i => (mPre E a v i).length = 3 + 9 * i) rfl rfl rfl rfl hi
  rw [List.getElem?_append_right (by omega), hp, Nat.add_sub_cancel_left, List.getElem?_append_left hl]
  exact h
theorem mSt (E : ET) (a : Nat → Nat) (v : MV) {i : Nat} (hi : i < 4) (j : Nat) {q : Nat × va_E} {k : KV} (hj : j < 9) (h : (wK E (kA a i) (v.2.1 i)).set j q = wK E (kA a i) k) : (wM E a v).set (3 + 9 * i + j) q = wM E a (M_setK v i k) := by
  have hp : (mPre E a v i).length = 3 + 9 * i := by refine four (P := fun i => (mPre E a v i).length = 3 + 9 * i) rfl rfl rfl rfl hi
  have hl : (wK E (kA a i) (v.2.1 i)).length = 9 := rfl
  rw [wM_cut E a v hi, ← wM_put E a v hi, List.set_append_right _ _ (by omega), hp, Nat.add_sub_cancel_left, List.set_append_left _ _ (by omega), h]
theorem sM_mem (E : ET) (a : Nat → Nat) (v : MV) {k : Nat} (hk : k < 2 ^ 31) (x : Int32) : (wM E a v).set 1 (a 1, .inl (E.2 0, 256, .inl (upd v.1 (nI k).toNatClampNeg x))) = wM E a (M_setMem v k x) := by rw [nI_clamp hk]; rfl
end
section
set_option maxRecDepth 20000 in
theorem ggX0_init_X1_init : GoodIn wsX0_init wsX1_init := goodIn_r _ [15, 16, 2, 3, 4, 17, 7, 18, 19, 25, 26, 27] (by decide +kernel) (by decide +kernel)
set_option maxRecDepth 20000 in
theorem gX0_init_X1_init_n27 : GoodIn wsX0_init (wsX1_init) := ggX0_init_X1_init
theorem dX0_init_0 : decode cX0_init 0 = .ok (.aload_n 0, 1) := by decide +kernel
theorem dX0_init_1 : decode cX0_init 1 = .ok (.invokespecial 3, 3) := by decide +kernel
theorem dX0_init_4 : decode cX0_init 4 = .ok (.aload_n 0, 1) := by decide +kernel
theorem dX0_init_5 : decode cX0_init 5 = .ok (.bipush 8, 2) := by decide +kernel
theorem dX0_init_7 : decode cX0_init 7 = .ok (.newarray .int, 2) := by decide +kernel
theorem dX0_init_9 : decode cX0_init 9 = .ok (.putfield 9, 3) := by decide +kernel
theorem dX0_init_12 : decode cX0_init 12 = .ok (.aload_n 0, 1) := by decide +kernel
theorem dX0_init_13 : decode cX0_init 13 = .ok (.bipush 8, 2) := by decide +kernel
theorem dX0_init_15 : decode cX0_init 15 = .ok (.newarray .int, 2) := by decide +kernel
theorem dX0_init_17 : decode cX0_init 17 = .ok (.putfield 15, 3) := by decide +kernel
theorem dX0_init_20 : decode cX0_init 20 = .ok (.aload_n 0, 1) := by decide +kernel
theorem dX0_init_21 : decode cX0_init 21 = .ok (.bipush 8, 2) := by decide +kernel
theorem dX0_init_23 : decode cX0_init 23 = .ok (.newarray .boolean, 2) := by decide +kernel
theorem dX0_init_25 : decode cX0_init 25 = .ok (.putfield 18, 3) := by decide +kernel
theorem dX0_init_28 : decode cX0_init 28 = .ok (.aload_n 0, 1) := by decide +kernel
theorem dX0_init_29 : decode cX0_init 29 = .ok (.bipush 6, 2) := by decide +kernel
theorem dX0_init_31 : decode cX0_init 31 = .ok (.newarray .int, 2) := by decide +kernel
theorem dX0_init_33 : decode cX0_init 33 = .ok (.putfield 22, 3) := by decide +kernel
theorem dX0_init_36 : decode cX0_init 36 = .ok (.aload_n 0, 1) := by decide +kernel
theorem dX0_init_37 : decode cX0_init 37 = .ok (.new 25, 3) := by decide +kernel
theorem dX0_init_40 : decode cX0_init 40 = .ok (.dup, 1) := by decide +kernel
theorem dX0_init_41 : decode cX0_init 41 = .ok (.invokespecial 27, 3) := by decide +kernel
theorem dX0_init_44 : decode cX0_init 44 = .ok (.putfield 28, 3) := by decide +kernel
theorem dX0_init_47 : decode cX0_init 47 = .ok (.iconst 0, 1) := by decide +kernel
theorem dX0_init_48 : decode cX0_init 48 = .ok (.istore_n 1, 1) := by decide +kernel
theorem dX0_init_49 : decode cX0_init 49 = .ok (.iload_n 1, 1) := by decide +kernel
theorem dX0_init_50 : decode cX0_init 50 = .ok (.bipush 8, 2) := by decide +kernel
theorem dX0_init_52 : decode cX0_init 52 = .ok (.if_icmp .ge 16, 3) := by decide +kernel
theorem dX0_init_55 : decode cX0_init 55 = .ok (.aload_n 0, 1) := by decide +kernel
theorem dX0_init_56 : decode cX0_init 56 = .ok (.getfield 9, 3) := by decide +kernel
theorem dX0_init_59 : decode cX0_init 59 = .ok (.iload_n 1, 1) := by decide +kernel
theorem dX0_init_60 : decode cX0_init 60 = .ok (.iconst (-1), 1) := by decide +kernel
theorem dX0_init_61 : decode cX0_init 61 = .ok (.iastore, 1) := by decide +kernel
theorem dX0_init_62 : decode cX0_init 62 = .ok (.iinc 1 1, 3) := by decide +kernel
theorem dX0_init_65 : decode cX0_init 65 = .ok (.goto (-16), 3) := by decide +kernel
theorem dX0_init_68 : decode cX0_init 68 = .ok (.return_, 1) := by decide +kernel
theorem dX0_placeOf_0 : decode cX0_placeOf 0 = .ok (.iload_n 0, 1) := by decide +kernel
theorem dX0_placeOf_1 : decode cX0_placeOf 1 = .ok (.bipush 8, 2) := by decide +kernel
theorem dX0_placeOf_3 : decode cX0_placeOf 3 = .ok (.irem, 1) := by decide +kernel
theorem dX0_placeOf_4 : decode cX0_placeOf 4 = .ok (.ireturn, 1) := by decide +kernel
set_option maxRecDepth 20000 in
theorem ggX0_holds_X0_placeOf : GoodIn wsX0_holds wsX0_placeOf := goodIn_r _ [5] (by decide +kernel) (by decide +kernel)
set_option maxRecDepth 20000 in
theorem gX0_holds_X0_placeOf : GoodIn wsX0_holds (va_wsS RX0 32 yX0_placeOf wsX0_placeOf) := goodIn_app (goodIn_of _ (by decide +kernel)) ggX0_holds_X0_placeOf
theorem dX0_holds_0 : decode cX0_holds 0 = .ok (.aload_n 0, 1) := by decide +kernel
theorem dX0_holds_1 : decode cX0_holds 1 = .ok (.getfield 9, 3) := by decide +kernel
theorem dX0_holds_4 : decode cX0_holds 4 = .ok (.iload_n 1, 1) := by decide +kernel
theorem dX0_holds_5 : decode cX0_holds 5 = .ok (.invokestatic 32, 3) := by decide +kernel
theorem dX0_holds_8 : decode cX0_holds 8 = .ok (.iaload, 1) := by decide +kernel
theorem dX0_holds_9 : decode cX0_holds 9 = .ok (.iload_n 1, 1) := by decide +kernel
theorem dX0_holds_10 : decode cX0_holds 10 = .ok (.if_icmp .ne 7, 3) := by decide +kernel
theorem dX0_holds_13 : decode cX0_holds 13 = .ok (.iconst 1, 1) := by decide +kernel
theorem dX0_holds_14 : decode cX0_holds 14 = .ok (.goto 4, 3) := by decide +kernel
theorem dX0_holds_17 : decode cX0_holds 17 = .ok (.iconst 0, 1) := by decide +kernel
theorem dX0_holds_18 : decode cX0_holds 18 = .ok (.ireturn, 1) := by decide +kernel
set_option maxRecDepth 20000 in
theorem ggX0_holdsDirty_X0_holds : GoodIn wsX0_holdsDirty wsX0_holds := goodIn_r _ [6, 7, 8, 9, 5, 10, 11, 12, 13, 14, 15] (by decide +kernel) (by decide +kernel)
set_option maxRecDepth 20000 in
theorem gX0_holdsDirty_X0_holds : GoodIn wsX0_holdsDirty (wsV RX0 36 RX0 yX0_holds wsX0_holds) := goodIn_app (goodIn_of _ (by decide +kernel)) ggX0_holdsDirty_X0_holds
set_option maxRecDepth 20000 in
theorem ggX0_holdsDirty_X0_placeOf : GoodIn wsX0_holdsDirty wsX0_placeOf := goodIn_r _ [10] (by decide +kernel) (by decide +kernel)
set_option maxRecDepth 20000 in
theorem gX0_holdsDirty_X0_placeOf : GoodIn wsX0_holdsDirty (va_wsS RX0 32 yX0_placeOf wsX0_placeOf) := goodIn_app (goodIn_of _ (by decide +kernel)) ggX0_holdsDirty_X0_placeOf
theorem dX0_holdsDirty_0 : decode cX0_holdsDirty 0 = .ok (.aload_n 0, 1) := by decide +kernel
theorem dX0_holdsDirty_1 : decode cX0_holdsDirty 1 = .ok (.iload_n 1, 1) := by decide +kernel
theorem dX0_holdsDirty_2 : decode cX0_holdsDirty 2 = .ok (.invokevirtual 36, 3) := by decide +kernel
theorem dX0_holdsDirty_5 : decode cX0_holdsDirty 5 = .ok (.ifCond .eq 19, 3) := by decide +kernel
theorem dX0_holdsDirty_8 : decode cX0_holdsDirty 8 = .ok (.aload_n 0, 1) := by decide +kernel
theorem dX0_holdsDirty_9 : decode cX0_holdsDirty 9 = .ok (.getfield 18, 3) := by decide +kernel
theorem dX0_holdsDirty_12 : decode cX0_holdsDirty 12 = .ok (.iload_n 1, 1) := by decide +kernel
theorem dX0_holdsDirty_13 : decode cX0_holdsDirty 13 = .ok (.invokestatic 32, 3) := by decide +kernel
theorem dX0_holdsDirty_16 : decode cX0_holdsDirty 16 = .ok (.baload, 1) := by decide +kernel
theorem dX0_holdsDirty_17 : decode cX0_holdsDirty 17 = .ok (.ifCond .eq 7, 3) := by decide +kernel
theorem dX0_holdsDirty_20 : decode cX0_holdsDirty 20 = .ok (.iconst 1, 1) := by decide +kernel
theorem dX0_holdsDirty_21 : decode cX0_holdsDirty 21 = .ok (.goto 4, 3) := by decide +kernel
theorem dX0_holdsDirty_24 : decode cX0_holdsDirty 24 = .ok (.iconst 0, 1) := by decide +kernel
theorem dX0_holdsDirty_25 : decode cX0_holdsDirty 25 = .ok (.ireturn, 1) := by decide +kernel
set_option maxRecDepth 20000 in
theorem ggX0_fill_X0_placeOf : GoodIn wsX0_fill wsX0_placeOf := goodIn_r _ [7] (by decide +kernel) (by decide +kernel)
set_option maxRecDepth 20000 in
theorem gX0_fill_X0_placeOf : GoodIn wsX0_fill (va_wsS RX0 32 yX0_placeOf wsX0_placeOf) := goodIn_app (goodIn_of _ (by decide +kernel)) ggX0_fill_X0_placeOf
theorem dX0_fill_0 : decode cX0_fill 0 = .ok (.iload_n 1, 1) := by decide +kernel
theorem dX0_fill_1 : decode cX0_fill 1 = .ok (.invokestatic 32, 3) := by decide +kernel
theorem dX0_fill_4 : decode cX0_fill 4 = .ok (.istore 4, 2) := by decide +kernel
theorem dX0_fill_6 : decode cX0_fill 6 = .ok (.aload_n 0, 1) := by decide +kernel
theorem dX0_fill_7 : decode cX0_fill 7 = .ok (.getfield 9, 3) := by decide +kernel
theorem dX0_fill_10 : decode cX0_fill 10 = .ok (.iload 4, 2) := by decide +kernel
theorem dX0_fill_12 : decode cX0_fill 12 = .ok (.iload_n 1, 1) := by decide +kernel
theorem dX0_fill_13 : decode cX0_fill 13 = .ok (.iastore, 1) := by decide +kernel
theorem dX0_fill_14 : decode cX0_fill 14 = .ok (.aload_n 0, 1) := by decide +kernel
theorem dX0_fill_15 : decode cX0_fill 15 = .ok (.getfield 15, 3) := by decide +kernel
theorem dX0_fill_18 : decode cX0_fill 18 = .ok (.iload 4, 2) := by decide +kernel
theorem dX0_fill_20 : decode cX0_fill 20 = .ok (.iload_n 2, 1) := by decide +kernel
theorem dX0_fill_21 : decode cX0_fill 21 = .ok (.iastore, 1) := by decide +kernel
theorem dX0_fill_22 : decode cX0_fill 22 = .ok (.aload_n 0, 1) := by decide +kernel
theorem dX0_fill_23 : decode cX0_fill 23 = .ok (.getfield 18, 3) := by decide +kernel
theorem dX0_fill_26 : decode cX0_fill 26 = .ok (.iload 4, 2) := by decide +kernel
theorem dX0_fill_28 : decode cX0_fill 28 = .ok (.iload_n 3, 1) := by decide +kernel
theorem dX0_fill_29 : decode cX0_fill 29 = .ok (.bastore, 1) := by decide +kernel
theorem dX0_fill_30 : decode cX0_fill 30 = .ok (.return_, 1) := by decide +kernel
theorem dX0_empty_0 : decode cX0_empty 0 = .ok (.aload_n 0, 1) := by decide +kernel
theorem dX0_empty_1 : decode cX0_empty 1 = .ok (.getfield 9, 3) := by decide +kernel
theorem dX0_empty_4 : decode cX0_empty 4 = .ok (.iload_n 1, 1) := by decide +kernel
theorem dX0_empty_5 : decode cX0_empty 5 = .ok (.iconst (-1), 1) := by decide +kernel
theorem dX0_empty_6 : decode cX0_empty 6 = .ok (.iastore, 1) := by decide +kernel
theorem dX0_empty_7 : decode cX0_empty 7 = .ok (.aload_n 0, 1) := by decide +kernel
theorem dX0_empty_8 : decode cX0_empty 8 = .ok (.getfield 18, 3) := by decide +kernel
theorem dX0_empty_11 : decode cX0_empty 11 = .ok (.iload_n 1, 1) := by decide +kernel
theorem dX0_empty_12 : decode cX0_empty 12 = .ok (.iconst 0, 1) := by decide +kernel
theorem dX0_empty_13 : decode cX0_empty 13 = .ok (.bastore, 1) := by decide +kernel
theorem dX0_empty_14 : decode cX0_empty 14 = .ok (.return_, 1) := by decide +kernel
set_option maxRecDepth 20000 in
theorem ggX0_release_X1_remove : GoodIn wsX0_release wsX1_remove := goodIn_r _ [6, 7, 8, 5, 9, 10, 11, 12, 13, 14, 15, 16, 17, 18, 34, 35, 36] (by decide +kernel) (by decide +kernel)
set_option maxRecDepth 20000 in
theorem gX0_release_X1_remove : GoodIn wsX0_release (wsV RX0 40 RX1 yX1_remove wsX1_remove) := goodIn_app (goodIn_of _ (by decide +kernel)) ggX0_release_X1_remove
set_option maxRecDepth 20000 in
theorem ggX0_release_X0_placeOf : GoodIn wsX0_release wsX0_placeOf := goodIn_r _ [22] (by decide +kernel) (by decide +kernel)
set_option maxRecDepth 20000 in
theorem gX0_release_X0_placeOf : GoodIn wsX0_release (va_wsS RX0 32 yX0_placeOf wsX0_placeOf) := goodIn_app (goodIn_of _ (by decide +kernel)) ggX0_release_X0_placeOf
set_option maxRecDepth 20000 in
theorem ggX0_release_X0_empty : GoodIn wsX0_release wsX0_empty := goodIn_r _ [26, 27, 28, 29, 30, 31, 32, 33] (by decide +kernel) (by decide +kernel)
set_option maxRecDepth 20000 in
theorem gX0_release_X0_empty : GoodIn wsX0_release (wsV RX0 44 RX0 yX0_empty wsX0_empty) := goodIn_app (goodIn_of _ (by decide +kernel)) ggX0_release_X0_empty
theorem dX0_release_0 : decode cX0_release 0 = .ok (.aload_n 0, 1) := by decide +kernel
theorem dX0_release_1 : decode cX0_release 1 = .ok (.getfield 28, 3) := by decide +kernel
theorem dX0_release_4 : decode cX0_release 4 = .ok (.iload_n 1, 1) := by decide +kernel
theorem dX0_release_5 : decode cX0_release 5 = .ok (.invokevirtual 40, 3) := by decide +kernel
theorem dX0_release_8 : decode cX0_release 8 = .ok (.aload_n 0, 1) := by decide +kernel
theorem dX0_release_9 : decode cX0_release 9 = .ok (.iload_n 1, 1) := by decide +kernel
theorem dX0_release_10 : decode cX0_release 10 = .ok (.invokestatic 32, 3) := by decide +kernel
theorem dX0_release_13 : decode cX0_release 13 = .ok (.invokevirtual 44, 3) := by decide +kernel
theorem dX0_release_16 : decode cX0_release 16 = .ok (.return_, 1) := by decide +kernel
set_option maxRecDepth 20000 in
theorem ggX0_isReachedBySnoop_X1_mayHave : GoodIn wsX0_isReachedBySnoop wsX1_mayHave := goodIn_r _ [7, 8, 9, 10, 11, 6, 12, 13, 14, 15, 16, 17, 18, 19, 34, 35, 36] (by decide +kernel) (by decide +kernel)
set_option maxRecDepth 20000 in
theorem gX0_isReachedBySnoop_X1_mayHave : GoodIn wsX0_isReachedBySnoop (wsV RX0 47 RX1 yX1_mayHave wsX1_mayHave) := goodIn_app (goodIn_of _ (by decide +kernel)) ggX0_isReachedBySnoop_X1_mayHave
set_option maxRecDepth 20000 in
theorem ggX0_isReachedBySnoop_X0_holds : GoodIn wsX0_isReachedBySnoop wsX0_holds := goodIn_r _ [24, 25, 26, 27, 23, 28, 29, 30, 31, 32, 33] (by decide +kernel) (by decide +kernel)
set_option maxRecDepth 20000 in
theorem gX0_isReachedBySnoop_X0_holds : GoodIn wsX0_isReachedBySnoop (wsV RX0 36 RX0 yX0_holds wsX0_holds) := goodIn_app (goodIn_of _ (by decide +kernel)) ggX0_isReachedBySnoop_X0_holds
theorem dX0_isReachedBySnoop_0 : decode cX0_isReachedBySnoop 0 = .ok (.aload_n 0, 1) := by decide +kernel
theorem dX0_isReachedBySnoop_1 : decode cX0_isReachedBySnoop 1 = .ok (.getfield 28, 3) := by decide +kernel
theorem dX0_isReachedBySnoop_4 : decode cX0_isReachedBySnoop 4 = .ok (.iload_n 1, 1) := by decide +kernel
theorem dX0_isReachedBySnoop_5 : decode cX0_isReachedBySnoop 5 = .ok (.invokevirtual 47, 3) := by decide +kernel
theorem dX0_isReachedBySnoop_8 : decode cX0_isReachedBySnoop 8 = .ok (.ifCond .ne 15, 3) := by decide +kernel
theorem dX0_isReachedBySnoop_11 : decode cX0_isReachedBySnoop 11 = .ok (.aload_n 0, 1) := by decide +kernel
theorem dX0_isReachedBySnoop_12 : decode cX0_isReachedBySnoop 12 = .ok (.getfield 22, 3) := by decide +kernel
theorem dX0_isReachedBySnoop_15 : decode cX0_isReachedBySnoop 15 = .ok (.iconst 4, 1) := by decide +kernel
theorem dX0_isReachedBySnoop_16 : decode cX0_isReachedBySnoop 16 = .ok (.dup2, 1) := by decide +kernel
theorem dX0_isReachedBySnoop_17 : decode cX0_isReachedBySnoop 17 = .ok (.iaload, 1) := by decide +kernel
theorem dX0_isReachedBySnoop_18 : decode cX0_isReachedBySnoop 18 = .ok (.iconst 1, 1) := by decide +kernel
theorem dX0_isReachedBySnoop_19 : decode cX0_isReachedBySnoop 19 = .ok (.iadd, 1) := by decide +kernel
theorem dX0_isReachedBySnoop_20 : decode cX0_isReachedBySnoop 20 = .ok (.iastore, 1) := by decide +kernel
theorem dX0_isReachedBySnoop_21 : decode cX0_isReachedBySnoop 21 = .ok (.iconst 0, 1) := by decide +kernel
theorem dX0_isReachedBySnoop_22 : decode cX0_isReachedBySnoop 22 = .ok (.ireturn, 1) := by decide +kernel
theorem dX0_isReachedBySnoop_23 : decode cX0_isReachedBySnoop 23 = .ok (.aload_n 0, 1) := by decide +kernel
theorem dX0_isReachedBySnoop_24 : decode cX0_isReachedBySnoop 24 = .ok (.getfield 22, 3) := by decide +kernel
theorem dX0_isReachedBySnoop_27 : decode cX0_isReachedBySnoop 27 = .ok (.iconst 2, 1) := by decide +kernel
theorem dX0_isReachedBySnoop_28 : decode cX0_isReachedBySnoop 28 = .ok (.dup2, 1) := by decide +kernel
theorem dX0_isReachedBySnoop_29 : decode cX0_isReachedBySnoop 29 = .ok (.iaload, 1) := by decide +kernel
theorem dX0_isReachedBySnoop_30 : decode cX0_isReachedBySnoop 30 = .ok (.iconst 1, 1) := by decide +kernel
theorem dX0_isReachedBySnoop_31 : decode cX0_isReachedBySnoop 31 = .ok (.iadd, 1) := by decide +kernel
theorem dX0_isReachedBySnoop_32 : decode cX0_isReachedBySnoop 32 = .ok (.iastore, 1) := by decide +kernel
theorem dX0_isReachedBySnoop_33 : decode cX0_isReachedBySnoop 33 = .ok (.aload_n 0, 1) := by decide +kernel
theorem dX0_isReachedBySnoop_34 : decode cX0_isReachedBySnoop 34 = .ok (.iload_n 1, 1) := by decide +kernel
theorem dX0_isReachedBySnoop_35 : decode cX0_isReachedBySnoop 35 = .ok (.invokevirtual 36, 3) := by decide +kernel
theorem dX0_isReachedBySnoop_38 : decode cX0_isReachedBySnoop 38 = .ok (.ifCond .ne 13, 3) := by decide +kernel
theorem dX0_isReachedBySnoop_41 : decode cX0_isReachedBySnoop 41 = .ok (.aload_n 0, 1) := by decide +kernel
theorem dX0_isReachedBySnoop_42 : decode cX0_isReachedBySnoop 42 = .ok (.getfield 22, 3) := by decide +kernel
theorem dX0_isReachedBySnoop_45 : decode cX0_isReachedBySnoop 45 = .ok (.iconst 3, 1) := by decide +kernel
theorem dX0_isReachedBySnoop_46 : decode cX0_isReachedBySnoop 46 = .ok (.dup2, 1) := by decide +kernel
theorem dX0_isReachedBySnoop_47 : decode cX0_isReachedBySnoop 47 = .ok (.iaload, 1) := by decide +kernel
theorem dX0_isReachedBySnoop_48 : decode cX0_isReachedBySnoop 48 = .ok (.iconst 1, 1) := by decide +kernel
theorem dX0_isReachedBySnoop_49 : decode cX0_isReachedBySnoop 49 = .ok (.iadd, 1) := by decide +kernel
theorem dX0_isReachedBySnoop_50 : decode cX0_isReachedBySnoop 50 = .ok (.iastore, 1) := by decide +kernel
theorem dX0_isReachedBySnoop_51 : decode cX0_isReachedBySnoop 51 = .ok (.iconst 1, 1) := by decide +kernel
theorem dX0_isReachedBySnoop_52 : decode cX0_isReachedBySnoop 52 = .ok (.ireturn, 1) := by decide +kernel
theorem dX0_heldLines_0 : decode cX0_heldLines 0 = .ok (.iconst 0, 1) := by decide +kernel
theorem dX0_heldLines_1 : decode cX0_heldLines 1 = .ok (.istore_n 1, 1) := by decide +kernel
theorem dX0_heldLines_2 : decode cX0_heldLines 2 = .ok (.iconst 0, 1) := by decide +kernel
theorem dX0_heldLines_3 : decode cX0_heldLines 3 = .ok (.istore_n 2, 1) := by decide +kernel
theorem dX0_heldLines_4 : decode cX0_heldLines 4 = .ok (.iload_n 2, 1) := by decide +kernel
theorem dX0_heldLines_5 : decode cX0_heldLines 5 = .ok (.bipush 8, 2) := by decide +kernel
theorem dX0_heldLines_7 : decode cX0_heldLines 7 = .ok (.if_icmp .ge 22, 3) := by decide +kernel
theorem dX0_heldLines_10 : decode cX0_heldLines 10 = .ok (.aload_n 0, 1) := by decide +kernel
theorem dX0_heldLines_11 : decode cX0_heldLines 11 = .ok (.getfield 9, 3) := by decide +kernel
theorem dX0_heldLines_14 : decode cX0_heldLines 14 = .ok (.iload_n 2, 1) := by decide +kernel
theorem dX0_heldLines_15 : decode cX0_heldLines 15 = .ok (.iaload, 1) := by decide +kernel
theorem dX0_heldLines_16 : decode cX0_heldLines 16 = .ok (.iconst (-1), 1) := by decide +kernel
theorem dX0_heldLines_17 : decode cX0_heldLines 17 = .ok (.if_icmp .eq 6, 3) := by decide +kernel
theorem dX0_heldLines_20 : decode cX0_heldLines 20 = .ok (.iinc 1 1, 3) := by decide +kernel
theorem dX0_heldLines_23 : decode cX0_heldLines 23 = .ok (.iinc 2 1, 3) := by decide +kernel
theorem dX0_heldLines_26 : decode cX0_heldLines 26 = .ok (.goto (-22), 3) := by decide +kernel
theorem dX0_heldLines_29 : decode cX0_heldLines 29 = .ok (.iload_n 1, 1) := by decide +kernel
theorem dX0_heldLines_30 : decode cX0_heldLines 30 = .ok (.ireturn, 1) := by decide +kernel
set_option maxRecDepth 20000 in
theorem ggX0_dirtyLines_X5_howManyAreTrue : GoodIn wsX0_dirtyLines wsX5_howManyAreTrue := goodIn_r _ [4] (by decide +kernel) (by decide +kernel)
set_option maxRecDepth 20000 in
theorem gX0_dirtyLines_X5_howManyAreTrue_n50 : GoodIn wsX0_dirtyLines (wsX5_howManyAreTrue) := ggX0_dirtyLines_X5_howManyAreTrue
theorem dX0_dirtyLines_0 : decode cX0_dirtyLines 0 = .ok (.aload_n 0, 1) := by decide +kernel
theorem dX0_dirtyLines_1 : decode cX0_dirtyLines 1 = .ok (.getfield 18, 3) := by decide +kernel
theorem dX0_dirtyLines_4 : decode cX0_dirtyLines 4 = .ok (.invokestatic 50, 3) := by decide +kernel
theorem dX0_dirtyLines_7 : decode cX0_dirtyLines 7 = .ok (.ireturn, 1) := by decide +kernel
set_option maxRecDepth 20000 in
theorem ggX0_hasNothingToForget_X0_heldLines : GoodIn wsX0_hasNothingToForget wsX0_heldLines := goodIn_r _ [6, 7, 22, 23, 24, 25, 26] (by decide +kernel) (by decide +kernel)
set_option maxRecDepth 20000 in
theorem gX0_hasNothingToForget_X0_heldLines : GoodIn wsX0_hasNothingToForget (wsV RX0 54 RX0 yX0_heldLines wsX0_heldLines) := goodIn_app (goodIn_of _ (by decide +kernel)) ggX0_hasNothingToForget_X0_heldLines
set_option maxRecDepth 20000 in
theorem ggX0_hasNothingToForget_X1_countersAboveZero : GoodIn wsX0_hasNothingToForget wsX1_countersAboveZero := goodIn_r _ [12, 13, 27, 28, 29] (by decide +kernel) (by decide +kernel)
set_option maxRecDepth 20000 in
theorem gX0_hasNothingToForget_X1_countersAboveZero : GoodIn wsX0_hasNothingToForget (wsV RX0 58 RX1 yX1_countersAboveZero wsX1_countersAboveZero) := goodIn_app (goodIn_of _ (by decide +kernel)) ggX0_hasNothingToForget_X1_countersAboveZero
set_option maxRecDepth 20000 in
theorem ggX0_hasNothingToForget_X1_bitsThatAreOne : GoodIn wsX0_hasNothingToForget wsX1_bitsThatAreOne := goodIn_r _ [17, 18, 19, 20, 21, 27, 28, 29] (by decide +kernel) (by decide +kernel)
set_option maxRecDepth 20000 in
theorem gX0_hasNothingToForget_X1_bitsThatAreOne : GoodIn wsX0_hasNothingToForget (wsV RX0 61 RX1 yX1_bitsThatAreOne wsX1_bitsThatAreOne) := goodIn_app (goodIn_of _ (by decide +kernel)) ggX0_hasNothingToForget_X1_bitsThatAreOne
theorem dX0_hasNothingToForget_0 : decode cX0_hasNothingToForget 0 = .ok (.aload_n 0, 1) := by decide +kernel
theorem dX0_hasNothingToForget_1 : decode cX0_hasNothingToForget 1 = .ok (.invokevirtual 54, 3) := by decide +kernel
theorem dX0_hasNothingToForget_4 : decode cX0_hasNothingToForget 4 = .ok (.ifCond .ne 27, 3) := by decide +kernel
theorem dX0_hasNothingToForget_7 : decode cX0_hasNothingToForget 7 = .ok (.aload_n 0, 1) := by decide +kernel
theorem dX0_hasNothingToForget_8 : decode cX0_hasNothingToForget 8 = .ok (.getfield 28, 3) := by decide +kernel
theorem dX0_hasNothingToForget_11 : decode cX0_hasNothingToForget 11 = .ok (.invokevirtual 58, 3) := by decide +kernel
theorem dX0_hasNothingToForget_14 : decode cX0_hasNothingToForget 14 = .ok (.ifCond .ne 17, 3) := by decide +kernel
theorem dX0_hasNothingToForget_17 : decode cX0_hasNothingToForget 17 = .ok (.aload_n 0, 1) := by decide +kernel
theorem dX0_hasNothingToForget_18 : decode cX0_hasNothingToForget 18 = .ok (.getfield 28, 3) := by decide +kernel
theorem dX0_hasNothingToForget_21 : decode cX0_hasNothingToForget 21 = .ok (.invokevirtual 61, 3) := by decide +kernel
theorem dX0_hasNothingToForget_24 : decode cX0_hasNothingToForget 24 = .ok (.ifCond .ne 7, 3) := by decide +kernel
theorem dX0_hasNothingToForget_27 : decode cX0_hasNothingToForget 27 = .ok (.iconst 1, 1) := by decide +kernel
theorem dX0_hasNothingToForget_28 : decode cX0_hasNothingToForget 28 = .ok (.goto 4, 3) := by decide +kernel
theorem dX0_hasNothingToForget_31 : decode cX0_hasNothingToForget 31 = .ok (.iconst 0, 1) := by decide +kernel
theorem dX0_hasNothingToForget_32 : decode cX0_hasNothingToForget 32 = .ok (.ireturn, 1) := by decide +kernel
set_option maxRecDepth 20000 in
theorem ggX0_copyFrom_X1_copyFrom : GoodIn wsX0_copyFrom wsX1_copyFrom := goodIn_r _ [14, 15, 16, 3, 4, 5, 17, 18, 24, 25, 26] (by decide +kernel) (by decide +kernel)
set_option maxRecDepth 20000 in
theorem gX0_copyFrom_X1_copyFrom : GoodIn wsX0_copyFrom (wsV RX0 70 RX1 yX1_copyFrom wsX1_copyFrom) := goodIn_app (goodIn_of _ (by decide +kernel)) ggX0_copyFrom_X1_copyFrom
theorem dX0_copyFrom_0 : decode cX0_copyFrom 0 = .ok (.aload_n 1, 1) := by decide +kernel
theorem dX0_copyFrom_1 : decode cX0_copyFrom 1 = .ok (.getfield 9, 3) := by decide +kernel
theorem dX0_copyFrom_4 : decode cX0_copyFrom 4 = .ok (.iconst 0, 1) := by decide +kernel
theorem dX0_copyFrom_5 : decode cX0_copyFrom 5 = .ok (.aload_n 0, 1) := by decide +kernel
theorem dX0_copyFrom_6 : decode cX0_copyFrom 6 = .ok (.getfield 9, 3) := by decide +kernel
theorem dX0_copyFrom_9 : decode cX0_copyFrom 9 = .ok (.iconst 0, 1) := by decide +kernel
theorem dX0_copyFrom_10 : decode cX0_copyFrom 10 = .ok (.bipush 8, 2) := by decide +kernel
theorem dX0_copyFrom_12 : decode cX0_copyFrom 12 = .ok (.invokestatic 64, 3) := by decide +kernel
theorem dX0_copyFrom_15 : decode cX0_copyFrom 15 = .ok (.aload_n 1, 1) := by decide +kernel
theorem dX0_copyFrom_16 : decode cX0_copyFrom 16 = .ok (.getfield 15, 3) := by decide +kernel
theorem dX0_copyFrom_19 : decode cX0_copyFrom 19 = .ok (.iconst 0, 1) := by decide +kernel
theorem dX0_copyFrom_20 : decode cX0_copyFrom 20 = .ok (.aload_n 0, 1) := by decide +kernel
theorem dX0_copyFrom_21 : decode cX0_copyFrom 21 = .ok (.getfield 15, 3) := by decide +kernel
theorem dX0_copyFrom_24 : decode cX0_copyFrom 24 = .ok (.iconst 0, 1) := by decide +kernel
theorem dX0_copyFrom_25 : decode cX0_copyFrom 25 = .ok (.bipush 8, 2) := by decide +kernel
theorem dX0_copyFrom_27 : decode cX0_copyFrom 27 = .ok (.invokestatic 64, 3) := by decide +kernel
theorem dX0_copyFrom_30 : decode cX0_copyFrom 30 = .ok (.aload_n 1, 1) := by decide +kernel
theorem dX0_copyFrom_31 : decode cX0_copyFrom 31 = .ok (.getfield 18, 3) := by decide +kernel
theorem dX0_copyFrom_34 : decode cX0_copyFrom 34 = .ok (.iconst 0, 1) := by decide +kernel
theorem dX0_copyFrom_35 : decode cX0_copyFrom 35 = .ok (.aload_n 0, 1) := by decide +kernel
theorem dX0_copyFrom_36 : decode cX0_copyFrom 36 = .ok (.getfield 18, 3) := by decide +kernel
theorem dX0_copyFrom_39 : decode cX0_copyFrom 39 = .ok (.iconst 0, 1) := by decide +kernel
theorem dX0_copyFrom_40 : decode cX0_copyFrom 40 = .ok (.bipush 8, 2) := by decide +kernel
theorem dX0_copyFrom_42 : decode cX0_copyFrom 42 = .ok (.invokestatic 64, 3) := by decide +kernel
theorem dX0_copyFrom_45 : decode cX0_copyFrom 45 = .ok (.aload_n 1, 1) := by decide +kernel
theorem dX0_copyFrom_46 : decode cX0_copyFrom 46 = .ok (.getfield 22, 3) := by decide +kernel
theorem dX0_copyFrom_49 : decode cX0_copyFrom 49 = .ok (.iconst 0, 1) := by decide +kernel
theorem dX0_copyFrom_50 : decode cX0_copyFrom 50 = .ok (.aload_n 0, 1) := by decide +kernel
theorem dX0_copyFrom_51 : decode cX0_copyFrom 51 = .ok (.getfield 22, 3) := by decide +kernel
theorem dX0_copyFrom_54 : decode cX0_copyFrom 54 = .ok (.iconst 0, 1) := by decide +kernel
theorem dX0_copyFrom_55 : decode cX0_copyFrom 55 = .ok (.bipush 6, 2) := by decide +kernel
theorem dX0_copyFrom_57 : decode cX0_copyFrom 57 = .ok (.invokestatic 64, 3) := by decide +kernel
theorem dX0_copyFrom_60 : decode cX0_copyFrom 60 = .ok (.aload_n 0, 1) := by decide +kernel
theorem dX0_copyFrom_61 : decode cX0_copyFrom 61 = .ok (.getfield 28, 3) := by decide +kernel
theorem dX0_copyFrom_64 : decode cX0_copyFrom 64 = .ok (.aload_n 1, 1) := by decide +kernel
theorem dX0_copyFrom_65 : decode cX0_copyFrom 65 = .ok (.getfield 28, 3) := by decide +kernel
theorem dX0_copyFrom_68 : decode cX0_copyFrom 68 = .ok (.invokevirtual 70, 3) := by decide +kernel
theorem dX0_copyFrom_71 : decode cX0_copyFrom 71 = .ok (.return_, 1) := by decide +kernel
theorem dX1_init_0 : decode cX1_init 0 = .ok (.aload_n 0, 1) := by decide +kernel
theorem dX1_init_1 : decode cX1_init 1 = .ok (.invokespecial 3, 3) := by decide +kernel
theorem dX1_init_4 : decode cX1_init 4 = .ok (.aload_n 0, 1) := by decide +kernel
theorem dX1_init_5 : decode cX1_init 5 = .ok (.bipush 24, 2) := by decide +kernel
theorem dX1_init_7 : decode cX1_init 7 = .ok (.newarray .int, 2) := by decide +kernel
theorem dX1_init_9 : decode cX1_init 9 = .ok (.putfield 9, 3) := by decide +kernel
theorem dX1_init_12 : decode cX1_init 12 = .ok (.aload_n 0, 1) := by decide +kernel
theorem dX1_init_13 : decode cX1_init 13 = .ok (.bipush 24, 2) := by decide +kernel
theorem dX1_init_15 : decode cX1_init 15 = .ok (.newarray .boolean, 2) := by decide +kernel
theorem dX1_init_17 : decode cX1_init 17 = .ok (.putfield 15, 3) := by decide +kernel
theorem dX1_init_20 : decode cX1_init 20 = .ok (.aload_n 0, 1) := by decide +kernel
theorem dX1_init_21 : decode cX1_init 21 = .ok (.bipush 16, 2) := by decide +kernel
theorem dX1_init_23 : decode cX1_init 23 = .ok (.newarray .boolean, 2) := by decide +kernel
theorem dX1_init_25 : decode cX1_init 25 = .ok (.putfield 19, 3) := by decide +kernel
theorem dX1_init_28 : decode cX1_init 28 = .ok (.return_, 1) := by decide +kernel
theorem dX1_firstCounter_0 : decode cX1_firstCounter 0 = .ok (.iload_n 0, 1) := by decide +kernel
theorem dX1_firstCounter_1 : decode cX1_firstCounter 1 = .ok (.bipush 24, 2) := by decide +kernel
theorem dX1_firstCounter_3 : decode cX1_firstCounter 3 = .ok (.irem, 1) := by decide +kernel
theorem dX1_firstCounter_4 : decode cX1_firstCounter 4 = .ok (.ireturn, 1) := by decide +kernel
theorem dX1_secondCounter_0 : decode cX1_secondCounter 0 = .ok (.bipush 7, 2) := by decide +kernel
theorem dX1_secondCounter_2 : decode cX1_secondCounter 2 = .ok (.iload_n 0, 1) := by decide +kernel
theorem dX1_secondCounter_3 : decode cX1_secondCounter 3 = .ok (.imul, 1) := by decide +kernel
theorem dX1_secondCounter_4 : decode cX1_secondCounter 4 = .ok (.iconst 5, 1) := by decide +kernel
theorem dX1_secondCounter_5 : decode cX1_secondCounter 5 = .ok (.iadd, 1) := by decide +kernel
theorem dX1_secondCounter_6 : decode cX1_secondCounter 6 = .ok (.bipush 24, 2) := by decide +kernel
theorem dX1_secondCounter_8 : decode cX1_secondCounter 8 = .ok (.irem, 1) := by decide +kernel
theorem dX1_secondCounter_9 : decode cX1_secondCounter 9 = .ok (.ireturn, 1) := by decide +kernel
set_option maxRecDepth 20000 in
theorem ggX1_add_X1_firstCounter : GoodIn wsX1_add wsX1_firstCounter := goodIn_r _ [5] (by decide +kernel) (by decide +kernel)
set_option maxRecDepth 20000 in
theorem gX1_add_X1_firstCounter : GoodIn wsX1_add (va_wsS RX1 22 yX1_firstCounter wsX1_firstCounter) := goodIn_app (goodIn_of _ (by decide +kernel)) ggX1_add_X1_firstCounter
set_option maxRecDepth 20000 in
theorem ggX1_add_X1_raise : GoodIn wsX1_add wsX1_raise := goodIn_r _ [9, 10, 11, 15, 16, 17] (by decide +kernel) (by decide +kernel)
set_option maxRecDepth 20000 in
theorem gX1_add_X1_raise : GoodIn wsX1_add (wsV RX1 26 RX1 yX1_raise wsX1_raise) := goodIn_app (goodIn_of _ (by decide +kernel)) ggX1_add_X1_raise
set_option maxRecDepth 20000 in
theorem ggX1_add_X1_secondCounter : GoodIn wsX1_add wsX1_secondCounter := goodIn_r _ [14] (by decide +kernel) (by decide +kernel)
set_option maxRecDepth 20000 in
theorem gX1_add_X1_secondCounter : GoodIn wsX1_add (va_wsS RX1 30 yX1_secondCounter wsX1_secondCounter) := goodIn_app (goodIn_of _ (by decide +kernel)) ggX1_add_X1_secondCounter
theorem dX1_add_0 : decode cX1_add 0 = .ok (.aload_n 0, 1) := by decide +kernel
theorem dX1_add_1 : decode cX1_add 1 = .ok (.getfield 19, 3) := by decide +kernel
theorem dX1_add_4 : decode cX1_add 4 = .ok (.iload_n 1, 1) := by decide +kernel
theorem dX1_add_5 : decode cX1_add 5 = .ok (.bipush 16, 2) := by decide +kernel
theorem dX1_add_7 : decode cX1_add 7 = .ok (.idiv, 1) := by decide +kernel
theorem dX1_add_8 : decode cX1_add 8 = .ok (.iconst 1, 1) := by decide +kernel
theorem dX1_add_9 : decode cX1_add 9 = .ok (.bastore, 1) := by decide +kernel
theorem dX1_add_10 : decode cX1_add 10 = .ok (.aload_n 0, 1) := by decide +kernel
theorem dX1_add_11 : decode cX1_add 11 = .ok (.iload_n 1, 1) := by decide +kernel
theorem dX1_add_12 : decode cX1_add 12 = .ok (.invokestatic 22, 3) := by decide +kernel
theorem dX1_add_15 : decode cX1_add 15 = .ok (.iload_n 2, 1) := by decide +kernel
theorem dX1_add_16 : decode cX1_add 16 = .ok (.invokevirtual 26, 3) := by decide +kernel
theorem dX1_add_19 : decode cX1_add 19 = .ok (.aload_n 0, 1) := by decide +kernel
theorem dX1_add_20 : decode cX1_add 20 = .ok (.iload_n 1, 1) := by decide +kernel
theorem dX1_add_21 : decode cX1_add 21 = .ok (.invokestatic 30, 3) := by decide +kernel
theorem dX1_add_24 : decode cX1_add 24 = .ok (.iload_n 2, 1) := by decide +kernel
theorem dX1_add_25 : decode cX1_add 25 = .ok (.invokevirtual 26, 3) := by decide +kernel
theorem dX1_add_28 : decode cX1_add 28 = .ok (.return_, 1) := by decide +kernel
theorem dX1_raise_0 : decode cX1_raise 0 = .ok (.aload_n 0, 1) := by decide +kernel
theorem dX1_raise_1 : decode cX1_raise 1 = .ok (.getfield 15, 3) := by decide +kernel
theorem dX1_raise_4 : decode cX1_raise 4 = .ok (.iload_n 1, 1) := by decide +kernel
theorem dX1_raise_5 : decode cX1_raise 5 = .ok (.baload, 1) := by decide +kernel
theorem dX1_raise_6 : decode cX1_raise 6 = .ok (.ifCond .eq 4, 3) := by decide +kernel
theorem dX1_raise_9 : decode cX1_raise 9 = .ok (.return_, 1) := by decide +kernel
theorem dX1_raise_10 : decode cX1_raise 10 = .ok (.aload_n 0, 1) := by decide +kernel
theorem dX1_raise_11 : decode cX1_raise 11 = .ok (.getfield 9, 3) := by decide +kernel
theorem dX1_raise_14 : decode cX1_raise 14 = .ok (.iload_n 1, 1) := by decide +kernel
theorem dX1_raise_15 : decode cX1_raise 15 = .ok (.iaload, 1) := by decide +kernel
theorem dX1_raise_16 : decode cX1_raise 16 = .ok (.iload_n 2, 1) := by decide +kernel
theorem dX1_raise_17 : decode cX1_raise 17 = .ok (.if_icmp .lt 13, 3) := by decide +kernel
theorem dX1_raise_20 : decode cX1_raise 20 = .ok (.aload_n 0, 1) := by decide +kernel
theorem dX1_raise_21 : decode cX1_raise 21 = .ok (.getfield 15, 3) := by decide +kernel
theorem dX1_raise_24 : decode cX1_raise 24 = .ok (.iload_n 1, 1) := by decide +kernel
theorem dX1_raise_25 : decode cX1_raise 25 = .ok (.iconst 1, 1) := by decide +kernel
theorem dX1_raise_26 : decode cX1_raise 26 = .ok (.bastore, 1) := by decide +kernel
theorem dX1_raise_27 : decode cX1_raise 27 = .ok (.goto 13, 3) := by decide +kernel
theorem dX1_raise_30 : decode cX1_raise 30 = .ok (.aload_n 0, 1) := by decide +kernel
theorem dX1_raise_31 : decode cX1_raise 31 = .ok (.getfield 9, 3) := by decide +kernel
theorem dX1_raise_34 : decode cX1_raise 34 = .ok (.iload_n 1, 1) := by decide +kernel
theorem dX1_raise_35 : decode cX1_raise 35 = .ok (.dup2, 1) := by decide +kernel
theorem dX1_raise_36 : decode cX1_raise 36 = .ok (.iaload, 1) := by decide +kernel
theorem dX1_raise_37 : decode cX1_raise 37 = .ok (.iconst 1, 1) := by decide +kernel
theorem dX1_raise_38 : decode cX1_raise 38 = .ok (.iadd, 1) := by decide +kernel
theorem dX1_raise_39 : decode cX1_raise 39 = .ok (.iastore, 1) := by decide +kernel
theorem dX1_raise_40 : decode cX1_raise 40 = .ok (.return_, 1) := by decide +kernel
set_option maxRecDepth 20000 in
theorem ggX1_remove_X1_firstCounter : GoodIn wsX1_remove wsX1_firstCounter := goodIn_r _ [4] (by decide +kernel) (by decide +kernel)
set_option maxRecDepth 20000 in
theorem gX1_remove_X1_firstCounter : GoodIn wsX1_remove (va_wsS RX1 22 yX1_firstCounter wsX1_firstCounter) := goodIn_app (goodIn_of _ (by decide +kernel)) ggX1_remove_X1_firstCounter
set_option maxRecDepth 20000 in
theorem ggX1_remove_X1_lower : GoodIn wsX1_remove wsX1_lower := goodIn_r _ [8, 9, 10, 14, 15, 16] (by decide +kernel) (by decide +kernel)
set_option maxRecDepth 20000 in
theorem gX1_remove_X1_lower : GoodIn wsX1_remove (wsV RX1 33 RX1 yX1_lower wsX1_lower) := goodIn_app (goodIn_of _ (by decide +kernel)) ggX1_remove_X1_lower
set_option maxRecDepth 20000 in
theorem ggX1_remove_X1_secondCounter : GoodIn wsX1_remove wsX1_secondCounter := goodIn_r _ [13] (by decide +kernel) (by decide +kernel)
set_option maxRecDepth 20000 in
theorem gX1_remove_X1_secondCounter : GoodIn wsX1_remove (va_wsS RX1 30 yX1_secondCounter wsX1_secondCounter) := goodIn_app (goodIn_of _ (by decide +kernel)) ggX1_remove_X1_secondCounter
theorem dX1_remove_0 : decode cX1_remove 0 = .ok (.aload_n 0, 1) := by decide +kernel
theorem dX1_remove_1 : decode cX1_remove 1 = .ok (.iload_n 1, 1) := by decide +kernel
theorem dX1_remove_2 : decode cX1_remove 2 = .ok (.invokestatic 22, 3) := by decide +kernel
theorem dX1_remove_5 : decode cX1_remove 5 = .ok (.invokevirtual 33, 3) := by decide +kernel
theorem dX1_remove_8 : decode cX1_remove 8 = .ok (.aload_n 0, 1) := by decide +kernel
theorem dX1_remove_9 : decode cX1_remove 9 = .ok (.iload_n 1, 1) := by decide +kernel
theorem dX1_remove_10 : decode cX1_remove 10 = .ok (.invokestatic 30, 3) := by decide +kernel
theorem dX1_remove_13 : decode cX1_remove 13 = .ok (.invokevirtual 33, 3) := by decide +kernel
theorem dX1_remove_16 : decode cX1_remove 16 = .ok (.return_, 1) := by decide +kernel
theorem dX1_lower_0 : decode cX1_lower 0 = .ok (.aload_n 0, 1) := by decide +kernel
theorem dX1_lower_1 : decode cX1_lower 1 = .ok (.getfield 15, 3) := by decide +kernel
theorem dX1_lower_4 : decode cX1_lower 4 = .ok (.iload_n 1, 1) := by decide +kernel
theorem dX1_lower_5 : decode cX1_lower 5 = .ok (.baload, 1) := by decide +kernel
theorem dX1_lower_6 : decode cX1_lower 6 = .ok (.ifCond .ne 22, 3) := by decide +kernel
theorem dX1_lower_9 : decode cX1_lower 9 = .ok (.aload_n 0, 1) := by decide +kernel
theorem dX1_lower_10 : decode cX1_lower 10 = .ok (.getfield 9, 3) := by decide +kernel
theorem dX1_lower_13 : decode cX1_lower 13 = .ok (.iload_n 1, 1) := by decide +kernel
theorem dX1_lower_14 : decode cX1_lower 14 = .ok (.iaload, 1) := by decide +kernel
theorem dX1_lower_15 : decode cX1_lower 15 = .ok (.ifCond .le 13, 3) := by decide +kernel
theorem dX1_lower_18 : decode cX1_lower 18 = .ok (.aload_n 0, 1) := by decide +kernel
theorem dX1_lower_19 : decode cX1_lower 19 = .ok (.getfield 9, 3) := by decide +kernel
theorem dX1_lower_22 : decode cX1_lower 22 = .ok (.iload_n 1, 1) := by decide +kernel
theorem dX1_lower_23 : decode cX1_lower 23 = .ok (.dup2, 1) := by decide +kernel
theorem dX1_lower_24 : decode cX1_lower 24 = .ok (.iaload, 1) := by decide +kernel
theorem dX1_lower_25 : decode cX1_lower 25 = .ok (.iconst 1, 1) := by decide +kernel
theorem dX1_lower_26 : decode cX1_lower 26 = .ok (.isub, 1) := by decide +kernel
theorem dX1_lower_27 : decode cX1_lower 27 = .ok (.iastore, 1) := by decide +kernel
theorem dX1_lower_28 : decode cX1_lower 28 = .ok (.return_, 1) := by decide +kernel
theorem dX1_hasBitOf_0 : decode cX1_hasBitOf 0 = .ok (.aload_n 0, 1) := by decide +kernel
theorem dX1_hasBitOf_1 : decode cX1_hasBitOf 1 = .ok (.getfield 19, 3) := by decide +kernel
theorem dX1_hasBitOf_4 : decode cX1_hasBitOf 4 = .ok (.iload_n 1, 1) := by decide +kernel
theorem dX1_hasBitOf_5 : decode cX1_hasBitOf 5 = .ok (.bipush 16, 2) := by decide +kernel
theorem dX1_hasBitOf_7 : decode cX1_hasBitOf 7 = .ok (.idiv, 1) := by decide +kernel
theorem dX1_hasBitOf_8 : decode cX1_hasBitOf 8 = .ok (.baload, 1) := by decide +kernel
theorem dX1_hasBitOf_9 : decode cX1_hasBitOf 9 = .ok (.ireturn, 1) := by decide +kernel
set_option maxRecDepth 20000 in
theorem ggX1_mayHave_X1_hasBitOf : GoodIn wsX1_mayHave wsX1_hasBitOf := goodIn_r _ [6, 7, 14, 15, 16] (by decide +kernel) (by decide +kernel)
set_option maxRecDepth 20000 in
theorem gX1_mayHave_X1_hasBitOf : GoodIn wsX1_mayHave (wsV RX1 37 RX1 yX1_hasBitOf wsX1_hasBitOf) := goodIn_app (goodIn_of _ (by decide +kernel)) ggX1_mayHave_X1_hasBitOf
set_option maxRecDepth 20000 in
theorem ggX1_mayHave_X1_firstCounter : GoodIn wsX1_mayHave wsX1_firstCounter := goodIn_r _ [10] (by decide +kernel) (by decide +kernel)
set_option maxRecDepth 20000 in
theorem gX1_mayHave_X1_firstCounter : GoodIn wsX1_mayHave (va_wsS RX1 22 yX1_firstCounter wsX1_firstCounter) := goodIn_app (goodIn_of _ (by decide +kernel)) ggX1_mayHave_X1_firstCounter
set_option maxRecDepth 20000 in
theorem ggX1_mayHave_X1_secondCounter : GoodIn wsX1_mayHave wsX1_secondCounter := goodIn_r _ [13] (by decide +kernel) (by decide +kernel)
set_option maxRecDepth 20000 in
theorem gX1_mayHave_X1_secondCounter : GoodIn wsX1_mayHave (va_wsS RX1 30 yX1_secondCounter wsX1_secondCounter) := goodIn_app (goodIn_of _ (by decide +kernel)) ggX1_mayHave_X1_secondCounter
theorem dX1_mayHave_0 : decode cX1_mayHave 0 = .ok (.aload_n 0, 1) := by decide +kernel
theorem dX1_mayHave_1 : decode cX1_mayHave 1 = .ok (.iload_n 1, 1) := by decide +kernel
theorem dX1_mayHave_2 : decode cX1_mayHave 2 = .ok (.invokevirtual 37, 3) := by decide +kernel
theorem dX1_mayHave_5 : decode cX1_mayHave 5 = .ok (.ifCond .eq 31, 3) := by decide +kernel
theorem dX1_mayHave_8 : decode cX1_mayHave 8 = .ok (.aload_n 0, 1) := by decide +kernel
theorem dX1_mayHave_9 : decode cX1_mayHave 9 = .ok (.getfield 9, 3) := by decide +kernel
theorem dX1_mayHave_12 : decode cX1_mayHave 12 = .ok (.iload_n 1, 1) := by decide +kernel
theorem dX1_mayHave_13 : decode cX1_mayHave 13 = .ok (.invokestatic 22, 3) := by decide +kernel
theorem dX1_mayHave_16 : decode cX1_mayHave 16 = .ok (.iaload, 1) := by decide +kernel
theorem dX1_mayHave_17 : decode cX1_mayHave 17 = .ok (.ifCond .le 19, 3) := by decide +kernel
theorem dX1_mayHave_20 : decode cX1_mayHave 20 = .ok (.aload_n 0, 1) := by decide +kernel
theorem dX1_mayHave_21 : decode cX1_mayHave 21 = .ok (.getfield 9, 3) := by decide +kernel
theorem dX1_mayHave_24 : decode cX1_mayHave 24 = .ok (.iload_n 1, 1) := by decide +kernel
theorem dX1_mayHave_25 : decode cX1_mayHave 25 = .ok (.invokestatic 30, 3) := by decide +kernel
theorem dX1_mayHave_28 : decode cX1_mayHave 28 = .ok (.iaload, 1) := by decide +kernel
theorem dX1_mayHave_29 : decode cX1_mayHave 29 = .ok (.ifCond .le 7, 3) := by decide +kernel
theorem dX1_mayHave_32 : decode cX1_mayHave 32 = .ok (.iconst 1, 1) := by decide +kernel
theorem dX1_mayHave_33 : decode cX1_mayHave 33 = .ok (.goto 4, 3) := by decide +kernel
theorem dX1_mayHave_36 : decode cX1_mayHave 36 = .ok (.iconst 0, 1) := by decide +kernel
theorem dX1_mayHave_37 : decode cX1_mayHave 37 = .ok (.ireturn, 1) := by decide +kernel
theorem dX1_countersAboveZero_0 : decode cX1_countersAboveZero 0 = .ok (.iconst 0, 1) := by decide +kernel
theorem dX1_countersAboveZero_1 : decode cX1_countersAboveZero 1 = .ok (.istore_n 1, 1) := by decide +kernel
theorem dX1_countersAboveZero_2 : decode cX1_countersAboveZero 2 = .ok (.iconst 0, 1) := by decide +kernel
theorem dX1_countersAboveZero_3 : decode cX1_countersAboveZero 3 = .ok (.istore_n 2, 1) := by decide +kernel
theorem dX1_countersAboveZero_4 : decode cX1_countersAboveZero 4 = .ok (.iload_n 2, 1) := by decide +kernel
theorem dX1_countersAboveZero_5 : decode cX1_countersAboveZero 5 = .ok (.bipush 24, 2) := by decide +kernel
theorem dX1_countersAboveZero_7 : decode cX1_countersAboveZero 7 = .ok (.if_icmp .ge 21, 3) := by decide +kernel
theorem dX1_countersAboveZero_10 : decode cX1_countersAboveZero 10 = .ok (.aload_n 0, 1) := by decide +kernel
theorem dX1_countersAboveZero_11 : decode cX1_countersAboveZero 11 = .ok (.getfield 9, 3) := by decide +kernel
theorem dX1_countersAboveZero_14 : decode cX1_countersAboveZero 14 = .ok (.iload_n 2, 1) := by decide +kernel
theorem dX1_countersAboveZero_15 : decode cX1_countersAboveZero 15 = .ok (.iaload, 1) := by decide +kernel
theorem dX1_countersAboveZero_16 : decode cX1_countersAboveZero 16 = .ok (.ifCond .le 6, 3) := by decide +kernel
theorem dX1_countersAboveZero_19 : decode cX1_countersAboveZero 19 = .ok (.iinc 1 1, 3) := by decide +kernel
theorem dX1_countersAboveZero_22 : decode cX1_countersAboveZero 22 = .ok (.iinc 2 1, 3) := by decide +kernel
theorem dX1_countersAboveZero_25 : decode cX1_countersAboveZero 25 = .ok (.goto (-21), 3) := by decide +kernel
theorem dX1_countersAboveZero_28 : decode cX1_countersAboveZero 28 = .ok (.iload_n 1, 1) := by decide +kernel
theorem dX1_countersAboveZero_29 : decode cX1_countersAboveZero 29 = .ok (.ireturn, 1) := by decide +kernel
set_option maxRecDepth 20000 in
theorem ggX1_stuckCounters_X5_howManyAreTrue : GoodIn wsX1_stuckCounters wsX5_howManyAreTrue := goodIn_r _ [4] (by decide +kernel) (by decide +kernel)
set_option maxRecDepth 20000 in
theorem gX1_stuckCounters_X5_howManyAreTrue_n41 : GoodIn wsX1_stuckCounters (wsX5_howManyAreTrue) := ggX1_stuckCounters_X5_howManyAreTrue
theorem dX1_stuckCounters_0 : decode cX1_stuckCounters 0 = .ok (.aload_n 0, 1) := by decide +kernel
theorem dX1_stuckCounters_1 : decode cX1_stuckCounters 1 = .ok (.getfield 15, 3) := by decide +kernel
theorem dX1_stuckCounters_4 : decode cX1_stuckCounters 4 = .ok (.invokestatic 41, 3) := by decide +kernel
theorem dX1_stuckCounters_7 : decode cX1_stuckCounters 7 = .ok (.ireturn, 1) := by decide +kernel
set_option maxRecDepth 20000 in
theorem ggX1_bitsThatAreOne_X5_howManyAreTrue : GoodIn wsX1_bitsThatAreOne wsX5_howManyAreTrue := goodIn_r _ [4] (by decide +kernel) (by decide +kernel)
set_option maxRecDepth 20000 in
theorem gX1_bitsThatAreOne_X5_howManyAreTrue_n41 : GoodIn wsX1_bitsThatAreOne (wsX5_howManyAreTrue) := ggX1_bitsThatAreOne_X5_howManyAreTrue
theorem dX1_bitsThatAreOne_0 : decode cX1_bitsThatAreOne 0 = .ok (.aload_n 0, 1) := by decide +kernel
theorem dX1_bitsThatAreOne_1 : decode cX1_bitsThatAreOne 1 = .ok (.getfield 19, 3) := by decide +kernel
theorem dX1_bitsThatAreOne_4 : decode cX1_bitsThatAreOne 4 = .ok (.invokestatic 41, 3) := by decide +kernel
theorem dX1_bitsThatAreOne_7 : decode cX1_bitsThatAreOne 7 = .ok (.ireturn, 1) := by decide +kernel
theorem dX1_wipe_0 : decode cX1_wipe 0 = .ok (.iconst 0, 1) := by decide +kernel
theorem dX1_wipe_1 : decode cX1_wipe 1 = .ok (.istore_n 1, 1) := by decide +kernel
theorem dX1_wipe_2 : decode cX1_wipe 2 = .ok (.iload_n 1, 1) := by decide +kernel
theorem dX1_wipe_3 : decode cX1_wipe 3 = .ok (.bipush 24, 2) := by decide +kernel
theorem dX1_wipe_5 : decode cX1_wipe 5 = .ok (.if_icmp .ge 23, 3) := by decide +kernel
theorem dX1_wipe_8 : decode cX1_wipe 8 = .ok (.aload_n 0, 1) := by decide +kernel
theorem dX1_wipe_9 : decode cX1_wipe 9 = .ok (.getfield 9, 3) := by decide +kernel
theorem dX1_wipe_12 : decode cX1_wipe 12 = .ok (.iload_n 1, 1) := by decide +kernel
theorem dX1_wipe_13 : decode cX1_wipe 13 = .ok (.iconst 0, 1) := by decide +kernel
theorem dX1_wipe_14 : decode cX1_wipe 14 = .ok (.iastore, 1) := by decide +kernel
theorem dX1_wipe_15 : decode cX1_wipe 15 = .ok (.aload_n 0, 1) := by decide +kernel
theorem dX1_wipe_16 : decode cX1_wipe 16 = .ok (.getfield 15, 3) := by decide +kernel
theorem dX1_wipe_19 : decode cX1_wipe 19 = .ok (.iload_n 1, 1) := by decide +kernel
theorem dX1_wipe_20 : decode cX1_wipe 20 = .ok (.iconst 0, 1) := by decide +kernel
theorem dX1_wipe_21 : decode cX1_wipe 21 = .ok (.bastore, 1) := by decide +kernel
theorem dX1_wipe_22 : decode cX1_wipe 22 = .ok (.iinc 1 1, 3) := by decide +kernel
theorem dX1_wipe_25 : decode cX1_wipe 25 = .ok (.goto (-23), 3) := by decide +kernel
theorem dX1_wipe_28 : decode cX1_wipe 28 = .ok (.iconst 0, 1) := by decide +kernel
theorem dX1_wipe_29 : decode cX1_wipe 29 = .ok (.istore_n 1, 1) := by decide +kernel
theorem dX1_wipe_30 : decode cX1_wipe 30 = .ok (.iload_n 1, 1) := by decide +kernel
theorem dX1_wipe_31 : decode cX1_wipe 31 = .ok (.bipush 16, 2) := by decide +kernel
theorem dX1_wipe_33 : decode cX1_wipe 33 = .ok (.if_icmp .ge 16, 3) := by decide +kernel
theorem dX1_wipe_36 : decode cX1_wipe 36 = .ok (.aload_n 0, 1) := by decide +kernel
theorem dX1_wipe_37 : decode cX1_wipe 37 = .ok (.getfield 19, 3) := by decide +kernel
theorem dX1_wipe_40 : decode cX1_wipe 40 = .ok (.iload_n 1, 1) := by decide +kernel
theorem dX1_wipe_41 : decode cX1_wipe 41 = .ok (.iconst 0, 1) := by decide +kernel
theorem dX1_wipe_42 : decode cX1_wipe 42 = .ok (.bastore, 1) := by decide +kernel
theorem dX1_wipe_43 : decode cX1_wipe 43 = .ok (.iinc 1 1, 3) := by decide +kernel
theorem dX1_wipe_46 : decode cX1_wipe 46 = .ok (.goto (-16), 3) := by decide +kernel
theorem dX1_wipe_49 : decode cX1_wipe 49 = .ok (.return_, 1) := by decide +kernel
theorem dX1_copyFrom_0 : decode cX1_copyFrom 0 = .ok (.aload_n 1, 1) := by decide +kernel
theorem dX1_copyFrom_1 : decode cX1_copyFrom 1 = .ok (.getfield 9, 3) := by decide +kernel
theorem dX1_copyFrom_4 : decode cX1_copyFrom 4 = .ok (.iconst 0, 1) := by decide +kernel
theorem dX1_copyFrom_5 : decode cX1_copyFrom 5 = .ok (.aload_n 0, 1) := by decide +kernel
theorem dX1_copyFrom_6 : decode cX1_copyFrom 6 = .ok (.getfield 9, 3) := by decide +kernel
theorem dX1_copyFrom_9 : decode cX1_copyFrom 9 = .ok (.iconst 0, 1) := by decide +kernel
theorem dX1_copyFrom_10 : decode cX1_copyFrom 10 = .ok (.bipush 24, 2) := by decide +kernel
theorem dX1_copyFrom_12 : decode cX1_copyFrom 12 = .ok (.invokestatic 45, 3) := by decide +kernel
theorem dX1_copyFrom_15 : decode cX1_copyFrom 15 = .ok (.aload_n 1, 1) := by decide +kernel
theorem dX1_copyFrom_16 : decode cX1_copyFrom 16 = .ok (.getfield 15, 3) := by decide +kernel
theorem dX1_copyFrom_19 : decode cX1_copyFrom 19 = .ok (.iconst 0, 1) := by decide +kernel
theorem dX1_copyFrom_20 : decode cX1_copyFrom 20 = .ok (.aload_n 0, 1) := by decide +kernel
theorem dX1_copyFrom_21 : decode cX1_copyFrom 21 = .ok (.getfield 15, 3) := by decide +kernel
theorem dX1_copyFrom_24 : decode cX1_copyFrom 24 = .ok (.iconst 0, 1) := by decide +kernel
theorem dX1_copyFrom_25 : decode cX1_copyFrom 25 = .ok (.bipush 24, 2) := by decide +kernel
theorem dX1_copyFrom_27 : decode cX1_copyFrom 27 = .ok (.invokestatic 45, 3) := by decide +kernel
theorem dX1_copyFrom_30 : decode cX1_copyFrom 30 = .ok (.aload_n 1, 1) := by decide +kernel
theorem dX1_copyFrom_31 : decode cX1_copyFrom 31 = .ok (.getfield 19, 3) := by decide +kernel
theorem dX1_copyFrom_34 : decode cX1_copyFrom 34 = .ok (.iconst 0, 1) := by decide +kernel
theorem dX1_copyFrom_35 : decode cX1_copyFrom 35 = .ok (.aload_n 0, 1) := by decide +kernel
theorem dX1_copyFrom_36 : decode cX1_copyFrom 36 = .ok (.getfield 19, 3) := by decide +kernel
theorem dX1_copyFrom_39 : decode cX1_copyFrom 39 = .ok (.iconst 0, 1) := by decide +kernel
theorem dX1_copyFrom_40 : decode cX1_copyFrom 40 = .ok (.bipush 16, 2) := by decide +kernel
theorem dX1_copyFrom_42 : decode cX1_copyFrom 42 = .ok (.invokestatic 45, 3) := by decide +kernel
theorem dX1_copyFrom_45 : decode cX1_copyFrom 45 = .ok (.return_, 1) := by decide +kernel
set_option maxRecDepth 20000 in
theorem ggX2_init_X3_init : GoodIn wsX2_init wsX3_init := goodIn_r _ [10, 11, 2, 3, 12, 13, 14, 15, 16, 17, 18, 19, 20, 21, 22, 23, 24, 25, 26, 27, 28, 29, 30, 31, 32, 33, 34, 35, 36, 37, 38, 42, 43, 44, 45, 46, 47, 48, 49, 50, 51, 52, 53, 54, 55] (by decide +kernel) (by decide +kernel)
set_option maxRecDepth 20000 in
theorem gX2_init_X3_init : GoodIn wsX2_init (wsX3_init) := ggX2_init_X3_init
theorem dX2_init_0 : decode cX2_init 0 = .ok (.aload_n 0, 1) := by decide +kernel
theorem dX2_init_1 : decode cX2_init 1 = .ok (.invokespecial 3, 3) := by decide +kernel
theorem dX2_init_4 : decode cX2_init 4 = .ok (.aload_n 0, 1) := by decide +kernel
theorem dX2_init_5 : decode cX2_init 5 = .ok (.iconst 4, 1) := by decide +kernel
theorem dX2_init_6 : decode cX2_init 6 = .ok (.anewarray 9, 3) := by decide +kernel
theorem dX2_init_9 : decode cX2_init 9 = .ok (.putfield 11, 3) := by decide +kernel
theorem dX2_init_12 : decode cX2_init 12 = .ok (.iconst 0, 1) := by decide +kernel
theorem dX2_init_13 : decode cX2_init 13 = .ok (.istore_n 1, 1) := by decide +kernel
theorem dX2_init_14 : decode cX2_init 14 = .ok (.iload_n 1, 1) := by decide +kernel
theorem dX2_init_15 : decode cX2_init 15 = .ok (.iconst 4, 1) := by decide +kernel
theorem dX2_init_16 : decode cX2_init 16 = .ok (.if_icmp .ge 22, 3) := by decide +kernel
theorem dX2_init_19 : decode cX2_init 19 = .ok (.aload_n 0, 1) := by decide +kernel
theorem dX2_init_20 : decode cX2_init 20 = .ok (.getfield 11, 3) := by decide +kernel
theorem dX2_init_23 : decode cX2_init 23 = .ok (.iload_n 1, 1) := by decide +kernel
theorem dX2_init_24 : decode cX2_init 24 = .ok (.new 9, 3) := by decide +kernel
theorem dX2_init_27 : decode cX2_init 27 = .ok (.dup, 1) := by decide +kernel
theorem dX2_init_28 : decode cX2_init 28 = .ok (.invokespecial 17, 3) := by decide +kernel
theorem dX2_init_31 : decode cX2_init 31 = .ok (.aastore, 1) := by decide +kernel
theorem dX2_init_32 : decode cX2_init 32 = .ok (.iinc 1 1, 3) := by decide +kernel
theorem dX2_init_35 : decode cX2_init 35 = .ok (.goto (-21), 3) := by decide +kernel
theorem dX2_init_38 : decode cX2_init 38 = .ok (.return_, 1) := by decide +kernel
set_option maxRecDepth 20000 in
theorem ggX2_record_X3_copyFrom : GoodIn wsX2_record wsX3_copyFrom := goodIn_r _ [8, 9, 10, 11, 12, 13, 14, 15, 16, 17, 18, 19, 20, 21, 22, 23, 24, 25, 26, 27, 28, 29, 30, 31, 32, 33, 34, 35, 36, 37, 38, 42, 43, 44, 45, 46, 47, 48, 49, 50, 51, 52, 53, 54, 55] (by decide +kernel) (by decide +kernel)
set_option maxRecDepth 20000 in
theorem gX2_record_X3_copyFrom : GoodIn wsX2_record (wsV RX2 25 RX3 yX3_copyFrom wsX3_copyFrom) := goodIn_app (goodIn_of _ (by decide +kernel)) ggX2_record_X3_copyFrom
theorem dX2_record_0 : decode cX2_record 0 = .ok (.aload_n 0, 1) := by decide +kernel
theorem dX2_record_1 : decode cX2_record 1 = .ok (.getfield 11, 3) := by decide +kernel
theorem dX2_record_4 : decode cX2_record 4 = .ok (.aload_n 0, 1) := by decide +kernel
theorem dX2_record_5 : decode cX2_record 5 = .ok (.getfield 18, 3) := by decide +kernel
theorem dX2_record_8 : decode cX2_record 8 = .ok (.aload_n 0, 1) := by decide +kernel
theorem dX2_record_9 : decode cX2_record 9 = .ok (.getfield 22, 3) := by decide +kernel
theorem dX2_record_12 : decode cX2_record 12 = .ok (.iadd, 1) := by decide +kernel
theorem dX2_record_13 : decode cX2_record 13 = .ok (.iconst 4, 1) := by decide +kernel
theorem dX2_record_14 : decode cX2_record 14 = .ok (.irem, 1) := by decide +kernel
theorem dX2_record_15 : decode cX2_record 15 = .ok (.aaload, 1) := by decide +kernel
theorem dX2_record_16 : decode cX2_record 16 = .ok (.aload_n 1, 1) := by decide +kernel
theorem dX2_record_17 : decode cX2_record 17 = .ok (.invokevirtual 25, 3) := by decide +kernel
theorem dX2_record_20 : decode cX2_record 20 = .ok (.aload_n 0, 1) := by decide +kernel
theorem dX2_record_21 : decode cX2_record 21 = .ok (.getfield 22, 3) := by decide +kernel
theorem dX2_record_24 : decode cX2_record 24 = .ok (.iconst 4, 1) := by decide +kernel
theorem dX2_record_25 : decode cX2_record 25 = .ok (.if_icmp .ge 16, 3) := by decide +kernel
theorem dX2_record_28 : decode cX2_record 28 = .ok (.aload_n 0, 1) := by decide +kernel
theorem dX2_record_29 : decode cX2_record 29 = .ok (.dup, 1) := by decide +kernel
theorem dX2_record_30 : decode cX2_record 30 = .ok (.getfield 22, 3) := by decide +kernel
theorem dX2_record_33 : decode cX2_record 33 = .ok (.iconst 1, 1) := by decide +kernel
theorem dX2_record_34 : decode cX2_record 34 = .ok (.iadd, 1) := by decide +kernel
theorem dX2_record_35 : decode cX2_record 35 = .ok (.putfield 22, 3) := by decide +kernel
theorem dX2_record_38 : decode cX2_record 38 = .ok (.goto 15, 3) := by decide +kernel
theorem dX2_record_41 : decode cX2_record 41 = .ok (.aload_n 0, 1) := by decide +kernel
theorem dX2_record_42 : decode cX2_record 42 = .ok (.aload_n 0, 1) := by decide +kernel
theorem dX2_record_43 : decode cX2_record 43 = .ok (.getfield 18, 3) := by decide +kernel
theorem dX2_record_46 : decode cX2_record 46 = .ok (.iconst 1, 1) := by decide +kernel
theorem dX2_record_47 : decode cX2_record 47 = .ok (.iadd, 1) := by decide +kernel
theorem dX2_record_48 : decode cX2_record 48 = .ok (.iconst 4, 1) := by decide +kernel
theorem dX2_record_49 : decode cX2_record 49 = .ok (.irem, 1) := by decide +kernel
theorem dX2_record_50 : decode cX2_record 50 = .ok (.putfield 18, 3) := by decide +kernel
theorem dX2_record_53 : decode cX2_record 53 = .ok (.return_, 1) := by decide +kernel
set_option maxRecDepth 20000 in
theorem ggX2_takeLatest_X3_copyFrom : GoodIn wsX2_takeLatest wsX3_copyFrom := goodIn_r _ [8, 9, 10, 11, 12, 13, 14, 15, 16, 17, 18, 19, 20, 21, 22, 23, 24, 25, 26, 27, 28, 29, 30, 31, 32, 33, 34, 35, 36, 37, 38, 42, 43, 44, 45, 46, 47, 48, 49, 50, 51, 52, 53, 54, 55] (by decide +kernel) (by decide +kernel)
set_option maxRecDepth 20000 in
theorem gX2_takeLatest_X3_copyFrom : GoodIn wsX2_takeLatest (wsV RX2 25 RX3 yX3_copyFrom wsX3_copyFrom) := goodIn_app (goodIn_of _ (by decide +kernel)) ggX2_takeLatest_X3_copyFrom
theorem dX2_takeLatest_0 : decode cX2_takeLatest 0 = .ok (.aload_n 0, 1) := by decide +kernel
theorem dX2_takeLatest_1 : decode cX2_takeLatest 1 = .ok (.getfield 22, 3) := by decide +kernel
theorem dX2_takeLatest_4 : decode cX2_takeLatest 4 = .ok (.ifCond .le 33, 3) := by decide +kernel
theorem dX2_takeLatest_7 : decode cX2_takeLatest 7 = .ok (.aload_n 0, 1) := by decide +kernel
theorem dX2_takeLatest_8 : decode cX2_takeLatest 8 = .ok (.dup, 1) := by decide +kernel
theorem dX2_takeLatest_9 : decode cX2_takeLatest 9 = .ok (.getfield 22, 3) := by decide +kernel
theorem dX2_takeLatest_12 : decode cX2_takeLatest 12 = .ok (.iconst 1, 1) := by decide +kernel
theorem dX2_takeLatest_13 : decode cX2_takeLatest 13 = .ok (.isub, 1) := by decide +kernel
theorem dX2_takeLatest_14 : decode cX2_takeLatest 14 = .ok (.putfield 22, 3) := by decide +kernel
theorem dX2_takeLatest_17 : decode cX2_takeLatest 17 = .ok (.aload_n 1, 1) := by decide +kernel
theorem dX2_takeLatest_18 : decode cX2_takeLatest 18 = .ok (.aload_n 0, 1) := by decide +kernel
theorem dX2_takeLatest_19 : decode cX2_takeLatest 19 = .ok (.getfield 11, 3) := by decide +kernel
theorem dX2_takeLatest_22 : decode cX2_takeLatest 22 = .ok (.aload_n 0, 1) := by decide +kernel
theorem dX2_takeLatest_23 : decode cX2_takeLatest 23 = .ok (.getfield 18, 3) := by decide +kernel
theorem dX2_takeLatest_26 : decode cX2_takeLatest 26 = .ok (.aload_n 0, 1) := by decide +kernel
theorem dX2_takeLatest_27 : decode cX2_takeLatest 27 = .ok (.getfield 22, 3) := by decide +kernel
theorem dX2_takeLatest_30 : decode cX2_takeLatest 30 = .ok (.iadd, 1) := by decide +kernel
theorem dX2_takeLatest_31 : decode cX2_takeLatest 31 = .ok (.iconst 4, 1) := by decide +kernel
theorem dX2_takeLatest_32 : decode cX2_takeLatest 32 = .ok (.irem, 1) := by decide +kernel
theorem dX2_takeLatest_33 : decode cX2_takeLatest 33 = .ok (.aaload, 1) := by decide +kernel
theorem dX2_takeLatest_34 : decode cX2_takeLatest 34 = .ok (.invokevirtual 25, 3) := by decide +kernel
theorem dX2_takeLatest_37 : decode cX2_takeLatest 37 = .ok (.return_, 1) := by decide +kernel
set_option maxRecDepth 20000 in
theorem ggX3_init_X0_init : GoodIn wsX3_init wsX0_init := goodIn_r _ [14, 15, 2, 3, 4, 16, 17, 18, 19, 20, 21, 22, 23, 24, 25, 26, 27, 28, 29, 30, 37, 38, 39, 40, 41, 42, 43, 44] (by decide +kernel) (by decide +kernel)
set_option maxRecDepth 20000 in
theorem gX3_init_X0_init : GoodIn wsX3_init (wsX0_init) := ggX3_init_X0_init
theorem dX3_init_0 : decode cX3_init 0 = .ok (.aload_n 0, 1) := by decide +kernel
theorem dX3_init_1 : decode cX3_init 1 = .ok (.invokespecial 3, 3) := by decide +kernel
theorem dX3_init_4 : decode cX3_init 4 = .ok (.aload_n 0, 1) := by decide +kernel
theorem dX3_init_5 : decode cX3_init 5 = .ok (.sipush 256, 3) := by decide +kernel
theorem dX3_init_8 : decode cX3_init 8 = .ok (.newarray .int, 2) := by decide +kernel
theorem dX3_init_10 : decode cX3_init 10 = .ok (.putfield 9, 3) := by decide +kernel
theorem dX3_init_13 : decode cX3_init 13 = .ok (.aload_n 0, 1) := by decide +kernel
theorem dX3_init_14 : decode cX3_init 14 = .ok (.iconst 4, 1) := by decide +kernel
theorem dX3_init_15 : decode cX3_init 15 = .ok (.anewarray 15, 3) := by decide +kernel
theorem dX3_init_18 : decode cX3_init 18 = .ok (.putfield 17, 3) := by decide +kernel
theorem dX3_init_21 : decode cX3_init 21 = .ok (.aload_n 0, 1) := by decide +kernel
theorem dX3_init_22 : decode cX3_init 22 = .ok (.iconst 3, 1) := by decide +kernel
theorem dX3_init_23 : decode cX3_init 23 = .ok (.putfield 21, 3) := by decide +kernel
theorem dX3_init_26 : decode cX3_init 26 = .ok (.aload_n 0, 1) := by decide +kernel
theorem dX3_init_27 : decode cX3_init 27 = .ok (.bipush 20, 2) := by decide +kernel
theorem dX3_init_29 : decode cX3_init 29 = .ok (.putfield 25, 3) := by decide +kernel
theorem dX3_init_32 : decode cX3_init 32 = .ok (.iconst 0, 1) := by decide +kernel
theorem dX3_init_33 : decode cX3_init 33 = .ok (.istore_n 1, 1) := by decide +kernel
theorem dX3_init_34 : decode cX3_init 34 = .ok (.iload_n 1, 1) := by decide +kernel
theorem dX3_init_35 : decode cX3_init 35 = .ok (.iconst 4, 1) := by decide +kernel
theorem dX3_init_36 : decode cX3_init 36 = .ok (.if_icmp .ge 22, 3) := by decide +kernel
theorem dX3_init_39 : decode cX3_init 39 = .ok (.aload_n 0, 1) := by decide +kernel
theorem dX3_init_40 : decode cX3_init 40 = .ok (.getfield 17, 3) := by decide +kernel
theorem dX3_init_43 : decode cX3_init 43 = .ok (.iload_n 1, 1) := by decide +kernel
theorem dX3_init_44 : decode cX3_init 44 = .ok (.new 15, 3) := by decide +kernel
theorem dX3_init_47 : decode cX3_init 47 = .ok (.dup, 1) := by decide +kernel
theorem dX3_init_48 : decode cX3_init 48 = .ok (.invokespecial 28, 3) := by decide +kernel
theorem dX3_init_51 : decode cX3_init 51 = .ok (.aastore, 1) := by decide +kernel
theorem dX3_init_52 : decode cX3_init 52 = .ok (.iinc 1 1, 3) := by decide +kernel
theorem dX3_init_55 : decode cX3_init 55 = .ok (.goto (-21), 3) := by decide +kernel
theorem dX3_init_58 : decode cX3_init 58 = .ok (.return_, 1) := by decide +kernel
set_option maxRecDepth 20000 in
theorem ggX3_readLine_X0_placeOf : GoodIn wsX3_readLine wsX0_placeOf := goodIn_r _ [8] (by decide +kernel) (by decide +kernel)
set_option maxRecDepth 20000 in
theorem gX3_readLine_X0_placeOf : GoodIn wsX3_readLine (va_wsS RX3 29 yX0_placeOf wsX0_placeOf) := goodIn_app (goodIn_of _ (by decide +kernel)) ggX3_readLine_X0_placeOf
set_option maxRecDepth 20000 in
theorem ggX3_readLine_X0_holds : GoodIn wsX3_readLine wsX0_holds := goodIn_r _ [12, 13, 14, 6, 7, 8, 108, 109, 110, 111, 112] (by decide +kernel) (by decide +kernel)
set_option maxRecDepth 20000 in
theorem gX3_readLine_X0_holds : GoodIn wsX3_readLine (wsV RX3 33 RX0 yX0_holds wsX0_holds) := goodIn_app (goodIn_of _ (by decide +kernel)) ggX3_readLine_X0_holds
set_option maxRecDepth 20000 in
theorem ggX3_readLine_X0_isReachedBySnoop : GoodIn wsX3_readLine wsX0_isReachedBySnoop := goodIn_r _ [18, 19, 20, 21, 22, 23, 24, 25, 26, 27, 28, 29, 30, 31, 32, 33, 34, 35, 36, 37, 38, 10, 11, 7, 12, 13, 14, 6, 8, 108, 109, 110, 111, 112, 113, 114, 115] (by decide +kernel) (by decide +kernel)
set_option maxRecDepth 20000 in
theorem gX3_readLine_X0_isReachedBySnoop : GoodIn wsX3_readLine (wsV RX3 43 RX0 yX0_isReachedBySnoop wsX0_isReachedBySnoop) := goodIn_app (goodIn_of _ (by decide +kernel)) ggX3_readLine_X0_isReachedBySnoop
set_option maxRecDepth 20000 in
theorem ggX3_readLine_X3_writeBack : GoodIn wsX3_readLine wsX3_writeBack := goodIn_r _ [43, 44, 45, 4, 3, 46, 108, 109, 110, 111, 112, 102, 103, 104, 105, 106, 107] (by decide +kernel) (by decide +kernel)
set_option maxRecDepth 20000 in
theorem gX3_readLine_X3_writeBack : GoodIn wsX3_readLine (wsV RX3 46 RX3 yX3_writeBack wsX3_writeBack) := goodIn_app (goodIn_of _ (by decide +kernel)) ggX3_readLine_X3_writeBack
set_option maxRecDepth 20000 in
theorem ggX3_readLine_X3_vacate : GoodIn wsX3_readLine wsX3_vacate := goodIn_r _ [50, 44, 39, 40, 41, 42, 43, 45, 4, 3, 46, 51, 52, 53, 7, 54, 19, 55, 56, 57, 24, 58, 32, 33, 34, 59, 60, 61, 62, 63, 26, 35, 36, 37, 14, 6, 8, 64, 65, 66, 67, 13, 68, 108, 109, 110, 111, 112, 102, 103, 104, 105, 106, 107, 113, 114, 115] (by decide +kernel) (by decide +kernel)
set_option maxRecDepth 20000 in
theorem gX3_readLine_X3_vacate : GoodIn wsX3_readLine (wsV RX3 50 RX3 yX3_vacate wsX3_vacate) := goodIn_app (goodIn_of _ (by decide +kernel)) ggX3_readLine_X3_vacate
set_option maxRecDepth 20000 in
theorem ggX3_readLine_X3_beginToHold : GoodIn wsX3_readLine wsX3_beginToHold := goodIn_r _ [72, 73, 74, 75, 76, 77, 78, 7, 79, 13, 80, 68, 14, 6, 8, 81, 82, 83, 24, 84, 31, 32, 33, 34, 85, 86, 87, 88, 63, 26, 35, 36, 37, 89, 90, 91, 92, 93, 94, 95, 42, 96, 44, 2, 39, 40, 41, 43, 45, 4, 3, 46, 97, 65, 66, 67, 98, 99, 100, 101, 108, 109, 110, 111, 112, 102, 103, 104, 105, 106, 107, 113, 114, 115] (by decide +kernel) (by decide +kernel)
set_option maxRecDepth 20000 in
theorem gX3_readLine_X3_beginToHold : GoodIn wsX3_readLine (wsV RX3 53 RX3 yX3_beginToHold wsX3_beginToHold) := goodIn_app (goodIn_of _ (by decide +kernel)) ggX3_readLine_X3_beginToHold
theorem dX3_readLine_0 : decode cX3_readLine 0 = .ok (.aload_n 0, 1) := by decide +kernel
theorem dX3_readLine_1 : decode cX3_readLine 1 = .ok (.getfield 17, 3) := by decide +kernel
theorem dX3_readLine_4 : decode cX3_readLine 4 = .ok (.iload_n 1, 1) := by decide +kernel
theorem dX3_readLine_5 : decode cX3_readLine 5 = .ok (.aaload, 1) := by decide +kernel
theorem dX3_readLine_6 : decode cX3_readLine 6 = .ok (.astore_n 3, 1) := by decide +kernel
theorem dX3_readLine_7 : decode cX3_readLine 7 = .ok (.iload_n 2, 1) := by decide +kernel
theorem dX3_readLine_8 : decode cX3_readLine 8 = .ok (.invokestatic 29, 3) := by decide +kernel
theorem dX3_readLine_11 : decode cX3_readLine 11 = .ok (.istore 4, 2) := by decide +kernel
theorem dX3_readLine_13 : decode cX3_readLine 13 = .ok (.aload_n 3, 1) := by decide +kernel
theorem dX3_readLine_14 : decode cX3_readLine 14 = .ok (.iload_n 2, 1) := by decide +kernel
theorem dX3_readLine_15 : decode cX3_readLine 15 = .ok (.invokevirtual 33, 3) := by decide +kernel
theorem dX3_readLine_18 : decode cX3_readLine 18 = .ok (.ifCond .eq 21, 3) := by decide +kernel
theorem dX3_readLine_21 : decode cX3_readLine 21 = .ok (.aload_n 3, 1) := by decide +kernel
theorem dX3_readLine_22 : decode cX3_readLine 22 = .ok (.getfield 37, 3) := by decide +kernel
theorem dX3_readLine_25 : decode cX3_readLine 25 = .ok (.iconst 0, 1) := by decide +kernel
theorem dX3_readLine_26 : decode cX3_readLine 26 = .ok (.dup2, 1) := by decide +kernel
theorem dX3_readLine_27 : decode cX3_readLine 27 = .ok (.iaload, 1) := by decide +kernel
theorem dX3_readLine_28 : decode cX3_readLine 28 = .ok (.iconst 1, 1) := by decide +kernel
theorem dX3_readLine_29 : decode cX3_readLine 29 = .ok (.iadd, 1) := by decide +kernel
theorem dX3_readLine_30 : decode cX3_readLine 30 = .ok (.iastore, 1) := by decide +kernel
theorem dX3_readLine_31 : decode cX3_readLine 31 = .ok (.aload_n 3, 1) := by decide +kernel
theorem dX3_readLine_32 : decode cX3_readLine 32 = .ok (.getfield 40, 3) := by decide +kernel
theorem dX3_readLine_35 : decode cX3_readLine 35 = .ok (.iload 4, 2) := by decide +kernel
theorem dX3_readLine_37 : decode cX3_readLine 37 = .ok (.iaload, 1) := by decide +kernel
theorem dX3_readLine_38 : decode cX3_readLine 38 = .ok (.ireturn, 1) := by decide +kernel
theorem dX3_readLine_39 : decode cX3_readLine 39 = .ok (.aload_n 3, 1) := by decide +kernel
theorem dX3_readLine_40 : decode cX3_readLine 40 = .ok (.getfield 37, 3) := by decide +kernel
theorem dX3_readLine_43 : decode cX3_readLine 43 = .ok (.iconst 1, 1) := by decide +kernel
theorem dX3_readLine_44 : decode cX3_readLine 44 = .ok (.dup2, 1) := by decide +kernel
theorem dX3_readLine_45 : decode cX3_readLine 45 = .ok (.iaload, 1) := by decide +kernel
theorem dX3_readLine_46 : decode cX3_readLine 46 = .ok (.iconst 1, 1) := by decide +kernel
theorem dX3_readLine_47 : decode cX3_readLine 47 = .ok (.iadd, 1) := by decide +kernel
theorem dX3_readLine_48 : decode cX3_readLine 48 = .ok (.iastore, 1) := by decide +kernel
theorem dX3_readLine_49 : decode cX3_readLine 49 = .ok (.iconst 0, 1) := by decide +kernel
theorem dX3_readLine_50 : decode cX3_readLine 50 = .ok (.istore 5, 2) := by decide +kernel
theorem dX3_readLine_52 : decode cX3_readLine 52 = .ok (.iload 5, 2) := by decide +kernel
theorem dX3_readLine_54 : decode cX3_readLine 54 = .ok (.iconst 4, 1) := by decide +kernel
theorem dX3_readLine_55 : decode cX3_readLine 55 = .ok (.if_icmp .ge 50, 3) := by decide +kernel
theorem dX3_readLine_58 : decode cX3_readLine 58 = .ok (.aload_n 0, 1) := by decide +kernel
theorem dX3_readLine_59 : decode cX3_readLine 59 = .ok (.getfield 17, 3) := by decide +kernel
theorem dX3_readLine_62 : decode cX3_readLine 62 = .ok (.iload 5, 2) := by decide +kernel
theorem dX3_readLine_64 : decode cX3_readLine 64 = .ok (.aaload, 1) := by decide +kernel
theorem dX3_readLine_65 : decode cX3_readLine 65 = .ok (.astore 6, 2) := by decide +kernel
theorem dX3_readLine_67 : decode cX3_readLine 67 = .ok (.iload 5, 2) := by decide +kernel
theorem dX3_readLine_69 : decode cX3_readLine 69 = .ok (.iload_n 1, 1) := by decide +kernel
theorem dX3_readLine_70 : decode cX3_readLine 70 = .ok (.if_icmp .eq 29, 3) := by decide +kernel
theorem dX3_readLine_73 : decode cX3_readLine 73 = .ok (.aload 6, 2) := by decide +kernel
theorem dX3_readLine_75 : decode cX3_readLine 75 = .ok (.iload_n 2, 1) := by decide +kernel
theorem dX3_readLine_76 : decode cX3_readLine 76 = .ok (.invokevirtual 43, 3) := by decide +kernel
theorem dX3_readLine_79 : decode cX3_readLine 79 = .ok (.ifCond .eq 20, 3) := by decide +kernel
theorem dX3_readLine_82 : decode cX3_readLine 82 = .ok (.aload 6, 2) := by decide +kernel
theorem dX3_readLine_84 : decode cX3_readLine 84 = .ok (.iload_n 2, 1) := by decide +kernel
theorem dX3_readLine_85 : decode cX3_readLine 85 = .ok (.invokevirtual 33, 3) := by decide +kernel
theorem dX3_readLine_88 : decode cX3_readLine 88 = .ok (.ifCond .eq 11, 3) := by decide +kernel
theorem dX3_readLine_91 : decode cX3_readLine 91 = .ok (.aload_n 0, 1) := by decide +kernel
theorem dX3_readLine_92 : decode cX3_readLine 92 = .ok (.aload 6, 2) := by decide +kernel
theorem dX3_readLine_94 : decode cX3_readLine 94 = .ok (.iload 4, 2) := by decide +kernel
theorem dX3_readLine_96 : decode cX3_readLine 96 = .ok (.invokevirtual 46, 3) := by decide +kernel
theorem dX3_readLine_99 : decode cX3_readLine 99 = .ok (.iinc 5 1, 3) := by decide +kernel
theorem dX3_readLine_102 : decode cX3_readLine 102 = .ok (.goto (-50), 3) := by decide +kernel
theorem dX3_readLine_105 : decode cX3_readLine 105 = .ok (.aload_n 0, 1) := by decide +kernel
theorem dX3_readLine_106 : decode cX3_readLine 106 = .ok (.getfield 9, 3) := by decide +kernel
theorem dX3_readLine_109 : decode cX3_readLine 109 = .ok (.iload_n 2, 1) := by decide +kernel
theorem dX3_readLine_110 : decode cX3_readLine 110 = .ok (.iaload, 1) := by decide +kernel
theorem dX3_readLine_111 : decode cX3_readLine 111 = .ok (.istore 5, 2) := by decide +kernel
theorem dX3_readLine_113 : decode cX3_readLine 113 = .ok (.aload_n 0, 1) := by decide +kernel
theorem dX3_readLine_114 : decode cX3_readLine 114 = .ok (.aload_n 3, 1) := by decide +kernel
theorem dX3_readLine_115 : decode cX3_readLine 115 = .ok (.iload 4, 2) := by decide +kernel
theorem dX3_readLine_117 : decode cX3_readLine 117 = .ok (.invokevirtual 50, 3) := by decide +kernel
theorem dX3_readLine_120 : decode cX3_readLine 120 = .ok (.aload_n 0, 1) := by decide +kernel
theorem dX3_readLine_121 : decode cX3_readLine 121 = .ok (.aload_n 3, 1) := by decide +kernel
theorem dX3_readLine_122 : decode cX3_readLine 122 = .ok (.iload_n 2, 1) := by decide +kernel
theorem dX3_readLine_123 : decode cX3_readLine 123 = .ok (.iload 5, 2) := by decide +kernel
theorem dX3_readLine_125 : decode cX3_readLine 125 = .ok (.iconst 0, 1) := by decide +kernel
theorem dX3_readLine_126 : decode cX3_readLine 126 = .ok (.invokevirtual 53, 3) := by decide +kernel
theorem dX3_readLine_129 : decode cX3_readLine 129 = .ok (.iload 5, 2) := by decide +kernel
theorem dX3_readLine_131 : decode cX3_readLine 131 = .ok (.ireturn, 1) := by decide +kernel
set_option maxRecDepth 20000 in
theorem ggX3_writeLine_X0_holdsDirty : GoodIn wsX3_writeLine wsX0_holdsDirty := goodIn_r _ [7, 8, 9, 10, 11, 6, 12, 13, 14, 15, 16, 117, 118, 119, 120, 121] (by decide +kernel) (by decide +kernel)
set_option maxRecDepth 20000 in
theorem gX3_writeLine_X0_holdsDirty : GoodIn wsX3_writeLine (wsV RX3 60 RX0 yX0_holdsDirty wsX0_holdsDirty) := goodIn_app (goodIn_of _ (by decide +kernel)) ggX3_writeLine_X0_holdsDirty
set_option maxRecDepth 20000 in
theorem ggX3_writeLine_X3_takeFromOthers : GoodIn wsX3_writeLine wsX3_takeFromOthers := goodIn_r _ [21, 1, 22, 23, 24, 6, 25, 26, 27, 28, 29, 30, 31, 32, 33, 34, 35, 36, 37, 38, 39, 40, 41, 42, 43, 44, 9, 10, 11, 12, 13, 14, 15, 16, 45, 46, 47, 48, 49, 50, 51, 52, 53, 54, 55, 56, 57, 58, 59, 60, 61, 62, 8, 111, 112, 113, 114, 115, 116, 117, 118, 119, 120, 121, 122, 123, 124] (by decide +kernel) (by decide +kernel)
set_option maxRecDepth 20000 in
theorem gX3_writeLine_X3_takeFromOthers : GoodIn wsX3_writeLine (wsV RX3 63 RX3 yX3_takeFromOthers wsX3_takeFromOthers) := goodIn_app (goodIn_of _ (by decide +kernel)) ggX3_writeLine_X3_takeFromOthers
set_option maxRecDepth 20000 in
theorem ggX3_writeLine_X0_holds : GoodIn wsX3_writeLine wsX0_holds := goodIn_r _ [12, 13, 14, 15, 6, 16, 117, 118, 119, 120, 121] (by decide +kernel) (by decide +kernel)
set_option maxRecDepth 20000 in
theorem gX3_writeLine_X0_holds : GoodIn wsX3_writeLine (wsV RX3 33 RX0 yX0_holds wsX0_holds) := goodIn_app (goodIn_of _ (by decide +kernel)) ggX3_writeLine_X0_holds
set_option maxRecDepth 20000 in
theorem ggX3_writeLine_X0_fill : GoodIn wsX3_writeLine wsX0_fill := goodIn_r _ [66, 13, 67, 8, 14, 15, 6, 16, 117, 118, 119, 120, 121] (by decide +kernel) (by decide +kernel)
set_option maxRecDepth 20000 in
theorem gX3_writeLine_X0_fill : GoodIn wsX3_writeLine (wsV RX3 67 RX0 yX0_fill wsX0_fill) := goodIn_app (goodIn_of _ (by decide +kernel)) ggX3_writeLine_X0_fill
set_option maxRecDepth 20000 in
theorem ggX3_writeLine_X0_placeOf : GoodIn wsX3_writeLine wsX0_placeOf := goodIn_r _ [16] (by decide +kernel) (by decide +kernel)
set_option maxRecDepth 20000 in
theorem gX3_writeLine_X0_placeOf : GoodIn wsX3_writeLine (va_wsS RX3 29 yX0_placeOf wsX0_placeOf) := goodIn_app (goodIn_of _ (by decide +kernel)) ggX3_writeLine_X0_placeOf
set_option maxRecDepth 20000 in
theorem ggX3_writeLine_X3_vacate : GoodIn wsX3_writeLine wsX3_vacate := goodIn_r _ [72, 73, 74, 75, 76, 20, 77, 78, 79, 80, 81, 46, 47, 48, 6, 49, 26, 50, 51, 52, 31, 53, 39, 40, 41, 54, 55, 56, 57, 58, 33, 42, 43, 44, 14, 15, 16, 59, 60, 61, 62, 13, 8, 117, 118, 119, 120, 121, 111, 112, 113, 114, 115, 116, 122, 123, 124] (by decide +kernel) (by decide +kernel)
set_option maxRecDepth 20000 in
theorem gX3_writeLine_X3_vacate : GoodIn wsX3_writeLine (wsV RX3 50 RX3 yX3_vacate wsX3_vacate) := goodIn_app (goodIn_of _ (by decide +kernel)) ggX3_writeLine_X3_vacate
set_option maxRecDepth 20000 in
theorem ggX3_writeLine_X3_beginToHold : GoodIn wsX3_writeLine wsX3_beginToHold := goodIn_r _ [85, 86, 87, 88, 63, 64, 65, 6, 66, 13, 67, 8, 14, 15, 16, 89, 90, 91, 31, 92, 38, 39, 40, 41, 93, 94, 95, 96, 58, 33, 42, 43, 44, 97, 98, 99, 100, 101, 102, 103, 20, 104, 73, 105, 74, 75, 76, 77, 78, 79, 80, 81, 106, 60, 61, 62, 107, 108, 109, 110, 117, 118, 119, 120, 121, 111, 112, 113, 114, 115, 116, 122, 123, 124] (by decide +kernel) (by decide +kernel)
set_option maxRecDepth 20000 in
theorem gX3_writeLine_X3_beginToHold : GoodIn wsX3_writeLine (wsV RX3 53 RX3 yX3_beginToHold wsX3_beginToHold) := goodIn_app (goodIn_of _ (by decide +kernel)) ggX3_writeLine_X3_beginToHold
theorem dX3_writeLine_0 : decode cX3_writeLine 0 = .ok (.aload_n 0, 1) := by decide +kernel
theorem dX3_writeLine_1 : decode cX3_writeLine 1 = .ok (.getfield 17, 3) := by decide +kernel
theorem dX3_writeLine_4 : decode cX3_writeLine 4 = .ok (.iload_n 1, 1) := by decide +kernel
theorem dX3_writeLine_5 : decode cX3_writeLine 5 = .ok (.aaload, 1) := by decide +kernel
theorem dX3_writeLine_6 : decode cX3_writeLine 6 = .ok (.astore 4, 2) := by decide +kernel
theorem dX3_writeLine_8 : decode cX3_writeLine 8 = .ok (.aload_n 0, 1) := by decide +kernel
theorem dX3_writeLine_9 : decode cX3_writeLine 9 = .ok (.dup, 1) := by decide +kernel
theorem dX3_writeLine_10 : decode cX3_writeLine 10 = .ok (.getfield 57, 3) := by decide +kernel
theorem dX3_writeLine_13 : decode cX3_writeLine 13 = .ok (.iconst 1, 1) := by decide +kernel
theorem dX3_writeLine_14 : decode cX3_writeLine 14 = .ok (.iadd, 1) := by decide +kernel
theorem dX3_writeLine_15 : decode cX3_writeLine 15 = .ok (.putfield 57, 3) := by decide +kernel
theorem dX3_writeLine_18 : decode cX3_writeLine 18 = .ok (.aload 4, 2) := by decide +kernel
theorem dX3_writeLine_20 : decode cX3_writeLine 20 = .ok (.iload_n 2, 1) := by decide +kernel
theorem dX3_writeLine_21 : decode cX3_writeLine 21 = .ok (.invokevirtual 60, 3) := by decide +kernel
theorem dX3_writeLine_24 : decode cX3_writeLine 24 = .ok (.ifCond .eq 7, 3) := by decide +kernel
theorem dX3_writeLine_27 : decode cX3_writeLine 27 = .ok (.iconst 0, 1) := by decide +kernel
theorem dX3_writeLine_28 : decode cX3_writeLine 28 = .ok (.goto 9, 3) := by decide +kernel
theorem dX3_writeLine_31 : decode cX3_writeLine 31 = .ok (.aload_n 0, 1) := by decide +kernel
theorem dX3_writeLine_32 : decode cX3_writeLine 32 = .ok (.iload_n 1, 1) := by decide +kernel
theorem dX3_writeLine_33 : decode cX3_writeLine 33 = .ok (.iload_n 2, 1) := by decide +kernel
theorem dX3_writeLine_34 : decode cX3_writeLine 34 = .ok (.invokevirtual 63, 3) := by decide +kernel
theorem dX3_writeLine_37 : decode cX3_writeLine 37 = .ok (.istore 5, 2) := by decide +kernel
theorem dX3_writeLine_39 : decode cX3_writeLine 39 = .ok (.aload 4, 2) := by decide +kernel
theorem dX3_writeLine_41 : decode cX3_writeLine 41 = .ok (.iload_n 2, 1) := by decide +kernel
theorem dX3_writeLine_42 : decode cX3_writeLine 42 = .ok (.invokevirtual 33, 3) := by decide +kernel
theorem dX3_writeLine_45 : decode cX3_writeLine 45 = .ok (.ifCond .eq 14, 3) := by decide +kernel
theorem dX3_writeLine_48 : decode cX3_writeLine 48 = .ok (.aload 4, 2) := by decide +kernel
theorem dX3_writeLine_50 : decode cX3_writeLine 50 = .ok (.iload_n 2, 1) := by decide +kernel
theorem dX3_writeLine_51 : decode cX3_writeLine 51 = .ok (.iload_n 3, 1) := by decide +kernel
theorem dX3_writeLine_52 : decode cX3_writeLine 52 = .ok (.iconst 1, 1) := by decide +kernel
theorem dX3_writeLine_53 : decode cX3_writeLine 53 = .ok (.invokevirtual 67, 3) := by decide +kernel
theorem dX3_writeLine_56 : decode cX3_writeLine 56 = .ok (.goto 22, 3) := by decide +kernel
theorem dX3_writeLine_59 : decode cX3_writeLine 59 = .ok (.aload_n 0, 1) := by decide +kernel
theorem dX3_writeLine_60 : decode cX3_writeLine 60 = .ok (.aload 4, 2) := by decide +kernel
theorem dX3_writeLine_62 : decode cX3_writeLine 62 = .ok (.iload_n 2, 1) := by decide +kernel
theorem dX3_writeLine_63 : decode cX3_writeLine 63 = .ok (.invokestatic 29, 3) := by decide +kernel
theorem dX3_writeLine_66 : decode cX3_writeLine 66 = .ok (.invokevirtual 50, 3) := by decide +kernel
theorem dX3_writeLine_69 : decode cX3_writeLine 69 = .ok (.aload_n 0, 1) := by decide +kernel
theorem dX3_writeLine_70 : decode cX3_writeLine 70 = .ok (.aload 4, 2) := by decide +kernel
theorem dX3_writeLine_72 : decode cX3_writeLine 72 = .ok (.iload_n 2, 1) := by decide +kernel
theorem dX3_writeLine_73 : decode cX3_writeLine 73 = .ok (.iload_n 3, 1) := by decide +kernel
theorem dX3_writeLine_74 : decode cX3_writeLine 74 = .ok (.iconst 1, 1) := by decide +kernel
theorem dX3_writeLine_75 : decode cX3_writeLine 75 = .ok (.invokevirtual 53, 3) := by decide +kernel
theorem dX3_writeLine_78 : decode cX3_writeLine 78 = .ok (.iload 5, 2) := by decide +kernel
theorem dX3_writeLine_80 : decode cX3_writeLine 80 = .ok (.ireturn, 1) := by decide +kernel
set_option maxRecDepth 20000 in
theorem ggX3_takeFromOthers_X0_isReachedBySnoop : GoodIn wsX3_takeFromOthers wsX0_isReachedBySnoop := goodIn_r _ [6, 7, 8, 9, 10, 11, 12, 13, 14, 15, 16, 17, 18, 19, 20, 21, 22, 23, 24, 25, 26, 27, 28, 5, 29, 30, 31, 32, 33, 59, 60, 61, 62, 63, 64, 65, 66] (by decide +kernel) (by decide +kernel)
set_option maxRecDepth 20000 in
theorem gX3_takeFromOthers_X0_isReachedBySnoop : GoodIn wsX3_takeFromOthers (wsV RX3 43 RX0 yX0_isReachedBySnoop wsX0_isReachedBySnoop) := goodIn_app (goodIn_of _ (by decide +kernel)) ggX3_takeFromOthers_X0_isReachedBySnoop
set_option maxRecDepth 20000 in
theorem ggX3_takeFromOthers_X0_holds : GoodIn wsX3_takeFromOthers wsX0_holds := goodIn_r _ [29, 30, 31, 32, 5, 33, 59, 60, 61, 62, 63] (by decide +kernel) (by decide +kernel)
set_option maxRecDepth 20000 in
theorem gX3_takeFromOthers_X0_holds : GoodIn wsX3_takeFromOthers (wsV RX3 33 RX0 yX0_holds wsX0_holds) := goodIn_app (goodIn_of _ (by decide +kernel)) ggX3_takeFromOthers_X0_holds
set_option maxRecDepth 20000 in
theorem ggX3_takeFromOthers_X0_release : GoodIn wsX3_takeFromOthers wsX0_release := goodIn_r _ [38, 7, 39, 40, 41, 12, 42, 20, 21, 22, 43, 44, 45, 46, 47, 14, 23, 24, 25, 31, 32, 5, 33, 48, 49, 50, 51, 30, 52, 59, 60, 61, 62, 63, 64, 65, 66] (by decide +kernel) (by decide +kernel)
set_option maxRecDepth 20000 in
theorem gX3_takeFromOthers_X0_release : GoodIn wsX3_takeFromOthers (wsV RX3 71 RX0 yX0_release wsX0_release) := goodIn_app (goodIn_of _ (by decide +kernel)) ggX3_takeFromOthers_X0_release
theorem dX3_takeFromOthers_0 : decode cX3_takeFromOthers 0 = .ok (.iconst 0, 1) := by decide +kernel
theorem dX3_takeFromOthers_1 : decode cX3_takeFromOthers 1 = .ok (.istore_n 3, 1) := by decide +kernel
theorem dX3_takeFromOthers_2 : decode cX3_takeFromOthers 2 = .ok (.iconst 0, 1) := by decide +kernel
theorem dX3_takeFromOthers_3 : decode cX3_takeFromOthers 3 = .ok (.istore 4, 2) := by decide +kernel
theorem dX3_takeFromOthers_5 : decode cX3_takeFromOthers 5 = .ok (.iload 4, 2) := by decide +kernel
theorem dX3_takeFromOthers_7 : decode cX3_takeFromOthers 7 = .ok (.iconst 4, 1) := by decide +kernel
theorem dX3_takeFromOthers_8 : decode cX3_takeFromOthers 8 = .ok (.if_icmp .ge 51, 3) := by decide +kernel
theorem dX3_takeFromOthers_11 : decode cX3_takeFromOthers 11 = .ok (.aload_n 0, 1) := by decide +kernel
theorem dX3_takeFromOthers_12 : decode cX3_takeFromOthers 12 = .ok (.getfield 17, 3) := by decide +kernel
theorem dX3_takeFromOthers_15 : decode cX3_takeFromOthers 15 = .ok (.iload 4, 2) := by decide +kernel
theorem dX3_takeFromOthers_17 : decode cX3_takeFromOthers 17 = .ok (.aaload, 1) := by decide +kernel
theorem dX3_takeFromOthers_18 : decode cX3_takeFromOthers 18 = .ok (.astore 5, 2) := by decide +kernel
theorem dX3_takeFromOthers_20 : decode cX3_takeFromOthers 20 = .ok (.iload 4, 2) := by decide +kernel
theorem dX3_takeFromOthers_22 : decode cX3_takeFromOthers 22 = .ok (.iload_n 1, 1) := by decide +kernel
theorem dX3_takeFromOthers_23 : decode cX3_takeFromOthers 23 = .ok (.if_icmp .eq 30, 3) := by decide +kernel
theorem dX3_takeFromOthers_26 : decode cX3_takeFromOthers 26 = .ok (.aload 5, 2) := by decide +kernel
theorem dX3_takeFromOthers_28 : decode cX3_takeFromOthers 28 = .ok (.iload_n 2, 1) := by decide +kernel
theorem dX3_takeFromOthers_29 : decode cX3_takeFromOthers 29 = .ok (.invokevirtual 43, 3) := by decide +kernel
theorem dX3_takeFromOthers_32 : decode cX3_takeFromOthers 32 = .ok (.ifCond .eq 21, 3) := by decide +kernel
theorem dX3_takeFromOthers_35 : decode cX3_takeFromOthers 35 = .ok (.iinc 3 1, 3) := by decide +kernel
theorem dX3_takeFromOthers_38 : decode cX3_takeFromOthers 38 = .ok (.aload 5, 2) := by decide +kernel
theorem dX3_takeFromOthers_40 : decode cX3_takeFromOthers 40 = .ok (.iload_n 2, 1) := by decide +kernel
theorem dX3_takeFromOthers_41 : decode cX3_takeFromOthers 41 = .ok (.invokevirtual 33, 3) := by decide +kernel
theorem dX3_takeFromOthers_44 : decode cX3_takeFromOthers 44 = .ok (.ifCond .eq 9, 3) := by decide +kernel
theorem dX3_takeFromOthers_47 : decode cX3_takeFromOthers 47 = .ok (.aload 5, 2) := by decide +kernel
theorem dX3_takeFromOthers_49 : decode cX3_takeFromOthers 49 = .ok (.iload_n 2, 1) := by decide +kernel
theorem dX3_takeFromOthers_50 : decode cX3_takeFromOthers 50 = .ok (.invokevirtual 71, 3) := by decide +kernel
theorem dX3_takeFromOthers_53 : decode cX3_takeFromOthers 53 = .ok (.iinc 4 1, 3) := by decide +kernel
theorem dX3_takeFromOthers_56 : decode cX3_takeFromOthers 56 = .ok (.goto (-51), 3) := by decide +kernel
theorem dX3_takeFromOthers_59 : decode cX3_takeFromOthers 59 = .ok (.iload_n 3, 1) := by decide +kernel
theorem dX3_takeFromOthers_60 : decode cX3_takeFromOthers 60 = .ok (.ireturn, 1) := by decide +kernel
set_option maxRecDepth 20000 in
theorem ggX3_dropLine_X0_holds : GoodIn wsX3_dropLine wsX0_holds := goodIn_r _ [6, 7, 8, 9, 5, 10, 64, 65, 66, 67, 68] (by decide +kernel) (by decide +kernel)
set_option maxRecDepth 20000 in
theorem gX3_dropLine_X0_holds : GoodIn wsX3_dropLine (wsV RX3 33 RX0 yX0_holds wsX0_holds) := goodIn_app (goodIn_of _ (by decide +kernel)) ggX3_dropLine_X0_holds
set_option maxRecDepth 20000 in
theorem ggX3_dropLine_X0_holdsDirty : GoodIn wsX3_dropLine wsX0_holdsDirty := goodIn_r _ [14, 15, 16, 3, 4, 5, 6, 7, 8, 9, 10, 64, 65, 66, 67, 68] (by decide +kernel) (by decide +kernel)
set_option maxRecDepth 20000 in
theorem gX3_dropLine_X0_holdsDirty : GoodIn wsX3_dropLine (wsV RX3 60 RX0 yX0_holdsDirty wsX0_holdsDirty) := goodIn_app (goodIn_of _ (by decide +kernel)) ggX3_dropLine_X0_holdsDirty
set_option maxRecDepth 20000 in
theorem ggX3_dropLine_X0_placeOf : GoodIn wsX3_dropLine wsX0_placeOf := goodIn_r _ [10] (by decide +kernel) (by decide +kernel)
set_option maxRecDepth 20000 in
theorem gX3_dropLine_X0_placeOf : GoodIn wsX3_dropLine (va_wsS RX3 29 yX0_placeOf wsX0_placeOf) := goodIn_app (goodIn_of _ (by decide +kernel)) ggX3_dropLine_X0_placeOf
set_option maxRecDepth 20000 in
theorem ggX3_dropLine_X3_vacate : GoodIn wsX3_dropLine wsX3_vacate := goodIn_r _ [22, 23, 24, 25, 26, 21, 27, 28, 29, 30, 31, 32, 33, 34, 5, 35, 36, 37, 38, 39, 40, 41, 42, 43, 44, 45, 46, 47, 48, 49, 50, 51, 52, 53, 8, 9, 10, 54, 55, 56, 57, 7, 15, 64, 65, 66, 67, 68, 58, 59, 60, 61, 62, 63, 69, 70, 71] (by decide +kernel) (by decide +kernel)
set_option maxRecDepth 20000 in
theorem gX3_dropLine_X3_vacate : GoodIn wsX3_dropLine (wsV RX3 50 RX3 yX3_vacate wsX3_vacate) := goodIn_app (goodIn_of _ (by decide +kernel)) ggX3_dropLine_X3_vacate
theorem dX3_dropLine_0 : decode cX3_dropLine 0 = .ok (.aload_n 0, 1) := by decide +kernel
theorem dX3_dropLine_1 : decode cX3_dropLine 1 = .ok (.getfield 17, 3) := by decide +kernel
theorem dX3_dropLine_4 : decode cX3_dropLine 4 = .ok (.iload_n 1, 1) := by decide +kernel
theorem dX3_dropLine_5 : decode cX3_dropLine 5 = .ok (.aaload, 1) := by decide +kernel
theorem dX3_dropLine_6 : decode cX3_dropLine 6 = .ok (.astore_n 3, 1) := by decide +kernel
theorem dX3_dropLine_7 : decode cX3_dropLine 7 = .ok (.aload_n 3, 1) := by decide +kernel
theorem dX3_dropLine_8 : decode cX3_dropLine 8 = .ok (.iload_n 2, 1) := by decide +kernel
theorem dX3_dropLine_9 : decode cX3_dropLine 9 = .ok (.invokevirtual 33, 3) := by decide +kernel
theorem dX3_dropLine_12 : decode cX3_dropLine 12 = .ok (.ifCond .ne 6, 3) := by decide +kernel
theorem dX3_dropLine_15 : decode cX3_dropLine 15 = .ok (.bipush (-4), 2) := by decide +kernel
theorem dX3_dropLine_17 : decode cX3_dropLine 17 = .ok (.ireturn, 1) := by decide +kernel
theorem dX3_dropLine_18 : decode cX3_dropLine 18 = .ok (.aload_n 3, 1) := by decide +kernel
theorem dX3_dropLine_19 : decode cX3_dropLine 19 = .ok (.iload_n 2, 1) := by decide +kernel
theorem dX3_dropLine_20 : decode cX3_dropLine 20 = .ok (.invokevirtual 60, 3) := by decide +kernel
theorem dX3_dropLine_23 : decode cX3_dropLine 23 = .ok (.ifCond .eq 7, 3) := by decide +kernel
theorem dX3_dropLine_26 : decode cX3_dropLine 26 = .ok (.iconst 1, 1) := by decide +kernel
theorem dX3_dropLine_27 : decode cX3_dropLine 27 = .ok (.goto 4, 3) := by decide +kernel
theorem dX3_dropLine_30 : decode cX3_dropLine 30 = .ok (.iconst 0, 1) := by decide +kernel
theorem dX3_dropLine_31 : decode cX3_dropLine 31 = .ok (.istore 4, 2) := by decide +kernel
theorem dX3_dropLine_33 : decode cX3_dropLine 33 = .ok (.aload_n 0, 1) := by decide +kernel
theorem dX3_dropLine_34 : decode cX3_dropLine 34 = .ok (.aload_n 3, 1) := by decide +kernel
theorem dX3_dropLine_35 : decode cX3_dropLine 35 = .ok (.iload_n 2, 1) := by decide +kernel
theorem dX3_dropLine_36 : decode cX3_dropLine 36 = .ok (.invokestatic 29, 3) := by decide +kernel
theorem dX3_dropLine_39 : decode cX3_dropLine 39 = .ok (.invokevirtual 50, 3) := by decide +kernel
theorem dX3_dropLine_42 : decode cX3_dropLine 42 = .ok (.iload 4, 2) := by decide +kernel
theorem dX3_dropLine_44 : decode cX3_dropLine 44 = .ok (.ireturn, 1) := by decide +kernel
set_option maxRecDepth 20000 in
theorem ggX3_forgetOnPurpose_X0_hasNothingToForget : GoodIn wsX3_forgetOnPurpose wsX0_hasNothingToForget := goodIn_r _ [6, 7, 8, 9, 10, 5, 11, 12, 13, 14, 15, 16, 17, 18, 19, 20, 21, 22, 23, 24, 25, 26, 59, 60, 61, 62, 63, 64, 65, 66] (by decide +kernel) (by decide +kernel)
set_option maxRecDepth 20000 in
theorem gX3_forgetOnPurpose_X0_hasNothingToForget : GoodIn wsX3_forgetOnPurpose (wsV RX3 75 RX0 yX0_hasNothingToForget wsX0_hasNothingToForget) := goodIn_app (goodIn_of _ (by decide +kernel)) ggX3_forgetOnPurpose_X0_hasNothingToForget
set_option maxRecDepth 20000 in
theorem ggX3_forgetOnPurpose_X3_forgetAllBut : GoodIn wsX3_forgetOnPurpose wsX3_forgetAllBut := goodIn_r _ [31, 32, 33, 34, 35, 36, 37, 30, 38, 39, 40, 41, 42, 43, 44, 45, 5, 46, 12, 47, 48, 49, 50, 16, 51, 18, 52, 23, 59, 60, 61, 62, 63, 53, 54, 55, 56, 57, 58, 64, 65, 66] (by decide +kernel) (by decide +kernel)
set_option maxRecDepth 20000 in
theorem gX3_forgetOnPurpose_X3_forgetAllBut : GoodIn wsX3_forgetOnPurpose (wsV RX3 79 RX3 yX3_forgetAllBut wsX3_forgetAllBut) := goodIn_app (goodIn_of _ (by decide +kernel)) ggX3_forgetOnPurpose_X3_forgetAllBut
theorem dX3_forgetOnPurpose_0 : decode cX3_forgetOnPurpose 0 = .ok (.aload_n 0, 1) := by decide +kernel
theorem dX3_forgetOnPurpose_1 : decode cX3_forgetOnPurpose 1 = .ok (.getfield 17, 3) := by decide +kernel
theorem dX3_forgetOnPurpose_4 : decode cX3_forgetOnPurpose 4 = .ok (.iload_n 1, 1) := by decide +kernel
theorem dX3_forgetOnPurpose_5 : decode cX3_forgetOnPurpose 5 = .ok (.aaload, 1) := by decide +kernel
theorem dX3_forgetOnPurpose_6 : decode cX3_forgetOnPurpose 6 = .ok (.astore_n 2, 1) := by decide +kernel
theorem dX3_forgetOnPurpose_7 : decode cX3_forgetOnPurpose 7 = .ok (.aload_n 2, 1) := by decide +kernel
theorem dX3_forgetOnPurpose_8 : decode cX3_forgetOnPurpose 8 = .ok (.invokevirtual 75, 3) := by decide +kernel
theorem dX3_forgetOnPurpose_11 : decode cX3_forgetOnPurpose 11 = .ok (.ifCond .eq 8, 3) := by decide +kernel
theorem dX3_forgetOnPurpose_14 : decode cX3_forgetOnPurpose 14 = .ok (.bipush (-5), 2) := by decide +kernel
theorem dX3_forgetOnPurpose_16 : decode cX3_forgetOnPurpose 16 = .ok (.goto 9, 3) := by decide +kernel
theorem dX3_forgetOnPurpose_19 : decode cX3_forgetOnPurpose 19 = .ok (.aload_n 0, 1) := by decide +kernel
theorem dX3_forgetOnPurpose_20 : decode cX3_forgetOnPurpose 20 = .ok (.aload_n 2, 1) := by decide +kernel
theorem dX3_forgetOnPurpose_21 : decode cX3_forgetOnPurpose 21 = .ok (.iconst (-1), 1) := by decide +kernel
theorem dX3_forgetOnPurpose_22 : decode cX3_forgetOnPurpose 22 = .ok (.invokevirtual 79, 3) := by decide +kernel
theorem dX3_forgetOnPurpose_25 : decode cX3_forgetOnPurpose 25 = .ok (.ireturn, 1) := by decide +kernel
set_option maxRecDepth 20000 in
theorem ggX3_beginToHold_X0_fill : GoodIn wsX3_beginToHold wsX0_fill := goodIn_r _ [8, 9, 10, 11, 12, 13, 7, 14, 60, 61, 62, 63, 64] (by decide +kernel) (by decide +kernel)
set_option maxRecDepth 20000 in
theorem gX3_beginToHold_X0_fill : GoodIn wsX3_beginToHold (wsV RX3 67 RX0 yX0_fill wsX0_fill) := goodIn_app (goodIn_of _ (by decide +kernel)) ggX3_beginToHold_X0_fill
set_option maxRecDepth 20000 in
theorem ggX3_beginToHold_X1_add : GoodIn wsX3_beginToHold wsX1_add := goodIn_r _ [19, 20, 21, 22, 18, 23, 24, 25, 26, 27, 28, 29, 30, 31, 32, 71, 72, 73] (by decide +kernel) (by decide +kernel)
set_option maxRecDepth 20000 in
theorem gX3_beginToHold_X1_add : GoodIn wsX3_beginToHold (wsV RX3 87 RX1 yX1_add wsX1_add) := goodIn_app (goodIn_of _ (by decide +kernel)) ggX3_beginToHold_X1_add
set_option maxRecDepth 20000 in
theorem ggX3_beginToHold_X1_countersAboveZero : GoodIn wsX3_beginToHold wsX1_countersAboveZero := goodIn_r _ [36, 29, 71, 72, 73] (by decide +kernel) (by decide +kernel)
set_option maxRecDepth 20000 in
theorem gX3_beginToHold_X1_countersAboveZero : GoodIn wsX3_beginToHold (wsV RX3 93 RX1 yX1_countersAboveZero wsX1_countersAboveZero) := goodIn_app (goodIn_of _ (by decide +kernel)) ggX3_beginToHold_X1_countersAboveZero
set_option maxRecDepth 20000 in
theorem ggX3_beginToHold_X3_forgetAllBut : GoodIn wsX3_beginToHold wsX3_forgetAllBut := goodIn_r _ [41, 42, 1, 43, 44, 45, 46, 40, 47, 48, 49, 50, 51, 52, 53, 54, 7, 55, 9, 11, 56, 57, 58, 18, 59, 29, 28, 20, 60, 61, 62, 63, 64, 65, 66, 67, 68, 69, 70, 71, 72, 73] (by decide +kernel) (by decide +kernel)
set_option maxRecDepth 20000 in
theorem gX3_beginToHold_X3_forgetAllBut : GoodIn wsX3_beginToHold (wsV RX3 79 RX3 yX3_forgetAllBut wsX3_forgetAllBut) := goodIn_app (goodIn_of _ (by decide +kernel)) ggX3_beginToHold_X3_forgetAllBut
theorem dX3_beginToHold_0 : decode cX3_beginToHold 0 = .ok (.aload_n 1, 1) := by decide +kernel
theorem dX3_beginToHold_1 : decode cX3_beginToHold 1 = .ok (.iload_n 2, 1) := by decide +kernel
theorem dX3_beginToHold_2 : decode cX3_beginToHold 2 = .ok (.iload_n 3, 1) := by decide +kernel
theorem dX3_beginToHold_3 : decode cX3_beginToHold 3 = .ok (.iload 4, 2) := by decide +kernel
theorem dX3_beginToHold_5 : decode cX3_beginToHold 5 = .ok (.invokevirtual 67, 3) := by decide +kernel
theorem dX3_beginToHold_8 : decode cX3_beginToHold 8 = .ok (.aload_n 1, 1) := by decide +kernel
theorem dX3_beginToHold_9 : decode cX3_beginToHold 9 = .ok (.getfield 83, 3) := by decide +kernel
theorem dX3_beginToHold_12 : decode cX3_beginToHold 12 = .ok (.iload_n 2, 1) := by decide +kernel
theorem dX3_beginToHold_13 : decode cX3_beginToHold 13 = .ok (.aload_n 0, 1) := by decide +kernel
theorem dX3_beginToHold_14 : decode cX3_beginToHold 14 = .ok (.getfield 21, 3) := by decide +kernel
theorem dX3_beginToHold_17 : decode cX3_beginToHold 17 = .ok (.invokevirtual 87, 3) := by decide +kernel
theorem dX3_beginToHold_20 : decode cX3_beginToHold 20 = .ok (.aload_n 1, 1) := by decide +kernel
theorem dX3_beginToHold_21 : decode cX3_beginToHold 21 = .ok (.getfield 83, 3) := by decide +kernel
theorem dX3_beginToHold_24 : decode cX3_beginToHold 24 = .ok (.invokevirtual 93, 3) := by decide +kernel
theorem dX3_beginToHold_27 : decode cX3_beginToHold 27 = .ok (.aload_n 0, 1) := by decide +kernel
theorem dX3_beginToHold_28 : decode cX3_beginToHold 28 = .ok (.getfield 25, 3) := by decide +kernel
theorem dX3_beginToHold_31 : decode cX3_beginToHold 31 = .ok (.if_icmp .lt 22, 3) := by decide +kernel
theorem dX3_beginToHold_34 : decode cX3_beginToHold 34 = .ok (.aload_n 0, 1) := by decide +kernel
theorem dX3_beginToHold_35 : decode cX3_beginToHold 35 = .ok (.aload_n 1, 1) := by decide +kernel
theorem dX3_beginToHold_36 : decode cX3_beginToHold 36 = .ok (.iload_n 2, 1) := by decide +kernel
theorem dX3_beginToHold_37 : decode cX3_beginToHold 37 = .ok (.invokevirtual 79, 3) := by decide +kernel
theorem dX3_beginToHold_40 : decode cX3_beginToHold 40 = .ok (.pop, 1) := by decide +kernel
theorem dX3_beginToHold_41 : decode cX3_beginToHold 41 = .ok (.aload_n 1, 1) := by decide +kernel
theorem dX3_beginToHold_42 : decode cX3_beginToHold 42 = .ok (.getfield 83, 3) := by decide +kernel
theorem dX3_beginToHold_45 : decode cX3_beginToHold 45 = .ok (.iload_n 2, 1) := by decide +kernel
theorem dX3_beginToHold_46 : decode cX3_beginToHold 46 = .ok (.aload_n 0, 1) := by decide +kernel
theorem dX3_beginToHold_47 : decode cX3_beginToHold 47 = .ok (.getfield 21, 3) := by decide +kernel
theorem dX3_beginToHold_50 : decode cX3_beginToHold 50 = .ok (.invokevirtual 87, 3) := by decide +kernel
theorem dX3_beginToHold_53 : decode cX3_beginToHold 53 = .ok (.return_, 1) := by decide +kernel
set_option maxRecDepth 20000 in
theorem ggX3_forgetAllBut_X3_writeBack : GoodIn wsX3_forgetAllBut wsX3_writeBack := goodIn_r _ [8, 1, 9, 10, 11, 12, 28, 29, 30, 31, 32, 33, 34, 35, 36, 37, 38] (by decide +kernel) (by decide +kernel)
set_option maxRecDepth 20000 in
theorem gX3_forgetAllBut_X3_writeBack : GoodIn wsX3_forgetAllBut (wsV RX3 46 RX3 yX3_writeBack wsX3_writeBack) := goodIn_app (goodIn_of _ (by decide +kernel)) ggX3_forgetAllBut_X3_writeBack
set_option maxRecDepth 20000 in
theorem ggX3_forgetAllBut_X0_empty : GoodIn wsX3_forgetAllBut wsX0_empty := goodIn_r _ [17, 18, 19, 28, 29, 30, 31, 32] (by decide +kernel) (by decide +kernel)
set_option maxRecDepth 20000 in
theorem gX3_forgetAllBut_X0_empty : GoodIn wsX3_forgetAllBut (wsV RX3 100 RX0 yX0_empty wsX0_empty) := goodIn_app (goodIn_of _ (by decide +kernel)) ggX3_forgetAllBut_X0_empty
set_option maxRecDepth 20000 in
theorem ggX3_forgetAllBut_X1_wipe : GoodIn wsX3_forgetAllBut wsX1_wipe := goodIn_r _ [24, 25, 26, 27, 39, 40, 41] (by decide +kernel) (by decide +kernel)
set_option maxRecDepth 20000 in
theorem gX3_forgetAllBut_X1_wipe : GoodIn wsX3_forgetAllBut (wsV RX3 103 RX1 yX1_wipe wsX1_wipe) := goodIn_app (goodIn_of _ (by decide +kernel)) ggX3_forgetAllBut_X1_wipe
theorem dX3_forgetAllBut_0 : decode cX3_forgetAllBut 0 = .ok (.iconst 0, 1) := by decide +kernel
theorem dX3_forgetAllBut_1 : decode cX3_forgetAllBut 1 = .ok (.istore_n 3, 1) := by decide +kernel
theorem dX3_forgetAllBut_2 : decode cX3_forgetAllBut 2 = .ok (.iconst 0, 1) := by decide +kernel
theorem dX3_forgetAllBut_3 : decode cX3_forgetAllBut 3 = .ok (.istore 4, 2) := by decide +kernel
theorem dX3_forgetAllBut_5 : decode cX3_forgetAllBut 5 = .ok (.iload 4, 2) := by decide +kernel
theorem dX3_forgetAllBut_7 : decode cX3_forgetAllBut 7 = .ok (.bipush 8, 2) := by decide +kernel
theorem dX3_forgetAllBut_9 : decode cX3_forgetAllBut 9 = .ok (.if_icmp .ge 46, 3) := by decide +kernel
theorem dX3_forgetAllBut_12 : decode cX3_forgetAllBut 12 = .ok (.aload_n 1, 1) := by decide +kernel
theorem dX3_forgetAllBut_13 : decode cX3_forgetAllBut 13 = .ok (.getfield 97, 3) := by decide +kernel
theorem dX3_forgetAllBut_16 : decode cX3_forgetAllBut 16 = .ok (.iload 4, 2) := by decide +kernel
theorem dX3_forgetAllBut_18 : decode cX3_forgetAllBut 18 = .ok (.iaload, 1) := by decide +kernel
theorem dX3_forgetAllBut_19 : decode cX3_forgetAllBut 19 = .ok (.istore 5, 2) := by decide +kernel
theorem dX3_forgetAllBut_21 : decode cX3_forgetAllBut 21 = .ok (.iload 5, 2) := by decide +kernel
theorem dX3_forgetAllBut_23 : decode cX3_forgetAllBut 23 = .ok (.iconst (-1), 1) := by decide +kernel
theorem dX3_forgetAllBut_24 : decode cX3_forgetAllBut 24 = .ok (.if_icmp .eq 25, 3) := by decide +kernel
theorem dX3_forgetAllBut_27 : decode cX3_forgetAllBut 27 = .ok (.iload 5, 2) := by decide +kernel
theorem dX3_forgetAllBut_29 : decode cX3_forgetAllBut 29 = .ok (.iload_n 2, 1) := by decide +kernel
theorem dX3_forgetAllBut_30 : decode cX3_forgetAllBut 30 = .ok (.if_icmp .eq 19, 3) := by decide +kernel
theorem dX3_forgetAllBut_33 : decode cX3_forgetAllBut 33 = .ok (.aload_n 0, 1) := by decide +kernel
theorem dX3_forgetAllBut_34 : decode cX3_forgetAllBut 34 = .ok (.aload_n 1, 1) := by decide +kernel
theorem dX3_forgetAllBut_35 : decode cX3_forgetAllBut 35 = .ok (.iload 4, 2) := by decide +kernel
theorem dX3_forgetAllBut_37 : decode cX3_forgetAllBut 37 = .ok (.invokevirtual 46, 3) := by decide +kernel
theorem dX3_forgetAllBut_40 : decode cX3_forgetAllBut 40 = .ok (.aload_n 1, 1) := by decide +kernel
theorem dX3_forgetAllBut_41 : decode cX3_forgetAllBut 41 = .ok (.iload 4, 2) := by decide +kernel
theorem dX3_forgetAllBut_43 : decode cX3_forgetAllBut 43 = .ok (.invokevirtual 100, 3) := by decide +kernel
theorem dX3_forgetAllBut_46 : decode cX3_forgetAllBut 46 = .ok (.iinc 3 1, 3) := by decide +kernel
theorem dX3_forgetAllBut_49 : decode cX3_forgetAllBut 49 = .ok (.iinc 4 1, 3) := by decide +kernel
theorem dX3_forgetAllBut_52 : decode cX3_forgetAllBut 52 = .ok (.goto (-47), 3) := by decide +kernel
theorem dX3_forgetAllBut_55 : decode cX3_forgetAllBut 55 = .ok (.aload_n 1, 1) := by decide +kernel
theorem dX3_forgetAllBut_56 : decode cX3_forgetAllBut 56 = .ok (.getfield 83, 3) := by decide +kernel
theorem dX3_forgetAllBut_59 : decode cX3_forgetAllBut 59 = .ok (.invokevirtual 103, 3) := by decide +kernel
theorem dX3_forgetAllBut_62 : decode cX3_forgetAllBut 62 = .ok (.aload_n 1, 1) := by decide +kernel
theorem dX3_forgetAllBut_63 : decode cX3_forgetAllBut 63 = .ok (.getfield 37, 3) := by decide +kernel
theorem dX3_forgetAllBut_66 : decode cX3_forgetAllBut 66 = .ok (.iconst 5, 1) := by decide +kernel
theorem dX3_forgetAllBut_67 : decode cX3_forgetAllBut 67 = .ok (.dup2, 1) := by decide +kernel
theorem dX3_forgetAllBut_68 : decode cX3_forgetAllBut 68 = .ok (.iaload, 1) := by decide +kernel
theorem dX3_forgetAllBut_69 : decode cX3_forgetAllBut 69 = .ok (.iconst 1, 1) := by decide +kernel
theorem dX3_forgetAllBut_70 : decode cX3_forgetAllBut 70 = .ok (.iadd, 1) := by decide +kernel
theorem dX3_forgetAllBut_71 : decode cX3_forgetAllBut 71 = .ok (.iastore, 1) := by decide +kernel
theorem dX3_forgetAllBut_72 : decode cX3_forgetAllBut 72 = .ok (.iload_n 3, 1) := by decide +kernel
theorem dX3_forgetAllBut_73 : decode cX3_forgetAllBut 73 = .ok (.ireturn, 1) := by decide +kernel
set_option maxRecDepth 20000 in
theorem ggX3_vacate_X3_writeBack : GoodIn wsX3_vacate wsX3_writeBack := goodIn_r _ [6, 1, 7, 8, 9, 10, 43, 44, 45, 46, 47, 48, 49, 50, 51, 52, 53] (by decide +kernel) (by decide +kernel)
set_option maxRecDepth 20000 in
theorem gX3_vacate_X3_writeBack : GoodIn wsX3_vacate (wsV RX3 46 RX3 yX3_writeBack wsX3_writeBack) := goodIn_app (goodIn_of _ (by decide +kernel)) ggX3_vacate_X3_writeBack
set_option maxRecDepth 20000 in
theorem ggX3_vacate_X0_release : GoodIn wsX3_vacate wsX0_release := goodIn_r _ [15, 16, 17, 18, 19, 20, 21, 22, 23, 24, 25, 26, 27, 28, 29, 30, 31, 32, 33, 34, 35, 14, 36, 37, 38, 39, 40, 41, 42, 43, 44, 45, 46, 47, 54, 55, 56] (by decide +kernel) (by decide +kernel)
set_option maxRecDepth 20000 in
theorem gX3_vacate_X0_release : GoodIn wsX3_vacate (wsV RX3 71 RX0 yX0_release wsX0_release) := goodIn_app (goodIn_of _ (by decide +kernel)) ggX3_vacate_X0_release
theorem dX3_vacate_0 : decode cX3_vacate 0 = .ok (.aload_n 1, 1) := by decide +kernel
theorem dX3_vacate_1 : decode cX3_vacate 1 = .ok (.getfield 97, 3) := by decide +kernel
theorem dX3_vacate_4 : decode cX3_vacate 4 = .ok (.iload_n 2, 1) := by decide +kernel
theorem dX3_vacate_5 : decode cX3_vacate 5 = .ok (.iaload, 1) := by decide +kernel
theorem dX3_vacate_6 : decode cX3_vacate 6 = .ok (.istore_n 3, 1) := by decide +kernel
theorem dX3_vacate_7 : decode cX3_vacate 7 = .ok (.iload_n 3, 1) := by decide +kernel
theorem dX3_vacate_8 : decode cX3_vacate 8 = .ok (.iconst (-1), 1) := by decide +kernel
theorem dX3_vacate_9 : decode cX3_vacate 9 = .ok (.if_icmp .eq 14, 3) := by decide +kernel
theorem dX3_vacate_12 : decode cX3_vacate 12 = .ok (.aload_n 0, 1) := by decide +kernel
theorem dX3_vacate_13 : decode cX3_vacate 13 = .ok (.aload_n 1, 1) := by decide +kernel
theorem dX3_vacate_14 : decode cX3_vacate 14 = .ok (.iload_n 2, 1) := by decide +kernel
theorem dX3_vacate_15 : decode cX3_vacate 15 = .ok (.invokevirtual 46, 3) := by decide +kernel
theorem dX3_vacate_18 : decode cX3_vacate 18 = .ok (.aload_n 1, 1) := by decide +kernel
theorem dX3_vacate_19 : decode cX3_vacate 19 = .ok (.iload_n 3, 1) := by decide +kernel
theorem dX3_vacate_20 : decode cX3_vacate 20 = .ok (.invokevirtual 71, 3) := by decide +kernel
theorem dX3_vacate_23 : decode cX3_vacate 23 = .ok (.return_, 1) := by decide +kernel
theorem dX3_writeBack_0 : decode cX3_writeBack 0 = .ok (.aload_n 1, 1) := by decide +kernel
theorem dX3_writeBack_1 : decode cX3_writeBack 1 = .ok (.getfield 97, 3) := by decide +kernel
theorem dX3_writeBack_4 : decode cX3_writeBack 4 = .ok (.iload_n 2, 1) := by decide +kernel
theorem dX3_writeBack_5 : decode cX3_writeBack 5 = .ok (.iaload, 1) := by decide +kernel
theorem dX3_writeBack_6 : decode cX3_writeBack 6 = .ok (.istore_n 3, 1) := by decide +kernel
theorem dX3_writeBack_7 : decode cX3_writeBack 7 = .ok (.iload_n 3, 1) := by decide +kernel
theorem dX3_writeBack_8 : decode cX3_writeBack 8 = .ok (.iconst (-1), 1) := by decide +kernel
theorem dX3_writeBack_9 : decode cX3_writeBack 9 = .ok (.if_icmp .eq 41, 3) := by decide +kernel
theorem dX3_writeBack_12 : decode cX3_writeBack 12 = .ok (.aload_n 1, 1) := by decide +kernel
theorem dX3_writeBack_13 : decode cX3_writeBack 13 = .ok (.getfield 106, 3) := by decide +kernel
theorem dX3_writeBack_16 : decode cX3_writeBack 16 = .ok (.iload_n 2, 1) := by decide +kernel
theorem dX3_writeBack_17 : decode cX3_writeBack 17 = .ok (.baload, 1) := by decide +kernel
theorem dX3_writeBack_18 : decode cX3_writeBack 18 = .ok (.ifCond .eq 32, 3) := by decide +kernel
theorem dX3_writeBack_21 : decode cX3_writeBack 21 = .ok (.aload_n 0, 1) := by decide +kernel
theorem dX3_writeBack_22 : decode cX3_writeBack 22 = .ok (.getfield 9, 3) := by decide +kernel
theorem dX3_writeBack_25 : decode cX3_writeBack 25 = .ok (.iload_n 3, 1) := by decide +kernel
theorem dX3_writeBack_26 : decode cX3_writeBack 26 = .ok (.aload_n 1, 1) := by decide +kernel
theorem dX3_writeBack_27 : decode cX3_writeBack 27 = .ok (.getfield 40, 3) := by decide +kernel
theorem dX3_writeBack_30 : decode cX3_writeBack 30 = .ok (.iload_n 2, 1) := by decide +kernel
theorem dX3_writeBack_31 : decode cX3_writeBack 31 = .ok (.iaload, 1) := by decide +kernel
theorem dX3_writeBack_32 : decode cX3_writeBack 32 = .ok (.iastore, 1) := by decide +kernel
theorem dX3_writeBack_33 : decode cX3_writeBack 33 = .ok (.aload_n 1, 1) := by decide +kernel
theorem dX3_writeBack_34 : decode cX3_writeBack 34 = .ok (.getfield 106, 3) := by decide +kernel
theorem dX3_writeBack_37 : decode cX3_writeBack 37 = .ok (.iload_n 2, 1) := by decide +kernel
theorem dX3_writeBack_38 : decode cX3_writeBack 38 = .ok (.iconst 0, 1) := by decide +kernel
theorem dX3_writeBack_39 : decode cX3_writeBack 39 = .ok (.bastore, 1) := by decide +kernel
theorem dX3_writeBack_40 : decode cX3_writeBack 40 = .ok (.aload_n 0, 1) := by decide +kernel
theorem dX3_writeBack_41 : decode cX3_writeBack 41 = .ok (.dup, 1) := by decide +kernel
theorem dX3_writeBack_42 : decode cX3_writeBack 42 = .ok (.getfield 110, 3) := by decide +kernel
theorem dX3_writeBack_45 : decode cX3_writeBack 45 = .ok (.iconst 1, 1) := by decide +kernel
theorem dX3_writeBack_46 : decode cX3_writeBack 46 = .ok (.iadd, 1) := by decide +kernel
theorem dX3_writeBack_47 : decode cX3_writeBack 47 = .ok (.putfield 110, 3) := by decide +kernel
theorem dX3_writeBack_50 : decode cX3_writeBack 50 = .ok (.return_, 1) := by decide +kernel
set_option maxRecDepth 20000 in
theorem ggX3_valueForReader_X0_holds : GoodIn wsX3_valueForReader wsX0_holds := goodIn_r _ [8, 9, 10, 11, 7, 12, 20, 21, 22, 23, 24] (by decide +kernel) (by decide +kernel)
set_option maxRecDepth 20000 in
theorem gX3_valueForReader_X0_holds : GoodIn wsX3_valueForReader (wsV RX3 33 RX0 yX0_holds wsX0_holds) := goodIn_app (goodIn_of _ (by decide +kernel)) ggX3_valueForReader_X0_holds
set_option maxRecDepth 20000 in
theorem ggX3_valueForReader_X0_placeOf : GoodIn wsX3_valueForReader wsX0_placeOf := goodIn_r _ [12] (by decide +kernel) (by decide +kernel)
set_option maxRecDepth 20000 in
theorem gX3_valueForReader_X0_placeOf : GoodIn wsX3_valueForReader (va_wsS RX3 29 yX0_placeOf wsX0_placeOf) := goodIn_app (goodIn_of _ (by decide +kernel)) ggX3_valueForReader_X0_placeOf
theorem dX3_valueForReader_0 : decode cX3_valueForReader 0 = .ok (.iconst 0, 1) := by decide +kernel
theorem dX3_valueForReader_1 : decode cX3_valueForReader 1 = .ok (.istore_n 2, 1) := by decide +kernel
theorem dX3_valueForReader_2 : decode cX3_valueForReader 2 = .ok (.iload_n 2, 1) := by decide +kernel
theorem dX3_valueForReader_3 : decode cX3_valueForReader 3 = .ok (.iconst 4, 1) := by decide +kernel
theorem dX3_valueForReader_4 : decode cX3_valueForReader 4 = .ok (.if_icmp .ge 37, 3) := by decide +kernel
theorem dX3_valueForReader_7 : decode cX3_valueForReader 7 = .ok (.aload_n 0, 1) := by decide +kernel
theorem dX3_valueForReader_8 : decode cX3_valueForReader 8 = .ok (.getfield 17, 3) := by decide +kernel
theorem dX3_valueForReader_11 : decode cX3_valueForReader 11 = .ok (.iload_n 2, 1) := by decide +kernel
theorem dX3_valueForReader_12 : decode cX3_valueForReader 12 = .ok (.aaload, 1) := by decide +kernel
theorem dX3_valueForReader_13 : decode cX3_valueForReader 13 = .ok (.iload_n 1, 1) := by decide +kernel
theorem dX3_valueForReader_14 : decode cX3_valueForReader 14 = .ok (.invokevirtual 33, 3) := by decide +kernel
theorem dX3_valueForReader_17 : decode cX3_valueForReader 17 = .ok (.ifCond .eq 18, 3) := by decide +kernel
theorem dX3_valueForReader_20 : decode cX3_valueForReader 20 = .ok (.aload_n 0, 1) := by decide +kernel
theorem dX3_valueForReader_21 : decode cX3_valueForReader 21 = .ok (.getfield 17, 3) := by decide +kernel
theorem dX3_valueForReader_24 : decode cX3_valueForReader 24 = .ok (.iload_n 2, 1) := by decide +kernel
theorem dX3_valueForReader_25 : decode cX3_valueForReader 25 = .ok (.aaload, 1) := by decide +kernel
theorem dX3_valueForReader_26 : decode cX3_valueForReader 26 = .ok (.getfield 40, 3) := by decide +kernel
theorem dX3_valueForReader_29 : decode cX3_valueForReader 29 = .ok (.iload_n 1, 1) := by decide +kernel
theorem dX3_valueForReader_30 : decode cX3_valueForReader 30 = .ok (.invokestatic 29, 3) := by decide +kernel
theorem dX3_valueForReader_33 : decode cX3_valueForReader 33 = .ok (.iaload, 1) := by decide +kernel
theorem dX3_valueForReader_34 : decode cX3_valueForReader 34 = .ok (.ireturn, 1) := by decide +kernel
theorem dX3_valueForReader_35 : decode cX3_valueForReader 35 = .ok (.iinc 2 1, 3) := by decide +kernel
theorem dX3_valueForReader_38 : decode cX3_valueForReader 38 = .ok (.goto (-36), 3) := by decide +kernel
theorem dX3_valueForReader_41 : decode cX3_valueForReader 41 = .ok (.aload_n 0, 1) := by decide +kernel
theorem dX3_valueForReader_42 : decode cX3_valueForReader 42 = .ok (.getfield 9, 3) := by decide +kernel
theorem dX3_valueForReader_45 : decode cX3_valueForReader 45 = .ok (.iload_n 1, 1) := by decide +kernel
theorem dX3_valueForReader_46 : decode cX3_valueForReader 46 = .ok (.iaload, 1) := by decide +kernel
theorem dX3_valueForReader_47 : decode cX3_valueForReader 47 = .ok (.ireturn, 1) := by decide +kernel
set_option maxRecDepth 20000 in
theorem ggX3_holdersOf_X0_holds : GoodIn wsX3_holdersOf wsX0_holds := goodIn_r _ [6, 7, 8, 9, 5, 10, 17, 18, 19, 20, 21] (by decide +kernel) (by decide +kernel)
set_option maxRecDepth 20000 in
theorem gX3_holdersOf_X0_holds : GoodIn wsX3_holdersOf (wsV RX3 33 RX0 yX0_holds wsX0_holds) := goodIn_app (goodIn_of _ (by decide +kernel)) ggX3_holdersOf_X0_holds
theorem dX3_holdersOf_0 : decode cX3_holdersOf 0 = .ok (.iconst 0, 1) := by decide +kernel
theorem dX3_holdersOf_1 : decode cX3_holdersOf 1 = .ok (.istore_n 2, 1) := by decide +kernel
theorem dX3_holdersOf_2 : decode cX3_holdersOf 2 = .ok (.iconst 0, 1) := by decide +kernel
theorem dX3_holdersOf_3 : decode cX3_holdersOf 3 = .ok (.istore_n 3, 1) := by decide +kernel
theorem dX3_holdersOf_4 : decode cX3_holdersOf 4 = .ok (.iload_n 3, 1) := by decide +kernel
theorem dX3_holdersOf_5 : decode cX3_holdersOf 5 = .ok (.iconst 4, 1) := by decide +kernel
theorem dX3_holdersOf_6 : decode cX3_holdersOf 6 = .ok (.if_icmp .ge 28, 3) := by decide +kernel
theorem dX3_holdersOf_9 : decode cX3_holdersOf 9 = .ok (.aload_n 0, 1) := by decide +kernel
theorem dX3_holdersOf_10 : decode cX3_holdersOf 10 = .ok (.getfield 17, 3) := by decide +kernel
theorem dX3_holdersOf_13 : decode cX3_holdersOf 13 = .ok (.iload_n 3, 1) := by decide +kernel
theorem dX3_holdersOf_14 : decode cX3_holdersOf 14 = .ok (.aaload, 1) := by decide +kernel
theorem dX3_holdersOf_15 : decode cX3_holdersOf 15 = .ok (.iload_n 1, 1) := by decide +kernel
theorem dX3_holdersOf_16 : decode cX3_holdersOf 16 = .ok (.invokevirtual 33, 3) := by decide +kernel
theorem dX3_holdersOf_19 : decode cX3_holdersOf 19 = .ok (.ifCond .eq 9, 3) := by decide +kernel
theorem dX3_holdersOf_22 : decode cX3_holdersOf 22 = .ok (.iload_n 2, 1) := by decide +kernel
theorem dX3_holdersOf_23 : decode cX3_holdersOf 23 = .ok (.iconst 1, 1) := by decide +kernel
theorem dX3_holdersOf_24 : decode cX3_holdersOf 24 = .ok (.iload_n 3, 1) := by decide +kernel
theorem dX3_holdersOf_25 : decode cX3_holdersOf 25 = .ok (.ishl, 1) := by decide +kernel
theorem dX3_holdersOf_26 : decode cX3_holdersOf 26 = .ok (.ior, 1) := by decide +kernel
theorem dX3_holdersOf_27 : decode cX3_holdersOf 27 = .ok (.istore_n 2, 1) := by decide +kernel
theorem dX3_holdersOf_28 : decode cX3_holdersOf 28 = .ok (.iinc 3 1, 3) := by decide +kernel
theorem dX3_holdersOf_31 : decode cX3_holdersOf 31 = .ok (.goto (-27), 3) := by decide +kernel
theorem dX3_holdersOf_34 : decode cX3_holdersOf 34 = .ok (.iload_n 2, 1) := by decide +kernel
theorem dX3_holdersOf_35 : decode cX3_holdersOf 35 = .ok (.ireturn, 1) := by decide +kernel
set_option maxRecDepth 20000 in
theorem ggX3_coresThatMayHave_X1_mayHave : GoodIn wsX3_coresThatMayHave wsX1_mayHave := goodIn_r _ [7, 8, 9, 10, 11, 6, 12, 13, 14, 15, 16, 17, 18, 19, 31, 32, 33] (by decide +kernel) (by decide +kernel)
set_option maxRecDepth 20000 in
theorem gX3_coresThatMayHave_X1_mayHave : GoodIn wsX3_coresThatMayHave (wsV RX3 113 RX1 yX1_mayHave wsX1_mayHave) := goodIn_app (goodIn_of _ (by decide +kernel)) ggX3_coresThatMayHave_X1_mayHave
theorem dX3_coresThatMayHave_0 : decode cX3_coresThatMayHave 0 = .ok (.iconst 0, 1) := by decide +kernel
theorem dX3_coresThatMayHave_1 : decode cX3_coresThatMayHave 1 = .ok (.istore_n 2, 1) := by decide +kernel
theorem dX3_coresThatMayHave_2 : decode cX3_coresThatMayHave 2 = .ok (.iconst 0, 1) := by decide +kernel
theorem dX3_coresThatMayHave_3 : decode cX3_coresThatMayHave 3 = .ok (.istore_n 3, 1) := by decide +kernel
theorem dX3_coresThatMayHave_4 : decode cX3_coresThatMayHave 4 = .ok (.iload_n 3, 1) := by decide +kernel
theorem dX3_coresThatMayHave_5 : decode cX3_coresThatMayHave 5 = .ok (.iconst 4, 1) := by decide +kernel
theorem dX3_coresThatMayHave_6 : decode cX3_coresThatMayHave 6 = .ok (.if_icmp .ge 31, 3) := by decide +kernel
theorem dX3_coresThatMayHave_9 : decode cX3_coresThatMayHave 9 = .ok (.aload_n 0, 1) := by decide +kernel
theorem dX3_coresThatMayHave_10 : decode cX3_coresThatMayHave 10 = .ok (.getfield 17, 3) := by decide +kernel
theorem dX3_coresThatMayHave_13 : decode cX3_coresThatMayHave 13 = .ok (.iload_n 3, 1) := by decide +kernel
theorem dX3_coresThatMayHave_14 : decode cX3_coresThatMayHave 14 = .ok (.aaload, 1) := by decide +kernel
theorem dX3_coresThatMayHave_15 : decode cX3_coresThatMayHave 15 = .ok (.getfield 83, 3) := by decide +kernel
theorem dX3_coresThatMayHave_18 : decode cX3_coresThatMayHave 18 = .ok (.iload_n 1, 1) := by decide +kernel
theorem dX3_coresThatMayHave_19 : decode cX3_coresThatMayHave 19 = .ok (.invokevirtual 113, 3) := by decide +kernel
theorem dX3_coresThatMayHave_22 : decode cX3_coresThatMayHave 22 = .ok (.ifCond .eq 9, 3) := by decide +kernel
theorem dX3_coresThatMayHave_25 : decode cX3_coresThatMayHave 25 = .ok (.iload_n 2, 1) := by decide +kernel
theorem dX3_coresThatMayHave_26 : decode cX3_coresThatMayHave 26 = .ok (.iconst 1, 1) := by decide +kernel
theorem dX3_coresThatMayHave_27 : decode cX3_coresThatMayHave 27 = .ok (.iload_n 3, 1) := by decide +kernel
theorem dX3_coresThatMayHave_28 : decode cX3_coresThatMayHave 28 = .ok (.ishl, 1) := by decide +kernel
theorem dX3_coresThatMayHave_29 : decode cX3_coresThatMayHave 29 = .ok (.ior, 1) := by decide +kernel
theorem dX3_coresThatMayHave_30 : decode cX3_coresThatMayHave 30 = .ok (.istore_n 2, 1) := by decide +kernel
theorem dX3_coresThatMayHave_31 : decode cX3_coresThatMayHave 31 = .ok (.iinc 3 1, 3) := by decide +kernel
theorem dX3_coresThatMayHave_34 : decode cX3_coresThatMayHave 34 = .ok (.goto (-30), 3) := by decide +kernel
theorem dX3_coresThatMayHave_37 : decode cX3_coresThatMayHave 37 = .ok (.iload_n 2, 1) := by decide +kernel
theorem dX3_coresThatMayHave_38 : decode cX3_coresThatMayHave 38 = .ok (.ireturn, 1) := by decide +kernel
theorem dX3_sumOf_0 : decode cX3_sumOf 0 = .ok (.iconst 0, 1) := by decide +kernel
theorem dX3_sumOf_1 : decode cX3_sumOf 1 = .ok (.istore_n 2, 1) := by decide +kernel
theorem dX3_sumOf_2 : decode cX3_sumOf 2 = .ok (.iconst 0, 1) := by decide +kernel
theorem dX3_sumOf_3 : decode cX3_sumOf 3 = .ok (.istore_n 3, 1) := by decide +kernel
theorem dX3_sumOf_4 : decode cX3_sumOf 4 = .ok (.iload_n 3, 1) := by decide +kernel
theorem dX3_sumOf_5 : decode cX3_sumOf 5 = .ok (.iconst 4, 1) := by decide +kernel
theorem dX3_sumOf_6 : decode cX3_sumOf 6 = .ok (.if_icmp .ge 23, 3) := by decide +kernel
theorem dX3_sumOf_9 : decode cX3_sumOf 9 = .ok (.iload_n 2, 1) := by decide +kernel
theorem dX3_sumOf_10 : decode cX3_sumOf 10 = .ok (.aload_n 0, 1) := by decide +kernel
theorem dX3_sumOf_11 : decode cX3_sumOf 11 = .ok (.getfield 17, 3) := by decide +kernel
theorem dX3_sumOf_14 : decode cX3_sumOf 14 = .ok (.iload_n 3, 1) := by decide +kernel
theorem dX3_sumOf_15 : decode cX3_sumOf 15 = .ok (.aaload, 1) := by decide +kernel
theorem dX3_sumOf_16 : decode cX3_sumOf 16 = .ok (.getfield 37, 3) := by decide +kernel
theorem dX3_sumOf_19 : decode cX3_sumOf 19 = .ok (.iload_n 1, 1) := by decide +kernel
theorem dX3_sumOf_20 : decode cX3_sumOf 20 = .ok (.iaload, 1) := by decide +kernel
theorem dX3_sumOf_21 : decode cX3_sumOf 21 = .ok (.iadd, 1) := by decide +kernel
theorem dX3_sumOf_22 : decode cX3_sumOf 22 = .ok (.istore_n 2, 1) := by decide +kernel
theorem dX3_sumOf_23 : decode cX3_sumOf 23 = .ok (.iinc 3 1, 3) := by decide +kernel
theorem dX3_sumOf_26 : decode cX3_sumOf 26 = .ok (.goto (-22), 3) := by decide +kernel
theorem dX3_sumOf_29 : decode cX3_sumOf 29 = .ok (.iload_n 2, 1) := by decide +kernel
theorem dX3_sumOf_30 : decode cX3_sumOf 30 = .ok (.ireturn, 1) := by decide +kernel
set_option maxRecDepth 20000 in
theorem ggX3_heldByAll_X0_heldLines : GoodIn wsX3_heldByAll wsX0_heldLines := goodIn_r _ [6, 7, 14, 15, 16, 17, 18] (by decide +kernel) (by decide +kernel)
set_option maxRecDepth 20000 in
theorem gX3_heldByAll_X0_heldLines : GoodIn wsX3_heldByAll (wsV RX3 116 RX0 yX0_heldLines wsX0_heldLines) := goodIn_app (goodIn_of _ (by decide +kernel)) ggX3_heldByAll_X0_heldLines
theorem dX3_heldByAll_0 : decode cX3_heldByAll 0 = .ok (.iconst 0, 1) := by decide +kernel
theorem dX3_heldByAll_1 : decode cX3_heldByAll 1 = .ok (.istore_n 1, 1) := by decide +kernel
theorem dX3_heldByAll_2 : decode cX3_heldByAll 2 = .ok (.iconst 0, 1) := by decide +kernel
theorem dX3_heldByAll_3 : decode cX3_heldByAll 3 = .ok (.istore_n 2, 1) := by decide +kernel
theorem dX3_heldByAll_4 : decode cX3_heldByAll 4 = .ok (.iload_n 2, 1) := by decide +kernel
theorem dX3_heldByAll_5 : decode cX3_heldByAll 5 = .ok (.iconst 4, 1) := by decide +kernel
theorem dX3_heldByAll_6 : decode cX3_heldByAll 6 = .ok (.if_icmp .ge 21, 3) := by decide +kernel
theorem dX3_heldByAll_9 : decode cX3_heldByAll 9 = .ok (.iload_n 1, 1) := by decide +kernel
theorem dX3_heldByAll_10 : decode cX3_heldByAll 10 = .ok (.aload_n 0, 1) := by decide +kernel
theorem dX3_heldByAll_11 : decode cX3_heldByAll 11 = .ok (.getfield 17, 3) := by decide +kernel
theorem dX3_heldByAll_14 : decode cX3_heldByAll 14 = .ok (.iload_n 2, 1) := by decide +kernel
theorem dX3_heldByAll_15 : decode cX3_heldByAll 15 = .ok (.aaload, 1) := by decide +kernel
theorem dX3_heldByAll_16 : decode cX3_heldByAll 16 = .ok (.invokevirtual 116, 3) := by decide +kernel
theorem dX3_heldByAll_19 : decode cX3_heldByAll 19 = .ok (.iadd, 1) := by decide +kernel
theorem dX3_heldByAll_20 : decode cX3_heldByAll 20 = .ok (.istore_n 1, 1) := by decide +kernel
theorem dX3_heldByAll_21 : decode cX3_heldByAll 21 = .ok (.iinc 2 1, 3) := by decide +kernel
theorem dX3_heldByAll_24 : decode cX3_heldByAll 24 = .ok (.goto (-20), 3) := by decide +kernel
theorem dX3_heldByAll_27 : decode cX3_heldByAll 27 = .ok (.iload_n 1, 1) := by decide +kernel
theorem dX3_heldByAll_28 : decode cX3_heldByAll 28 = .ok (.ireturn, 1) := by decide +kernel
set_option maxRecDepth 20000 in
theorem ggX3_dirtyOfAll_X0_dirtyLines : GoodIn wsX3_dirtyOfAll wsX0_dirtyLines := goodIn_r _ [6, 7, 8, 9, 10, 17, 18, 19, 20, 21] (by decide +kernel) (by decide +kernel)
set_option maxRecDepth 20000 in
theorem gX3_dirtyOfAll_X0_dirtyLines : GoodIn wsX3_dirtyOfAll (wsV RX3 119 RX0 yX0_dirtyLines wsX0_dirtyLines) := goodIn_app (goodIn_of _ (by decide +kernel)) ggX3_dirtyOfAll_X0_dirtyLines
theorem dX3_dirtyOfAll_0 : decode cX3_dirtyOfAll 0 = .ok (.iconst 0, 1) := by decide +kernel
theorem dX3_dirtyOfAll_1 : decode cX3_dirtyOfAll 1 = .ok (.istore_n 1, 1) := by decide +kernel
theorem dX3_dirtyOfAll_2 : decode cX3_dirtyOfAll 2 = .ok (.iconst 0, 1) := by decide +kernel
theorem dX3_dirtyOfAll_3 : decode cX3_dirtyOfAll 3 = .ok (.istore_n 2, 1) := by decide +kernel
theorem dX3_dirtyOfAll_4 : decode cX3_dirtyOfAll 4 = .ok (.iload_n 2, 1) := by decide +kernel
theorem dX3_dirtyOfAll_5 : decode cX3_dirtyOfAll 5 = .ok (.iconst 4, 1) := by decide +kernel
theorem dX3_dirtyOfAll_6 : decode cX3_dirtyOfAll 6 = .ok (.if_icmp .ge 21, 3) := by decide +kernel
theorem dX3_dirtyOfAll_9 : decode cX3_dirtyOfAll 9 = .ok (.iload_n 1, 1) := by decide +kernel
theorem dX3_dirtyOfAll_10 : decode cX3_dirtyOfAll 10 = .ok (.aload_n 0, 1) := by decide +kernel
theorem dX3_dirtyOfAll_11 : decode cX3_dirtyOfAll 11 = .ok (.getfield 17, 3) := by decide +kernel
theorem dX3_dirtyOfAll_14 : decode cX3_dirtyOfAll 14 = .ok (.iload_n 2, 1) := by decide +kernel
theorem dX3_dirtyOfAll_15 : decode cX3_dirtyOfAll 15 = .ok (.aaload, 1) := by decide +kernel
theorem dX3_dirtyOfAll_16 : decode cX3_dirtyOfAll 16 = .ok (.invokevirtual 119, 3) := by decide +kernel
theorem dX3_dirtyOfAll_19 : decode cX3_dirtyOfAll 19 = .ok (.iadd, 1) := by decide +kernel
theorem dX3_dirtyOfAll_20 : decode cX3_dirtyOfAll 20 = .ok (.istore_n 1, 1) := by decide +kernel
theorem dX3_dirtyOfAll_21 : decode cX3_dirtyOfAll 21 = .ok (.iinc 2 1, 3) := by decide +kernel
theorem dX3_dirtyOfAll_24 : decode cX3_dirtyOfAll 24 = .ok (.goto (-20), 3) := by decide +kernel
theorem dX3_dirtyOfAll_27 : decode cX3_dirtyOfAll 27 = .ok (.iload_n 1, 1) := by decide +kernel
theorem dX3_dirtyOfAll_28 : decode cX3_dirtyOfAll 28 = .ok (.ireturn, 1) := by decide +kernel
set_option maxRecDepth 20000 in
theorem ggX3_copyFrom_X0_copyFrom : GoodIn wsX3_copyFrom wsX0_copyFrom := goodIn_r _ [15, 16, 17, 3, 4, 5, 18, 19, 20, 21, 22, 23, 24, 25, 26, 27, 28, 29, 30, 37, 38, 39, 40, 41, 42, 43, 44] (by decide +kernel) (by decide +kernel)
set_option maxRecDepth 20000 in
theorem gX3_copyFrom_X0_copyFrom : GoodIn wsX3_copyFrom (wsV RX3 128 RX0 yX0_copyFrom wsX0_copyFrom) := goodIn_app (goodIn_of _ (by decide +kernel)) ggX3_copyFrom_X0_copyFrom
theorem dX3_copyFrom_0 : decode cX3_copyFrom 0 = .ok (.aload_n 1, 1) := by decide +kernel
theorem dX3_copyFrom_1 : decode cX3_copyFrom 1 = .ok (.getfield 9, 3) := by decide +kernel
theorem dX3_copyFrom_4 : decode cX3_copyFrom 4 = .ok (.iconst 0, 1) := by decide +kernel
theorem dX3_copyFrom_5 : decode cX3_copyFrom 5 = .ok (.aload_n 0, 1) := by decide +kernel
theorem dX3_copyFrom_6 : decode cX3_copyFrom 6 = .ok (.getfield 9, 3) := by decide +kernel
theorem dX3_copyFrom_9 : decode cX3_copyFrom 9 = .ok (.iconst 0, 1) := by decide +kernel
theorem dX3_copyFrom_10 : decode cX3_copyFrom 10 = .ok (.sipush 256, 3) := by decide +kernel
theorem dX3_copyFrom_13 : decode cX3_copyFrom 13 = .ok (.invokestatic 122, 3) := by decide +kernel
theorem dX3_copyFrom_16 : decode cX3_copyFrom 16 = .ok (.iconst 0, 1) := by decide +kernel
theorem dX3_copyFrom_17 : decode cX3_copyFrom 17 = .ok (.istore_n 2, 1) := by decide +kernel
theorem dX3_copyFrom_18 : decode cX3_copyFrom 18 = .ok (.iload_n 2, 1) := by decide +kernel
theorem dX3_copyFrom_19 : decode cX3_copyFrom 19 = .ok (.iconst 4, 1) := by decide +kernel
theorem dX3_copyFrom_20 : decode cX3_copyFrom 20 = .ok (.if_icmp .ge 24, 3) := by decide +kernel
theorem dX3_copyFrom_23 : decode cX3_copyFrom 23 = .ok (.aload_n 0, 1) := by decide +kernel
theorem dX3_copyFrom_24 : decode cX3_copyFrom 24 = .ok (.getfield 17, 3) := by decide +kernel
theorem dX3_copyFrom_27 : decode cX3_copyFrom 27 = .ok (.iload_n 2, 1) := by decide +kernel
theorem dX3_copyFrom_28 : decode cX3_copyFrom 28 = .ok (.aaload, 1) := by decide +kernel
theorem dX3_copyFrom_29 : decode cX3_copyFrom 29 = .ok (.aload_n 1, 1) := by decide +kernel
theorem dX3_copyFrom_30 : decode cX3_copyFrom 30 = .ok (.getfield 17, 3) := by decide +kernel
theorem dX3_copyFrom_33 : decode cX3_copyFrom 33 = .ok (.iload_n 2, 1) := by decide +kernel
theorem dX3_copyFrom_34 : decode cX3_copyFrom 34 = .ok (.aaload, 1) := by decide +kernel
theorem dX3_copyFrom_35 : decode cX3_copyFrom 35 = .ok (.invokevirtual 128, 3) := by decide +kernel
theorem dX3_copyFrom_38 : decode cX3_copyFrom 38 = .ok (.iinc 2 1, 3) := by decide +kernel
theorem dX3_copyFrom_41 : decode cX3_copyFrom 41 = .ok (.goto (-23), 3) := by decide +kernel
theorem dX3_copyFrom_44 : decode cX3_copyFrom 44 = .ok (.aload_n 0, 1) := by decide +kernel
theorem dX3_copyFrom_45 : decode cX3_copyFrom 45 = .ok (.aload_n 1, 1) := by decide +kernel
theorem dX3_copyFrom_46 : decode cX3_copyFrom 46 = .ok (.getfield 21, 3) := by decide +kernel
theorem dX3_copyFrom_49 : decode cX3_copyFrom 49 = .ok (.putfield 21, 3) := by decide +kernel
theorem dX3_copyFrom_52 : decode cX3_copyFrom 52 = .ok (.aload_n 0, 1) := by decide +kernel
theorem dX3_copyFrom_53 : decode cX3_copyFrom 53 = .ok (.aload_n 1, 1) := by decide +kernel
theorem dX3_copyFrom_54 : decode cX3_copyFrom 54 = .ok (.getfield 25, 3) := by decide +kernel
theorem dX3_copyFrom_57 : decode cX3_copyFrom 57 = .ok (.putfield 25, 3) := by decide +kernel
theorem dX3_copyFrom_60 : decode cX3_copyFrom 60 = .ok (.aload_n 0, 1) := by decide +kernel
theorem dX3_copyFrom_61 : decode cX3_copyFrom 61 = .ok (.aload_n 1, 1) := by decide +kernel
theorem dX3_copyFrom_62 : decode cX3_copyFrom 62 = .ok (.getfield 110, 3) := by decide +kernel
theorem dX3_copyFrom_65 : decode cX3_copyFrom 65 = .ok (.putfield 110, 3) := by decide +kernel
theorem dX3_copyFrom_68 : decode cX3_copyFrom 68 = .ok (.aload_n 0, 1) := by decide +kernel
theorem dX3_copyFrom_69 : decode cX3_copyFrom 69 = .ok (.aload_n 1, 1) := by decide +kernel
theorem dX3_copyFrom_70 : decode cX3_copyFrom 70 = .ok (.getfield 57, 3) := by decide +kernel
theorem dX3_copyFrom_73 : decode cX3_copyFrom 73 = .ok (.putfield 57, 3) := by decide +kernel
theorem dX3_copyFrom_76 : decode cX3_copyFrom 76 = .ok (.return_, 1) := by decide +kernel
end
section
theorem dX4_init_0 : decode cX4_init 0 = .ok (.aload_n 0, 1) := by decide +kernel
theorem dX4_init_1 : decode cX4_init 1 = .ok (.invokespecial 3, 3) := by decide +kernel
theorem dX4_init_4 : decode cX4_init 4 = .ok (.aload_n 0, 1) := by decide +kernel
theorem dX4_init_5 : decode cX4_init 5 = .ok (.bipush 80, 2) := by decide +kernel
theorem dX4_init_7 : decode cX4_init 7 = .ok (.newarray .char, 2) := by decide +kernel
theorem dX4_init_9 : decode cX4_init 9 = .ok (.putfield 9, 3) := by decide +kernel
theorem dX4_init_12 : decode cX4_init 12 = .ok (.aload_n 0, 1) := by decide +kernel
theorem dX4_init_13 : decode cX4_init 13 = .ok (.bipush 27, 2) := by decide +kernel
theorem dX4_init_15 : decode cX4_init 15 = .ok (.newarray .char, 2) := by decide +kernel
theorem dX4_init_17 : decode cX4_init 17 = .ok (.putfield 15, 3) := by decide +kernel
theorem dX4_init_20 : decode cX4_init 20 = .ok (.aload_n 0, 1) := by decide +kernel
theorem dX4_init_21 : decode cX4_init 21 = .ok (.bipush 27, 2) := by decide +kernel
theorem dX4_init_23 : decode cX4_init 23 = .ok (.newarray .int, 2) := by decide +kernel
theorem dX4_init_25 : decode cX4_init 25 = .ok (.putfield 18, 3) := by decide +kernel
theorem dX4_init_28 : decode cX4_init 28 = .ok (.aload_n 0, 1) := by decide +kernel
theorem dX4_init_29 : decode cX4_init 29 = .ok (.bipush 27, 2) := by decide +kernel
theorem dX4_init_31 : decode cX4_init 31 = .ok (.newarray .int, 2) := by decide +kernel
theorem dX4_init_33 : decode cX4_init 33 = .ok (.putfield 22, 3) := by decide +kernel
theorem dX4_init_36 : decode cX4_init 36 = .ok (.aload_n 0, 1) := by decide +kernel
theorem dX4_init_37 : decode cX4_init 37 = .ok (.bipush 27, 2) := by decide +kernel
theorem dX4_init_39 : decode cX4_init 39 = .ok (.newarray .int, 2) := by decide +kernel
theorem dX4_init_41 : decode cX4_init 41 = .ok (.putfield 25, 3) := by decide +kernel
theorem dX4_init_44 : decode cX4_init 44 = .ok (.return_, 1) := by decide +kernel
theorem dX4_append_0 : decode cX4_append 0 = .ok (.aload_n 0, 1) := by decide +kernel
theorem dX4_append_1 : decode cX4_append 1 = .ok (.getfield 28, 3) := by decide +kernel
theorem dX4_append_4 : decode cX4_append 4 = .ok (.bipush 80, 2) := by decide +kernel
theorem dX4_append_6 : decode cX4_append 6 = .ok (.if_icmp .lt 5, 3) := by decide +kernel
theorem dX4_append_9 : decode cX4_append 9 = .ok (.iconst 0, 1) := by decide +kernel
theorem dX4_append_10 : decode cX4_append 10 = .ok (.ireturn, 1) := by decide +kernel
theorem dX4_append_11 : decode cX4_append 11 = .ok (.aload_n 0, 1) := by decide +kernel
theorem dX4_append_12 : decode cX4_append 12 = .ok (.getfield 9, 3) := by decide +kernel
theorem dX4_append_15 : decode cX4_append 15 = .ok (.aload_n 0, 1) := by decide +kernel
theorem dX4_append_16 : decode cX4_append 16 = .ok (.getfield 28, 3) := by decide +kernel
theorem dX4_append_19 : decode cX4_append 19 = .ok (.iload_n 1, 1) := by decide +kernel
theorem dX4_append_20 : decode cX4_append 20 = .ok (.castore, 1) := by decide +kernel
theorem dX4_append_21 : decode cX4_append 21 = .ok (.aload_n 0, 1) := by decide +kernel
theorem dX4_append_22 : decode cX4_append 22 = .ok (.dup, 1) := by decide +kernel
theorem dX4_append_23 : decode cX4_append 23 = .ok (.getfield 28, 3) := by decide +kernel
theorem dX4_append_26 : decode cX4_append 26 = .ok (.iconst 1, 1) := by decide +kernel
theorem dX4_append_27 : decode cX4_append 27 = .ok (.iadd, 1) := by decide +kernel
theorem dX4_append_28 : decode cX4_append 28 = .ok (.putfield 28, 3) := by decide +kernel
theorem dX4_append_31 : decode cX4_append 31 = .ok (.iconst 1, 1) := by decide +kernel
theorem dX4_append_32 : decode cX4_append 32 = .ok (.ireturn, 1) := by decide +kernel
set_option maxRecDepth 20000 in
theorem ggX4_findFault_X4_takesCommand : GoodIn wsX4_findFault wsX4_takesCommand := goodIn_r _ [8, 1, 3, 9, 10, 11, 12, 13, 14, 7, 15, 16, 17, 18, 19, 20, 21, 22, 23, 24, 25, 26, 27, 28, 29, 30, 31, 32, 33, 34, 35, 36, 37] (by decide +kernel) (by decide +kernel)
set_option maxRecDepth 20000 in
theorem gX4_findFault_X4_takesCommand : GoodIn wsX4_findFault (wsV RX4 38 RX4 yX4_takesCommand wsX4_takesCommand) := goodIn_app (goodIn_of _ (by decide +kernel)) ggX4_findFault_X4_takesCommand
set_option maxRecDepth 20000 in
theorem ggX4_findFault_X4_takes : GoodIn wsX4_findFault wsX4_takes := goodIn_r _ [29, 1, 3, 9, 30, 31, 32, 33, 34, 35, 36, 37] (by decide +kernel) (by decide +kernel)
set_option maxRecDepth 20000 in
theorem gX4_findFault_X4_takes : GoodIn wsX4_findFault (wsV RX4 42 RX4 yX4_takes wsX4_takes) := goodIn_app (goodIn_of _ (by decide +kernel)) ggX4_findFault_X4_takes
theorem dX4_findFault_0 : decode cX4_findFault 0 = .ok (.aload_n 0, 1) := by decide +kernel
theorem dX4_findFault_1 : decode cX4_findFault 1 = .ok (.iconst 0, 1) := by decide +kernel
theorem dX4_findFault_2 : decode cX4_findFault 2 = .ok (.putfield 32, 3) := by decide +kernel
theorem dX4_findFault_5 : decode cX4_findFault 5 = .ok (.aload_n 0, 1) := by decide +kernel
theorem dX4_findFault_6 : decode cX4_findFault 6 = .ok (.iconst 0, 1) := by decide +kernel
theorem dX4_findFault_7 : decode cX4_findFault 7 = .ok (.putfield 35, 3) := by decide +kernel
theorem dX4_findFault_10 : decode cX4_findFault 10 = .ok (.aload_n 0, 1) := by decide +kernel
theorem dX4_findFault_11 : decode cX4_findFault 11 = .ok (.getfield 35, 3) := by decide +kernel
theorem dX4_findFault_14 : decode cX4_findFault 14 = .ok (.bipush 27, 2) := by decide +kernel
theorem dX4_findFault_16 : decode cX4_findFault 16 = .ok (.if_icmp .ge 56, 3) := by decide +kernel
theorem dX4_findFault_19 : decode cX4_findFault 19 = .ok (.aload_n 0, 1) := by decide +kernel
theorem dX4_findFault_20 : decode cX4_findFault 20 = .ok (.aload_n 0, 1) := by decide +kernel
theorem dX4_findFault_21 : decode cX4_findFault 21 = .ok (.getfield 35, 3) := by decide +kernel
theorem dX4_findFault_24 : decode cX4_findFault 24 = .ok (.invokevirtual 38, 3) := by decide +kernel
theorem dX4_findFault_27 : decode cX4_findFault 27 = .ok (.ifCond .ne 8, 3) := by decide +kernel
theorem dX4_findFault_30 : decode cX4_findFault 30 = .ok (.aload_n 0, 1) := by decide +kernel
theorem dX4_findFault_31 : decode cX4_findFault 31 = .ok (.getfield 32, 3) := by decide +kernel
theorem dX4_findFault_34 : decode cX4_findFault 34 = .ok (.ireturn, 1) := by decide +kernel
theorem dX4_findFault_35 : decode cX4_findFault 35 = .ok (.aload_n 0, 1) := by decide +kernel
theorem dX4_findFault_36 : decode cX4_findFault 36 = .ok (.dup, 1) := by decide +kernel
theorem dX4_findFault_37 : decode cX4_findFault 37 = .ok (.getfield 35, 3) := by decide +kernel
theorem dX4_findFault_40 : decode cX4_findFault 40 = .ok (.iconst 1, 1) := by decide +kernel
theorem dX4_findFault_41 : decode cX4_findFault 41 = .ok (.iadd, 1) := by decide +kernel
theorem dX4_findFault_42 : decode cX4_findFault 42 = .ok (.putfield 35, 3) := by decide +kernel
theorem dX4_findFault_45 : decode cX4_findFault 45 = .ok (.aload_n 0, 1) := by decide +kernel
theorem dX4_findFault_46 : decode cX4_findFault 46 = .ok (.getfield 32, 3) := by decide +kernel
theorem dX4_findFault_49 : decode cX4_findFault 49 = .ok (.aload_n 0, 1) := by decide +kernel
theorem dX4_findFault_50 : decode cX4_findFault 50 = .ok (.getfield 28, 3) := by decide +kernel
theorem dX4_findFault_53 : decode cX4_findFault 53 = .ok (.if_icmp .ne 5, 3) := by decide +kernel
theorem dX4_findFault_56 : decode cX4_findFault 56 = .ok (.iconst (-1), 1) := by decide +kernel
theorem dX4_findFault_57 : decode cX4_findFault 57 = .ok (.ireturn, 1) := by decide +kernel
theorem dX4_findFault_58 : decode cX4_findFault 58 = .ok (.aload_n 0, 1) := by decide +kernel
theorem dX4_findFault_59 : decode cX4_findFault 59 = .ok (.bipush 59, 2) := by decide +kernel
theorem dX4_findFault_61 : decode cX4_findFault 61 = .ok (.invokevirtual 42, 3) := by decide +kernel
theorem dX4_findFault_64 : decode cX4_findFault 64 = .ok (.ifCond .ne (-54), 3) := by decide +kernel
theorem dX4_findFault_67 : decode cX4_findFault 67 = .ok (.aload_n 0, 1) := by decide +kernel
theorem dX4_findFault_68 : decode cX4_findFault 68 = .ok (.getfield 32, 3) := by decide +kernel
theorem dX4_findFault_71 : decode cX4_findFault 71 = .ok (.ireturn, 1) := by decide +kernel
theorem dX4_findFault_72 : decode cX4_findFault 72 = .ok (.aload_n 0, 1) := by decide +kernel
theorem dX4_findFault_73 : decode cX4_findFault 73 = .ok (.getfield 32, 3) := by decide +kernel
theorem dX4_findFault_76 : decode cX4_findFault 76 = .ok (.ireturn, 1) := by decide +kernel
set_option maxRecDepth 20000 in
theorem ggX4_takesCommand_X4_isDigitUpTo : GoodIn wsX4_takesCommand wsX4_isDigitUpTo := goodIn_r _ [10, 1, 2, 3, 25, 26, 27, 28, 29, 30, 31, 32] (by decide +kernel) (by decide +kernel)
set_option maxRecDepth 20000 in
theorem gX4_takesCommand_X4_isDigitUpTo : GoodIn wsX4_takesCommand (wsV RX4 46 RX4 yX4_isDigitUpTo wsX4_isDigitUpTo) := goodIn_app (goodIn_of _ (by decide +kernel)) ggX4_takesCommand_X4_isDigitUpTo
set_option maxRecDepth 20000 in
theorem ggX4_takesCommand_X4_takeNumber : GoodIn wsX4_takesCommand wsX4_takeNumber := goodIn_r _ [14, 1, 3, 6, 7, 8, 9, 10, 2, 25, 26, 27, 28, 29, 30, 31, 32] (by decide +kernel) (by decide +kernel)
set_option maxRecDepth 20000 in
theorem gX4_takesCommand_X4_takeNumber : GoodIn wsX4_takesCommand (wsV RX4 49 RX4 yX4_takeNumber wsX4_takeNumber) := goodIn_app (goodIn_of _ (by decide +kernel)) ggX4_takesCommand_X4_takeNumber
set_option maxRecDepth 20000 in
theorem ggX4_takesCommand_X4_takesLineAndValue : GoodIn wsX4_takesCommand wsX4_takesLineAndValue := goodIn_r _ [18, 19, 4, 20, 21, 22, 23, 9, 24, 1, 2, 3, 6, 7, 8, 10, 11, 12, 13, 14, 25, 26, 27, 28, 29, 30, 31, 32] (by decide +kernel) (by decide +kernel)
set_option maxRecDepth 20000 in
theorem gX4_takesCommand_X4_takesLineAndValue : GoodIn wsX4_takesCommand (wsV RX4 53 RX4 yX4_takesLineAndValue wsX4_takesLineAndValue) := goodIn_app (goodIn_of _ (by decide +kernel)) ggX4_takesCommand_X4_takesLineAndValue
theorem dX4_takesCommand_0 : decode cX4_takesCommand 0 = .ok (.aload_n 0, 1) := by decide +kernel
theorem dX4_takesCommand_1 : decode cX4_takesCommand 1 = .ok (.getfield 32, 3) := by decide +kernel
theorem dX4_takesCommand_4 : decode cX4_takesCommand 4 = .ok (.aload_n 0, 1) := by decide +kernel
theorem dX4_takesCommand_5 : decode cX4_takesCommand 5 = .ok (.getfield 28, 3) := by decide +kernel
theorem dX4_takesCommand_8 : decode cX4_takesCommand 8 = .ok (.if_icmp .ge 15, 3) := by decide +kernel
theorem dX4_takesCommand_11 : decode cX4_takesCommand 11 = .ok (.aload_n 0, 1) := by decide +kernel
theorem dX4_takesCommand_12 : decode cX4_takesCommand 12 = .ok (.getfield 9, 3) := by decide +kernel
theorem dX4_takesCommand_15 : decode cX4_takesCommand 15 = .ok (.aload_n 0, 1) := by decide +kernel
theorem dX4_takesCommand_16 : decode cX4_takesCommand 16 = .ok (.getfield 32, 3) := by decide +kernel
theorem dX4_takesCommand_19 : decode cX4_takesCommand 19 = .ok (.caload, 1) := by decide +kernel
theorem dX4_takesCommand_20 : decode cX4_takesCommand 20 = .ok (.goto 5, 3) := by decide +kernel
theorem dX4_takesCommand_23 : decode cX4_takesCommand 23 = .ok (.bipush 59, 2) := by decide +kernel
theorem dX4_takesCommand_25 : decode cX4_takesCommand 25 = .ok (.istore_n 2, 1) := by decide +kernel
theorem dX4_takesCommand_26 : decode cX4_takesCommand 26 = .ok (.iload_n 2, 1) := by decide +kernel
theorem dX4_takesCommand_27 : decode cX4_takesCommand 27 = .ok (.bipush 114, 2) := by decide +kernel
theorem dX4_takesCommand_29 : decode cX4_takesCommand 29 = .ok (.if_icmp .eq 23, 3) := by decide +kernel
theorem dX4_takesCommand_32 : decode cX4_takesCommand 32 = .ok (.iload_n 2, 1) := by decide +kernel
theorem dX4_takesCommand_33 : decode cX4_takesCommand 33 = .ok (.bipush 119, 2) := by decide +kernel
theorem dX4_takesCommand_35 : decode cX4_takesCommand 35 = .ok (.if_icmp .eq 17, 3) := by decide +kernel
theorem dX4_takesCommand_38 : decode cX4_takesCommand 38 = .ok (.iload_n 2, 1) := by decide +kernel
theorem dX4_takesCommand_39 : decode cX4_takesCommand 39 = .ok (.bipush 100, 2) := by decide +kernel
theorem dX4_takesCommand_41 : decode cX4_takesCommand 41 = .ok (.if_icmp .eq 11, 3) := by decide +kernel
theorem dX4_takesCommand_44 : decode cX4_takesCommand 44 = .ok (.iload_n 2, 1) := by decide +kernel
theorem dX4_takesCommand_45 : decode cX4_takesCommand 45 = .ok (.bipush 102, 2) := by decide +kernel
theorem dX4_takesCommand_47 : decode cX4_takesCommand 47 = .ok (.if_icmp .eq 5, 3) := by decide +kernel
theorem dX4_takesCommand_50 : decode cX4_takesCommand 50 = .ok (.iconst 0, 1) := by decide +kernel
theorem dX4_takesCommand_51 : decode cX4_takesCommand 51 = .ok (.ireturn, 1) := by decide +kernel
theorem dX4_takesCommand_52 : decode cX4_takesCommand 52 = .ok (.aload_n 0, 1) := by decide +kernel
theorem dX4_takesCommand_53 : decode cX4_takesCommand 53 = .ok (.dup, 1) := by decide +kernel
theorem dX4_takesCommand_54 : decode cX4_takesCommand 54 = .ok (.getfield 32, 3) := by decide +kernel
theorem dX4_takesCommand_57 : decode cX4_takesCommand 57 = .ok (.iconst 1, 1) := by decide +kernel
theorem dX4_takesCommand_58 : decode cX4_takesCommand 58 = .ok (.iadd, 1) := by decide +kernel
theorem dX4_takesCommand_59 : decode cX4_takesCommand 59 = .ok (.putfield 32, 3) := by decide +kernel
theorem dX4_takesCommand_62 : decode cX4_takesCommand 62 = .ok (.aload_n 0, 1) := by decide +kernel
theorem dX4_takesCommand_63 : decode cX4_takesCommand 63 = .ok (.getfield 15, 3) := by decide +kernel
theorem dX4_takesCommand_66 : decode cX4_takesCommand 66 = .ok (.iload_n 1, 1) := by decide +kernel
theorem dX4_takesCommand_67 : decode cX4_takesCommand 67 = .ok (.iload_n 2, 1) := by decide +kernel
theorem dX4_takesCommand_68 : decode cX4_takesCommand 68 = .ok (.castore, 1) := by decide +kernel
theorem dX4_takesCommand_69 : decode cX4_takesCommand 69 = .ok (.aload_n 0, 1) := by decide +kernel
theorem dX4_takesCommand_70 : decode cX4_takesCommand 70 = .ok (.iconst 3, 1) := by decide +kernel
theorem dX4_takesCommand_71 : decode cX4_takesCommand 71 = .ok (.invokevirtual 46, 3) := by decide +kernel
theorem dX4_takesCommand_74 : decode cX4_takesCommand 74 = .ok (.ifCond .ne 5, 3) := by decide +kernel
theorem dX4_takesCommand_77 : decode cX4_takesCommand 77 = .ok (.iconst 0, 1) := by decide +kernel
theorem dX4_takesCommand_78 : decode cX4_takesCommand 78 = .ok (.ireturn, 1) := by decide +kernel
theorem dX4_takesCommand_79 : decode cX4_takesCommand 79 = .ok (.aload_n 0, 1) := by decide +kernel
theorem dX4_takesCommand_80 : decode cX4_takesCommand 80 = .ok (.getfield 18, 3) := by decide +kernel
theorem dX4_takesCommand_83 : decode cX4_takesCommand 83 = .ok (.iload_n 1, 1) := by decide +kernel
theorem dX4_takesCommand_84 : decode cX4_takesCommand 84 = .ok (.aload_n 0, 1) := by decide +kernel
theorem dX4_takesCommand_85 : decode cX4_takesCommand 85 = .ok (.iconst 3, 1) := by decide +kernel
theorem dX4_takesCommand_86 : decode cX4_takesCommand 86 = .ok (.invokevirtual 49, 3) := by decide +kernel
theorem dX4_takesCommand_89 : decode cX4_takesCommand 89 = .ok (.iastore, 1) := by decide +kernel
theorem dX4_takesCommand_90 : decode cX4_takesCommand 90 = .ok (.iload_n 2, 1) := by decide +kernel
theorem dX4_takesCommand_91 : decode cX4_takesCommand 91 = .ok (.bipush 102, 2) := by decide +kernel
theorem dX4_takesCommand_93 : decode cX4_takesCommand 93 = .ok (.if_icmp .eq 11, 3) := by decide +kernel
theorem dX4_takesCommand_96 : decode cX4_takesCommand 96 = .ok (.aload_n 0, 1) := by decide +kernel
theorem dX4_takesCommand_97 : decode cX4_takesCommand 97 = .ok (.iload_n 1, 1) := by decide +kernel
theorem dX4_takesCommand_98 : decode cX4_takesCommand 98 = .ok (.invokevirtual 53, 3) := by decide +kernel
theorem dX4_takesCommand_101 : decode cX4_takesCommand 101 = .ok (.ifCond .eq 7, 3) := by decide +kernel
theorem dX4_takesCommand_104 : decode cX4_takesCommand 104 = .ok (.iconst 1, 1) := by decide +kernel
theorem dX4_takesCommand_105 : decode cX4_takesCommand 105 = .ok (.goto 4, 3) := by decide +kernel
theorem dX4_takesCommand_108 : decode cX4_takesCommand 108 = .ok (.iconst 0, 1) := by decide +kernel
theorem dX4_takesCommand_109 : decode cX4_takesCommand 109 = .ok (.ireturn, 1) := by decide +kernel
set_option maxRecDepth 20000 in
theorem ggX4_takesLineAndValue_X4_takes : GoodIn wsX4_takesLineAndValue wsX4_takes := goodIn_r _ [8, 9, 10, 11, 20, 21, 22, 23, 24, 25, 26, 27] (by decide +kernel) (by decide +kernel)
set_option maxRecDepth 20000 in
theorem gX4_takesLineAndValue_X4_takes : GoodIn wsX4_takesLineAndValue (wsV RX4 42 RX4 yX4_takes wsX4_takes) := goodIn_app (goodIn_of _ (by decide +kernel)) ggX4_takesLineAndValue_X4_takes
set_option maxRecDepth 20000 in
theorem ggX4_takesLineAndValue_X4_isDigitUpTo : GoodIn wsX4_takesLineAndValue wsX4_isDigitUpTo := goodIn_r _ [15, 9, 10, 11, 20, 21, 22, 23, 24, 25, 26, 27] (by decide +kernel) (by decide +kernel)
set_option maxRecDepth 20000 in
theorem gX4_takesLineAndValue_X4_isDigitUpTo : GoodIn wsX4_takesLineAndValue (wsV RX4 46 RX4 yX4_isDigitUpTo wsX4_isDigitUpTo) := goodIn_app (goodIn_of _ (by decide +kernel)) ggX4_takesLineAndValue_X4_isDigitUpTo
set_option maxRecDepth 20000 in
theorem ggX4_takesLineAndValue_X4_takeNumber : GoodIn wsX4_takesLineAndValue wsX4_takeNumber := goodIn_r _ [19, 9, 11, 12, 13, 14, 7, 15, 10, 20, 21, 22, 23, 24, 25, 26, 27] (by decide +kernel) (by decide +kernel)
set_option maxRecDepth 20000 in
theorem gX4_takesLineAndValue_X4_takeNumber : GoodIn wsX4_takesLineAndValue (wsV RX4 49 RX4 yX4_takeNumber wsX4_takeNumber) := goodIn_app (goodIn_of _ (by decide +kernel)) ggX4_takesLineAndValue_X4_takeNumber
theorem dX4_takesLineAndValue_0 : decode cX4_takesLineAndValue 0 = .ok (.aload_n 0, 1) := by decide +kernel
theorem dX4_takesLineAndValue_1 : decode cX4_takesLineAndValue 1 = .ok (.bipush 46, 2) := by decide +kernel
theorem dX4_takesLineAndValue_3 : decode cX4_takesLineAndValue 3 = .ok (.invokevirtual 42, 3) := by decide +kernel
theorem dX4_takesLineAndValue_6 : decode cX4_takesLineAndValue 6 = .ok (.ifCond .eq 12, 3) := by decide +kernel
theorem dX4_takesLineAndValue_9 : decode cX4_takesLineAndValue 9 = .ok (.aload_n 0, 1) := by decide +kernel
theorem dX4_takesLineAndValue_10 : decode cX4_takesLineAndValue 10 = .ok (.bipush 9, 2) := by decide +kernel
theorem dX4_takesLineAndValue_12 : decode cX4_takesLineAndValue 12 = .ok (.invokevirtual 46, 3) := by decide +kernel
theorem dX4_takesLineAndValue_15 : decode cX4_takesLineAndValue 15 = .ok (.ifCond .ne 5, 3) := by decide +kernel
theorem dX4_takesLineAndValue_18 : decode cX4_takesLineAndValue 18 = .ok (.iconst 0, 1) := by decide +kernel
theorem dX4_takesLineAndValue_19 : decode cX4_takesLineAndValue 19 = .ok (.ireturn, 1) := by decide +kernel
theorem dX4_takesLineAndValue_20 : decode cX4_takesLineAndValue 20 = .ok (.aload_n 0, 1) := by decide +kernel
theorem dX4_takesLineAndValue_21 : decode cX4_takesLineAndValue 21 = .ok (.getfield 22, 3) := by decide +kernel
theorem dX4_takesLineAndValue_24 : decode cX4_takesLineAndValue 24 = .ok (.iload_n 1, 1) := by decide +kernel
theorem dX4_takesLineAndValue_25 : decode cX4_takesLineAndValue 25 = .ok (.aload_n 0, 1) := by decide +kernel
theorem dX4_takesLineAndValue_26 : decode cX4_takesLineAndValue 26 = .ok (.sipush 255, 3) := by decide +kernel
theorem dX4_takesLineAndValue_29 : decode cX4_takesLineAndValue 29 = .ok (.invokevirtual 49, 3) := by decide +kernel
theorem dX4_takesLineAndValue_32 : decode cX4_takesLineAndValue 32 = .ok (.iastore, 1) := by decide +kernel
theorem dX4_takesLineAndValue_33 : decode cX4_takesLineAndValue 33 = .ok (.aload_n 0, 1) := by decide +kernel
theorem dX4_takesLineAndValue_34 : decode cX4_takesLineAndValue 34 = .ok (.getfield 15, 3) := by decide +kernel
theorem dX4_takesLineAndValue_37 : decode cX4_takesLineAndValue 37 = .ok (.iload_n 1, 1) := by decide +kernel
theorem dX4_takesLineAndValue_38 : decode cX4_takesLineAndValue 38 = .ok (.caload, 1) := by decide +kernel
theorem dX4_takesLineAndValue_39 : decode cX4_takesLineAndValue 39 = .ok (.bipush 119, 2) := by decide +kernel
theorem dX4_takesLineAndValue_41 : decode cX4_takesLineAndValue 41 = .ok (.if_icmp .eq 5, 3) := by decide +kernel
theorem dX4_takesLineAndValue_44 : decode cX4_takesLineAndValue 44 = .ok (.iconst 1, 1) := by decide +kernel
theorem dX4_takesLineAndValue_45 : decode cX4_takesLineAndValue 45 = .ok (.ireturn, 1) := by decide +kernel
theorem dX4_takesLineAndValue_46 : decode cX4_takesLineAndValue 46 = .ok (.aload_n 0, 1) := by decide +kernel
theorem dX4_takesLineAndValue_47 : decode cX4_takesLineAndValue 47 = .ok (.bipush 61, 2) := by decide +kernel
theorem dX4_takesLineAndValue_49 : decode cX4_takesLineAndValue 49 = .ok (.invokevirtual 42, 3) := by decide +kernel
theorem dX4_takesLineAndValue_52 : decode cX4_takesLineAndValue 52 = .ok (.ifCond .eq 12, 3) := by decide +kernel
theorem dX4_takesLineAndValue_55 : decode cX4_takesLineAndValue 55 = .ok (.aload_n 0, 1) := by decide +kernel
theorem dX4_takesLineAndValue_56 : decode cX4_takesLineAndValue 56 = .ok (.bipush 9, 2) := by decide +kernel
theorem dX4_takesLineAndValue_58 : decode cX4_takesLineAndValue 58 = .ok (.invokevirtual 46, 3) := by decide +kernel
theorem dX4_takesLineAndValue_61 : decode cX4_takesLineAndValue 61 = .ok (.ifCond .ne 5, 3) := by decide +kernel
theorem dX4_takesLineAndValue_64 : decode cX4_takesLineAndValue 64 = .ok (.iconst 0, 1) := by decide +kernel
theorem dX4_takesLineAndValue_65 : decode cX4_takesLineAndValue 65 = .ok (.ireturn, 1) := by decide +kernel
theorem dX4_takesLineAndValue_66 : decode cX4_takesLineAndValue 66 = .ok (.aload_n 0, 1) := by decide +kernel
theorem dX4_takesLineAndValue_67 : decode cX4_takesLineAndValue 67 = .ok (.getfield 25, 3) := by decide +kernel
theorem dX4_takesLineAndValue_70 : decode cX4_takesLineAndValue 70 = .ok (.iload_n 1, 1) := by decide +kernel
theorem dX4_takesLineAndValue_71 : decode cX4_takesLineAndValue 71 = .ok (.aload_n 0, 1) := by decide +kernel
theorem dX4_takesLineAndValue_72 : decode cX4_takesLineAndValue 72 = .ok (.sipush 9999, 3) := by decide +kernel
theorem dX4_takesLineAndValue_75 : decode cX4_takesLineAndValue 75 = .ok (.invokevirtual 49, 3) := by decide +kernel
theorem dX4_takesLineAndValue_78 : decode cX4_takesLineAndValue 78 = .ok (.iastore, 1) := by decide +kernel
theorem dX4_takesLineAndValue_79 : decode cX4_takesLineAndValue 79 = .ok (.iconst 1, 1) := by decide +kernel
theorem dX4_takesLineAndValue_80 : decode cX4_takesLineAndValue 80 = .ok (.ireturn, 1) := by decide +kernel
theorem dX4_takes_0 : decode cX4_takes 0 = .ok (.aload_n 0, 1) := by decide +kernel
theorem dX4_takes_1 : decode cX4_takes 1 = .ok (.getfield 32, 3) := by decide +kernel
theorem dX4_takes_4 : decode cX4_takes 4 = .ok (.aload_n 0, 1) := by decide +kernel
theorem dX4_takes_5 : decode cX4_takes 5 = .ok (.getfield 28, 3) := by decide +kernel
theorem dX4_takes_8 : decode cX4_takes 8 = .ok (.if_icmp .ge 16, 3) := by decide +kernel
theorem dX4_takes_11 : decode cX4_takes 11 = .ok (.aload_n 0, 1) := by decide +kernel
theorem dX4_takes_12 : decode cX4_takes 12 = .ok (.getfield 9, 3) := by decide +kernel
theorem dX4_takes_15 : decode cX4_takes 15 = .ok (.aload_n 0, 1) := by decide +kernel
theorem dX4_takes_16 : decode cX4_takes 16 = .ok (.getfield 32, 3) := by decide +kernel
theorem dX4_takes_19 : decode cX4_takes 19 = .ok (.caload, 1) := by decide +kernel
theorem dX4_takes_20 : decode cX4_takes 20 = .ok (.iload_n 1, 1) := by decide +kernel
theorem dX4_takes_21 : decode cX4_takes 21 = .ok (.if_icmp .eq 5, 3) := by decide +kernel
theorem dX4_takes_24 : decode cX4_takes 24 = .ok (.iconst 0, 1) := by decide +kernel
theorem dX4_takes_25 : decode cX4_takes 25 = .ok (.ireturn, 1) := by decide +kernel
theorem dX4_takes_26 : decode cX4_takes 26 = .ok (.aload_n 0, 1) := by decide +kernel
theorem dX4_takes_27 : decode cX4_takes 27 = .ok (.dup, 1) := by decide +kernel
theorem dX4_takes_28 : decode cX4_takes 28 = .ok (.getfield 32, 3) := by decide +kernel
theorem dX4_takes_31 : decode cX4_takes 31 = .ok (.iconst 1, 1) := by decide +kernel
theorem dX4_takes_32 : decode cX4_takes 32 = .ok (.iadd, 1) := by decide +kernel
theorem dX4_takes_33 : decode cX4_takes 33 = .ok (.putfield 32, 3) := by decide +kernel
theorem dX4_takes_36 : decode cX4_takes 36 = .ok (.iconst 1, 1) := by decide +kernel
theorem dX4_takes_37 : decode cX4_takes 37 = .ok (.ireturn, 1) := by decide +kernel
theorem dX4_isDigitUpTo_0 : decode cX4_isDigitUpTo 0 = .ok (.aload_n 0, 1) := by decide +kernel
theorem dX4_isDigitUpTo_1 : decode cX4_isDigitUpTo 1 = .ok (.getfield 32, 3) := by decide +kernel
theorem dX4_isDigitUpTo_4 : decode cX4_isDigitUpTo 4 = .ok (.aload_n 0, 1) := by decide +kernel
theorem dX4_isDigitUpTo_5 : decode cX4_isDigitUpTo 5 = .ok (.getfield 28, 3) := by decide +kernel
theorem dX4_isDigitUpTo_8 : decode cX4_isDigitUpTo 8 = .ok (.if_icmp .ge 37, 3) := by decide +kernel
theorem dX4_isDigitUpTo_11 : decode cX4_isDigitUpTo 11 = .ok (.aload_n 0, 1) := by decide +kernel
theorem dX4_isDigitUpTo_12 : decode cX4_isDigitUpTo 12 = .ok (.getfield 9, 3) := by decide +kernel
theorem dX4_isDigitUpTo_15 : decode cX4_isDigitUpTo 15 = .ok (.aload_n 0, 1) := by decide +kernel
theorem dX4_isDigitUpTo_16 : decode cX4_isDigitUpTo 16 = .ok (.getfield 32, 3) := by decide +kernel
theorem dX4_isDigitUpTo_19 : decode cX4_isDigitUpTo 19 = .ok (.caload, 1) := by decide +kernel
theorem dX4_isDigitUpTo_20 : decode cX4_isDigitUpTo 20 = .ok (.bipush 48, 2) := by decide +kernel
theorem dX4_isDigitUpTo_22 : decode cX4_isDigitUpTo 22 = .ok (.if_icmp .lt 23, 3) := by decide +kernel
theorem dX4_isDigitUpTo_25 : decode cX4_isDigitUpTo 25 = .ok (.aload_n 0, 1) := by decide +kernel
theorem dX4_isDigitUpTo_26 : decode cX4_isDigitUpTo 26 = .ok (.getfield 9, 3) := by decide +kernel
theorem dX4_isDigitUpTo_29 : decode cX4_isDigitUpTo 29 = .ok (.aload_n 0, 1) := by decide +kernel
theorem dX4_isDigitUpTo_30 : decode cX4_isDigitUpTo 30 = .ok (.getfield 32, 3) := by decide +kernel
theorem dX4_isDigitUpTo_33 : decode cX4_isDigitUpTo 33 = .ok (.caload, 1) := by decide +kernel
theorem dX4_isDigitUpTo_34 : decode cX4_isDigitUpTo 34 = .ok (.bipush 48, 2) := by decide +kernel
theorem dX4_isDigitUpTo_36 : decode cX4_isDigitUpTo 36 = .ok (.isub, 1) := by decide +kernel
theorem dX4_isDigitUpTo_37 : decode cX4_isDigitUpTo 37 = .ok (.iload_n 1, 1) := by decide +kernel
theorem dX4_isDigitUpTo_38 : decode cX4_isDigitUpTo 38 = .ok (.if_icmp .gt 7, 3) := by decide +kernel
theorem dX4_isDigitUpTo_41 : decode cX4_isDigitUpTo 41 = .ok (.iconst 1, 1) := by decide +kernel
theorem dX4_isDigitUpTo_42 : decode cX4_isDigitUpTo 42 = .ok (.goto 4, 3) := by decide +kernel
theorem dX4_isDigitUpTo_45 : decode cX4_isDigitUpTo 45 = .ok (.iconst 0, 1) := by decide +kernel
theorem dX4_isDigitUpTo_46 : decode cX4_isDigitUpTo 46 = .ok (.ireturn, 1) := by decide +kernel
set_option maxRecDepth 20000 in
theorem ggX4_takeNumber_X4_isDigitUpTo : GoodIn wsX4_takeNumber wsX4_isDigitUpTo := goodIn_r _ [7, 1, 8, 2, 9, 10, 11, 12, 13, 14, 15, 16] (by decide +kernel) (by decide +kernel)
set_option maxRecDepth 20000 in
theorem gX4_takeNumber_X4_isDigitUpTo : GoodIn wsX4_takeNumber (wsV RX4 46 RX4 yX4_isDigitUpTo wsX4_isDigitUpTo) := goodIn_app (goodIn_of _ (by decide +kernel)) ggX4_takeNumber_X4_isDigitUpTo
theorem dX4_takeNumber_0 : decode cX4_takeNumber 0 = .ok (.iconst 0, 1) := by decide +kernel
theorem dX4_takeNumber_1 : decode cX4_takeNumber 1 = .ok (.istore_n 2, 1) := by decide +kernel
theorem dX4_takeNumber_2 : decode cX4_takeNumber 2 = .ok (.aload_n 0, 1) := by decide +kernel
theorem dX4_takeNumber_3 : decode cX4_takeNumber 3 = .ok (.getfield 32, 3) := by decide +kernel
theorem dX4_takeNumber_6 : decode cX4_takeNumber 6 = .ok (.istore_n 3, 1) := by decide +kernel
theorem dX4_takeNumber_7 : decode cX4_takeNumber 7 = .ok (.aload_n 0, 1) := by decide +kernel
theorem dX4_takeNumber_8 : decode cX4_takeNumber 8 = .ok (.bipush 9, 2) := by decide +kernel
theorem dX4_takeNumber_10 : decode cX4_takeNumber 10 = .ok (.invokevirtual 46, 3) := by decide +kernel
theorem dX4_takeNumber_13 : decode cX4_takeNumber 13 = .ok (.ifCond .eq 67, 3) := by decide +kernel
theorem dX4_takeNumber_16 : decode cX4_takeNumber 16 = .ok (.iload_n 2, 1) := by decide +kernel
theorem dX4_takeNumber_17 : decode cX4_takeNumber 17 = .ok (.ifCond .gt 11, 3) := by decide +kernel
theorem dX4_takeNumber_20 : decode cX4_takeNumber 20 = .ok (.aload_n 0, 1) := by decide +kernel
theorem dX4_takeNumber_21 : decode cX4_takeNumber 21 = .ok (.getfield 32, 3) := by decide +kernel
theorem dX4_takeNumber_24 : decode cX4_takeNumber 24 = .ok (.iload_n 3, 1) := by decide +kernel
theorem dX4_takeNumber_25 : decode cX4_takeNumber 25 = .ok (.if_icmp .ne 55, 3) := by decide +kernel
theorem dX4_takeNumber_28 : decode cX4_takeNumber 28 = .ok (.bipush 10, 2) := by decide +kernel
theorem dX4_takeNumber_30 : decode cX4_takeNumber 30 = .ok (.iload_n 2, 1) := by decide +kernel
theorem dX4_takeNumber_31 : decode cX4_takeNumber 31 = .ok (.imul, 1) := by decide +kernel
theorem dX4_takeNumber_32 : decode cX4_takeNumber 32 = .ok (.aload_n 0, 1) := by decide +kernel
theorem dX4_takeNumber_33 : decode cX4_takeNumber 33 = .ok (.getfield 9, 3) := by decide +kernel
theorem dX4_takeNumber_36 : decode cX4_takeNumber 36 = .ok (.aload_n 0, 1) := by decide +kernel
theorem dX4_takeNumber_37 : decode cX4_takeNumber 37 = .ok (.getfield 32, 3) := by decide +kernel
theorem dX4_takeNumber_40 : decode cX4_takeNumber 40 = .ok (.caload, 1) := by decide +kernel
theorem dX4_takeNumber_41 : decode cX4_takeNumber 41 = .ok (.iadd, 1) := by decide +kernel
theorem dX4_takeNumber_42 : decode cX4_takeNumber 42 = .ok (.bipush 48, 2) := by decide +kernel
theorem dX4_takeNumber_44 : decode cX4_takeNumber 44 = .ok (.isub, 1) := by decide +kernel
theorem dX4_takeNumber_45 : decode cX4_takeNumber 45 = .ok (.iload_n 1, 1) := by decide +kernel
theorem dX4_takeNumber_46 : decode cX4_takeNumber 46 = .ok (.if_icmp .gt 34, 3) := by decide +kernel
theorem dX4_takeNumber_49 : decode cX4_takeNumber 49 = .ok (.bipush 10, 2) := by decide +kernel
theorem dX4_takeNumber_51 : decode cX4_takeNumber 51 = .ok (.iload_n 2, 1) := by decide +kernel
theorem dX4_takeNumber_52 : decode cX4_takeNumber 52 = .ok (.imul, 1) := by decide +kernel
theorem dX4_takeNumber_53 : decode cX4_takeNumber 53 = .ok (.aload_n 0, 1) := by decide +kernel
theorem dX4_takeNumber_54 : decode cX4_takeNumber 54 = .ok (.getfield 9, 3) := by decide +kernel
theorem dX4_takeNumber_57 : decode cX4_takeNumber 57 = .ok (.aload_n 0, 1) := by decide +kernel
theorem dX4_takeNumber_58 : decode cX4_takeNumber 58 = .ok (.getfield 32, 3) := by decide +kernel
theorem dX4_takeNumber_61 : decode cX4_takeNumber 61 = .ok (.caload, 1) := by decide +kernel
theorem dX4_takeNumber_62 : decode cX4_takeNumber 62 = .ok (.iadd, 1) := by decide +kernel
theorem dX4_takeNumber_63 : decode cX4_takeNumber 63 = .ok (.bipush 48, 2) := by decide +kernel
theorem dX4_takeNumber_65 : decode cX4_takeNumber 65 = .ok (.isub, 1) := by decide +kernel
theorem dX4_takeNumber_66 : decode cX4_takeNumber 66 = .ok (.istore_n 2, 1) := by decide +kernel
theorem dX4_takeNumber_67 : decode cX4_takeNumber 67 = .ok (.aload_n 0, 1) := by decide +kernel
theorem dX4_takeNumber_68 : decode cX4_takeNumber 68 = .ok (.dup, 1) := by decide +kernel
theorem dX4_takeNumber_69 : decode cX4_takeNumber 69 = .ok (.getfield 32, 3) := by decide +kernel
theorem dX4_takeNumber_72 : decode cX4_takeNumber 72 = .ok (.iconst 1, 1) := by decide +kernel
theorem dX4_takeNumber_73 : decode cX4_takeNumber 73 = .ok (.iadd, 1) := by decide +kernel
theorem dX4_takeNumber_74 : decode cX4_takeNumber 74 = .ok (.putfield 32, 3) := by decide +kernel
theorem dX4_takeNumber_77 : decode cX4_takeNumber 77 = .ok (.goto (-70), 3) := by decide +kernel
theorem dX4_takeNumber_80 : decode cX4_takeNumber 80 = .ok (.iload_n 2, 1) := by decide +kernel
theorem dX4_takeNumber_81 : decode cX4_takeNumber 81 = .ok (.ireturn, 1) := by decide +kernel
theorem dX4_isReading_0 : decode cX4_isReading 0 = .ok (.aload_n 0, 1) := by decide +kernel
theorem dX4_isReading_1 : decode cX4_isReading 1 = .ok (.getfield 15, 3) := by decide +kernel
theorem dX4_isReading_4 : decode cX4_isReading 4 = .ok (.iload_n 1, 1) := by decide +kernel
theorem dX4_isReading_5 : decode cX4_isReading 5 = .ok (.caload, 1) := by decide +kernel
theorem dX4_isReading_6 : decode cX4_isReading 6 = .ok (.bipush 114, 2) := by decide +kernel
theorem dX4_isReading_8 : decode cX4_isReading 8 = .ok (.if_icmp .ne 7, 3) := by decide +kernel
theorem dX4_isReading_11 : decode cX4_isReading 11 = .ok (.iconst 1, 1) := by decide +kernel
theorem dX4_isReading_12 : decode cX4_isReading 12 = .ok (.goto 4, 3) := by decide +kernel
theorem dX4_isReading_15 : decode cX4_isReading 15 = .ok (.iconst 0, 1) := by decide +kernel
theorem dX4_isReading_16 : decode cX4_isReading 16 = .ok (.ireturn, 1) := by decide +kernel
set_option maxRecDepth 20000 in
theorem ggX4_runCommand_X3_readLine : GoodIn wsX4_runCommand wsX3_readLine := goodIn_r _ [9, 10, 11, 12, 13, 14, 15, 16, 17, 18, 19, 20, 21, 22, 23, 24, 25, 26, 27, 28, 29, 30, 31, 32, 33, 34, 35, 36, 37, 38, 39, 40, 41, 42, 43, 44, 45, 46, 47, 48, 49, 50, 8, 51, 52, 53, 54, 55, 56, 57, 58, 59, 60, 61, 62, 63, 64, 65, 66, 67, 68, 69, 70, 71, 72, 73, 74, 75, 76, 77, 78, 79, 80, 81, 82, 83, 84, 85, 86, 87, 88, 89, 90, 91, 92, 93, 94, 95, 96, 97, 98, 99, 100, 101, 102, 103, 104, 105, 106, 107, 108, 109, 155, 156, 157, 158, 159, 160, 161, 162, 163, 164, 165, 166, 167, 168] (by decide +kernel) (by decide +kernel)
set_option maxRecDepth 20000 in
theorem gX4_runCommand_X3_readLine : GoodIn wsX4_runCommand (wsV RX4 56 RX3 yX3_readLine wsX3_readLine) := goodIn_app (goodIn_of _ (by decide +kernel)) ggX4_runCommand_X3_readLine
set_option maxRecDepth 20000 in
theorem ggX4_runCommand_X3_writeLine : GoodIn wsX4_runCommand wsX3_writeLine := goodIn_r _ [113, 10, 114, 115, 116, 117, 16, 118, 76, 47, 19, 20, 21, 22, 23, 15, 17, 119, 120, 121, 8, 122, 24, 25, 26, 27, 28, 29, 30, 31, 32, 33, 34, 35, 36, 37, 38, 39, 40, 41, 42, 43, 44, 45, 46, 18, 59, 60, 61, 62, 63, 64, 65, 66, 67, 68, 69, 70, 71, 72, 73, 74, 75, 84, 85, 86, 87, 88, 14, 55, 56, 57, 58, 52, 48, 49, 50, 51, 53, 13, 12, 54, 77, 78, 79, 80, 81, 82, 83, 89, 90, 91, 92, 93, 94, 95, 96, 97, 98, 99, 100, 101, 102, 103, 104, 11, 105, 106, 107, 108, 109, 155, 156, 157, 158, 159, 160, 161, 162, 163, 164, 165, 166, 167, 168] (by decide +kernel) (by decide +kernel)
set_option maxRecDepth 20000 in
theorem gX4_runCommand_X3_writeLine : GoodIn wsX4_runCommand (wsV RX4 62 RX3 yX3_writeLine wsX3_writeLine) := goodIn_app (goodIn_of _ (by decide +kernel)) ggX4_runCommand_X3_writeLine
set_option maxRecDepth 20000 in
theorem ggX4_runCommand_X3_dropLine : GoodIn wsX4_runCommand wsX3_dropLine := goodIn_r _ [126, 10, 18, 19, 20, 16, 21, 22, 23, 15, 17, 115, 116, 117, 118, 76, 47, 14, 55, 56, 57, 8, 58, 52, 48, 49, 50, 51, 53, 13, 12, 54, 59, 60, 61, 62, 28, 63, 64, 65, 33, 66, 41, 42, 43, 67, 68, 69, 70, 71, 35, 44, 45, 46, 72, 73, 74, 75, 155, 156, 157, 158, 159, 160, 161, 162, 163, 164, 165, 166, 167, 168] (by decide +kernel) (by decide +kernel)
set_option maxRecDepth 20000 in
theorem gX4_runCommand_X3_dropLine : GoodIn wsX4_runCommand (wsV RX4 66 RX3 yX3_dropLine wsX3_dropLine) := goodIn_app (goodIn_of _ (by decide +kernel)) ggX4_runCommand_X3_dropLine
set_option maxRecDepth 20000 in
theorem ggX4_runCommand_X3_forgetOnPurpose : GoodIn wsX4_runCommand wsX3_forgetOnPurpose := goodIn_r _ [130, 10, 131, 132, 133, 16, 134, 28, 135, 136, 137, 138, 22, 139, 98, 99, 33, 100, 35, 140, 141, 142, 143, 40, 144, 145, 146, 101, 102, 103, 8, 104, 52, 81, 11, 48, 49, 50, 51, 53, 13, 12, 54, 105, 73, 74, 75, 76, 106, 107, 108, 109, 71, 155, 156, 157, 158, 159, 160, 161, 162, 163, 164, 165, 166, 167, 168] (by decide +kernel) (by decide +kernel)
set_option maxRecDepth 20000 in
theorem gX4_runCommand_X3_forgetOnPurpose : GoodIn wsX4_runCommand (wsV RX4 69 RX3 yX3_forgetOnPurpose wsX3_forgetOnPurpose) := goodIn_app (goodIn_of _ (by decide +kernel)) ggX4_runCommand_X3_forgetOnPurpose
theorem dX4_runCommand_0 : decode cX4_runCommand 0 = .ok (.aload_n 0, 1) := by decide +kernel
theorem dX4_runCommand_1 : decode cX4_runCommand 1 = .ok (.getfield 18, 3) := by decide +kernel
theorem dX4_runCommand_4 : decode cX4_runCommand 4 = .ok (.iload_n 1, 1) := by decide +kernel
theorem dX4_runCommand_5 : decode cX4_runCommand 5 = .ok (.iaload, 1) := by decide +kernel
theorem dX4_runCommand_6 : decode cX4_runCommand 6 = .ok (.istore_n 3, 1) := by decide +kernel
theorem dX4_runCommand_7 : decode cX4_runCommand 7 = .ok (.aload_n 0, 1) := by decide +kernel
theorem dX4_runCommand_8 : decode cX4_runCommand 8 = .ok (.getfield 22, 3) := by decide +kernel
theorem dX4_runCommand_11 : decode cX4_runCommand 11 = .ok (.iload_n 1, 1) := by decide +kernel
theorem dX4_runCommand_12 : decode cX4_runCommand 12 = .ok (.iaload, 1) := by decide +kernel
theorem dX4_runCommand_13 : decode cX4_runCommand 13 = .ok (.istore 4, 2) := by decide +kernel
theorem dX4_runCommand_15 : decode cX4_runCommand 15 = .ok (.aload_n 0, 1) := by decide +kernel
theorem dX4_runCommand_16 : decode cX4_runCommand 16 = .ok (.getfield 15, 3) := by decide +kernel
theorem dX4_runCommand_19 : decode cX4_runCommand 19 = .ok (.iload_n 1, 1) := by decide +kernel
theorem dX4_runCommand_20 : decode cX4_runCommand 20 = .ok (.caload, 1) := by decide +kernel
theorem dX4_runCommand_21 : decode cX4_runCommand 21 = .ok (.istore 5, 2) := by decide +kernel
theorem dX4_runCommand_23 : decode cX4_runCommand 23 = .ok (.iload 5, 2) := by decide +kernel
theorem dX4_runCommand_25 : decode cX4_runCommand 25 = .ok (.bipush 114, 2) := by decide +kernel
theorem dX4_runCommand_27 : decode cX4_runCommand 27 = .ok (.if_icmp .ne 11, 3) := by decide +kernel
theorem dX4_runCommand_30 : decode cX4_runCommand 30 = .ok (.aload_n 2, 1) := by decide +kernel
theorem dX4_runCommand_31 : decode cX4_runCommand 31 = .ok (.iload_n 3, 1) := by decide +kernel
theorem dX4_runCommand_32 : decode cX4_runCommand 32 = .ok (.iload 4, 2) := by decide +kernel
theorem dX4_runCommand_34 : decode cX4_runCommand 34 = .ok (.invokevirtual 56, 3) := by decide +kernel
theorem dX4_runCommand_37 : decode cX4_runCommand 37 = .ok (.ireturn, 1) := by decide +kernel
theorem dX4_runCommand_38 : decode cX4_runCommand 38 = .ok (.iload 5, 2) := by decide +kernel
theorem dX4_runCommand_40 : decode cX4_runCommand 40 = .ok (.bipush 119, 2) := by decide +kernel
theorem dX4_runCommand_42 : decode cX4_runCommand 42 = .ok (.if_icmp .ne 17, 3) := by decide +kernel
theorem dX4_runCommand_45 : decode cX4_runCommand 45 = .ok (.aload_n 2, 1) := by decide +kernel
theorem dX4_runCommand_46 : decode cX4_runCommand 46 = .ok (.iload_n 3, 1) := by decide +kernel
theorem dX4_runCommand_47 : decode cX4_runCommand 47 = .ok (.iload 4, 2) := by decide +kernel
theorem dX4_runCommand_49 : decode cX4_runCommand 49 = .ok (.aload_n 0, 1) := by decide +kernel
theorem dX4_runCommand_50 : decode cX4_runCommand 50 = .ok (.getfield 25, 3) := by decide +kernel
theorem dX4_runCommand_53 : decode cX4_runCommand 53 = .ok (.iload_n 1, 1) := by decide +kernel
theorem dX4_runCommand_54 : decode cX4_runCommand 54 = .ok (.iaload, 1) := by decide +kernel
theorem dX4_runCommand_55 : decode cX4_runCommand 55 = .ok (.invokevirtual 62, 3) := by decide +kernel
theorem dX4_runCommand_58 : decode cX4_runCommand 58 = .ok (.ireturn, 1) := by decide +kernel
theorem dX4_runCommand_59 : decode cX4_runCommand 59 = .ok (.iload 5, 2) := by decide +kernel
theorem dX4_runCommand_61 : decode cX4_runCommand 61 = .ok (.bipush 100, 2) := by decide +kernel
theorem dX4_runCommand_63 : decode cX4_runCommand 63 = .ok (.if_icmp .ne 13, 3) := by decide +kernel
theorem dX4_runCommand_66 : decode cX4_runCommand 66 = .ok (.aload_n 2, 1) := by decide +kernel
theorem dX4_runCommand_67 : decode cX4_runCommand 67 = .ok (.iload_n 3, 1) := by decide +kernel
theorem dX4_runCommand_68 : decode cX4_runCommand 68 = .ok (.iload 4, 2) := by decide +kernel
theorem dX4_runCommand_70 : decode cX4_runCommand 70 = .ok (.invokevirtual 66, 3) := by decide +kernel
theorem dX4_runCommand_73 : decode cX4_runCommand 73 = .ok (.goto 8, 3) := by decide +kernel
theorem dX4_runCommand_76 : decode cX4_runCommand 76 = .ok (.aload_n 2, 1) := by decide +kernel
theorem dX4_runCommand_77 : decode cX4_runCommand 77 = .ok (.iload_n 3, 1) := by decide +kernel
theorem dX4_runCommand_78 : decode cX4_runCommand 78 = .ok (.invokevirtual 69, 3) := by decide +kernel
theorem dX4_runCommand_81 : decode cX4_runCommand 81 = .ok (.ireturn, 1) := by decide +kernel
set_option maxRecDepth 20000 in
theorem ggX5_init_X3_init : GoodIn wsX5_init wsX3_init := goodIn_r _ [20, 21, 2, 3, 22, 23, 24, 25, 26, 27, 28, 29, 30, 31, 32, 33, 34, 35, 36, 37, 38, 39, 40, 41, 42, 43, 44, 45, 46, 47, 48, 65, 66, 67, 68, 69, 70, 91, 92, 93, 94, 95, 96, 97, 98] (by decide +kernel) (by decide +kernel)
set_option maxRecDepth 20000 in
theorem gX5_init_X3_init : GoodIn wsX5_init (wsX3_init) := ggX5_init_X3_init
set_option maxRecDepth 20000 in
theorem ggX5_init_X2_init : GoodIn wsX5_init wsX2_init := goodIn_r _ [51, 52, 2, 3, 53, 54, 5, 6, 55, 19, 20, 21, 22, 23, 24, 25, 26, 27, 28, 29, 30, 31, 32, 33, 34, 35, 36, 37, 38, 39, 40, 41, 42, 43, 44, 45, 46, 47, 48, 80, 81, 82, 65, 66, 67, 68, 69, 70, 91, 92, 93, 94, 95, 96, 97, 98] (by decide +kernel) (by decide +kernel)
set_option maxRecDepth 20000 in
theorem gX5_init_X2_init : GoodIn wsX5_init (wsX2_init) := ggX5_init_X2_init
set_option maxRecDepth 20000 in
theorem ggX5_init_X4_init : GoodIn wsX5_init wsX4_init := goodIn_r _ [57, 58, 2, 3, 59, 60, 61, 22, 62, 63, 64, 83, 84, 85, 86, 87, 88, 89, 90] (by decide +kernel) (by decide +kernel)
set_option maxRecDepth 20000 in
theorem gX5_init_X4_init_n31 : GoodIn wsX5_init (wsX4_init) := ggX5_init_X4_init
theorem dX5_init_0 : decode cX5_init 0 = .ok (.aload_n 0, 1) := by decide +kernel
theorem dX5_init_1 : decode cX5_init 1 = .ok (.invokespecial 3, 3) := by decide +kernel
theorem dX5_init_4 : decode cX5_init 4 = .ok (.aload_n 0, 1) := by decide +kernel
theorem dX5_init_5 : decode cX5_init 5 = .ok (.new 9, 3) := by decide +kernel
theorem dX5_init_8 : decode cX5_init 8 = .ok (.dup, 1) := by decide +kernel
theorem dX5_init_9 : decode cX5_init 9 = .ok (.invokespecial 11, 3) := by decide +kernel
theorem dX5_init_12 : decode cX5_init 12 = .ok (.putfield 12, 3) := by decide +kernel
theorem dX5_init_15 : decode cX5_init 15 = .ok (.aload_n 0, 1) := by decide +kernel
theorem dX5_init_16 : decode cX5_init 16 = .ok (.new 9, 3) := by decide +kernel
theorem dX5_init_19 : decode cX5_init 19 = .ok (.dup, 1) := by decide +kernel
theorem dX5_init_20 : decode cX5_init 20 = .ok (.invokespecial 11, 3) := by decide +kernel
theorem dX5_init_23 : decode cX5_init 23 = .ok (.putfield 16, 3) := by decide +kernel
theorem dX5_init_26 : decode cX5_init 26 = .ok (.aload_n 0, 1) := by decide +kernel
theorem dX5_init_27 : decode cX5_init 27 = .ok (.new 9, 3) := by decide +kernel
theorem dX5_init_30 : decode cX5_init 30 = .ok (.dup, 1) := by decide +kernel
theorem dX5_init_31 : decode cX5_init 31 = .ok (.invokespecial 11, 3) := by decide +kernel
theorem dX5_init_34 : decode cX5_init 34 = .ok (.putfield 19, 3) := by decide +kernel
theorem dX5_init_37 : decode cX5_init 37 = .ok (.aload_n 0, 1) := by decide +kernel
theorem dX5_init_38 : decode cX5_init 38 = .ok (.new 22, 3) := by decide +kernel
theorem dX5_init_41 : decode cX5_init 41 = .ok (.dup, 1) := by decide +kernel
theorem dX5_init_42 : decode cX5_init 42 = .ok (.invokespecial 24, 3) := by decide +kernel
theorem dX5_init_45 : decode cX5_init 45 = .ok (.putfield 25, 3) := by decide +kernel
theorem dX5_init_48 : decode cX5_init 48 = .ok (.aload_n 0, 1) := by decide +kernel
theorem dX5_init_49 : decode cX5_init 49 = .ok (.new 29, 3) := by decide +kernel
theorem dX5_init_52 : decode cX5_init 52 = .ok (.dup, 1) := by decide +kernel
theorem dX5_init_53 : decode cX5_init 53 = .ok (.invokespecial 31, 3) := by decide +kernel
theorem dX5_init_56 : decode cX5_init 56 = .ok (.putfield 32, 3) := by decide +kernel
theorem dX5_init_59 : decode cX5_init 59 = .ok (.return_, 1) := by decide +kernel
set_option maxRecDepth 20000 in
theorem ggX5_read_X5_isCore : GoodIn wsX5_read wsX5_isCore := goodIn_r _ [6, 7, 8, 5, 9] (by decide +kernel) (by decide +kernel)
set_option maxRecDepth 20000 in
theorem gX5_read_X5_isCore : GoodIn wsX5_read (va_wsS RX5 36 yX5_isCore wsX5_isCore) := goodIn_app (goodIn_of _ (by decide +kernel)) ggX5_read_X5_isCore
set_option maxRecDepth 20000 in
theorem ggX5_read_X5_isLine : GoodIn wsX5_read wsX5_isLine := goodIn_r _ [12, 7, 8, 5, 9] (by decide +kernel) (by decide +kernel)
set_option maxRecDepth 20000 in
theorem gX5_read_X5_isLine : GoodIn wsX5_read (va_wsS RX5 40 yX5_isLine wsX5_isLine) := goodIn_app (goodIn_of _ (by decide +kernel)) ggX5_read_X5_isLine
set_option maxRecDepth 20000 in
theorem ggX5_read_X2_record : GoodIn wsX5_read wsX2_record := goodIn_r _ [17, 18, 19, 20, 21, 22, 23, 24, 25, 26, 27, 28, 29, 30, 31, 32, 33, 34, 35, 36, 37, 38, 39, 40, 41, 42, 43, 44, 45, 46, 47, 48, 49, 50, 51, 52, 53, 54, 55, 154, 155, 156, 157, 158, 159, 160, 161, 162, 163, 164, 165, 166, 167, 168, 169, 170] (by decide +kernel) (by decide +kernel)
set_option maxRecDepth 20000 in
theorem gX5_read_X2_record : GoodIn wsX5_read (wsV RX5 43 RX2 yX2_record wsX2_record) := goodIn_app (goodIn_of _ (by decide +kernel)) ggX5_read_X2_record
set_option maxRecDepth 20000 in
theorem ggX5_read_X3_readLine : GoodIn wsX5_read wsX3_readLine := goodIn_r _ [59, 31, 60, 61, 26, 62, 63, 39, 64, 65, 66, 67, 68, 41, 69, 70, 71, 72, 73, 46, 45, 74, 75, 76, 50, 77, 52, 78, 79, 80, 81, 55, 82, 83, 84, 85, 86, 87, 88, 89, 90, 91, 24, 92, 93, 94, 34, 95, 96, 97, 98, 99, 100, 101, 102, 103, 104, 105, 106, 107, 108, 109, 110, 54, 111, 112, 113, 114, 44, 115, 116, 117, 118, 119, 32, 33, 120, 121, 122, 123, 43, 124, 125, 126, 127, 128, 129, 130, 131, 132, 133, 134, 135, 136, 137, 138, 139, 140, 141, 142, 143, 144, 157, 158, 159, 160, 161, 162, 163, 164, 165, 166, 167, 168, 169, 170] (by decide +kernel) (by decide +kernel)
set_option maxRecDepth 20000 in
theorem gX5_read_X3_readLine : GoodIn wsX5_read (wsV RX5 47 RX3 yX3_readLine wsX3_readLine) := goodIn_app (goodIn_of _ (by decide +kernel)) ggX5_read_X3_readLine
theorem dX5_read_0 : decode cX5_read 0 = .ok (.iload_n 1, 1) := by decide +kernel
theorem dX5_read_1 : decode cX5_read 1 = .ok (.invokestatic 36, 3) := by decide +kernel
theorem dX5_read_4 : decode cX5_read 4 = .ok (.ifCond .eq 10, 3) := by decide +kernel
theorem dX5_read_7 : decode cX5_read 7 = .ok (.iload_n 2, 1) := by decide +kernel
theorem dX5_read_8 : decode cX5_read 8 = .ok (.invokestatic 40, 3) := by decide +kernel
theorem dX5_read_11 : decode cX5_read 11 = .ok (.ifCond .ne 5, 3) := by decide +kernel
theorem dX5_read_14 : decode cX5_read 14 = .ok (.iconst (-1), 1) := by decide +kernel
theorem dX5_read_15 : decode cX5_read 15 = .ok (.ireturn, 1) := by decide +kernel
theorem dX5_read_16 : decode cX5_read 16 = .ok (.aload_n 0, 1) := by decide +kernel
theorem dX5_read_17 : decode cX5_read 17 = .ok (.getfield 25, 3) := by decide +kernel
theorem dX5_read_20 : decode cX5_read 20 = .ok (.aload_n 0, 1) := by decide +kernel
theorem dX5_read_21 : decode cX5_read 21 = .ok (.getfield 12, 3) := by decide +kernel
theorem dX5_read_24 : decode cX5_read 24 = .ok (.invokevirtual 43, 3) := by decide +kernel
theorem dX5_read_27 : decode cX5_read 27 = .ok (.aload_n 0, 1) := by decide +kernel
theorem dX5_read_28 : decode cX5_read 28 = .ok (.getfield 12, 3) := by decide +kernel
theorem dX5_read_31 : decode cX5_read 31 = .ok (.iload_n 1, 1) := by decide +kernel
theorem dX5_read_32 : decode cX5_read 32 = .ok (.iload_n 2, 1) := by decide +kernel
theorem dX5_read_33 : decode cX5_read 33 = .ok (.invokevirtual 47, 3) := by decide +kernel
theorem dX5_read_36 : decode cX5_read 36 = .ok (.ireturn, 1) := by decide +kernel
set_option maxRecDepth 20000 in
theorem ggX5_write_X5_isCore : GoodIn wsX5_write wsX5_isCore := goodIn_r _ [6, 7, 8, 5, 9] (by decide +kernel) (by decide +kernel)
set_option maxRecDepth 20000 in
theorem gX5_write_X5_isCore : GoodIn wsX5_write (va_wsS RX5 36 yX5_isCore wsX5_isCore) := goodIn_app (goodIn_of _ (by decide +kernel)) ggX5_write_X5_isCore
set_option maxRecDepth 20000 in
theorem ggX5_write_X5_isLine : GoodIn wsX5_write wsX5_isLine := goodIn_r _ [12, 7, 8, 5, 9] (by decide +kernel) (by decide +kernel)
set_option maxRecDepth 20000 in
theorem gX5_write_X5_isLine : GoodIn wsX5_write (va_wsS RX5 40 yX5_isLine wsX5_isLine) := goodIn_app (goodIn_of _ (by decide +kernel)) ggX5_write_X5_isLine
set_option maxRecDepth 20000 in
theorem ggX5_write_X5_isWithin : GoodIn wsX5_write wsX5_isWithin := goodIn_r _ [9] (by decide +kernel) (by decide +kernel)
set_option maxRecDepth 20000 in
theorem gX5_write_X5_isWithin : GoodIn wsX5_write (va_wsS RX5 51 yX5_isWithin wsX5_isWithin) := goodIn_app (goodIn_of _ (by decide +kernel)) ggX5_write_X5_isWithin
set_option maxRecDepth 20000 in
theorem ggX5_write_X2_record : GoodIn wsX5_write wsX2_record := goodIn_r _ [17, 18, 19, 20, 21, 22, 23, 24, 25, 26, 27, 28, 29, 30, 31, 32, 33, 34, 35, 36, 37, 38, 39, 40, 41, 42, 43, 44, 45, 46, 47, 48, 49, 50, 51, 52, 53, 54, 55, 162, 163, 164, 165, 166, 167, 168, 169, 170, 171, 172, 173, 174, 175, 176, 177, 178] (by decide +kernel) (by decide +kernel)
set_option maxRecDepth 20000 in
theorem gX5_write_X2_record : GoodIn wsX5_write (wsV RX5 43 RX2 yX2_record wsX2_record) := goodIn_app (goodIn_of _ (by decide +kernel)) ggX5_write_X2_record
set_option maxRecDepth 20000 in
theorem ggX5_write_X3_writeLine : GoodIn wsX5_write wsX3_writeLine := goodIn_r _ [59, 31, 35, 60, 61, 62, 39, 63, 44, 64, 65, 66, 67, 41, 68, 69, 70, 71, 72, 73, 24, 74, 75, 76, 77, 78, 46, 45, 79, 80, 81, 50, 82, 52, 83, 84, 85, 86, 55, 87, 88, 89, 90, 91, 92, 93, 94, 95, 96, 97, 98, 99, 100, 101, 102, 103, 104, 105, 54, 106, 107, 108, 109, 110, 111, 112, 113, 43, 114, 115, 116, 117, 118, 119, 120, 121, 122, 123, 124, 26, 125, 34, 126, 127, 128, 129, 130, 32, 33, 131, 132, 133, 134, 135, 136, 137, 138, 139, 140, 141, 142, 143, 144, 145, 146, 147, 148, 149, 150, 151, 152, 165, 166, 167, 168, 169, 170, 171, 172, 173, 174, 175, 176, 177, 178] (by decide +kernel) (by decide +kernel)
set_option maxRecDepth 20000 in
theorem gX5_write_X3_writeLine : GoodIn wsX5_write (wsV RX5 55 RX3 yX3_writeLine wsX3_writeLine) := goodIn_app (goodIn_of _ (by decide +kernel)) ggX5_write_X3_writeLine
theorem dX5_write_0 : decode cX5_write 0 = .ok (.iload_n 1, 1) := by decide +kernel
theorem dX5_write_1 : decode cX5_write 1 = .ok (.invokestatic 36, 3) := by decide +kernel
theorem dX5_write_4 : decode cX5_write 4 = .ok (.ifCond .eq 10, 3) := by decide +kernel
theorem dX5_write_7 : decode cX5_write 7 = .ok (.iload_n 2, 1) := by decide +kernel
theorem dX5_write_8 : decode cX5_write 8 = .ok (.invokestatic 40, 3) := by decide +kernel
theorem dX5_write_11 : decode cX5_write 11 = .ok (.ifCond .ne 5, 3) := by decide +kernel
theorem dX5_write_14 : decode cX5_write 14 = .ok (.iconst (-1), 1) := by decide +kernel
theorem dX5_write_15 : decode cX5_write 15 = .ok (.ireturn, 1) := by decide +kernel
theorem dX5_write_16 : decode cX5_write 16 = .ok (.iload_n 3, 1) := by decide +kernel
theorem dX5_write_17 : decode cX5_write 17 = .ok (.iconst 0, 1) := by decide +kernel
theorem dX5_write_18 : decode cX5_write 18 = .ok (.sipush 9999, 3) := by decide +kernel
theorem dX5_write_21 : decode cX5_write 21 = .ok (.invokestatic 51, 3) := by decide +kernel
theorem dX5_write_24 : decode cX5_write 24 = .ok (.ifCond .ne 6, 3) := by decide +kernel
theorem dX5_write_27 : decode cX5_write 27 = .ok (.bipush (-2), 2) := by decide +kernel
theorem dX5_write_29 : decode cX5_write 29 = .ok (.ireturn, 1) := by decide +kernel
theorem dX5_write_30 : decode cX5_write 30 = .ok (.aload_n 0, 1) := by decide +kernel
theorem dX5_write_31 : decode cX5_write 31 = .ok (.getfield 25, 3) := by decide +kernel
theorem dX5_write_34 : decode cX5_write 34 = .ok (.aload_n 0, 1) := by decide +kernel
theorem dX5_write_35 : decode cX5_write 35 = .ok (.getfield 12, 3) := by decide +kernel
theorem dX5_write_38 : decode cX5_write 38 = .ok (.invokevirtual 43, 3) := by decide +kernel
theorem dX5_write_41 : decode cX5_write 41 = .ok (.aload_n 0, 1) := by decide +kernel
theorem dX5_write_42 : decode cX5_write 42 = .ok (.getfield 12, 3) := by decide +kernel
theorem dX5_write_45 : decode cX5_write 45 = .ok (.iload_n 1, 1) := by decide +kernel
theorem dX5_write_46 : decode cX5_write 46 = .ok (.iload_n 2, 1) := by decide +kernel
theorem dX5_write_47 : decode cX5_write 47 = .ok (.iload_n 3, 1) := by decide +kernel
theorem dX5_write_48 : decode cX5_write 48 = .ok (.invokevirtual 55, 3) := by decide +kernel
theorem dX5_write_51 : decode cX5_write 51 = .ok (.ireturn, 1) := by decide +kernel
set_option maxRecDepth 20000 in
theorem ggX5_drop_X5_isCore : GoodIn wsX5_drop wsX5_isCore := goodIn_r _ [7, 8, 9, 6, 10] (by decide +kernel) (by decide +kernel)
set_option maxRecDepth 20000 in
theorem gX5_drop_X5_isCore : GoodIn wsX5_drop (va_wsS RX5 36 yX5_isCore wsX5_isCore) := goodIn_app (goodIn_of _ (by decide +kernel)) ggX5_drop_X5_isCore
set_option maxRecDepth 20000 in
theorem ggX5_drop_X5_isLine : GoodIn wsX5_drop wsX5_isLine := goodIn_r _ [13, 8, 9, 6, 10] (by decide +kernel) (by decide +kernel)
set_option maxRecDepth 20000 in
theorem gX5_drop_X5_isLine : GoodIn wsX5_drop (va_wsS RX5 40 yX5_isLine wsX5_isLine) := goodIn_app (goodIn_of _ (by decide +kernel)) ggX5_drop_X5_isLine
set_option maxRecDepth 20000 in
theorem ggX5_drop_X0_holds : GoodIn wsX5_drop wsX0_holds := goodIn_r _ [18, 19, 20, 21, 17, 22, 123, 124, 125, 126, 127] (by decide +kernel) (by decide +kernel)
set_option maxRecDepth 20000 in
theorem gX5_drop_X0_holds : GoodIn wsX5_drop (wsV RX5 63 RX0 yX0_holds wsX0_holds) := goodIn_app (goodIn_of _ (by decide +kernel)) ggX5_drop_X0_holds
set_option maxRecDepth 20000 in
theorem ggX5_drop_X2_record : GoodIn wsX5_drop wsX2_record := goodIn_r _ [27, 28, 29, 30, 31, 32, 33, 34, 35, 36, 37, 38, 39, 40, 41, 42, 43, 44, 45, 46, 47, 48, 17, 49, 19, 50, 51, 52, 53, 54, 55, 56, 57, 58, 59, 60, 61, 62, 63, 128, 129, 130, 117, 118, 119, 120, 121, 122, 123, 124, 125, 126, 127, 131, 132, 133] (by decide +kernel) (by decide +kernel)
set_option maxRecDepth 20000 in
theorem gX5_drop_X2_record : GoodIn wsX5_drop (wsV RX5 43 RX2 yX2_record wsX2_record) := goodIn_app (goodIn_of _ (by decide +kernel)) ggX5_drop_X2_record
set_option maxRecDepth 20000 in
theorem ggX5_drop_X3_dropLine : GoodIn wsX5_drop wsX3_dropLine := goodIn_r _ [67, 41, 68, 15, 16, 17, 18, 19, 20, 21, 22, 69, 70, 71, 72, 52, 73, 74, 75, 76, 77, 34, 78, 79, 80, 81, 82, 83, 84, 36, 85, 44, 86, 87, 88, 89, 54, 90, 91, 92, 58, 93, 94, 95, 96, 97, 98, 99, 100, 62, 60, 101, 102, 103, 104, 105, 106, 107, 117, 118, 119, 120, 121, 122, 123, 124, 125, 126, 127, 131, 132, 133] (by decide +kernel) (by decide +kernel)
set_option maxRecDepth 20000 in
theorem gX5_drop_X3_dropLine : GoodIn wsX5_drop (wsV RX5 68 RX3 yX3_dropLine wsX3_dropLine) := goodIn_app (goodIn_of _ (by decide +kernel)) ggX5_drop_X3_dropLine
theorem dX5_drop_0 : decode cX5_drop 0 = .ok (.iload_n 1, 1) := by decide +kernel
theorem dX5_drop_1 : decode cX5_drop 1 = .ok (.invokestatic 36, 3) := by decide +kernel
theorem dX5_drop_4 : decode cX5_drop 4 = .ok (.ifCond .eq 10, 3) := by decide +kernel
theorem dX5_drop_7 : decode cX5_drop 7 = .ok (.iload_n 2, 1) := by decide +kernel
theorem dX5_drop_8 : decode cX5_drop 8 = .ok (.invokestatic 40, 3) := by decide +kernel
theorem dX5_drop_11 : decode cX5_drop 11 = .ok (.ifCond .ne 5, 3) := by decide +kernel
theorem dX5_drop_14 : decode cX5_drop 14 = .ok (.iconst (-1), 1) := by decide +kernel
theorem dX5_drop_15 : decode cX5_drop 15 = .ok (.ireturn, 1) := by decide +kernel
theorem dX5_drop_16 : decode cX5_drop 16 = .ok (.aload_n 0, 1) := by decide +kernel
theorem dX5_drop_17 : decode cX5_drop 17 = .ok (.getfield 12, 3) := by decide +kernel
theorem dX5_drop_20 : decode cX5_drop 20 = .ok (.getfield 59, 3) := by decide +kernel
theorem dX5_drop_23 : decode cX5_drop 23 = .ok (.iload_n 1, 1) := by decide +kernel
theorem dX5_drop_24 : decode cX5_drop 24 = .ok (.aaload, 1) := by decide +kernel
theorem dX5_drop_25 : decode cX5_drop 25 = .ok (.iload_n 2, 1) := by decide +kernel
theorem dX5_drop_26 : decode cX5_drop 26 = .ok (.invokevirtual 63, 3) := by decide +kernel
theorem dX5_drop_29 : decode cX5_drop 29 = .ok (.ifCond .ne 6, 3) := by decide +kernel
theorem dX5_drop_32 : decode cX5_drop 32 = .ok (.bipush (-4), 2) := by decide +kernel
theorem dX5_drop_34 : decode cX5_drop 34 = .ok (.ireturn, 1) := by decide +kernel
theorem dX5_drop_35 : decode cX5_drop 35 = .ok (.aload_n 0, 1) := by decide +kernel
theorem dX5_drop_36 : decode cX5_drop 36 = .ok (.getfield 25, 3) := by decide +kernel
theorem dX5_drop_39 : decode cX5_drop 39 = .ok (.aload_n 0, 1) := by decide +kernel
theorem dX5_drop_40 : decode cX5_drop 40 = .ok (.getfield 12, 3) := by decide +kernel
theorem dX5_drop_43 : decode cX5_drop 43 = .ok (.invokevirtual 43, 3) := by decide +kernel
theorem dX5_drop_46 : decode cX5_drop 46 = .ok (.aload_n 0, 1) := by decide +kernel
theorem dX5_drop_47 : decode cX5_drop 47 = .ok (.getfield 12, 3) := by decide +kernel
theorem dX5_drop_50 : decode cX5_drop 50 = .ok (.iload_n 1, 1) := by decide +kernel
theorem dX5_drop_51 : decode cX5_drop 51 = .ok (.iload_n 2, 1) := by decide +kernel
theorem dX5_drop_52 : decode cX5_drop 52 = .ok (.invokevirtual 68, 3) := by decide +kernel
theorem dX5_drop_55 : decode cX5_drop 55 = .ok (.ireturn, 1) := by decide +kernel
set_option maxRecDepth 20000 in
theorem ggX5_forget_X5_isCore : GoodIn wsX5_forget wsX5_isCore := goodIn_r _ [7, 8, 9, 6, 10] (by decide +kernel) (by decide +kernel)
set_option maxRecDepth 20000 in
theorem gX5_forget_X5_isCore : GoodIn wsX5_forget (va_wsS RX5 36 yX5_isCore wsX5_isCore) := goodIn_app (goodIn_of _ (by decide +kernel)) ggX5_forget_X5_isCore
set_option maxRecDepth 20000 in
theorem ggX5_forget_X0_hasNothingToForget : GoodIn wsX5_forget wsX0_hasNothingToForget := goodIn_r _ [15, 16, 17, 18, 19, 14, 20, 21, 22, 23, 24, 25, 26, 27, 28, 29, 30, 31, 32, 33, 6, 34, 113, 114, 115, 116, 117, 118, 119, 120] (by decide +kernel) (by decide +kernel)
set_option maxRecDepth 20000 in
theorem gX5_forget_X0_hasNothingToForget : GoodIn wsX5_forget (wsV RX5 71 RX0 yX0_hasNothingToForget wsX0_hasNothingToForget) := goodIn_app (goodIn_of _ (by decide +kernel)) ggX5_forget_X0_hasNothingToForget
set_option maxRecDepth 20000 in
theorem ggX5_forget_X2_record : GoodIn wsX5_forget wsX2_record := goodIn_r _ [39, 40, 41, 42, 43, 44, 45, 46, 47, 48, 49, 50, 51, 52, 53, 54, 55, 56, 57, 58, 59, 60, 14, 61, 21, 62, 63, 64, 65, 16, 66, 67, 68, 25, 69, 27, 70, 71, 32, 121, 122, 123, 107, 108, 109, 110, 111, 112, 113, 114, 115, 116, 117, 118, 119, 120] (by decide +kernel) (by decide +kernel)
set_option maxRecDepth 20000 in
theorem gX5_forget_X2_record : GoodIn wsX5_forget (wsV RX5 43 RX2 yX2_record wsX2_record) := goodIn_app (goodIn_of _ (by decide +kernel)) ggX5_forget_X2_record
set_option maxRecDepth 20000 in
theorem ggX5_forget_X3_forgetOnPurpose : GoodIn wsX5_forget wsX3_forgetOnPurpose := goodIn_r _ [75, 53, 76, 12, 13, 14, 15, 16, 17, 18, 19, 20, 21, 22, 23, 24, 25, 26, 27, 28, 29, 30, 31, 32, 33, 6, 34, 77, 78, 79, 46, 80, 81, 82, 83, 84, 85, 86, 87, 88, 48, 89, 56, 90, 91, 92, 93, 64, 94, 95, 96, 97, 71, 107, 108, 109, 110, 111, 112, 113, 114, 115, 116, 117, 118, 119, 120] (by decide +kernel) (by decide +kernel)
set_option maxRecDepth 20000 in
theorem gX5_forget_X3_forgetOnPurpose : GoodIn wsX5_forget (wsV RX5 75 RX3 yX3_forgetOnPurpose wsX3_forgetOnPurpose) := goodIn_app (goodIn_of _ (by decide +kernel)) ggX5_forget_X3_forgetOnPurpose
theorem dX5_forget_0 : decode cX5_forget 0 = .ok (.iload_n 1, 1) := by decide +kernel
theorem dX5_forget_1 : decode cX5_forget 1 = .ok (.invokestatic 36, 3) := by decide +kernel
theorem dX5_forget_4 : decode cX5_forget 4 = .ok (.ifCond .ne 5, 3) := by decide +kernel
theorem dX5_forget_7 : decode cX5_forget 7 = .ok (.iconst (-1), 1) := by decide +kernel
theorem dX5_forget_8 : decode cX5_forget 8 = .ok (.ireturn, 1) := by decide +kernel
theorem dX5_forget_9 : decode cX5_forget 9 = .ok (.aload_n 0, 1) := by decide +kernel
theorem dX5_forget_10 : decode cX5_forget 10 = .ok (.getfield 12, 3) := by decide +kernel
theorem dX5_forget_13 : decode cX5_forget 13 = .ok (.getfield 59, 3) := by decide +kernel
theorem dX5_forget_16 : decode cX5_forget 16 = .ok (.iload_n 1, 1) := by decide +kernel
theorem dX5_forget_17 : decode cX5_forget 17 = .ok (.aaload, 1) := by decide +kernel
theorem dX5_forget_18 : decode cX5_forget 18 = .ok (.invokevirtual 71, 3) := by decide +kernel
theorem dX5_forget_21 : decode cX5_forget 21 = .ok (.ifCond .eq 6, 3) := by decide +kernel
theorem dX5_forget_24 : decode cX5_forget 24 = .ok (.bipush (-5), 2) := by decide +kernel
theorem dX5_forget_26 : decode cX5_forget 26 = .ok (.ireturn, 1) := by decide +kernel
theorem dX5_forget_27 : decode cX5_forget 27 = .ok (.aload_n 0, 1) := by decide +kernel
theorem dX5_forget_28 : decode cX5_forget 28 = .ok (.getfield 25, 3) := by decide +kernel
theorem dX5_forget_31 : decode cX5_forget 31 = .ok (.aload_n 0, 1) := by decide +kernel
theorem dX5_forget_32 : decode cX5_forget 32 = .ok (.getfield 12, 3) := by decide +kernel
theorem dX5_forget_35 : decode cX5_forget 35 = .ok (.invokevirtual 43, 3) := by decide +kernel
theorem dX5_forget_38 : decode cX5_forget 38 = .ok (.aload_n 0, 1) := by decide +kernel
theorem dX5_forget_39 : decode cX5_forget 39 = .ok (.getfield 12, 3) := by decide +kernel
theorem dX5_forget_42 : decode cX5_forget 42 = .ok (.iload_n 1, 1) := by decide +kernel
theorem dX5_forget_43 : decode cX5_forget 43 = .ok (.invokevirtual 75, 3) := by decide +kernel
theorem dX5_forget_46 : decode cX5_forget 46 = .ok (.ireturn, 1) := by decide +kernel
set_option maxRecDepth 20000 in
theorem ggX5_set_X5_isWithin : GoodIn wsX5_set wsX5_isWithin := goodIn_r _ [8] (by decide +kernel) (by decide +kernel)
set_option maxRecDepth 20000 in
theorem gX5_set_X5_isWithin : GoodIn wsX5_set (va_wsS RX5 51 yX5_isWithin wsX5_isWithin) := goodIn_app (goodIn_of _ (by decide +kernel)) ggX5_set_X5_isWithin
set_option maxRecDepth 20000 in
theorem ggX5_set_X2_record : GoodIn wsX5_set wsX2_record := goodIn_r _ [13, 14, 15, 16, 17, 18, 19, 20, 21, 22, 23, 24, 25, 26, 27, 28, 29, 30, 31, 32, 33, 34, 35, 36, 37, 38, 39, 40, 41, 42, 43, 44, 45, 46, 47, 48, 49, 50, 51, 67, 68, 69, 61, 62, 63, 64, 65, 66, 70, 71, 72, 73, 74, 75, 76, 77] (by decide +kernel) (by decide +kernel)
set_option maxRecDepth 20000 in
theorem gX5_set_X2_record : GoodIn wsX5_set (wsV RX5 43 RX2 yX2_record wsX2_record) := goodIn_app (goodIn_of _ (by decide +kernel)) ggX5_set_X2_record
theorem dX5_set_0 : decode cX5_set 0 = .ok (.iload_n 1, 1) := by decide +kernel
theorem dX5_set_1 : decode cX5_set 1 = .ok (.iconst 0, 1) := by decide +kernel
theorem dX5_set_2 : decode cX5_set 2 = .ok (.iconst 1, 1) := by decide +kernel
theorem dX5_set_3 : decode cX5_set 3 = .ok (.invokestatic 51, 3) := by decide +kernel
theorem dX5_set_6 : decode cX5_set 6 = .ok (.ifCond .ne 5, 3) := by decide +kernel
theorem dX5_set_9 : decode cX5_set 9 = .ok (.iconst (-1), 1) := by decide +kernel
theorem dX5_set_10 : decode cX5_set 10 = .ok (.ireturn, 1) := by decide +kernel
theorem dX5_set_11 : decode cX5_set 11 = .ok (.iload_n 2, 1) := by decide +kernel
theorem dX5_set_12 : decode cX5_set 12 = .ok (.iconst 1, 1) := by decide +kernel
theorem dX5_set_13 : decode cX5_set 13 = .ok (.iload_n 1, 1) := by decide +kernel
theorem dX5_set_14 : decode cX5_set 14 = .ok (.ifCond .ne 8, 3) := by decide +kernel
theorem dX5_set_17 : decode cX5_set 17 = .ok (.bipush 9, 2) := by decide +kernel
theorem dX5_set_19 : decode cX5_set 19 = .ok (.goto 5, 3) := by decide +kernel
theorem dX5_set_22 : decode cX5_set 22 = .ok (.bipush 24, 2) := by decide +kernel
theorem dX5_set_24 : decode cX5_set 24 = .ok (.invokestatic 51, 3) := by decide +kernel
theorem dX5_set_27 : decode cX5_set 27 = .ok (.ifCond .ne 6, 3) := by decide +kernel
theorem dX5_set_30 : decode cX5_set 30 = .ok (.bipush (-2), 2) := by decide +kernel
theorem dX5_set_32 : decode cX5_set 32 = .ok (.ireturn, 1) := by decide +kernel
theorem dX5_set_33 : decode cX5_set 33 = .ok (.iload_n 1, 1) := by decide +kernel
theorem dX5_set_34 : decode cX5_set 34 = .ok (.ifCond .ne 13, 3) := by decide +kernel
theorem dX5_set_37 : decode cX5_set 37 = .ok (.aload_n 0, 1) := by decide +kernel
theorem dX5_set_38 : decode cX5_set 38 = .ok (.getfield 12, 3) := by decide +kernel
theorem dX5_set_41 : decode cX5_set 41 = .ok (.getfield 79, 3) := by decide +kernel
theorem dX5_set_44 : decode cX5_set 44 = .ok (.goto 10, 3) := by decide +kernel
theorem dX5_set_47 : decode cX5_set 47 = .ok (.aload_n 0, 1) := by decide +kernel
theorem dX5_set_48 : decode cX5_set 48 = .ok (.getfield 12, 3) := by decide +kernel
theorem dX5_set_51 : decode cX5_set 51 = .ok (.getfield 83, 3) := by decide +kernel
theorem dX5_set_54 : decode cX5_set 54 = .ok (.istore_n 3, 1) := by decide +kernel
theorem dX5_set_55 : decode cX5_set 55 = .ok (.iload_n 3, 1) := by decide +kernel
theorem dX5_set_56 : decode cX5_set 56 = .ok (.iload_n 2, 1) := by decide +kernel
theorem dX5_set_57 : decode cX5_set 57 = .ok (.if_icmp .ne 6, 3) := by decide +kernel
theorem dX5_set_60 : decode cX5_set 60 = .ok (.bipush (-5), 2) := by decide +kernel
theorem dX5_set_62 : decode cX5_set 62 = .ok (.ireturn, 1) := by decide +kernel
theorem dX5_set_63 : decode cX5_set 63 = .ok (.aload_n 0, 1) := by decide +kernel
theorem dX5_set_64 : decode cX5_set 64 = .ok (.getfield 25, 3) := by decide +kernel
theorem dX5_set_67 : decode cX5_set 67 = .ok (.aload_n 0, 1) := by decide +kernel
theorem dX5_set_68 : decode cX5_set 68 = .ok (.getfield 12, 3) := by decide +kernel
theorem dX5_set_71 : decode cX5_set 71 = .ok (.invokevirtual 43, 3) := by decide +kernel
theorem dX5_set_74 : decode cX5_set 74 = .ok (.iload_n 1, 1) := by decide +kernel
theorem dX5_set_75 : decode cX5_set 75 = .ok (.ifCond .ne 14, 3) := by decide +kernel
theorem dX5_set_78 : decode cX5_set 78 = .ok (.aload_n 0, 1) := by decide +kernel
theorem dX5_set_79 : decode cX5_set 79 = .ok (.getfield 12, 3) := by decide +kernel
theorem dX5_set_82 : decode cX5_set 82 = .ok (.iload_n 2, 1) := by decide +kernel
theorem dX5_set_83 : decode cX5_set 83 = .ok (.putfield 79, 3) := by decide +kernel
theorem dX5_set_86 : decode cX5_set 86 = .ok (.goto 11, 3) := by decide +kernel
theorem dX5_set_89 : decode cX5_set 89 = .ok (.aload_n 0, 1) := by decide +kernel
theorem dX5_set_90 : decode cX5_set 90 = .ok (.getfield 12, 3) := by decide +kernel
theorem dX5_set_93 : decode cX5_set 93 = .ok (.iload_n 2, 1) := by decide +kernel
theorem dX5_set_94 : decode cX5_set 94 = .ok (.putfield 83, 3) := by decide +kernel
theorem dX5_set_97 : decode cX5_set 97 = .ok (.iload_n 3, 1) := by decide +kernel
theorem dX5_set_98 : decode cX5_set 98 = .ok (.ireturn, 1) := by decide +kernel
set_option maxRecDepth 20000 in
theorem ggX5_type_X4_append : GoodIn wsX5_type wsX4_append := goodIn_r _ [7, 8, 9, 19, 20, 21, 22, 23, 24, 25, 26] (by decide +kernel) (by decide +kernel)
set_option maxRecDepth 20000 in
theorem gX5_type_X4_append : GoodIn wsX5_type (wsV RX5 86 RX4 yX4_append wsX4_append) := goodIn_app (goodIn_of _ (by decide +kernel)) ggX5_type_X4_append
theorem dX5_type_0 : decode cX5_type 0 = .ok (.aload_n 0, 1) := by decide +kernel
theorem dX5_type_1 : decode cX5_type 1 = .ok (.getfield 32, 3) := by decide +kernel
theorem dX5_type_4 : decode cX5_type 4 = .ok (.iload_n 1, 1) := by decide +kernel
theorem dX5_type_5 : decode cX5_type 5 = .ok (.invokevirtual 86, 3) := by decide +kernel
theorem dX5_type_8 : decode cX5_type 8 = .ok (.ifCond .eq 13, 3) := by decide +kernel
theorem dX5_type_11 : decode cX5_type 11 = .ok (.aload_n 0, 1) := by decide +kernel
theorem dX5_type_12 : decode cX5_type 12 = .ok (.getfield 32, 3) := by decide +kernel
theorem dX5_type_15 : decode cX5_type 15 = .ok (.getfield 90, 3) := by decide +kernel
theorem dX5_type_18 : decode cX5_type 18 = .ok (.goto 5, 3) := by decide +kernel
theorem dX5_type_21 : decode cX5_type 21 = .ok (.bipush (-3), 2) := by decide +kernel
theorem dX5_type_23 : decode cX5_type 23 = .ok (.ireturn, 1) := by decide +kernel
theorem dX5_clearText_0 : decode cX5_clearText 0 = .ok (.aload_n 0, 1) := by decide +kernel
theorem dX5_clearText_1 : decode cX5_clearText 1 = .ok (.getfield 32, 3) := by decide +kernel
theorem dX5_clearText_4 : decode cX5_clearText 4 = .ok (.getfield 90, 3) := by decide +kernel
theorem dX5_clearText_7 : decode cX5_clearText 7 = .ok (.istore_n 1, 1) := by decide +kernel
theorem dX5_clearText_8 : decode cX5_clearText 8 = .ok (.aload_n 0, 1) := by decide +kernel
theorem dX5_clearText_9 : decode cX5_clearText 9 = .ok (.getfield 32, 3) := by decide +kernel
theorem dX5_clearText_12 : decode cX5_clearText 12 = .ok (.iconst 0, 1) := by decide +kernel
theorem dX5_clearText_13 : decode cX5_clearText 13 = .ok (.putfield 90, 3) := by decide +kernel
theorem dX5_clearText_16 : decode cX5_clearText 16 = .ok (.iload_n 1, 1) := by decide +kernel
theorem dX5_clearText_17 : decode cX5_clearText 17 = .ok (.ireturn, 1) := by decide +kernel
set_option maxRecDepth 20000 in
theorem ggX5_perform_X4_findFault : GoodIn wsX5_perform wsX4_findFault := goodIn_r _ [10, 11, 12, 13, 14, 15, 16, 9, 17, 18, 19, 20, 21, 22, 23, 24, 25, 26, 27, 28, 29, 30, 31, 32, 33, 34, 35, 36, 37, 38, 232, 233, 234, 235, 236, 237, 238, 239] (by decide +kernel) (by decide +kernel)
set_option maxRecDepth 20000 in
theorem gX5_perform_X4_findFault : GoodIn wsX5_perform (wsV RX5 93 RX4 yX4_findFault wsX4_findFault) := goodIn_app (goodIn_of _ (by decide +kernel)) ggX5_perform_X4_findFault
set_option maxRecDepth 20000 in
theorem ggX5_perform_X3_copyFrom : GoodIn wsX5_perform wsX3_copyFrom := goodIn_r _ [43, 44, 45, 46, 47, 48, 49, 50, 51, 52, 53, 54, 55, 56, 57, 58, 59, 60, 61, 62, 63, 64, 65, 66, 67, 68, 69, 70, 71, 72, 73, 240, 241, 242, 243, 244, 245, 246, 247, 248, 249, 250, 251, 252, 253] (by decide +kernel) (by decide +kernel)
set_option maxRecDepth 20000 in
theorem gX5_perform_X3_copyFrom : GoodIn wsX5_perform (wsV RX5 97 RX3 yX3_copyFrom wsX3_copyFrom) := goodIn_app (goodIn_of _ (by decide +kernel)) ggX5_perform_X3_copyFrom
set_option maxRecDepth 20000 in
theorem ggX5_perform_X4_runCommand : GoodIn wsX5_perform wsX4_runCommand := goodIn_r _ [77, 20, 33, 19, 34, 78, 79, 80, 42, 81, 49, 82, 83, 44, 84, 85, 57, 86, 87, 88, 89, 90, 59, 91, 92, 93, 94, 95, 64, 63, 96, 97, 98, 68, 99, 70, 100, 101, 102, 103, 73, 104, 105, 106, 107, 108, 109, 110, 111, 112, 113, 114, 115, 116, 52, 117, 118, 119, 120, 121, 122, 123, 124, 125, 126, 127, 128, 129, 130, 131, 132, 72, 133, 134, 135, 136, 62, 137, 138, 139, 140, 141, 50, 51, 142, 143, 144, 145, 61, 146, 147, 148, 149, 150, 151, 152, 153, 154, 155, 156, 157, 158, 159, 160, 161, 162, 163, 164, 165, 166, 167, 168, 169, 170, 53, 171, 172, 173, 174, 175, 176, 177, 178, 179, 180, 181, 182, 183, 184, 185, 186, 187, 188, 189, 190, 191, 192, 193, 194, 195, 196, 197, 198, 199, 200, 201, 202, 232, 233, 234, 235, 236, 237, 238, 239, 240, 241, 242, 243, 244, 245, 246, 247, 248, 249, 250, 251, 252, 253] (by decide +kernel) (by decide +kernel)
set_option maxRecDepth 20000 in
theorem gX5_perform_X4_runCommand : GoodIn wsX5_perform (wsV RX5 103 RX4 yX4_runCommand wsX4_runCommand) := goodIn_app (goodIn_of _ (by decide +kernel)) ggX5_perform_X4_runCommand
set_option maxRecDepth 20000 in
theorem ggX5_perform_X5_noteStop : GoodIn wsX5_perform wsX5_noteStop := goodIn_r _ [206, 207, 208, 209, 223, 224, 225, 226, 227, 228, 229, 230, 231] (by decide +kernel) (by decide +kernel)
set_option maxRecDepth 20000 in
theorem gX5_perform_X5_noteStop : GoodIn wsX5_perform (wsV RX5 107 RX5 yX5_noteStop wsX5_noteStop) := goodIn_app (goodIn_of _ (by decide +kernel)) ggX5_perform_X5_noteStop
set_option maxRecDepth 20000 in
theorem ggX5_perform_X4_isReading : GoodIn wsX5_perform wsX4_isReading := goodIn_r _ [213, 19, 232, 233, 234, 235, 236, 237, 238, 239] (by decide +kernel) (by decide +kernel)
set_option maxRecDepth 20000 in
theorem gX5_perform_X4_isReading : GoodIn wsX5_perform (wsV RX5 111 RX4 yX4_isReading wsX4_isReading) := goodIn_app (goodIn_of _ (by decide +kernel)) ggX5_perform_X4_isReading
set_option maxRecDepth 20000 in
theorem ggX5_perform_X2_record : GoodIn wsX5_perform wsX2_record := goodIn_r _ [218, 219, 220, 221, 222, 40, 41, 42, 43, 44, 45, 46, 47, 48, 49, 50, 51, 52, 53, 54, 55, 56, 57, 58, 59, 60, 61, 62, 63, 64, 65, 66, 67, 68, 69, 70, 71, 72, 73, 254, 255, 256, 240, 241, 242, 243, 244, 245, 246, 247, 248, 249, 250, 251, 252, 253] (by decide +kernel) (by decide +kernel)
set_option maxRecDepth 20000 in
theorem gX5_perform_X2_record : GoodIn wsX5_perform (wsV RX5 43 RX2 yX2_record wsX2_record) := goodIn_app (goodIn_of _ (by decide +kernel)) ggX5_perform_X2_record
theorem dX5_perform_0 : decode cX5_perform 0 = .ok (.aload_n 0, 1) := by decide +kernel
theorem dX5_perform_1 : decode cX5_perform 1 = .ok (.getfield 32, 3) := by decide +kernel
theorem dX5_perform_4 : decode cX5_perform 4 = .ok (.invokevirtual 93, 3) := by decide +kernel
theorem dX5_perform_7 : decode cX5_perform 7 = .ok (.istore_n 1, 1) := by decide +kernel
theorem dX5_perform_8 : decode cX5_perform 8 = .ok (.iload_n 1, 1) := by decide +kernel
theorem dX5_perform_9 : decode cX5_perform 9 = .ok (.ifCond .lt 8, 3) := by decide +kernel
theorem dX5_perform_12 : decode cX5_perform 12 = .ok (.bipush (-100), 2) := by decide +kernel
theorem dX5_perform_14 : decode cX5_perform 14 = .ok (.iload_n 1, 1) := by decide +kernel
theorem dX5_perform_15 : decode cX5_perform 15 = .ok (.isub, 1) := by decide +kernel
theorem dX5_perform_16 : decode cX5_perform 16 = .ok (.ireturn, 1) := by decide +kernel
theorem dX5_perform_17 : decode cX5_perform 17 = .ok (.aload_n 0, 1) := by decide +kernel
theorem dX5_perform_18 : decode cX5_perform 18 = .ok (.getfield 16, 3) := by decide +kernel
theorem dX5_perform_21 : decode cX5_perform 21 = .ok (.aload_n 0, 1) := by decide +kernel
theorem dX5_perform_22 : decode cX5_perform 22 = .ok (.getfield 12, 3) := by decide +kernel
theorem dX5_perform_25 : decode cX5_perform 25 = .ok (.invokevirtual 97, 3) := by decide +kernel
theorem dX5_perform_28 : decode cX5_perform 28 = .ok (.iconst 0, 1) := by decide +kernel
theorem dX5_perform_29 : decode cX5_perform 29 = .ok (.istore_n 2, 1) := by decide +kernel
theorem dX5_perform_30 : decode cX5_perform 30 = .ok (.iconst 0, 1) := by decide +kernel
theorem dX5_perform_31 : decode cX5_perform 31 = .ok (.istore_n 3, 1) := by decide +kernel
theorem dX5_perform_32 : decode cX5_perform 32 = .ok (.iload_n 3, 1) := by decide +kernel
theorem dX5_perform_33 : decode cX5_perform 33 = .ok (.aload_n 0, 1) := by decide +kernel
theorem dX5_perform_34 : decode cX5_perform 34 = .ok (.getfield 32, 3) := by decide +kernel
theorem dX5_perform_37 : decode cX5_perform 37 = .ok (.getfield 100, 3) := by decide +kernel
theorem dX5_perform_40 : decode cX5_perform 40 = .ok (.if_icmp .ge 61, 3) := by decide +kernel
theorem dX5_perform_43 : decode cX5_perform 43 = .ok (.aload_n 0, 1) := by decide +kernel
theorem dX5_perform_44 : decode cX5_perform 44 = .ok (.getfield 32, 3) := by decide +kernel
theorem dX5_perform_47 : decode cX5_perform 47 = .ok (.iload_n 3, 1) := by decide +kernel
theorem dX5_perform_48 : decode cX5_perform 48 = .ok (.aload_n 0, 1) := by decide +kernel
theorem dX5_perform_49 : decode cX5_perform 49 = .ok (.getfield 16, 3) := by decide +kernel
theorem dX5_perform_52 : decode cX5_perform 52 = .ok (.invokevirtual 103, 3) := by decide +kernel
theorem dX5_perform_55 : decode cX5_perform 55 = .ok (.istore 4, 2) := by decide +kernel
theorem dX5_perform_57 : decode cX5_perform 57 = .ok (.iload 4, 2) := by decide +kernel
theorem dX5_perform_59 : decode cX5_perform 59 = .ok (.ifCond .ge 20, 3) := by decide +kernel
theorem dX5_perform_62 : decode cX5_perform 62 = .ok (.iload 4, 2) := by decide +kernel
theorem dX5_perform_64 : decode cX5_perform 64 = .ok (.bipush (-5), 2) := by decide +kernel
theorem dX5_perform_66 : decode cX5_perform 66 = .ok (.if_icmp .eq 13, 3) := by decide +kernel
theorem dX5_perform_69 : decode cX5_perform 69 = .ok (.aload_n 0, 1) := by decide +kernel
theorem dX5_perform_70 : decode cX5_perform 70 = .ok (.iload_n 3, 1) := by decide +kernel
theorem dX5_perform_71 : decode cX5_perform 71 = .ok (.iload 4, 2) := by decide +kernel
theorem dX5_perform_73 : decode cX5_perform 73 = .ok (.invokevirtual 107, 3) := by decide +kernel
theorem dX5_perform_76 : decode cX5_perform 76 = .ok (.bipush (-4), 2) := by decide +kernel
theorem dX5_perform_78 : decode cX5_perform 78 = .ok (.ireturn, 1) := by decide +kernel
theorem dX5_perform_79 : decode cX5_perform 79 = .ok (.aload_n 0, 1) := by decide +kernel
theorem dX5_perform_80 : decode cX5_perform 80 = .ok (.getfield 32, 3) := by decide +kernel
theorem dX5_perform_83 : decode cX5_perform 83 = .ok (.iload_n 3, 1) := by decide +kernel
theorem dX5_perform_84 : decode cX5_perform 84 = .ok (.invokevirtual 111, 3) := by decide +kernel
theorem dX5_perform_87 : decode cX5_perform 87 = .ok (.ifCond .eq 8, 3) := by decide +kernel
theorem dX5_perform_90 : decode cX5_perform 90 = .ok (.iload_n 2, 1) := by decide +kernel
theorem dX5_perform_91 : decode cX5_perform 91 = .ok (.iload 4, 2) := by decide +kernel
theorem dX5_perform_93 : decode cX5_perform 93 = .ok (.iadd, 1) := by decide +kernel
theorem dX5_perform_94 : decode cX5_perform 94 = .ok (.istore_n 2, 1) := by decide +kernel
theorem dX5_perform_95 : decode cX5_perform 95 = .ok (.iinc 3 1, 3) := by decide +kernel
theorem dX5_perform_98 : decode cX5_perform 98 = .ok (.goto (-66), 3) := by decide +kernel
theorem dX5_perform_101 : decode cX5_perform 101 = .ok (.aload_n 0, 1) := by decide +kernel
theorem dX5_perform_102 : decode cX5_perform 102 = .ok (.getfield 25, 3) := by decide +kernel
theorem dX5_perform_105 : decode cX5_perform 105 = .ok (.aload_n 0, 1) := by decide +kernel
theorem dX5_perform_106 : decode cX5_perform 106 = .ok (.getfield 12, 3) := by decide +kernel
theorem dX5_perform_109 : decode cX5_perform 109 = .ok (.invokevirtual 43, 3) := by decide +kernel
theorem dX5_perform_112 : decode cX5_perform 112 = .ok (.aload_n 0, 1) := by decide +kernel
theorem dX5_perform_113 : decode cX5_perform 113 = .ok (.getfield 12, 3) := by decide +kernel
theorem dX5_perform_116 : decode cX5_perform 116 = .ok (.aload_n 0, 1) := by decide +kernel
theorem dX5_perform_117 : decode cX5_perform 117 = .ok (.getfield 16, 3) := by decide +kernel
theorem dX5_perform_120 : decode cX5_perform 120 = .ok (.invokevirtual 97, 3) := by decide +kernel
theorem dX5_perform_123 : decode cX5_perform 123 = .ok (.iload_n 2, 1) := by decide +kernel
theorem dX5_perform_124 : decode cX5_perform 124 = .ok (.ireturn, 1) := by decide +kernel
set_option maxRecDepth 20000 in
theorem ggX5_stopped_X5_isWithin : GoodIn wsX5_stopped wsX5_isWithin := goodIn_r _ [7] (by decide +kernel) (by decide +kernel)
set_option maxRecDepth 20000 in
theorem gX5_stopped_X5_isWithin : GoodIn wsX5_stopped (va_wsS RX5 51 yX5_isWithin wsX5_isWithin) := goodIn_app (goodIn_of _ (by decide +kernel)) ggX5_stopped_X5_isWithin
theorem dX5_stopped_0 : decode cX5_stopped 0 = .ok (.iload_n 1, 1) := by decide +kernel
theorem dX5_stopped_1 : decode cX5_stopped 1 = .ok (.iconst 0, 1) := by decide +kernel
theorem dX5_stopped_2 : decode cX5_stopped 2 = .ok (.iconst 1, 1) := by decide +kernel
theorem dX5_stopped_3 : decode cX5_stopped 3 = .ok (.invokestatic 51, 3) := by decide +kernel
theorem dX5_stopped_6 : decode cX5_stopped 6 = .ok (.ifCond .ne 6, 3) := by decide +kernel
theorem dX5_stopped_9 : decode cX5_stopped 9 = .ok (.bipush (-2), 2) := by decide +kernel
theorem dX5_stopped_11 : decode cX5_stopped 11 = .ok (.ireturn, 1) := by decide +kernel
theorem dX5_stopped_12 : decode cX5_stopped 12 = .ok (.aload_n 0, 1) := by decide +kernel
theorem dX5_stopped_13 : decode cX5_stopped 13 = .ok (.getfield 114, 3) := by decide +kernel
theorem dX5_stopped_16 : decode cX5_stopped 16 = .ok (.ifCond .ne 6, 3) := by decide +kernel
theorem dX5_stopped_19 : decode cX5_stopped 19 = .ok (.bipush (-5), 2) := by decide +kernel
theorem dX5_stopped_21 : decode cX5_stopped 21 = .ok (.ireturn, 1) := by decide +kernel
theorem dX5_stopped_22 : decode cX5_stopped 22 = .ok (.iload_n 1, 1) := by decide +kernel
theorem dX5_stopped_23 : decode cX5_stopped 23 = .ok (.ifCond .ne 10, 3) := by decide +kernel
theorem dX5_stopped_26 : decode cX5_stopped 26 = .ok (.aload_n 0, 1) := by decide +kernel
theorem dX5_stopped_27 : decode cX5_stopped 27 = .ok (.getfield 118, 3) := by decide +kernel
theorem dX5_stopped_30 : decode cX5_stopped 30 = .ok (.goto 7, 3) := by decide +kernel
theorem dX5_stopped_33 : decode cX5_stopped 33 = .ok (.aload_n 0, 1) := by decide +kernel
theorem dX5_stopped_34 : decode cX5_stopped 34 = .ok (.getfield 121, 3) := by decide +kernel
theorem dX5_stopped_37 : decode cX5_stopped 37 = .ok (.ireturn, 1) := by decide +kernel
set_option maxRecDepth 20000 in
theorem ggX5_undo_X2_takeLatest : GoodIn wsX5_undo wsX2_takeLatest := goodIn_r _ [8, 9, 10, 11, 12, 13, 14, 15, 16, 17, 18, 19, 20, 21, 22, 23, 24, 25, 26, 27, 28, 29, 30, 31, 32, 33, 34, 35, 36, 37, 38, 39, 40, 41, 42, 43, 44, 45, 46, 56, 57, 58, 59, 60, 61, 62, 63, 64, 65, 66, 67, 68, 69, 70, 71, 72] (by decide +kernel) (by decide +kernel)
set_option maxRecDepth 20000 in
theorem gX5_undo_X2_takeLatest : GoodIn wsX5_undo (wsV RX5 127 RX2 yX2_takeLatest wsX2_takeLatest) := goodIn_app (goodIn_of _ (by decide +kernel)) ggX5_undo_X2_takeLatest
theorem dX5_undo_0 : decode cX5_undo 0 = .ok (.aload_n 0, 1) := by decide +kernel
theorem dX5_undo_1 : decode cX5_undo 1 = .ok (.getfield 25, 3) := by decide +kernel
theorem dX5_undo_4 : decode cX5_undo 4 = .ok (.getfield 124, 3) := by decide +kernel
theorem dX5_undo_7 : decode cX5_undo 7 = .ok (.ifCond .ne 6, 3) := by decide +kernel
theorem dX5_undo_10 : decode cX5_undo 10 = .ok (.bipush (-5), 2) := by decide +kernel
theorem dX5_undo_12 : decode cX5_undo 12 = .ok (.ireturn, 1) := by decide +kernel
theorem dX5_undo_13 : decode cX5_undo 13 = .ok (.aload_n 0, 1) := by decide +kernel
theorem dX5_undo_14 : decode cX5_undo 14 = .ok (.getfield 25, 3) := by decide +kernel
theorem dX5_undo_17 : decode cX5_undo 17 = .ok (.aload_n 0, 1) := by decide +kernel
theorem dX5_undo_18 : decode cX5_undo 18 = .ok (.getfield 12, 3) := by decide +kernel
theorem dX5_undo_21 : decode cX5_undo 21 = .ok (.invokevirtual 127, 3) := by decide +kernel
theorem dX5_undo_24 : decode cX5_undo 24 = .ok (.aload_n 0, 1) := by decide +kernel
theorem dX5_undo_25 : decode cX5_undo 25 = .ok (.getfield 25, 3) := by decide +kernel
theorem dX5_undo_28 : decode cX5_undo 28 = .ok (.getfield 124, 3) := by decide +kernel
theorem dX5_undo_31 : decode cX5_undo 31 = .ok (.ireturn, 1) := by decide +kernel
set_option maxRecDepth 20000 in
theorem ggX5_keep_X3_copyFrom : GoodIn wsX5_keep wsX3_copyFrom := goodIn_r _ [8, 9, 10, 11, 12, 13, 14, 15, 16, 17, 18, 19, 20, 21, 22, 23, 24, 25, 26, 27, 28, 29, 30, 31, 32, 33, 34, 35, 36, 37, 38, 56, 57, 58, 59, 60, 61, 62, 63, 64, 65, 66, 67, 68, 69] (by decide +kernel) (by decide +kernel)
set_option maxRecDepth 20000 in
theorem gX5_keep_X3_copyFrom : GoodIn wsX5_keep (wsV RX5 97 RX3 yX3_copyFrom wsX3_copyFrom) := goodIn_app (goodIn_of _ (by decide +kernel)) ggX5_keep_X3_copyFrom
set_option maxRecDepth 20000 in
theorem ggX5_keep_X3_heldByAll : GoodIn wsX5_keep wsX3_heldByAll := goodIn_r _ [42, 14, 43, 44, 45, 22, 46, 24, 56, 57, 58, 59, 60, 61, 62, 63, 64, 65, 66] (by decide +kernel) (by decide +kernel)
set_option maxRecDepth 20000 in
theorem gX5_keep_X3_heldByAll : GoodIn wsX5_keep (wsV RX5 133 RX3 yX3_heldByAll wsX3_heldByAll) := goodIn_app (goodIn_of _ (by decide +kernel)) ggX5_keep_X3_heldByAll
theorem dX5_keep_0 : decode cX5_keep 0 = .ok (.aload_n 0, 1) := by decide +kernel
theorem dX5_keep_1 : decode cX5_keep 1 = .ok (.getfield 19, 3) := by decide +kernel
theorem dX5_keep_4 : decode cX5_keep 4 = .ok (.aload_n 0, 1) := by decide +kernel
theorem dX5_keep_5 : decode cX5_keep 5 = .ok (.getfield 12, 3) := by decide +kernel
theorem dX5_keep_8 : decode cX5_keep 8 = .ok (.invokevirtual 97, 3) := by decide +kernel
theorem dX5_keep_11 : decode cX5_keep 11 = .ok (.aload_n 0, 1) := by decide +kernel
theorem dX5_keep_12 : decode cX5_keep 12 = .ok (.iconst 1, 1) := by decide +kernel
theorem dX5_keep_13 : decode cX5_keep 13 = .ok (.putfield 130, 3) := by decide +kernel
theorem dX5_keep_16 : decode cX5_keep 16 = .ok (.aload_n 0, 1) := by decide +kernel
theorem dX5_keep_17 : decode cX5_keep 17 = .ok (.getfield 12, 3) := by decide +kernel
theorem dX5_keep_20 : decode cX5_keep 20 = .ok (.invokevirtual 133, 3) := by decide +kernel
theorem dX5_keep_23 : decode cX5_keep 23 = .ok (.ireturn, 1) := by decide +kernel
set_option maxRecDepth 20000 in
theorem ggX5_restore_X2_record : GoodIn wsX5_restore wsX2_record := goodIn_r _ [9, 10, 11, 12, 13, 14, 15, 16, 17, 18, 19, 20, 21, 22, 23, 24, 25, 26, 27, 28, 29, 30, 31, 32, 33, 34, 35, 36, 37, 38, 39, 40, 41, 42, 43, 44, 45, 46, 47, 66, 67, 68, 69, 70, 71, 72, 73, 74, 75, 76, 77, 78, 79, 80, 81, 82] (by decide +kernel) (by decide +kernel)
set_option maxRecDepth 20000 in
theorem gX5_restore_X2_record : GoodIn wsX5_restore (wsV RX5 43 RX2 yX2_record wsX2_record) := goodIn_app (goodIn_of _ (by decide +kernel)) ggX5_restore_X2_record
set_option maxRecDepth 20000 in
theorem ggX5_restore_X3_copyFrom : GoodIn wsX5_restore wsX3_copyFrom := goodIn_r _ [17, 18, 19, 20, 21, 22, 23, 24, 25, 26, 27, 28, 29, 30, 31, 32, 33, 34, 35, 36, 37, 38, 39, 40, 41, 42, 43, 44, 45, 46, 47, 69, 70, 71, 72, 73, 74, 75, 76, 77, 78, 79, 80, 81, 82] (by decide +kernel) (by decide +kernel)
set_option maxRecDepth 20000 in
theorem gX5_restore_X3_copyFrom : GoodIn wsX5_restore (wsV RX5 97 RX3 yX3_copyFrom wsX3_copyFrom) := goodIn_app (goodIn_of _ (by decide +kernel)) ggX5_restore_X3_copyFrom
set_option maxRecDepth 20000 in
theorem ggX5_restore_X3_heldByAll : GoodIn wsX5_restore wsX3_heldByAll := goodIn_r _ [52, 23, 53, 54, 55, 31, 56, 33, 69, 70, 71, 72, 73, 74, 75, 76, 77, 78, 79] (by decide +kernel) (by decide +kernel)
set_option maxRecDepth 20000 in
theorem gX5_restore_X3_heldByAll : GoodIn wsX5_restore (wsV RX5 133 RX3 yX3_heldByAll wsX3_heldByAll) := goodIn_app (goodIn_of _ (by decide +kernel)) ggX5_restore_X3_heldByAll
theorem dX5_restore_0 : decode cX5_restore 0 = .ok (.aload_n 0, 1) := by decide +kernel
theorem dX5_restore_1 : decode cX5_restore 1 = .ok (.getfield 130, 3) := by decide +kernel
theorem dX5_restore_4 : decode cX5_restore 4 = .ok (.ifCond .ne 6, 3) := by decide +kernel
theorem dX5_restore_7 : decode cX5_restore 7 = .ok (.bipush (-5), 2) := by decide +kernel
theorem dX5_restore_9 : decode cX5_restore 9 = .ok (.ireturn, 1) := by decide +kernel
theorem dX5_restore_10 : decode cX5_restore 10 = .ok (.aload_n 0, 1) := by decide +kernel
theorem dX5_restore_11 : decode cX5_restore 11 = .ok (.getfield 25, 3) := by decide +kernel
theorem dX5_restore_14 : decode cX5_restore 14 = .ok (.aload_n 0, 1) := by decide +kernel
theorem dX5_restore_15 : decode cX5_restore 15 = .ok (.getfield 12, 3) := by decide +kernel
theorem dX5_restore_18 : decode cX5_restore 18 = .ok (.invokevirtual 43, 3) := by decide +kernel
theorem dX5_restore_21 : decode cX5_restore 21 = .ok (.aload_n 0, 1) := by decide +kernel
theorem dX5_restore_22 : decode cX5_restore 22 = .ok (.getfield 12, 3) := by decide +kernel
theorem dX5_restore_25 : decode cX5_restore 25 = .ok (.aload_n 0, 1) := by decide +kernel
theorem dX5_restore_26 : decode cX5_restore 26 = .ok (.getfield 19, 3) := by decide +kernel
theorem dX5_restore_29 : decode cX5_restore 29 = .ok (.invokevirtual 97, 3) := by decide +kernel
theorem dX5_restore_32 : decode cX5_restore 32 = .ok (.aload_n 0, 1) := by decide +kernel
theorem dX5_restore_33 : decode cX5_restore 33 = .ok (.getfield 12, 3) := by decide +kernel
theorem dX5_restore_36 : decode cX5_restore 36 = .ok (.invokevirtual 133, 3) := by decide +kernel
theorem dX5_restore_39 : decode cX5_restore 39 = .ok (.ireturn, 1) := by decide +kernel
set_option maxRecDepth 20000 in
theorem ggX5_core_X5_isCore : GoodIn wsX5_core wsX5_isCore := goodIn_r _ [8, 9, 10, 7, 11] (by decide +kernel) (by decide +kernel)
set_option maxRecDepth 20000 in
theorem gX5_core_X5_isCore : GoodIn wsX5_core (va_wsS RX5 36 yX5_isCore wsX5_isCore) := goodIn_app (goodIn_of _ (by decide +kernel)) ggX5_core_X5_isCore
set_option maxRecDepth 20000 in
theorem ggX5_core_X5_isWithin : GoodIn wsX5_core wsX5_isWithin := goodIn_r _ [11] (by decide +kernel) (by decide +kernel)
set_option maxRecDepth 20000 in
theorem gX5_core_X5_isWithin : GoodIn wsX5_core (va_wsS RX5 51 yX5_isWithin wsX5_isWithin) := goodIn_app (goodIn_of _ (by decide +kernel)) ggX5_core_X5_isWithin
set_option maxRecDepth 20000 in
theorem ggX5_core_X0_heldLines : GoodIn wsX5_core wsX0_heldLines := goodIn_r _ [16, 17, 56, 57, 58, 59, 60] (by decide +kernel) (by decide +kernel)
set_option maxRecDepth 20000 in
theorem gX5_core_X0_heldLines : GoodIn wsX5_core (wsV RX5 136 RX0 yX0_heldLines wsX0_heldLines) := goodIn_app (goodIn_of _ (by decide +kernel)) ggX5_core_X0_heldLines
set_option maxRecDepth 20000 in
theorem ggX5_core_X0_dirtyLines : GoodIn wsX5_core wsX0_dirtyLines := goodIn_r _ [21, 22, 23, 7, 24, 56, 57, 58, 59, 60] (by decide +kernel) (by decide +kernel)
set_option maxRecDepth 20000 in
theorem gX5_core_X0_dirtyLines : GoodIn wsX5_core (wsV RX5 139 RX0 yX0_dirtyLines wsX0_dirtyLines) := goodIn_app (goodIn_of _ (by decide +kernel)) ggX5_core_X0_dirtyLines
set_option maxRecDepth 20000 in
theorem ggX5_core_X1_countersAboveZero : GoodIn wsX5_core wsX1_countersAboveZero := goodIn_r _ [29, 30, 61, 62, 63] (by decide +kernel) (by decide +kernel)
set_option maxRecDepth 20000 in
theorem gX5_core_X1_countersAboveZero : GoodIn wsX5_core (wsV RX5 146 RX1 yX1_countersAboveZero wsX1_countersAboveZero) := goodIn_app (goodIn_of _ (by decide +kernel)) ggX5_core_X1_countersAboveZero
set_option maxRecDepth 20000 in
theorem ggX5_core_X1_stuckCounters : GoodIn wsX5_core wsX1_stuckCounters := goodIn_r _ [34, 35, 23, 7, 24, 61, 62, 63] (by decide +kernel) (by decide +kernel)
set_option maxRecDepth 20000 in
theorem gX5_core_X1_stuckCounters : GoodIn wsX5_core (wsV RX5 151 RX1 yX1_stuckCounters wsX1_stuckCounters) := goodIn_app (goodIn_of _ (by decide +kernel)) ggX5_core_X1_stuckCounters
set_option maxRecDepth 20000 in
theorem ggX5_core_X1_bitsThatAreOne : GoodIn wsX5_core wsX1_bitsThatAreOne := goodIn_r _ [39, 40, 23, 7, 24, 61, 62, 63] (by decide +kernel) (by decide +kernel)
set_option maxRecDepth 20000 in
theorem gX5_core_X1_bitsThatAreOne : GoodIn wsX5_core (wsV RX5 154 RX1 yX1_bitsThatAreOne wsX1_bitsThatAreOne) := goodIn_app (goodIn_of _ (by decide +kernel)) ggX5_core_X1_bitsThatAreOne
theorem dX5_core_0 : decode cX5_core 0 = .ok (.iload_n 1, 1) := by decide +kernel
theorem dX5_core_1 : decode cX5_core 1 = .ok (.invokestatic 36, 3) := by decide +kernel
theorem dX5_core_4 : decode cX5_core 4 = .ok (.ifCond .ne 5, 3) := by decide +kernel
theorem dX5_core_7 : decode cX5_core 7 = .ok (.iconst (-1), 1) := by decide +kernel
theorem dX5_core_8 : decode cX5_core 8 = .ok (.ireturn, 1) := by decide +kernel
theorem dX5_core_9 : decode cX5_core 9 = .ok (.iload_n 2, 1) := by decide +kernel
theorem dX5_core_10 : decode cX5_core 10 = .ok (.iconst 0, 1) := by decide +kernel
theorem dX5_core_11 : decode cX5_core 11 = .ok (.bipush 10, 2) := by decide +kernel
theorem dX5_core_13 : decode cX5_core 13 = .ok (.invokestatic 51, 3) := by decide +kernel
theorem dX5_core_16 : decode cX5_core 16 = .ok (.ifCond .ne 6, 3) := by decide +kernel
theorem dX5_core_19 : decode cX5_core 19 = .ok (.bipush (-2), 2) := by decide +kernel
theorem dX5_core_21 : decode cX5_core 21 = .ok (.ireturn, 1) := by decide +kernel
theorem dX5_core_22 : decode cX5_core 22 = .ok (.aload_n 0, 1) := by decide +kernel
theorem dX5_core_23 : decode cX5_core 23 = .ok (.getfield 12, 3) := by decide +kernel
theorem dX5_core_26 : decode cX5_core 26 = .ok (.getfield 59, 3) := by decide +kernel
theorem dX5_core_29 : decode cX5_core 29 = .ok (.iload_n 1, 1) := by decide +kernel
theorem dX5_core_30 : decode cX5_core 30 = .ok (.aaload, 1) := by decide +kernel
theorem dX5_core_31 : decode cX5_core 31 = .ok (.astore_n 3, 1) := by decide +kernel
theorem dX5_core_32 : decode cX5_core 32 = .ok (.iload_n 2, 1) := by decide +kernel
theorem dX5_core_33 : decode cX5_core 33 = .ok (.tableswitch 69 0 4 #[35, 40, 45, 53, 61], 35) := by decide +kernel
theorem dX5_core_68 : decode cX5_core 68 = .ok (.aload_n 3, 1) := by decide +kernel
theorem dX5_core_69 : decode cX5_core 69 = .ok (.invokevirtual 136, 3) := by decide +kernel
theorem dX5_core_72 : decode cX5_core 72 = .ok (.ireturn, 1) := by decide +kernel
theorem dX5_core_73 : decode cX5_core 73 = .ok (.aload_n 3, 1) := by decide +kernel
theorem dX5_core_74 : decode cX5_core 74 = .ok (.invokevirtual 139, 3) := by decide +kernel
theorem dX5_core_77 : decode cX5_core 77 = .ok (.ireturn, 1) := by decide +kernel
theorem dX5_core_78 : decode cX5_core 78 = .ok (.aload_n 3, 1) := by decide +kernel
theorem dX5_core_79 : decode cX5_core 79 = .ok (.getfield 142, 3) := by decide +kernel
theorem dX5_core_82 : decode cX5_core 82 = .ok (.invokevirtual 146, 3) := by decide +kernel
theorem dX5_core_85 : decode cX5_core 85 = .ok (.ireturn, 1) := by decide +kernel
theorem dX5_core_86 : decode cX5_core 86 = .ok (.aload_n 3, 1) := by decide +kernel
theorem dX5_core_87 : decode cX5_core 87 = .ok (.getfield 142, 3) := by decide +kernel
theorem dX5_core_90 : decode cX5_core 90 = .ok (.invokevirtual 151, 3) := by decide +kernel
theorem dX5_core_93 : decode cX5_core 93 = .ok (.ireturn, 1) := by decide +kernel
theorem dX5_core_94 : decode cX5_core 94 = .ok (.aload_n 3, 1) := by decide +kernel
theorem dX5_core_95 : decode cX5_core 95 = .ok (.getfield 142, 3) := by decide +kernel
theorem dX5_core_98 : decode cX5_core 98 = .ok (.invokevirtual 154, 3) := by decide +kernel
theorem dX5_core_101 : decode cX5_core 101 = .ok (.ireturn, 1) := by decide +kernel
theorem dX5_core_102 : decode cX5_core 102 = .ok (.aload_n 3, 1) := by decide +kernel
theorem dX5_core_103 : decode cX5_core 103 = .ok (.getfield 157, 3) := by decide +kernel
theorem dX5_core_106 : decode cX5_core 106 = .ok (.iload_n 2, 1) := by decide +kernel
theorem dX5_core_107 : decode cX5_core 107 = .ok (.iconst 5, 1) := by decide +kernel
theorem dX5_core_108 : decode cX5_core 108 = .ok (.isub, 1) := by decide +kernel
theorem dX5_core_109 : decode cX5_core 109 = .ok (.iaload, 1) := by decide +kernel
theorem dX5_core_110 : decode cX5_core 110 = .ok (.ireturn, 1) := by decide +kernel
set_option maxRecDepth 20000 in
theorem ggX5_held_X5_isCore : GoodIn wsX5_held wsX5_isCore := goodIn_r _ [9, 10, 11, 8, 12] (by decide +kernel) (by decide +kernel)
set_option maxRecDepth 20000 in
theorem gX5_held_X5_isCore : GoodIn wsX5_held (va_wsS RX5 36 yX5_isCore wsX5_isCore) := goodIn_app (goodIn_of _ (by decide +kernel)) ggX5_held_X5_isCore
set_option maxRecDepth 20000 in
theorem ggX5_held_X5_isWithin : GoodIn wsX5_held wsX5_isWithin := goodIn_r _ [12] (by decide +kernel) (by decide +kernel)
set_option maxRecDepth 20000 in
theorem gX5_held_X5_isWithin : GoodIn wsX5_held (va_wsS RX5 51 yX5_isWithin wsX5_isWithin) := goodIn_app (goodIn_of _ (by decide +kernel)) ggX5_held_X5_isWithin
theorem dX5_held_0 : decode cX5_held 0 = .ok (.iload_n 1, 1) := by decide +kernel
theorem dX5_held_1 : decode cX5_held 1 = .ok (.invokestatic 36, 3) := by decide +kernel
theorem dX5_held_4 : decode cX5_held 4 = .ok (.ifCond .ne 5, 3) := by decide +kernel
theorem dX5_held_7 : decode cX5_held 7 = .ok (.iconst (-1), 1) := by decide +kernel
theorem dX5_held_8 : decode cX5_held 8 = .ok (.ireturn, 1) := by decide +kernel
theorem dX5_held_9 : decode cX5_held 9 = .ok (.iload_n 2, 1) := by decide +kernel
theorem dX5_held_10 : decode cX5_held 10 = .ok (.iconst 0, 1) := by decide +kernel
theorem dX5_held_11 : decode cX5_held 11 = .ok (.bipush 7, 2) := by decide +kernel
theorem dX5_held_13 : decode cX5_held 13 = .ok (.invokestatic 51, 3) := by decide +kernel
theorem dX5_held_16 : decode cX5_held 16 = .ok (.ifCond .eq 12, 3) := by decide +kernel
theorem dX5_held_19 : decode cX5_held 19 = .ok (.iload_n 3, 1) := by decide +kernel
theorem dX5_held_20 : decode cX5_held 20 = .ok (.iconst 0, 1) := by decide +kernel
theorem dX5_held_21 : decode cX5_held 21 = .ok (.iconst 2, 1) := by decide +kernel
theorem dX5_held_22 : decode cX5_held 22 = .ok (.invokestatic 51, 3) := by decide +kernel
theorem dX5_held_25 : decode cX5_held 25 = .ok (.ifCond .ne 6, 3) := by decide +kernel
theorem dX5_held_28 : decode cX5_held 28 = .ok (.bipush (-2), 2) := by decide +kernel
theorem dX5_held_30 : decode cX5_held 30 = .ok (.ireturn, 1) := by decide +kernel
theorem dX5_held_31 : decode cX5_held 31 = .ok (.aload_n 0, 1) := by decide +kernel
theorem dX5_held_32 : decode cX5_held 32 = .ok (.getfield 12, 3) := by decide +kernel
theorem dX5_held_35 : decode cX5_held 35 = .ok (.getfield 59, 3) := by decide +kernel
theorem dX5_held_38 : decode cX5_held 38 = .ok (.iload_n 1, 1) := by decide +kernel
theorem dX5_held_39 : decode cX5_held 39 = .ok (.aaload, 1) := by decide +kernel
theorem dX5_held_40 : decode cX5_held 40 = .ok (.astore 4, 2) := by decide +kernel
theorem dX5_held_42 : decode cX5_held 42 = .ok (.aload 4, 2) := by decide +kernel
theorem dX5_held_44 : decode cX5_held 44 = .ok (.getfield 161, 3) := by decide +kernel
theorem dX5_held_47 : decode cX5_held 47 = .ok (.iload_n 2, 1) := by decide +kernel
theorem dX5_held_48 : decode cX5_held 48 = .ok (.iaload, 1) := by decide +kernel
theorem dX5_held_49 : decode cX5_held 49 = .ok (.iconst (-1), 1) := by decide +kernel
theorem dX5_held_50 : decode cX5_held 50 = .ok (.if_icmp .ne 6, 3) := by decide +kernel
theorem dX5_held_53 : decode cX5_held 53 = .ok (.bipush (-5), 2) := by decide +kernel
theorem dX5_held_55 : decode cX5_held 55 = .ok (.ireturn, 1) := by decide +kernel
theorem dX5_held_56 : decode cX5_held 56 = .ok (.iload_n 3, 1) := by decide +kernel
theorem dX5_held_57 : decode cX5_held 57 = .ok (.lookupswitch 43 #[(0, 27), (1, 35)], 27) := by decide +kernel
theorem dX5_held_84 : decode cX5_held 84 = .ok (.aload 4, 2) := by decide +kernel
theorem dX5_held_86 : decode cX5_held 86 = .ok (.getfield 161, 3) := by decide +kernel
theorem dX5_held_89 : decode cX5_held 89 = .ok (.iload_n 2, 1) := by decide +kernel
theorem dX5_held_90 : decode cX5_held 90 = .ok (.iaload, 1) := by decide +kernel
theorem dX5_held_91 : decode cX5_held 91 = .ok (.ireturn, 1) := by decide +kernel
theorem dX5_held_92 : decode cX5_held 92 = .ok (.aload 4, 2) := by decide +kernel
theorem dX5_held_94 : decode cX5_held 94 = .ok (.getfield 164, 3) := by decide +kernel
theorem dX5_held_97 : decode cX5_held 97 = .ok (.iload_n 2, 1) := by decide +kernel
theorem dX5_held_98 : decode cX5_held 98 = .ok (.iaload, 1) := by decide +kernel
theorem dX5_held_99 : decode cX5_held 99 = .ok (.ireturn, 1) := by decide +kernel
theorem dX5_held_100 : decode cX5_held 100 = .ok (.aload 4, 2) := by decide +kernel
theorem dX5_held_102 : decode cX5_held 102 = .ok (.getfield 167, 3) := by decide +kernel
theorem dX5_held_105 : decode cX5_held 105 = .ok (.iload_n 2, 1) := by decide +kernel
theorem dX5_held_106 : decode cX5_held 106 = .ok (.baload, 1) := by decide +kernel
theorem dX5_held_107 : decode cX5_held 107 = .ok (.ifCond .eq 7, 3) := by decide +kernel
theorem dX5_held_110 : decode cX5_held 110 = .ok (.iconst 1, 1) := by decide +kernel
theorem dX5_held_111 : decode cX5_held 111 = .ok (.goto 4, 3) := by decide +kernel
theorem dX5_held_114 : decode cX5_held 114 = .ok (.iconst 0, 1) := by decide +kernel
theorem dX5_held_115 : decode cX5_held 115 = .ok (.ireturn, 1) := by decide +kernel
set_option maxRecDepth 20000 in
theorem ggX5_counter_X5_isCore : GoodIn wsX5_counter wsX5_isCore := goodIn_r _ [8, 9, 10, 7, 11] (by decide +kernel) (by decide +kernel)
set_option maxRecDepth 20000 in
theorem gX5_counter_X5_isCore : GoodIn wsX5_counter (va_wsS RX5 36 yX5_isCore wsX5_isCore) := goodIn_app (goodIn_of _ (by decide +kernel)) ggX5_counter_X5_isCore
set_option maxRecDepth 20000 in
theorem ggX5_counter_X5_isWithin : GoodIn wsX5_counter wsX5_isWithin := goodIn_r _ [11] (by decide +kernel) (by decide +kernel)
set_option maxRecDepth 20000 in
theorem gX5_counter_X5_isWithin : GoodIn wsX5_counter (va_wsS RX5 51 yX5_isWithin wsX5_isWithin) := goodIn_app (goodIn_of _ (by decide +kernel)) ggX5_counter_X5_isWithin
theorem dX5_counter_0 : decode cX5_counter 0 = .ok (.iload_n 1, 1) := by decide +kernel
theorem dX5_counter_1 : decode cX5_counter 1 = .ok (.invokestatic 36, 3) := by decide +kernel
theorem dX5_counter_4 : decode cX5_counter 4 = .ok (.ifCond .eq 13, 3) := by decide +kernel
theorem dX5_counter_7 : decode cX5_counter 7 = .ok (.iload_n 2, 1) := by decide +kernel
theorem dX5_counter_8 : decode cX5_counter 8 = .ok (.iconst 0, 1) := by decide +kernel
theorem dX5_counter_9 : decode cX5_counter 9 = .ok (.bipush 23, 2) := by decide +kernel
theorem dX5_counter_11 : decode cX5_counter 11 = .ok (.invokestatic 51, 3) := by decide +kernel
theorem dX5_counter_14 : decode cX5_counter 14 = .ok (.ifCond .ne 5, 3) := by decide +kernel
theorem dX5_counter_17 : decode cX5_counter 17 = .ok (.iconst (-1), 1) := by decide +kernel
theorem dX5_counter_18 : decode cX5_counter 18 = .ok (.ireturn, 1) := by decide +kernel
theorem dX5_counter_19 : decode cX5_counter 19 = .ok (.aload_n 0, 1) := by decide +kernel
theorem dX5_counter_20 : decode cX5_counter 20 = .ok (.getfield 12, 3) := by decide +kernel
theorem dX5_counter_23 : decode cX5_counter 23 = .ok (.getfield 59, 3) := by decide +kernel
theorem dX5_counter_26 : decode cX5_counter 26 = .ok (.iload_n 1, 1) := by decide +kernel
theorem dX5_counter_27 : decode cX5_counter 27 = .ok (.aaload, 1) := by decide +kernel
theorem dX5_counter_28 : decode cX5_counter 28 = .ok (.getfield 142, 3) := by decide +kernel
theorem dX5_counter_31 : decode cX5_counter 31 = .ok (.getfield 171, 3) := by decide +kernel
theorem dX5_counter_34 : decode cX5_counter 34 = .ok (.iload_n 2, 1) := by decide +kernel
theorem dX5_counter_35 : decode cX5_counter 35 = .ok (.iaload, 1) := by decide +kernel
theorem dX5_counter_36 : decode cX5_counter 36 = .ok (.ireturn, 1) := by decide +kernel
set_option maxRecDepth 20000 in
theorem ggX5_bit_X5_isCore : GoodIn wsX5_bit wsX5_isCore := goodIn_r _ [8, 9, 10, 7, 11] (by decide +kernel) (by decide +kernel)
set_option maxRecDepth 20000 in
theorem gX5_bit_X5_isCore : GoodIn wsX5_bit (va_wsS RX5 36 yX5_isCore wsX5_isCore) := goodIn_app (goodIn_of _ (by decide +kernel)) ggX5_bit_X5_isCore
set_option maxRecDepth 20000 in
theorem ggX5_bit_X5_isWithin : GoodIn wsX5_bit wsX5_isWithin := goodIn_r _ [11] (by decide +kernel) (by decide +kernel)
set_option maxRecDepth 20000 in
theorem gX5_bit_X5_isWithin : GoodIn wsX5_bit (va_wsS RX5 51 yX5_isWithin wsX5_isWithin) := goodIn_app (goodIn_of _ (by decide +kernel)) ggX5_bit_X5_isWithin
theorem dX5_bit_0 : decode cX5_bit 0 = .ok (.iload_n 1, 1) := by decide +kernel
theorem dX5_bit_1 : decode cX5_bit 1 = .ok (.invokestatic 36, 3) := by decide +kernel
theorem dX5_bit_4 : decode cX5_bit 4 = .ok (.ifCond .eq 13, 3) := by decide +kernel
theorem dX5_bit_7 : decode cX5_bit 7 = .ok (.iload_n 2, 1) := by decide +kernel
theorem dX5_bit_8 : decode cX5_bit 8 = .ok (.iconst 0, 1) := by decide +kernel
theorem dX5_bit_9 : decode cX5_bit 9 = .ok (.bipush 15, 2) := by decide +kernel
theorem dX5_bit_11 : decode cX5_bit 11 = .ok (.invokestatic 51, 3) := by decide +kernel
theorem dX5_bit_14 : decode cX5_bit 14 = .ok (.ifCond .ne 5, 3) := by decide +kernel
theorem dX5_bit_17 : decode cX5_bit 17 = .ok (.iconst (-1), 1) := by decide +kernel
theorem dX5_bit_18 : decode cX5_bit 18 = .ok (.ireturn, 1) := by decide +kernel
theorem dX5_bit_19 : decode cX5_bit 19 = .ok (.aload_n 0, 1) := by decide +kernel
theorem dX5_bit_20 : decode cX5_bit 20 = .ok (.getfield 12, 3) := by decide +kernel
theorem dX5_bit_23 : decode cX5_bit 23 = .ok (.getfield 59, 3) := by decide +kernel
theorem dX5_bit_26 : decode cX5_bit 26 = .ok (.iload_n 1, 1) := by decide +kernel
theorem dX5_bit_27 : decode cX5_bit 27 = .ok (.aaload, 1) := by decide +kernel
theorem dX5_bit_28 : decode cX5_bit 28 = .ok (.getfield 142, 3) := by decide +kernel
theorem dX5_bit_31 : decode cX5_bit 31 = .ok (.getfield 174, 3) := by decide +kernel
theorem dX5_bit_34 : decode cX5_bit 34 = .ok (.iload_n 2, 1) := by decide +kernel
theorem dX5_bit_35 : decode cX5_bit 35 = .ok (.baload, 1) := by decide +kernel
theorem dX5_bit_36 : decode cX5_bit 36 = .ok (.ifCond .eq 7, 3) := by decide +kernel
theorem dX5_bit_39 : decode cX5_bit 39 = .ok (.iconst 1, 1) := by decide +kernel
theorem dX5_bit_40 : decode cX5_bit 40 = .ok (.goto 4, 3) := by decide +kernel
theorem dX5_bit_43 : decode cX5_bit 43 = .ok (.iconst 0, 1) := by decide +kernel
theorem dX5_bit_44 : decode cX5_bit 44 = .ok (.ireturn, 1) := by decide +kernel
set_option maxRecDepth 20000 in
theorem ggX5_line_X5_isLine : GoodIn wsX5_line wsX5_isLine := goodIn_r _ [6, 7, 8, 5, 9] (by decide +kernel) (by decide +kernel)
set_option maxRecDepth 20000 in
theorem gX5_line_X5_isLine : GoodIn wsX5_line (va_wsS RX5 40 yX5_isLine wsX5_isLine) := goodIn_app (goodIn_of _ (by decide +kernel)) ggX5_line_X5_isLine
set_option maxRecDepth 20000 in
theorem ggX5_line_X3_valueForReader : GoodIn wsX5_line wsX3_valueForReader := goodIn_r _ [14, 15, 16, 17, 18, 19, 20, 21, 22, 23, 24, 25, 26, 27, 65, 66, 67, 68, 69, 70, 71, 72, 73, 74, 75] (by decide +kernel) (by decide +kernel)
set_option maxRecDepth 20000 in
theorem gX5_line_X3_valueForReader : GoodIn wsX5_line (wsV RX5 180 RX3 yX3_valueForReader wsX3_valueForReader) := goodIn_app (goodIn_of _ (by decide +kernel)) ggX5_line_X3_valueForReader
set_option maxRecDepth 20000 in
theorem ggX5_line_X3_holdersOf : GoodIn wsX5_line wsX3_holdersOf := goodIn_r _ [31, 15, 18, 19, 20, 21, 22, 23, 24, 25, 26, 65, 66, 67, 68, 69, 70, 71, 72, 73, 74, 75] (by decide +kernel) (by decide +kernel)
set_option maxRecDepth 20000 in
theorem gX5_line_X3_holdersOf : GoodIn wsX5_line (wsV RX5 183 RX3 yX3_holdersOf wsX3_holdersOf) := goodIn_app (goodIn_of _ (by decide +kernel)) ggX5_line_X3_holdersOf
set_option maxRecDepth 20000 in
theorem ggX5_line_X3_coresThatMayHave : GoodIn wsX5_line wsX3_coresThatMayHave := goodIn_r _ [35, 15, 36, 37, 38, 39, 40, 41, 42, 43, 44, 45, 46, 47, 48, 49, 50, 51, 52, 53, 65, 66, 67, 68, 69, 70, 71, 72, 73, 74, 75, 76, 77, 78] (by decide +kernel) (by decide +kernel)
set_option maxRecDepth 20000 in
theorem gX5_line_X3_coresThatMayHave : GoodIn wsX5_line (wsV RX5 186 RX3 yX3_coresThatMayHave wsX3_coresThatMayHave) := goodIn_app (goodIn_of _ (by decide +kernel)) ggX5_line_X3_coresThatMayHave
set_option maxRecDepth 20000 in
theorem ggX5_line_X1_firstCounter : GoodIn wsX5_line wsX1_firstCounter := goodIn_r _ [50] (by decide +kernel) (by decide +kernel)
set_option maxRecDepth 20000 in
theorem gX5_line_X1_firstCounter : GoodIn wsX5_line (va_wsS RX5 189 yX1_firstCounter wsX1_firstCounter) := goodIn_app (goodIn_of _ (by decide +kernel)) ggX5_line_X1_firstCounter
set_option maxRecDepth 20000 in
theorem ggX5_line_X1_secondCounter : GoodIn wsX5_line wsX1_secondCounter := goodIn_r _ [53] (by decide +kernel) (by decide +kernel)
set_option maxRecDepth 20000 in
theorem gX5_line_X1_secondCounter : GoodIn wsX5_line (va_wsS RX5 192 yX1_secondCounter wsX1_secondCounter) := goodIn_app (goodIn_of _ (by decide +kernel)) ggX5_line_X1_secondCounter
theorem dX5_line_0 : decode cX5_line 0 = .ok (.iload_n 1, 1) := by decide +kernel
theorem dX5_line_1 : decode cX5_line 1 = .ok (.invokestatic 40, 3) := by decide +kernel
theorem dX5_line_4 : decode cX5_line 4 = .ok (.ifCond .ne 5, 3) := by decide +kernel
theorem dX5_line_7 : decode cX5_line 7 = .ok (.iconst (-1), 1) := by decide +kernel
theorem dX5_line_8 : decode cX5_line 8 = .ok (.ireturn, 1) := by decide +kernel
theorem dX5_line_9 : decode cX5_line 9 = .ok (.iload_n 2, 1) := by decide +kernel
theorem dX5_line_10 : decode cX5_line 10 = .ok (.tableswitch 85 0 5 #[38, 48, 57, 66, 75, 80], 38) := by decide +kernel
theorem dX5_line_48 : decode cX5_line 48 = .ok (.aload_n 0, 1) := by decide +kernel
theorem dX5_line_49 : decode cX5_line 49 = .ok (.getfield 12, 3) := by decide +kernel
theorem dX5_line_52 : decode cX5_line 52 = .ok (.getfield 177, 3) := by decide +kernel
theorem dX5_line_55 : decode cX5_line 55 = .ok (.iload_n 1, 1) := by decide +kernel
theorem dX5_line_56 : decode cX5_line 56 = .ok (.iaload, 1) := by decide +kernel
theorem dX5_line_57 : decode cX5_line 57 = .ok (.ireturn, 1) := by decide +kernel
theorem dX5_line_58 : decode cX5_line 58 = .ok (.aload_n 0, 1) := by decide +kernel
theorem dX5_line_59 : decode cX5_line 59 = .ok (.getfield 12, 3) := by decide +kernel
theorem dX5_line_62 : decode cX5_line 62 = .ok (.iload_n 1, 1) := by decide +kernel
theorem dX5_line_63 : decode cX5_line 63 = .ok (.invokevirtual 180, 3) := by decide +kernel
theorem dX5_line_66 : decode cX5_line 66 = .ok (.ireturn, 1) := by decide +kernel
theorem dX5_line_67 : decode cX5_line 67 = .ok (.aload_n 0, 1) := by decide +kernel
theorem dX5_line_68 : decode cX5_line 68 = .ok (.getfield 12, 3) := by decide +kernel
theorem dX5_line_71 : decode cX5_line 71 = .ok (.iload_n 1, 1) := by decide +kernel
theorem dX5_line_72 : decode cX5_line 72 = .ok (.invokevirtual 183, 3) := by decide +kernel
theorem dX5_line_75 : decode cX5_line 75 = .ok (.ireturn, 1) := by decide +kernel
theorem dX5_line_76 : decode cX5_line 76 = .ok (.aload_n 0, 1) := by decide +kernel
theorem dX5_line_77 : decode cX5_line 77 = .ok (.getfield 12, 3) := by decide +kernel
theorem dX5_line_80 : decode cX5_line 80 = .ok (.iload_n 1, 1) := by decide +kernel
theorem dX5_line_81 : decode cX5_line 81 = .ok (.invokevirtual 186, 3) := by decide +kernel
theorem dX5_line_84 : decode cX5_line 84 = .ok (.ireturn, 1) := by decide +kernel
theorem dX5_line_85 : decode cX5_line 85 = .ok (.iload_n 1, 1) := by decide +kernel
theorem dX5_line_86 : decode cX5_line 86 = .ok (.invokestatic 189, 3) := by decide +kernel
theorem dX5_line_89 : decode cX5_line 89 = .ok (.ireturn, 1) := by decide +kernel
theorem dX5_line_90 : decode cX5_line 90 = .ok (.iload_n 1, 1) := by decide +kernel
theorem dX5_line_91 : decode cX5_line 91 = .ok (.invokestatic 192, 3) := by decide +kernel
theorem dX5_line_94 : decode cX5_line 94 = .ok (.ireturn, 1) := by decide +kernel
theorem dX5_line_95 : decode cX5_line 95 = .ok (.bipush (-2), 2) := by decide +kernel
theorem dX5_line_97 : decode cX5_line 97 = .ok (.ireturn, 1) := by decide +kernel
set_option maxRecDepth 20000 in
theorem ggX5_reason_X5_isCore : GoodIn wsX5_reason wsX5_isCore := goodIn_r _ [7, 8, 9, 6, 10] (by decide +kernel) (by decide +kernel)
set_option maxRecDepth 20000 in
theorem gX5_reason_X5_isCore : GoodIn wsX5_reason (va_wsS RX5 36 yX5_isCore wsX5_isCore) := goodIn_app (goodIn_of _ (by decide +kernel)) ggX5_reason_X5_isCore
set_option maxRecDepth 20000 in
theorem ggX5_reason_X5_isLine : GoodIn wsX5_reason wsX5_isLine := goodIn_r _ [13, 8, 9, 6, 10] (by decide +kernel) (by decide +kernel)
set_option maxRecDepth 20000 in
theorem gX5_reason_X5_isLine : GoodIn wsX5_reason (va_wsS RX5 40 yX5_isLine wsX5_isLine) := goodIn_app (goodIn_of _ (by decide +kernel)) ggX5_reason_X5_isLine
set_option maxRecDepth 20000 in
theorem ggX5_reason_X0_holds : GoodIn wsX5_reason wsX0_holds := goodIn_r _ [18, 19, 20, 21, 17, 22, 56, 57, 58, 59, 60] (by decide +kernel) (by decide +kernel)
set_option maxRecDepth 20000 in
theorem gX5_reason_X0_holds : GoodIn wsX5_reason (wsV RX5 63 RX0 yX0_holds wsX0_holds) := goodIn_app (goodIn_of _ (by decide +kernel)) ggX5_reason_X0_holds
set_option maxRecDepth 20000 in
theorem ggX5_reason_X1_mayHave : GoodIn wsX5_reason wsX1_mayHave := goodIn_r _ [27, 28, 29, 30, 31, 26, 32, 33, 34, 35, 36, 37, 38, 39, 61, 62, 63] (by decide +kernel) (by decide +kernel)
set_option maxRecDepth 20000 in
theorem gX5_reason_X1_mayHave : GoodIn wsX5_reason (wsV RX5 195 RX1 yX1_mayHave wsX1_mayHave) := goodIn_app (goodIn_of _ (by decide +kernel)) ggX5_reason_X1_mayHave
set_option maxRecDepth 20000 in
theorem ggX5_reason_X1_hasBitOf : GoodIn wsX5_reason wsX1_hasBitOf := goodIn_r _ [32, 33, 61, 62, 63] (by decide +kernel) (by decide +kernel)
set_option maxRecDepth 20000 in
theorem gX5_reason_X1_hasBitOf : GoodIn wsX5_reason (wsV RX5 198 RX1 yX1_hasBitOf wsX1_hasBitOf) := goodIn_app (goodIn_of _ (by decide +kernel)) ggX5_reason_X1_hasBitOf
theorem dX5_reason_0 : decode cX5_reason 0 = .ok (.iload_n 1, 1) := by decide +kernel
theorem dX5_reason_1 : decode cX5_reason 1 = .ok (.invokestatic 36, 3) := by decide +kernel
theorem dX5_reason_4 : decode cX5_reason 4 = .ok (.ifCond .eq 10, 3) := by decide +kernel
theorem dX5_reason_7 : decode cX5_reason 7 = .ok (.iload_n 2, 1) := by decide +kernel
theorem dX5_reason_8 : decode cX5_reason 8 = .ok (.invokestatic 40, 3) := by decide +kernel
theorem dX5_reason_11 : decode cX5_reason 11 = .ok (.ifCond .ne 5, 3) := by decide +kernel
theorem dX5_reason_14 : decode cX5_reason 14 = .ok (.iconst (-1), 1) := by decide +kernel
theorem dX5_reason_15 : decode cX5_reason 15 = .ok (.ireturn, 1) := by decide +kernel
theorem dX5_reason_16 : decode cX5_reason 16 = .ok (.aload_n 0, 1) := by decide +kernel
theorem dX5_reason_17 : decode cX5_reason 17 = .ok (.getfield 12, 3) := by decide +kernel
theorem dX5_reason_20 : decode cX5_reason 20 = .ok (.getfield 59, 3) := by decide +kernel
theorem dX5_reason_23 : decode cX5_reason 23 = .ok (.iload_n 1, 1) := by decide +kernel
theorem dX5_reason_24 : decode cX5_reason 24 = .ok (.aaload, 1) := by decide +kernel
theorem dX5_reason_25 : decode cX5_reason 25 = .ok (.astore_n 3, 1) := by decide +kernel
theorem dX5_reason_26 : decode cX5_reason 26 = .ok (.aload_n 3, 1) := by decide +kernel
theorem dX5_reason_27 : decode cX5_reason 27 = .ok (.iload_n 2, 1) := by decide +kernel
theorem dX5_reason_28 : decode cX5_reason 28 = .ok (.invokevirtual 63, 3) := by decide +kernel
theorem dX5_reason_31 : decode cX5_reason 31 = .ok (.ifCond .eq 5, 3) := by decide +kernel
theorem dX5_reason_34 : decode cX5_reason 34 = .ok (.iconst 0, 1) := by decide +kernel
theorem dX5_reason_35 : decode cX5_reason 35 = .ok (.ireturn, 1) := by decide +kernel
theorem dX5_reason_36 : decode cX5_reason 36 = .ok (.aload_n 3, 1) := by decide +kernel
theorem dX5_reason_37 : decode cX5_reason 37 = .ok (.getfield 142, 3) := by decide +kernel
theorem dX5_reason_40 : decode cX5_reason 40 = .ok (.iload_n 2, 1) := by decide +kernel
theorem dX5_reason_41 : decode cX5_reason 41 = .ok (.invokevirtual 195, 3) := by decide +kernel
theorem dX5_reason_44 : decode cX5_reason 44 = .ok (.ifCond .eq 5, 3) := by decide +kernel
theorem dX5_reason_47 : decode cX5_reason 47 = .ok (.iconst 1, 1) := by decide +kernel
theorem dX5_reason_48 : decode cX5_reason 48 = .ok (.ireturn, 1) := by decide +kernel
theorem dX5_reason_49 : decode cX5_reason 49 = .ok (.aload_n 3, 1) := by decide +kernel
theorem dX5_reason_50 : decode cX5_reason 50 = .ok (.getfield 142, 3) := by decide +kernel
theorem dX5_reason_53 : decode cX5_reason 53 = .ok (.iload_n 2, 1) := by decide +kernel
theorem dX5_reason_54 : decode cX5_reason 54 = .ok (.invokevirtual 198, 3) := by decide +kernel
theorem dX5_reason_57 : decode cX5_reason 57 = .ok (.ifCond .eq 7, 3) := by decide +kernel
theorem dX5_reason_60 : decode cX5_reason 60 = .ok (.iconst 3, 1) := by decide +kernel
theorem dX5_reason_61 : decode cX5_reason 61 = .ok (.goto 4, 3) := by decide +kernel
theorem dX5_reason_64 : decode cX5_reason 64 = .ok (.iconst 2, 1) := by decide +kernel
theorem dX5_reason_65 : decode cX5_reason 65 = .ok (.ireturn, 1) := by decide +kernel
set_option maxRecDepth 20000 in
theorem ggX5_cost_X5_isCore : GoodIn wsX5_cost wsX5_isCore := goodIn_r _ [7, 8, 9, 6, 10] (by decide +kernel) (by decide +kernel)
set_option maxRecDepth 20000 in
theorem gX5_cost_X5_isCore : GoodIn wsX5_cost (va_wsS RX5 36 yX5_isCore wsX5_isCore) := goodIn_app (goodIn_of _ (by decide +kernel)) ggX5_cost_X5_isCore
set_option maxRecDepth 20000 in
theorem ggX5_cost_X5_isLine : GoodIn wsX5_cost wsX5_isLine := goodIn_r _ [13, 8, 9, 6, 10] (by decide +kernel) (by decide +kernel)
set_option maxRecDepth 20000 in
theorem gX5_cost_X5_isLine : GoodIn wsX5_cost (va_wsS RX5 40 yX5_isLine wsX5_isLine) := goodIn_app (goodIn_of _ (by decide +kernel)) ggX5_cost_X5_isLine
set_option maxRecDepth 20000 in
theorem ggX5_cost_X5_isWithin : GoodIn wsX5_cost wsX5_isWithin := goodIn_r _ [10] (by decide +kernel) (by decide +kernel)
set_option maxRecDepth 20000 in
theorem gX5_cost_X5_isWithin : GoodIn wsX5_cost (va_wsS RX5 51 yX5_isWithin wsX5_isWithin) := goodIn_app (goodIn_of _ (by decide +kernel)) ggX5_cost_X5_isWithin
set_option maxRecDepth 20000 in
theorem ggX5_cost_X3_copyFrom : GoodIn wsX5_cost wsX3_copyFrom := goodIn_r _ [18, 19, 20, 21, 22, 23, 24, 25, 26, 27, 28, 29, 30, 31, 32, 33, 34, 35, 36, 37, 38, 39, 40, 41, 42, 43, 44, 45, 46, 47, 48, 163, 164, 165, 166, 167, 168, 169, 170, 171, 172, 173, 174, 175, 176] (by decide +kernel) (by decide +kernel)
set_option maxRecDepth 20000 in
theorem gX5_cost_X3_copyFrom : GoodIn wsX5_cost (wsV RX5 97 RX3 yX3_copyFrom wsX3_copyFrom) := goodIn_app (goodIn_of _ (by decide +kernel)) ggX5_cost_X3_copyFrom
set_option maxRecDepth 20000 in
theorem ggX5_cost_X3_writeLine : GoodIn wsX5_cost wsX3_writeLine := goodIn_r _ [52, 24, 28, 53, 54, 55, 32, 56, 37, 57, 58, 59, 60, 34, 61, 62, 63, 64, 65, 66, 17, 67, 68, 69, 70, 71, 39, 38, 72, 73, 74, 43, 75, 45, 76, 77, 78, 79, 48, 80, 81, 82, 83, 84, 85, 86, 87, 88, 89, 90, 91, 92, 93, 94, 95, 96, 97, 98, 47, 99, 100, 101, 102, 103, 104, 105, 106, 36, 107, 108, 109, 110, 111, 112, 113, 114, 115, 116, 117, 19, 118, 27, 119, 120, 121, 122, 123, 25, 26, 124, 125, 126, 127, 128, 129, 130, 131, 132, 133, 134, 135, 136, 137, 138, 139, 140, 141, 142, 143, 144, 145, 163, 164, 165, 166, 167, 168, 169, 170, 171, 172, 173, 174, 175, 176] (by decide +kernel) (by decide +kernel)
set_option maxRecDepth 20000 in
theorem gX5_cost_X3_writeLine : GoodIn wsX5_cost (wsV RX5 55 RX3 yX3_writeLine wsX3_writeLine) := goodIn_app (goodIn_of _ (by decide +kernel)) ggX5_cost_X3_writeLine
set_option maxRecDepth 20000 in
theorem ggX5_cost_X3_readLine : GoodIn wsX5_cost wsX3_readLine := goodIn_r _ [149, 24, 140, 118, 19, 107, 62, 32, 63, 86, 58, 59, 60, 34, 61, 68, 69, 70, 71, 39, 38, 72, 73, 74, 43, 75, 45, 76, 77, 78, 79, 48, 80, 81, 82, 83, 84, 85, 57, 113, 114, 115, 17, 116, 112, 117, 27, 108, 109, 110, 111, 87, 88, 89, 90, 91, 92, 93, 94, 95, 96, 97, 98, 47, 99, 100, 101, 102, 37, 119, 120, 121, 122, 123, 25, 26, 103, 104, 105, 106, 36, 124, 125, 126, 127, 128, 129, 130, 131, 132, 133, 134, 135, 136, 137, 138, 139, 141, 142, 143, 144, 145, 163, 164, 165, 166, 167, 168, 169, 170, 171, 172, 173, 174, 175, 176] (by decide +kernel) (by decide +kernel)
set_option maxRecDepth 20000 in
theorem gX5_cost_X3_readLine : GoodIn wsX5_cost (wsV RX5 47 RX3 yX3_readLine wsX3_readLine) := goodIn_app (goodIn_of _ (by decide +kernel)) ggX5_cost_X3_readLine
set_option maxRecDepth 20000 in
theorem ggX5_cost_X3_sumOf : GoodIn wsX5_cost wsX3_sumOf := goodIn_r _ [153, 24, 140, 163, 164, 165, 166, 167, 168, 169, 170, 171, 172, 173] (by decide +kernel) (by decide +kernel)
set_option maxRecDepth 20000 in
theorem gX5_cost_X3_sumOf : GoodIn wsX5_cost (wsV RX5 201 RX3 yX3_sumOf wsX3_sumOf) := goodIn_app (goodIn_of _ (by decide +kernel)) ggX5_cost_X3_sumOf
theorem dX5_cost_0 : decode cX5_cost 0 = .ok (.iload_n 1, 1) := by decide +kernel
theorem dX5_cost_1 : decode cX5_cost 1 = .ok (.invokestatic 36, 3) := by decide +kernel
theorem dX5_cost_4 : decode cX5_cost 4 = .ok (.ifCond .eq 10, 3) := by decide +kernel
theorem dX5_cost_7 : decode cX5_cost 7 = .ok (.iload_n 2, 1) := by decide +kernel
theorem dX5_cost_8 : decode cX5_cost 8 = .ok (.invokestatic 40, 3) := by decide +kernel
theorem dX5_cost_11 : decode cX5_cost 11 = .ok (.ifCond .ne 5, 3) := by decide +kernel
theorem dX5_cost_14 : decode cX5_cost 14 = .ok (.iconst (-1), 1) := by decide +kernel
theorem dX5_cost_15 : decode cX5_cost 15 = .ok (.ireturn, 1) := by decide +kernel
theorem dX5_cost_16 : decode cX5_cost 16 = .ok (.iload 4, 2) := by decide +kernel
theorem dX5_cost_18 : decode cX5_cost 18 = .ok (.iconst 0, 1) := by decide +kernel
theorem dX5_cost_19 : decode cX5_cost 19 = .ok (.iconst 3, 1) := by decide +kernel
theorem dX5_cost_20 : decode cX5_cost 20 = .ok (.invokestatic 51, 3) := by decide +kernel
theorem dX5_cost_23 : decode cX5_cost 23 = .ok (.ifCond .ne 6, 3) := by decide +kernel
theorem dX5_cost_26 : decode cX5_cost 26 = .ok (.bipush (-2), 2) := by decide +kernel
theorem dX5_cost_28 : decode cX5_cost 28 = .ok (.ireturn, 1) := by decide +kernel
theorem dX5_cost_29 : decode cX5_cost 29 = .ok (.aload_n 0, 1) := by decide +kernel
theorem dX5_cost_30 : decode cX5_cost 30 = .ok (.getfield 16, 3) := by decide +kernel
theorem dX5_cost_33 : decode cX5_cost 33 = .ok (.aload_n 0, 1) := by decide +kernel
theorem dX5_cost_34 : decode cX5_cost 34 = .ok (.getfield 12, 3) := by decide +kernel
theorem dX5_cost_37 : decode cX5_cost 37 = .ok (.invokevirtual 97, 3) := by decide +kernel
theorem dX5_cost_40 : decode cX5_cost 40 = .ok (.iload_n 3, 1) := by decide +kernel
theorem dX5_cost_41 : decode cX5_cost 41 = .ok (.ifCond .eq 17, 3) := by decide +kernel
theorem dX5_cost_44 : decode cX5_cost 44 = .ok (.aload_n 0, 1) := by decide +kernel
theorem dX5_cost_45 : decode cX5_cost 45 = .ok (.getfield 16, 3) := by decide +kernel
theorem dX5_cost_48 : decode cX5_cost 48 = .ok (.iload_n 1, 1) := by decide +kernel
theorem dX5_cost_49 : decode cX5_cost 49 = .ok (.iload_n 2, 1) := by decide +kernel
theorem dX5_cost_50 : decode cX5_cost 50 = .ok (.iconst 0, 1) := by decide +kernel
theorem dX5_cost_51 : decode cX5_cost 51 = .ok (.invokevirtual 55, 3) := by decide +kernel
theorem dX5_cost_54 : decode cX5_cost 54 = .ok (.pop, 1) := by decide +kernel
theorem dX5_cost_55 : decode cX5_cost 55 = .ok (.goto 13, 3) := by decide +kernel
theorem dX5_cost_58 : decode cX5_cost 58 = .ok (.aload_n 0, 1) := by decide +kernel
theorem dX5_cost_59 : decode cX5_cost 59 = .ok (.getfield 16, 3) := by decide +kernel
theorem dX5_cost_62 : decode cX5_cost 62 = .ok (.iload_n 1, 1) := by decide +kernel
theorem dX5_cost_63 : decode cX5_cost 63 = .ok (.iload_n 2, 1) := by decide +kernel
theorem dX5_cost_64 : decode cX5_cost 64 = .ok (.invokevirtual 47, 3) := by decide +kernel
theorem dX5_cost_67 : decode cX5_cost 67 = .ok (.pop, 1) := by decide +kernel
theorem dX5_cost_68 : decode cX5_cost 68 = .ok (.iload 4, 2) := by decide +kernel
theorem dX5_cost_70 : decode cX5_cost 70 = .ok (.tableswitch 78 0 2 #[26, 44, 62], 26) := by decide +kernel
theorem dX5_cost_96 : decode cX5_cost 96 = .ok (.aload_n 0, 1) := by decide +kernel
theorem dX5_cost_97 : decode cX5_cost 97 = .ok (.getfield 16, 3) := by decide +kernel
theorem dX5_cost_100 : decode cX5_cost 100 = .ok (.iconst 2, 1) := by decide +kernel
theorem dX5_cost_101 : decode cX5_cost 101 = .ok (.invokevirtual 201, 3) := by decide +kernel
theorem dX5_cost_104 : decode cX5_cost 104 = .ok (.aload_n 0, 1) := by decide +kernel
theorem dX5_cost_105 : decode cX5_cost 105 = .ok (.getfield 12, 3) := by decide +kernel
theorem dX5_cost_108 : decode cX5_cost 108 = .ok (.iconst 2, 1) := by decide +kernel
theorem dX5_cost_109 : decode cX5_cost 109 = .ok (.invokevirtual 201, 3) := by decide +kernel
theorem dX5_cost_112 : decode cX5_cost 112 = .ok (.isub, 1) := by decide +kernel
theorem dX5_cost_113 : decode cX5_cost 113 = .ok (.ireturn, 1) := by decide +kernel
theorem dX5_cost_114 : decode cX5_cost 114 = .ok (.aload_n 0, 1) := by decide +kernel
theorem dX5_cost_115 : decode cX5_cost 115 = .ok (.getfield 16, 3) := by decide +kernel
theorem dX5_cost_118 : decode cX5_cost 118 = .ok (.iconst 3, 1) := by decide +kernel
theorem dX5_cost_119 : decode cX5_cost 119 = .ok (.invokevirtual 201, 3) := by decide +kernel
theorem dX5_cost_122 : decode cX5_cost 122 = .ok (.aload_n 0, 1) := by decide +kernel
theorem dX5_cost_123 : decode cX5_cost 123 = .ok (.getfield 12, 3) := by decide +kernel
theorem dX5_cost_126 : decode cX5_cost 126 = .ok (.iconst 3, 1) := by decide +kernel
theorem dX5_cost_127 : decode cX5_cost 127 = .ok (.invokevirtual 201, 3) := by decide +kernel
theorem dX5_cost_130 : decode cX5_cost 130 = .ok (.isub, 1) := by decide +kernel
theorem dX5_cost_131 : decode cX5_cost 131 = .ok (.ireturn, 1) := by decide +kernel
theorem dX5_cost_132 : decode cX5_cost 132 = .ok (.aload_n 0, 1) := by decide +kernel
theorem dX5_cost_133 : decode cX5_cost 133 = .ok (.getfield 16, 3) := by decide +kernel
theorem dX5_cost_136 : decode cX5_cost 136 = .ok (.getfield 204, 3) := by decide +kernel
theorem dX5_cost_139 : decode cX5_cost 139 = .ok (.aload_n 0, 1) := by decide +kernel
theorem dX5_cost_140 : decode cX5_cost 140 = .ok (.getfield 12, 3) := by decide +kernel
theorem dX5_cost_143 : decode cX5_cost 143 = .ok (.getfield 204, 3) := by decide +kernel
theorem dX5_cost_146 : decode cX5_cost 146 = .ok (.isub, 1) := by decide +kernel
theorem dX5_cost_147 : decode cX5_cost 147 = .ok (.ireturn, 1) := by decide +kernel
theorem dX5_cost_148 : decode cX5_cost 148 = .ok (.aload_n 0, 1) := by decide +kernel
theorem dX5_cost_149 : decode cX5_cost 149 = .ok (.getfield 16, 3) := by decide +kernel
theorem dX5_cost_152 : decode cX5_cost 152 = .ok (.iconst 5, 1) := by decide +kernel
theorem dX5_cost_153 : decode cX5_cost 153 = .ok (.invokevirtual 201, 3) := by decide +kernel
theorem dX5_cost_156 : decode cX5_cost 156 = .ok (.aload_n 0, 1) := by decide +kernel
theorem dX5_cost_157 : decode cX5_cost 157 = .ok (.getfield 12, 3) := by decide +kernel
theorem dX5_cost_160 : decode cX5_cost 160 = .ok (.iconst 5, 1) := by decide +kernel
theorem dX5_cost_161 : decode cX5_cost 161 = .ok (.invokevirtual 201, 3) := by decide +kernel
theorem dX5_cost_164 : decode cX5_cost 164 = .ok (.isub, 1) := by decide +kernel
theorem dX5_cost_165 : decode cX5_cost 165 = .ok (.ireturn, 1) := by decide +kernel
set_option maxRecDepth 20000 in
theorem ggX5_vain_X5_isCore : GoodIn wsX5_vain wsX5_isCore := goodIn_r _ [7, 8, 9, 6, 10] (by decide +kernel) (by decide +kernel)
set_option maxRecDepth 20000 in
theorem gX5_vain_X5_isCore : GoodIn wsX5_vain (va_wsS RX5 36 yX5_isCore wsX5_isCore) := goodIn_app (goodIn_of _ (by decide +kernel)) ggX5_vain_X5_isCore
set_option maxRecDepth 20000 in
theorem ggX5_vain_X1_mayHave : GoodIn wsX5_vain wsX1_mayHave := goodIn_r _ [15, 16, 17, 18, 19, 14, 20, 21, 22, 23, 24, 25, 26, 27, 57, 58, 59] (by decide +kernel) (by decide +kernel)
set_option maxRecDepth 20000 in
theorem gX5_vain_X1_mayHave : GoodIn wsX5_vain (wsV RX5 195 RX1 yX1_mayHave wsX1_mayHave) := goodIn_app (goodIn_of _ (by decide +kernel)) ggX5_vain_X1_mayHave
set_option maxRecDepth 20000 in
theorem ggX5_vain_X0_holds : GoodIn wsX5_vain wsX0_holds := goodIn_r _ [32, 33, 34, 35, 31, 36, 52, 53, 54, 55, 56] (by decide +kernel) (by decide +kernel)
set_option maxRecDepth 20000 in
theorem gX5_vain_X0_holds : GoodIn wsX5_vain (wsV RX5 63 RX0 yX0_holds wsX0_holds) := goodIn_app (goodIn_of _ (by decide +kernel)) ggX5_vain_X0_holds
theorem dX5_vain_0 : decode cX5_vain 0 = .ok (.iload_n 1, 1) := by decide +kernel
theorem dX5_vain_1 : decode cX5_vain 1 = .ok (.invokestatic 36, 3) := by decide +kernel
theorem dX5_vain_4 : decode cX5_vain 4 = .ok (.ifCond .ne 5, 3) := by decide +kernel
theorem dX5_vain_7 : decode cX5_vain 7 = .ok (.iconst (-1), 1) := by decide +kernel
theorem dX5_vain_8 : decode cX5_vain 8 = .ok (.ireturn, 1) := by decide +kernel
theorem dX5_vain_9 : decode cX5_vain 9 = .ok (.aload_n 0, 1) := by decide +kernel
theorem dX5_vain_10 : decode cX5_vain 10 = .ok (.getfield 12, 3) := by decide +kernel
theorem dX5_vain_13 : decode cX5_vain 13 = .ok (.getfield 59, 3) := by decide +kernel
theorem dX5_vain_16 : decode cX5_vain 16 = .ok (.iload_n 1, 1) := by decide +kernel
theorem dX5_vain_17 : decode cX5_vain 17 = .ok (.aaload, 1) := by decide +kernel
theorem dX5_vain_18 : decode cX5_vain 18 = .ok (.astore_n 2, 1) := by decide +kernel
theorem dX5_vain_19 : decode cX5_vain 19 = .ok (.iconst 0, 1) := by decide +kernel
theorem dX5_vain_20 : decode cX5_vain 20 = .ok (.istore_n 3, 1) := by decide +kernel
theorem dX5_vain_21 : decode cX5_vain 21 = .ok (.iconst 0, 1) := by decide +kernel
theorem dX5_vain_22 : decode cX5_vain 22 = .ok (.istore 4, 2) := by decide +kernel
theorem dX5_vain_24 : decode cX5_vain 24 = .ok (.iload 4, 2) := by decide +kernel
theorem dX5_vain_26 : decode cX5_vain 26 = .ok (.sipush 256, 3) := by decide +kernel
theorem dX5_vain_29 : decode cX5_vain 29 = .ok (.if_icmp .ge 33, 3) := by decide +kernel
theorem dX5_vain_32 : decode cX5_vain 32 = .ok (.aload_n 2, 1) := by decide +kernel
theorem dX5_vain_33 : decode cX5_vain 33 = .ok (.getfield 142, 3) := by decide +kernel
theorem dX5_vain_36 : decode cX5_vain 36 = .ok (.iload 4, 2) := by decide +kernel
theorem dX5_vain_38 : decode cX5_vain 38 = .ok (.invokevirtual 195, 3) := by decide +kernel
theorem dX5_vain_41 : decode cX5_vain 41 = .ok (.ifCond .eq 15, 3) := by decide +kernel
theorem dX5_vain_44 : decode cX5_vain 44 = .ok (.aload_n 2, 1) := by decide +kernel
theorem dX5_vain_45 : decode cX5_vain 45 = .ok (.iload 4, 2) := by decide +kernel
theorem dX5_vain_47 : decode cX5_vain 47 = .ok (.invokevirtual 63, 3) := by decide +kernel
theorem dX5_vain_50 : decode cX5_vain 50 = .ok (.ifCond .ne 6, 3) := by decide +kernel
theorem dX5_vain_53 : decode cX5_vain 53 = .ok (.iinc 3 1, 3) := by decide +kernel
theorem dX5_vain_56 : decode cX5_vain 56 = .ok (.iinc 4 1, 3) := by decide +kernel
theorem dX5_vain_59 : decode cX5_vain 59 = .ok (.goto (-35), 3) := by decide +kernel
theorem dX5_vain_62 : decode cX5_vain 62 = .ok (.iload_n 3, 1) := by decide +kernel
theorem dX5_vain_63 : decode cX5_vain 63 = .ok (.ireturn, 1) := by decide +kernel
theorem dX5_worst_0 : decode cX5_worst 0 = .ok (.bipush (-5), 2) := by decide +kernel
theorem dX5_worst_2 : decode cX5_worst 2 = .ok (.istore_n 1, 1) := by decide +kernel
theorem dX5_worst_3 : decode cX5_worst 3 = .ok (.iconst 0, 1) := by decide +kernel
theorem dX5_worst_4 : decode cX5_worst 4 = .ok (.istore_n 2, 1) := by decide +kernel
theorem dX5_worst_5 : decode cX5_worst 5 = .ok (.iconst 0, 1) := by decide +kernel
theorem dX5_worst_6 : decode cX5_worst 6 = .ok (.istore_n 3, 1) := by decide +kernel
theorem dX5_worst_7 : decode cX5_worst 7 = .ok (.iload_n 3, 1) := by decide +kernel
theorem dX5_worst_8 : decode cX5_worst 8 = .ok (.iconst 4, 1) := by decide +kernel
theorem dX5_worst_9 : decode cX5_worst 9 = .ok (.if_icmp .ge 36, 3) := by decide +kernel
theorem dX5_worst_12 : decode cX5_worst 12 = .ok (.aload_n 0, 1) := by decide +kernel
theorem dX5_worst_13 : decode cX5_worst 13 = .ok (.getfield 12, 3) := by decide +kernel
theorem dX5_worst_16 : decode cX5_worst 16 = .ok (.getfield 59, 3) := by decide +kernel
theorem dX5_worst_19 : decode cX5_worst 19 = .ok (.iload_n 3, 1) := by decide +kernel
theorem dX5_worst_20 : decode cX5_worst 20 = .ok (.aaload, 1) := by decide +kernel
theorem dX5_worst_21 : decode cX5_worst 21 = .ok (.getfield 157, 3) := by decide +kernel
theorem dX5_worst_24 : decode cX5_worst 24 = .ok (.iconst 3, 1) := by decide +kernel
theorem dX5_worst_25 : decode cX5_worst 25 = .ok (.iaload, 1) := by decide +kernel
theorem dX5_worst_26 : decode cX5_worst 26 = .ok (.istore 4, 2) := by decide +kernel
theorem dX5_worst_28 : decode cX5_worst 28 = .ok (.iload 4, 2) := by decide +kernel
theorem dX5_worst_30 : decode cX5_worst 30 = .ok (.iload_n 2, 1) := by decide +kernel
theorem dX5_worst_31 : decode cX5_worst 31 = .ok (.if_icmp .le 8, 3) := by decide +kernel
theorem dX5_worst_34 : decode cX5_worst 34 = .ok (.iload 4, 2) := by decide +kernel
theorem dX5_worst_36 : decode cX5_worst 36 = .ok (.istore_n 2, 1) := by decide +kernel
theorem dX5_worst_37 : decode cX5_worst 37 = .ok (.iload_n 3, 1) := by decide +kernel
theorem dX5_worst_38 : decode cX5_worst 38 = .ok (.istore_n 1, 1) := by decide +kernel
theorem dX5_worst_39 : decode cX5_worst 39 = .ok (.iinc 3 1, 3) := by decide +kernel
theorem dX5_worst_42 : decode cX5_worst 42 = .ok (.goto (-35), 3) := by decide +kernel
theorem dX5_worst_45 : decode cX5_worst 45 = .ok (.iload_n 1, 1) := by decide +kernel
theorem dX5_worst_46 : decode cX5_worst 46 = .ok (.ireturn, 1) := by decide +kernel
set_option maxRecDepth 20000 in
theorem ggX5_count_X3_heldByAll : GoodIn wsX5_count wsX3_heldByAll := goodIn_r _ [14, 15, 16, 17, 18, 19, 20, 21, 48, 49, 50, 51, 52, 53, 65, 66, 67, 68, 69] (by decide +kernel) (by decide +kernel)
set_option maxRecDepth 20000 in
theorem gX5_count_X3_heldByAll : GoodIn wsX5_count (wsV RX5 133 RX3 yX3_heldByAll wsX3_heldByAll) := goodIn_app (goodIn_of _ (by decide +kernel)) ggX5_count_X3_heldByAll
set_option maxRecDepth 20000 in
theorem ggX5_count_X3_dirtyOfAll : GoodIn wsX5_count wsX3_dirtyOfAll := goodIn_r _ [25, 15, 26, 27, 28, 19, 29, 30, 31, 32, 33, 48, 49, 50, 51, 52, 53, 65, 66, 67, 68, 69] (by decide +kernel) (by decide +kernel)
set_option maxRecDepth 20000 in
theorem gX5_count_X3_dirtyOfAll : GoodIn wsX5_count (wsV RX5 207 RX3 yX3_dirtyOfAll wsX3_dirtyOfAll) := goodIn_app (goodIn_of _ (by decide +kernel)) ggX5_count_X3_dirtyOfAll
set_option maxRecDepth 20000 in
theorem ggX5_count_X3_sumOf : GoodIn wsX5_count wsX3_sumOf := goodIn_r _ [37, 15, 38, 48, 49, 50, 51, 52, 53, 65, 66, 67, 68, 69] (by decide +kernel) (by decide +kernel)
set_option maxRecDepth 20000 in
theorem gX5_count_X3_sumOf : GoodIn wsX5_count (wsV RX5 201 RX3 yX3_sumOf wsX3_sumOf) := goodIn_app (goodIn_of _ (by decide +kernel)) ggX5_count_X3_sumOf
theorem dX5_count_0 : decode cX5_count 0 = .ok (.iload_n 1, 1) := by decide +kernel
theorem dX5_count_1 : decode cX5_count 1 = .ok (.tableswitch 189 0 13 #[71, 79, 87, 96, 105, 114, 122, 131, 140, 149, 157, 165, 173, 181], 71) := by decide +kernel
theorem dX5_count_72 : decode cX5_count 72 = .ok (.aload_n 0, 1) := by decide +kernel
theorem dX5_count_73 : decode cX5_count 73 = .ok (.getfield 12, 3) := by decide +kernel
theorem dX5_count_76 : decode cX5_count 76 = .ok (.invokevirtual 133, 3) := by decide +kernel
theorem dX5_count_79 : decode cX5_count 79 = .ok (.ireturn, 1) := by decide +kernel
theorem dX5_count_80 : decode cX5_count 80 = .ok (.aload_n 0, 1) := by decide +kernel
theorem dX5_count_81 : decode cX5_count 81 = .ok (.getfield 12, 3) := by decide +kernel
theorem dX5_count_84 : decode cX5_count 84 = .ok (.invokevirtual 207, 3) := by decide +kernel
theorem dX5_count_87 : decode cX5_count 87 = .ok (.ireturn, 1) := by decide +kernel
theorem dX5_count_88 : decode cX5_count 88 = .ok (.aload_n 0, 1) := by decide +kernel
theorem dX5_count_89 : decode cX5_count 89 = .ok (.getfield 12, 3) := by decide +kernel
theorem dX5_count_92 : decode cX5_count 92 = .ok (.iconst 2, 1) := by decide +kernel
theorem dX5_count_93 : decode cX5_count 93 = .ok (.invokevirtual 201, 3) := by decide +kernel
theorem dX5_count_96 : decode cX5_count 96 = .ok (.ireturn, 1) := by decide +kernel
theorem dX5_count_97 : decode cX5_count 97 = .ok (.aload_n 0, 1) := by decide +kernel
theorem dX5_count_98 : decode cX5_count 98 = .ok (.getfield 12, 3) := by decide +kernel
theorem dX5_count_101 : decode cX5_count 101 = .ok (.iconst 3, 1) := by decide +kernel
theorem dX5_count_102 : decode cX5_count 102 = .ok (.invokevirtual 201, 3) := by decide +kernel
theorem dX5_count_105 : decode cX5_count 105 = .ok (.ireturn, 1) := by decide +kernel
theorem dX5_count_106 : decode cX5_count 106 = .ok (.aload_n 0, 1) := by decide +kernel
theorem dX5_count_107 : decode cX5_count 107 = .ok (.getfield 12, 3) := by decide +kernel
theorem dX5_count_110 : decode cX5_count 110 = .ok (.iconst 4, 1) := by decide +kernel
theorem dX5_count_111 : decode cX5_count 111 = .ok (.invokevirtual 201, 3) := by decide +kernel
theorem dX5_count_114 : decode cX5_count 114 = .ok (.ireturn, 1) := by decide +kernel
theorem dX5_count_115 : decode cX5_count 115 = .ok (.aload_n 0, 1) := by decide +kernel
theorem dX5_count_116 : decode cX5_count 116 = .ok (.getfield 12, 3) := by decide +kernel
theorem dX5_count_119 : decode cX5_count 119 = .ok (.getfield 204, 3) := by decide +kernel
theorem dX5_count_122 : decode cX5_count 122 = .ok (.ireturn, 1) := by decide +kernel
theorem dX5_count_123 : decode cX5_count 123 = .ok (.aload_n 0, 1) := by decide +kernel
theorem dX5_count_124 : decode cX5_count 124 = .ok (.getfield 12, 3) := by decide +kernel
theorem dX5_count_127 : decode cX5_count 127 = .ok (.iconst 5, 1) := by decide +kernel
theorem dX5_count_128 : decode cX5_count 128 = .ok (.invokevirtual 201, 3) := by decide +kernel
theorem dX5_count_131 : decode cX5_count 131 = .ok (.ireturn, 1) := by decide +kernel
theorem dX5_count_132 : decode cX5_count 132 = .ok (.aload_n 0, 1) := by decide +kernel
theorem dX5_count_133 : decode cX5_count 133 = .ok (.getfield 12, 3) := by decide +kernel
theorem dX5_count_136 : decode cX5_count 136 = .ok (.iconst 0, 1) := by decide +kernel
theorem dX5_count_137 : decode cX5_count 137 = .ok (.invokevirtual 201, 3) := by decide +kernel
theorem dX5_count_140 : decode cX5_count 140 = .ok (.ireturn, 1) := by decide +kernel
theorem dX5_count_141 : decode cX5_count 141 = .ok (.aload_n 0, 1) := by decide +kernel
theorem dX5_count_142 : decode cX5_count 142 = .ok (.getfield 12, 3) := by decide +kernel
theorem dX5_count_145 : decode cX5_count 145 = .ok (.iconst 1, 1) := by decide +kernel
theorem dX5_count_146 : decode cX5_count 146 = .ok (.invokevirtual 201, 3) := by decide +kernel
theorem dX5_count_149 : decode cX5_count 149 = .ok (.ireturn, 1) := by decide +kernel
theorem dX5_count_150 : decode cX5_count 150 = .ok (.aload_n 0, 1) := by decide +kernel
theorem dX5_count_151 : decode cX5_count 151 = .ok (.getfield 12, 3) := by decide +kernel
theorem dX5_count_154 : decode cX5_count 154 = .ok (.getfield 210, 3) := by decide +kernel
theorem dX5_count_157 : decode cX5_count 157 = .ok (.ireturn, 1) := by decide +kernel
theorem dX5_count_158 : decode cX5_count 158 = .ok (.aload_n 0, 1) := by decide +kernel
theorem dX5_count_159 : decode cX5_count 159 = .ok (.getfield 12, 3) := by decide +kernel
theorem dX5_count_162 : decode cX5_count 162 = .ok (.getfield 79, 3) := by decide +kernel
theorem dX5_count_165 : decode cX5_count 165 = .ok (.ireturn, 1) := by decide +kernel
theorem dX5_count_166 : decode cX5_count 166 = .ok (.aload_n 0, 1) := by decide +kernel
theorem dX5_count_167 : decode cX5_count 167 = .ok (.getfield 12, 3) := by decide +kernel
theorem dX5_count_170 : decode cX5_count 170 = .ok (.getfield 83, 3) := by decide +kernel
theorem dX5_count_173 : decode cX5_count 173 = .ok (.ireturn, 1) := by decide +kernel
theorem dX5_count_174 : decode cX5_count 174 = .ok (.aload_n 0, 1) := by decide +kernel
theorem dX5_count_175 : decode cX5_count 175 = .ok (.getfield 25, 3) := by decide +kernel
theorem dX5_count_178 : decode cX5_count 178 = .ok (.getfield 124, 3) := by decide +kernel
theorem dX5_count_181 : decode cX5_count 181 = .ok (.ireturn, 1) := by decide +kernel
theorem dX5_count_182 : decode cX5_count 182 = .ok (.aload_n 0, 1) := by decide +kernel
theorem dX5_count_183 : decode cX5_count 183 = .ok (.getfield 32, 3) := by decide +kernel
theorem dX5_count_186 : decode cX5_count 186 = .ok (.getfield 90, 3) := by decide +kernel
theorem dX5_count_189 : decode cX5_count 189 = .ok (.ireturn, 1) := by decide +kernel
theorem dX5_count_190 : decode cX5_count 190 = .ok (.bipush (-2), 2) := by decide +kernel
theorem dX5_count_192 : decode cX5_count 192 = .ok (.ireturn, 1) := by decide +kernel
theorem dX5_isWithin_0 : decode cX5_isWithin 0 = .ok (.iload_n 0, 1) := by decide +kernel
theorem dX5_isWithin_1 : decode cX5_isWithin 1 = .ok (.iload_n 1, 1) := by decide +kernel
theorem dX5_isWithin_2 : decode cX5_isWithin 2 = .ok (.if_icmp .lt 12, 3) := by decide +kernel
theorem dX5_isWithin_5 : decode cX5_isWithin 5 = .ok (.iload_n 0, 1) := by decide +kernel
theorem dX5_isWithin_6 : decode cX5_isWithin 6 = .ok (.iload_n 2, 1) := by decide +kernel
theorem dX5_isWithin_7 : decode cX5_isWithin 7 = .ok (.if_icmp .gt 7, 3) := by decide +kernel
theorem dX5_isWithin_10 : decode cX5_isWithin 10 = .ok (.iconst 1, 1) := by decide +kernel
theorem dX5_isWithin_11 : decode cX5_isWithin 11 = .ok (.goto 4, 3) := by decide +kernel
theorem dX5_isWithin_14 : decode cX5_isWithin 14 = .ok (.iconst 0, 1) := by decide +kernel
theorem dX5_isWithin_15 : decode cX5_isWithin 15 = .ok (.ireturn, 1) := by decide +kernel
set_option maxRecDepth 20000 in
theorem ggX5_isCore_X5_isWithin : GoodIn wsX5_isCore wsX5_isWithin := goodIn_r _ [4] (by decide +kernel) (by decide +kernel)
set_option maxRecDepth 20000 in
theorem gX5_isCore_X5_isWithin : GoodIn wsX5_isCore (va_wsS RX5 51 yX5_isWithin wsX5_isWithin) := goodIn_app (goodIn_of _ (by decide +kernel)) ggX5_isCore_X5_isWithin
theorem dX5_isCore_0 : decode cX5_isCore 0 = .ok (.iload_n 0, 1) := by decide +kernel
theorem dX5_isCore_1 : decode cX5_isCore 1 = .ok (.iconst 0, 1) := by decide +kernel
theorem dX5_isCore_2 : decode cX5_isCore 2 = .ok (.iconst 3, 1) := by decide +kernel
theorem dX5_isCore_3 : decode cX5_isCore 3 = .ok (.invokestatic 51, 3) := by decide +kernel
theorem dX5_isCore_6 : decode cX5_isCore 6 = .ok (.ireturn, 1) := by decide +kernel
set_option maxRecDepth 20000 in
theorem ggX5_isLine_X5_isWithin : GoodIn wsX5_isLine wsX5_isWithin := goodIn_r _ [4] (by decide +kernel) (by decide +kernel)
set_option maxRecDepth 20000 in
theorem gX5_isLine_X5_isWithin : GoodIn wsX5_isLine (va_wsS RX5 51 yX5_isWithin wsX5_isWithin) := goodIn_app (goodIn_of _ (by decide +kernel)) ggX5_isLine_X5_isWithin
theorem dX5_isLine_0 : decode cX5_isLine 0 = .ok (.iload_n 0, 1) := by decide +kernel
theorem dX5_isLine_1 : decode cX5_isLine 1 = .ok (.iconst 0, 1) := by decide +kernel
theorem dX5_isLine_2 : decode cX5_isLine 2 = .ok (.sipush 255, 3) := by decide +kernel
theorem dX5_isLine_5 : decode cX5_isLine 5 = .ok (.invokestatic 51, 3) := by decide +kernel
theorem dX5_isLine_8 : decode cX5_isLine 8 = .ok (.ireturn, 1) := by decide +kernel
theorem dX5_howManyAreTrue_0 : decode cX5_howManyAreTrue 0 = .ok (.iconst 0, 1) := by decide +kernel
theorem dX5_howManyAreTrue_1 : decode cX5_howManyAreTrue 1 = .ok (.istore_n 1, 1) := by decide +kernel
theorem dX5_howManyAreTrue_2 : decode cX5_howManyAreTrue 2 = .ok (.aload_n 0, 1) := by decide +kernel
theorem dX5_howManyAreTrue_3 : decode cX5_howManyAreTrue 3 = .ok (.astore_n 2, 1) := by decide +kernel
theorem dX5_howManyAreTrue_4 : decode cX5_howManyAreTrue 4 = .ok (.aload_n 2, 1) := by decide +kernel
theorem dX5_howManyAreTrue_5 : decode cX5_howManyAreTrue 5 = .ok (.arraylength, 1) := by decide +kernel
theorem dX5_howManyAreTrue_6 : decode cX5_howManyAreTrue 6 = .ok (.istore_n 3, 1) := by decide +kernel
theorem dX5_howManyAreTrue_7 : decode cX5_howManyAreTrue 7 = .ok (.iconst 0, 1) := by decide +kernel
theorem dX5_howManyAreTrue_8 : decode cX5_howManyAreTrue 8 = .ok (.istore 4, 2) := by decide +kernel
theorem dX5_howManyAreTrue_10 : decode cX5_howManyAreTrue 10 = .ok (.iload 4, 2) := by decide +kernel
theorem dX5_howManyAreTrue_12 : decode cX5_howManyAreTrue 12 = .ok (.iload_n 3, 1) := by decide +kernel
theorem dX5_howManyAreTrue_13 : decode cX5_howManyAreTrue 13 = .ok (.if_icmp .ge 23, 3) := by decide +kernel
theorem dX5_howManyAreTrue_16 : decode cX5_howManyAreTrue 16 = .ok (.aload_n 2, 1) := by decide +kernel
theorem dX5_howManyAreTrue_17 : decode cX5_howManyAreTrue 17 = .ok (.iload 4, 2) := by decide +kernel
theorem dX5_howManyAreTrue_19 : decode cX5_howManyAreTrue 19 = .ok (.baload, 1) := by decide +kernel
theorem dX5_howManyAreTrue_20 : decode cX5_howManyAreTrue 20 = .ok (.istore 5, 2) := by decide +kernel
theorem dX5_howManyAreTrue_22 : decode cX5_howManyAreTrue 22 = .ok (.iload 5, 2) := by decide +kernel
theorem dX5_howManyAreTrue_24 : decode cX5_howManyAreTrue 24 = .ok (.ifCond .eq 6, 3) := by decide +kernel
theorem dX5_howManyAreTrue_27 : decode cX5_howManyAreTrue 27 = .ok (.iinc 1 1, 3) := by decide +kernel
theorem dX5_howManyAreTrue_30 : decode cX5_howManyAreTrue 30 = .ok (.iinc 4 1, 3) := by decide +kernel
theorem dX5_howManyAreTrue_33 : decode cX5_howManyAreTrue 33 = .ok (.goto (-23), 3) := by decide +kernel
theorem dX5_howManyAreTrue_36 : decode cX5_howManyAreTrue 36 = .ok (.iload_n 1, 1) := by decide +kernel
theorem dX5_howManyAreTrue_37 : decode cX5_howManyAreTrue 37 = .ok (.ireturn, 1) := by decide +kernel
theorem dX5_noteStop_0 : decode cX5_noteStop 0 = .ok (.aload_n 0, 1) := by decide +kernel
theorem dX5_noteStop_1 : decode cX5_noteStop 1 = .ok (.iconst 1, 1) := by decide +kernel
theorem dX5_noteStop_2 : decode cX5_noteStop 2 = .ok (.putfield 114, 3) := by decide +kernel
theorem dX5_noteStop_5 : decode cX5_noteStop 5 = .ok (.aload_n 0, 1) := by decide +kernel
theorem dX5_noteStop_6 : decode cX5_noteStop 6 = .ok (.iload_n 1, 1) := by decide +kernel
theorem dX5_noteStop_7 : decode cX5_noteStop 7 = .ok (.putfield 118, 3) := by decide +kernel
theorem dX5_noteStop_10 : decode cX5_noteStop 10 = .ok (.aload_n 0, 1) := by decide +kernel
theorem dX5_noteStop_11 : decode cX5_noteStop 11 = .ok (.iload_n 2, 1) := by decide +kernel
theorem dX5_noteStop_12 : decode cX5_noteStop 12 = .ok (.putfield 121, 3) := by decide +kernel
theorem dX5_noteStop_15 : decode cX5_noteStop 15 = .ok (.return_, 1) := by decide +kernel
end
section
theorem dX6_init_0 : decode cX6_init 0 = .ok (.aload_n 0, 1) := by decide +kernel
theorem dX6_init_1 : decode cX6_init 1 = .ok (.invokespecial 1, 3) := by decide +kernel
theorem dX6_init_4 : decode cX6_init 4 = .ok (.aload_n 0, 1) := by decide +kernel
theorem dX6_init_5 : decode cX6_init 5 = .ok (.sipush 544, 3) := by decide +kernel
theorem dX6_init_8 : decode cX6_init 8 = .ok (.newarray .int, 2) := by decide +kernel
theorem dX6_init_10 : decode cX6_init 10 = .ok (.putfield 7, 3) := by decide +kernel
theorem dX6_init_13 : decode cX6_init 13 = .ok (.aload_n 0, 1) := by decide +kernel
theorem dX6_init_14 : decode cX6_init 14 = .ok (.sipush 544, 3) := by decide +kernel
theorem dX6_init_17 : decode cX6_init 17 = .ok (.newarray .int, 2) := by decide +kernel
theorem dX6_init_19 : decode cX6_init 19 = .ok (.putfield 13, 3) := by decide +kernel
theorem dX6_init_22 : decode cX6_init 22 = .ok (.aload_n 0, 1) := by decide +kernel
theorem dX6_init_23 : decode cX6_init 23 = .ok (.sipush 2176, 3) := by decide +kernel
theorem dX6_init_26 : decode cX6_init 26 = .ok (.newarray .int, 2) := by decide +kernel
theorem dX6_init_28 : decode cX6_init 28 = .ok (.putfield 16, 3) := by decide +kernel
theorem dX6_init_31 : decode cX6_init 31 = .ok (.aload_n 0, 1) := by decide +kernel
theorem dX6_init_32 : decode cX6_init 32 = .ok (.sipush 544, 3) := by decide +kernel
theorem dX6_init_35 : decode cX6_init 35 = .ok (.newarray .int, 2) := by decide +kernel
theorem dX6_init_37 : decode cX6_init 37 = .ok (.putfield 19, 3) := by decide +kernel
theorem dX6_init_40 : decode cX6_init 40 = .ok (.aload_n 0, 1) := by decide +kernel
theorem dX6_init_41 : decode cX6_init 41 = .ok (.bipush 80, 2) := by decide +kernel
theorem dX6_init_43 : decode cX6_init 43 = .ok (.newarray .int, 2) := by decide +kernel
theorem dX6_init_45 : decode cX6_init 45 = .ok (.putfield 22, 3) := by decide +kernel
theorem dX6_init_48 : decode cX6_init 48 = .ok (.iconst 0, 1) := by decide +kernel
theorem dX6_init_49 : decode cX6_init 49 = .ok (.istore_n 1, 1) := by decide +kernel
theorem dX6_init_50 : decode cX6_init 50 = .ok (.iload_n 1, 1) := by decide +kernel
theorem dX6_init_51 : decode cX6_init 51 = .ok (.bipush 32, 2) := by decide +kernel
theorem dX6_init_53 : decode cX6_init 53 = .ok (.if_icmp .ge 21, 3) := by decide +kernel
theorem dX6_init_56 : decode cX6_init 56 = .ok (.aload_n 0, 1) := by decide +kernel
theorem dX6_init_57 : decode cX6_init 57 = .ok (.getfield 7, 3) := by decide +kernel
theorem dX6_init_60 : decode cX6_init 60 = .ok (.sipush 256, 3) := by decide +kernel
theorem dX6_init_63 : decode cX6_init 63 = .ok (.iload_n 1, 1) := by decide +kernel
theorem dX6_init_64 : decode cX6_init 64 = .ok (.iadd, 1) := by decide +kernel
theorem dX6_init_65 : decode cX6_init 65 = .ok (.bipush (-5), 2) := by decide +kernel
theorem dX6_init_67 : decode cX6_init 67 = .ok (.iastore, 1) := by decide +kernel
theorem dX6_init_68 : decode cX6_init 68 = .ok (.iinc 1 1, 3) := by decide +kernel
theorem dX6_init_71 : decode cX6_init 71 = .ok (.goto (-21), 3) := by decide +kernel
theorem dX6_init_74 : decode cX6_init 74 = .ok (.aload_n 0, 1) := by decide +kernel
theorem dX6_init_75 : decode cX6_init 75 = .ok (.getfield 7, 3) := by decide +kernel
theorem dX6_init_78 : decode cX6_init 78 = .ok (.sipush 536, 3) := by decide +kernel
theorem dX6_init_81 : decode cX6_init 81 = .ok (.iconst 3, 1) := by decide +kernel
theorem dX6_init_82 : decode cX6_init 82 = .ok (.iastore, 1) := by decide +kernel
theorem dX6_init_83 : decode cX6_init 83 = .ok (.aload_n 0, 1) := by decide +kernel
theorem dX6_init_84 : decode cX6_init 84 = .ok (.getfield 7, 3) := by decide +kernel
theorem dX6_init_87 : decode cX6_init 87 = .ok (.sipush 537, 3) := by decide +kernel
theorem dX6_init_90 : decode cX6_init 90 = .ok (.bipush 20, 2) := by decide +kernel
theorem dX6_init_92 : decode cX6_init 92 = .ok (.iastore, 1) := by decide +kernel
theorem dX6_init_93 : decode cX6_init 93 = .ok (.aload_n 0, 1) := by decide +kernel
theorem dX6_init_94 : decode cX6_init 94 = .ok (.bipush (-5), 2) := by decide +kernel
theorem dX6_init_96 : decode cX6_init 96 = .ok (.putfield 25, 3) := by decide +kernel
theorem dX6_init_99 : decode cX6_init 99 = .ok (.return_, 1) := by decide +kernel
theorem dX6_in_0 : decode cX6_in 0 = .ok (.iload_n 0, 1) := by decide +kernel
theorem dX6_in_1 : decode cX6_in 1 = .ok (.iload_n 1, 1) := by decide +kernel
theorem dX6_in_2 : decode cX6_in 2 = .ok (.if_icmp .lt 12, 3) := by decide +kernel
theorem dX6_in_5 : decode cX6_in 5 = .ok (.iload_n 0, 1) := by decide +kernel
theorem dX6_in_6 : decode cX6_in 6 = .ok (.iload_n 2, 1) := by decide +kernel
theorem dX6_in_7 : decode cX6_in 7 = .ok (.if_icmp .gt 7, 3) := by decide +kernel
theorem dX6_in_10 : decode cX6_in 10 = .ok (.iconst 1, 1) := by decide +kernel
theorem dX6_in_11 : decode cX6_in 11 = .ok (.goto 4, 3) := by decide +kernel
theorem dX6_in_14 : decode cX6_in 14 = .ok (.iconst 0, 1) := by decide +kernel
theorem dX6_in_15 : decode cX6_in 15 = .ok (.ireturn, 1) := by decide +kernel
set_option maxRecDepth 20000 in
theorem ggX6_isCore_X6_in : GoodIn wsX6_isCore wsX6_in := goodIn_r _ [4] (by decide +kernel) (by decide +kernel)
set_option maxRecDepth 20000 in
theorem gX6_isCore_X6_in : GoodIn wsX6_isCore (va_wsS RX6 29 yX6_in wsX6_in) := goodIn_app (goodIn_of _ (by decide +kernel)) ggX6_isCore_X6_in
theorem dX6_isCore_0 : decode cX6_isCore 0 = .ok (.iload_n 0, 1) := by decide +kernel
theorem dX6_isCore_1 : decode cX6_isCore 1 = .ok (.iconst 0, 1) := by decide +kernel
theorem dX6_isCore_2 : decode cX6_isCore 2 = .ok (.iconst 3, 1) := by decide +kernel
theorem dX6_isCore_3 : decode cX6_isCore 3 = .ok (.invokestatic 29, 3) := by decide +kernel
theorem dX6_isCore_6 : decode cX6_isCore 6 = .ok (.ireturn, 1) := by decide +kernel
set_option maxRecDepth 20000 in
theorem ggX6_isLine_X6_in : GoodIn wsX6_isLine wsX6_in := goodIn_r _ [4] (by decide +kernel) (by decide +kernel)
set_option maxRecDepth 20000 in
theorem gX6_isLine_X6_in : GoodIn wsX6_isLine (va_wsS RX6 29 yX6_in wsX6_in) := goodIn_app (goodIn_of _ (by decide +kernel)) ggX6_isLine_X6_in
theorem dX6_isLine_0 : decode cX6_isLine 0 = .ok (.iload_n 0, 1) := by decide +kernel
theorem dX6_isLine_1 : decode cX6_isLine 1 = .ok (.iconst 0, 1) := by decide +kernel
theorem dX6_isLine_2 : decode cX6_isLine 2 = .ok (.sipush 255, 3) := by decide +kernel
theorem dX6_isLine_5 : decode cX6_isLine 5 = .ok (.invokestatic 29, 3) := by decide +kernel
theorem dX6_isLine_8 : decode cX6_isLine 8 = .ok (.ireturn, 1) := by decide +kernel
theorem dX6_placeOf_0 : decode cX6_placeOf 0 = .ok (.bipush 8, 2) := by decide +kernel
theorem dX6_placeOf_2 : decode cX6_placeOf 2 = .ok (.iload_n 0, 1) := by decide +kernel
theorem dX6_placeOf_3 : decode cX6_placeOf 3 = .ok (.imul, 1) := by decide +kernel
theorem dX6_placeOf_4 : decode cX6_placeOf 4 = .ok (.iload_n 1, 1) := by decide +kernel
theorem dX6_placeOf_5 : decode cX6_placeOf 5 = .ok (.bipush 8, 2) := by decide +kernel
theorem dX6_placeOf_7 : decode cX6_placeOf 7 = .ok (.irem, 1) := by decide +kernel
theorem dX6_placeOf_8 : decode cX6_placeOf 8 = .ok (.iadd, 1) := by decide +kernel
theorem dX6_placeOf_9 : decode cX6_placeOf 9 = .ok (.ireturn, 1) := by decide +kernel
theorem dX6_told_0 : decode cX6_told 0 = .ok (.sipush 512, 3) := by decide +kernel
theorem dX6_told_3 : decode cX6_told 3 = .ok (.bipush 6, 2) := by decide +kernel
theorem dX6_told_5 : decode cX6_told 5 = .ok (.iload_n 0, 1) := by decide +kernel
theorem dX6_told_6 : decode cX6_told 6 = .ok (.imul, 1) := by decide +kernel
theorem dX6_told_7 : decode cX6_told 7 = .ok (.iadd, 1) := by decide +kernel
theorem dX6_told_8 : decode cX6_told 8 = .ok (.iload_n 1, 1) := by decide +kernel
theorem dX6_told_9 : decode cX6_told 9 = .ok (.iadd, 1) := by decide +kernel
theorem dX6_told_10 : decode cX6_told 10 = .ok (.ireturn, 1) := by decide +kernel
theorem dX6_record_0 : decode cX6_record 0 = .ok (.aload_n 0, 1) := by decide +kernel
theorem dX6_record_1 : decode cX6_record 1 = .ok (.getfield 33, 3) := by decide +kernel
theorem dX6_record_4 : decode cX6_record 4 = .ok (.iconst 4, 1) := by decide +kernel
theorem dX6_record_5 : decode cX6_record 5 = .ok (.if_icmp .ne 44, 3) := by decide +kernel
theorem dX6_record_8 : decode cX6_record 8 = .ok (.iconst 0, 1) := by decide +kernel
theorem dX6_record_9 : decode cX6_record 9 = .ok (.istore_n 1, 1) := by decide +kernel
theorem dX6_record_10 : decode cX6_record 10 = .ok (.iload_n 1, 1) := by decide +kernel
theorem dX6_record_11 : decode cX6_record 11 = .ok (.sipush 1632, 3) := by decide +kernel
theorem dX6_record_14 : decode cX6_record 14 = .ok (.if_icmp .ge 25, 3) := by decide +kernel
theorem dX6_record_17 : decode cX6_record 17 = .ok (.aload_n 0, 1) := by decide +kernel
theorem dX6_record_18 : decode cX6_record 18 = .ok (.getfield 16, 3) := by decide +kernel
theorem dX6_record_21 : decode cX6_record 21 = .ok (.iload_n 1, 1) := by decide +kernel
theorem dX6_record_22 : decode cX6_record 22 = .ok (.aload_n 0, 1) := by decide +kernel
theorem dX6_record_23 : decode cX6_record 23 = .ok (.getfield 16, 3) := by decide +kernel
theorem dX6_record_26 : decode cX6_record 26 = .ok (.iload_n 1, 1) := by decide +kernel
theorem dX6_record_27 : decode cX6_record 27 = .ok (.sipush 544, 3) := by decide +kernel
theorem dX6_record_30 : decode cX6_record 30 = .ok (.iadd, 1) := by decide +kernel
theorem dX6_record_31 : decode cX6_record 31 = .ok (.iaload, 1) := by decide +kernel
theorem dX6_record_32 : decode cX6_record 32 = .ok (.iastore, 1) := by decide +kernel
theorem dX6_record_33 : decode cX6_record 33 = .ok (.iinc 1 1, 3) := by decide +kernel
theorem dX6_record_36 : decode cX6_record 36 = .ok (.goto (-26), 3) := by decide +kernel
theorem dX6_record_39 : decode cX6_record 39 = .ok (.aload_n 0, 1) := by decide +kernel
theorem dX6_record_40 : decode cX6_record 40 = .ok (.dup, 1) := by decide +kernel
theorem dX6_record_41 : decode cX6_record 41 = .ok (.getfield 33, 3) := by decide +kernel
theorem dX6_record_44 : decode cX6_record 44 = .ok (.iconst 1, 1) := by decide +kernel
theorem dX6_record_45 : decode cX6_record 45 = .ok (.isub, 1) := by decide +kernel
theorem dX6_record_46 : decode cX6_record 46 = .ok (.putfield 33, 3) := by decide +kernel
theorem dX6_record_49 : decode cX6_record 49 = .ok (.iconst 0, 1) := by decide +kernel
theorem dX6_record_50 : decode cX6_record 50 = .ok (.istore_n 1, 1) := by decide +kernel
theorem dX6_record_51 : decode cX6_record 51 = .ok (.iload_n 1, 1) := by decide +kernel
theorem dX6_record_52 : decode cX6_record 52 = .ok (.sipush 544, 3) := by decide +kernel
theorem dX6_record_55 : decode cX6_record 55 = .ok (.if_icmp .ge 30, 3) := by decide +kernel
theorem dX6_record_58 : decode cX6_record 58 = .ok (.aload_n 0, 1) := by decide +kernel
theorem dX6_record_59 : decode cX6_record 59 = .ok (.getfield 16, 3) := by decide +kernel
theorem dX6_record_62 : decode cX6_record 62 = .ok (.sipush 544, 3) := by decide +kernel
theorem dX6_record_65 : decode cX6_record 65 = .ok (.aload_n 0, 1) := by decide +kernel
theorem dX6_record_66 : decode cX6_record 66 = .ok (.getfield 33, 3) := by decide +kernel
theorem dX6_record_69 : decode cX6_record 69 = .ok (.imul, 1) := by decide +kernel
theorem dX6_record_70 : decode cX6_record 70 = .ok (.iload_n 1, 1) := by decide +kernel
theorem dX6_record_71 : decode cX6_record 71 = .ok (.iadd, 1) := by decide +kernel
theorem dX6_record_72 : decode cX6_record 72 = .ok (.aload_n 0, 1) := by decide +kernel
theorem dX6_record_73 : decode cX6_record 73 = .ok (.getfield 7, 3) := by decide +kernel
theorem dX6_record_76 : decode cX6_record 76 = .ok (.iload_n 1, 1) := by decide +kernel
theorem dX6_record_77 : decode cX6_record 77 = .ok (.iaload, 1) := by decide +kernel
theorem dX6_record_78 : decode cX6_record 78 = .ok (.iastore, 1) := by decide +kernel
theorem dX6_record_79 : decode cX6_record 79 = .ok (.iinc 1 1, 3) := by decide +kernel
theorem dX6_record_82 : decode cX6_record 82 = .ok (.goto (-31), 3) := by decide +kernel
theorem dX6_record_85 : decode cX6_record 85 = .ok (.aload_n 0, 1) := by decide +kernel
theorem dX6_record_86 : decode cX6_record 86 = .ok (.dup, 1) := by decide +kernel
theorem dX6_record_87 : decode cX6_record 87 = .ok (.getfield 33, 3) := by decide +kernel
theorem dX6_record_90 : decode cX6_record 90 = .ok (.iconst 1, 1) := by decide +kernel
theorem dX6_record_91 : decode cX6_record 91 = .ok (.iadd, 1) := by decide +kernel
theorem dX6_record_92 : decode cX6_record 92 = .ok (.putfield 33, 3) := by decide +kernel
theorem dX6_record_95 : decode cX6_record 95 = .ok (.return_, 1) := by decide +kernel
theorem dX6_putAside_0 : decode cX6_putAside 0 = .ok (.iconst 0, 1) := by decide +kernel
theorem dX6_putAside_1 : decode cX6_putAside 1 = .ok (.istore_n 1, 1) := by decide +kernel
theorem dX6_putAside_2 : decode cX6_putAside 2 = .ok (.iload_n 1, 1) := by decide +kernel
theorem dX6_putAside_3 : decode cX6_putAside 3 = .ok (.sipush 544, 3) := by decide +kernel
theorem dX6_putAside_6 : decode cX6_putAside 6 = .ok (.if_icmp .ge 21, 3) := by decide +kernel
theorem dX6_putAside_9 : decode cX6_putAside 9 = .ok (.aload_n 0, 1) := by decide +kernel
theorem dX6_putAside_10 : decode cX6_putAside 10 = .ok (.getfield 13, 3) := by decide +kernel
theorem dX6_putAside_13 : decode cX6_putAside 13 = .ok (.iload_n 1, 1) := by decide +kernel
theorem dX6_putAside_14 : decode cX6_putAside 14 = .ok (.aload_n 0, 1) := by decide +kernel
theorem dX6_putAside_15 : decode cX6_putAside 15 = .ok (.getfield 7, 3) := by decide +kernel
theorem dX6_putAside_18 : decode cX6_putAside 18 = .ok (.iload_n 1, 1) := by decide +kernel
theorem dX6_putAside_19 : decode cX6_putAside 19 = .ok (.iaload, 1) := by decide +kernel
theorem dX6_putAside_20 : decode cX6_putAside 20 = .ok (.iastore, 1) := by decide +kernel
theorem dX6_putAside_21 : decode cX6_putAside 21 = .ok (.iinc 1 1, 3) := by decide +kernel
theorem dX6_putAside_24 : decode cX6_putAside 24 = .ok (.goto (-22), 3) := by decide +kernel
theorem dX6_putAside_27 : decode cX6_putAside 27 = .ok (.return_, 1) := by decide +kernel
theorem dX6_putBack_0 : decode cX6_putBack 0 = .ok (.iconst 0, 1) := by decide +kernel
theorem dX6_putBack_1 : decode cX6_putBack 1 = .ok (.istore_n 1, 1) := by decide +kernel
theorem dX6_putBack_2 : decode cX6_putBack 2 = .ok (.iload_n 1, 1) := by decide +kernel
theorem dX6_putBack_3 : decode cX6_putBack 3 = .ok (.sipush 544, 3) := by decide +kernel
theorem dX6_putBack_6 : decode cX6_putBack 6 = .ok (.if_icmp .ge 21, 3) := by decide +kernel
theorem dX6_putBack_9 : decode cX6_putBack 9 = .ok (.aload_n 0, 1) := by decide +kernel
theorem dX6_putBack_10 : decode cX6_putBack 10 = .ok (.getfield 7, 3) := by decide +kernel
theorem dX6_putBack_13 : decode cX6_putBack 13 = .ok (.iload_n 1, 1) := by decide +kernel
theorem dX6_putBack_14 : decode cX6_putBack 14 = .ok (.aload_n 0, 1) := by decide +kernel
theorem dX6_putBack_15 : decode cX6_putBack 15 = .ok (.getfield 13, 3) := by decide +kernel
theorem dX6_putBack_18 : decode cX6_putBack 18 = .ok (.iload_n 1, 1) := by decide +kernel
theorem dX6_putBack_19 : decode cX6_putBack 19 = .ok (.iaload, 1) := by decide +kernel
theorem dX6_putBack_20 : decode cX6_putBack 20 = .ok (.iastore, 1) := by decide +kernel
theorem dX6_putBack_21 : decode cX6_putBack 21 = .ok (.iinc 1 1, 3) := by decide +kernel
theorem dX6_putBack_24 : decode cX6_putBack 24 = .ok (.goto (-22), 3) := by decide +kernel
theorem dX6_putBack_27 : decode cX6_putBack 27 = .ok (.return_, 1) := by decide +kernel
theorem dX6_counterOf_0 : decode cX6_counterOf 0 = .ok (.iload_n 1, 1) := by decide +kernel
theorem dX6_counterOf_1 : decode cX6_counterOf 1 = .ok (.ifCond .ne 10, 3) := by decide +kernel
theorem dX6_counterOf_4 : decode cX6_counterOf 4 = .ok (.iload_n 0, 1) := by decide +kernel
theorem dX6_counterOf_5 : decode cX6_counterOf 5 = .ok (.bipush 24, 2) := by decide +kernel
theorem dX6_counterOf_7 : decode cX6_counterOf 7 = .ok (.irem, 1) := by decide +kernel
theorem dX6_counterOf_8 : decode cX6_counterOf 8 = .ok (.goto 12, 3) := by decide +kernel
theorem dX6_counterOf_11 : decode cX6_counterOf 11 = .ok (.bipush 7, 2) := by decide +kernel
theorem dX6_counterOf_13 : decode cX6_counterOf 13 = .ok (.iload_n 0, 1) := by decide +kernel
theorem dX6_counterOf_14 : decode cX6_counterOf 14 = .ok (.imul, 1) := by decide +kernel
theorem dX6_counterOf_15 : decode cX6_counterOf 15 = .ok (.iconst 5, 1) := by decide +kernel
theorem dX6_counterOf_16 : decode cX6_counterOf 16 = .ok (.iadd, 1) := by decide +kernel
theorem dX6_counterOf_17 : decode cX6_counterOf 17 = .ok (.bipush 24, 2) := by decide +kernel
theorem dX6_counterOf_19 : decode cX6_counterOf 19 = .ok (.irem, 1) := by decide +kernel
theorem dX6_counterOf_20 : decode cX6_counterOf 20 = .ok (.ireturn, 1) := by decide +kernel
set_option maxRecDepth 20000 in
theorem ggX6_counterAt_X6_counterOf : GoodIn wsX6_counterAt wsX6_counterOf := goodIn_r _ [4] (by decide +kernel) (by decide +kernel)
set_option maxRecDepth 20000 in
theorem gX6_counterAt_X6_counterOf : GoodIn wsX6_counterAt (va_wsS RX6 36 yX6_counterOf wsX6_counterOf) := goodIn_app (goodIn_of _ (by decide +kernel)) ggX6_counterAt_X6_counterOf
theorem dX6_counterAt_0 : decode cX6_counterAt 0 = .ok (.sipush 352, 3) := by decide +kernel
theorem dX6_counterAt_3 : decode cX6_counterAt 3 = .ok (.bipush 24, 2) := by decide +kernel
theorem dX6_counterAt_5 : decode cX6_counterAt 5 = .ok (.iload_n 1, 1) := by decide +kernel
theorem dX6_counterAt_6 : decode cX6_counterAt 6 = .ok (.imul, 1) := by decide +kernel
theorem dX6_counterAt_7 : decode cX6_counterAt 7 = .ok (.iadd, 1) := by decide +kernel
theorem dX6_counterAt_8 : decode cX6_counterAt 8 = .ok (.iload_n 2, 1) := by decide +kernel
theorem dX6_counterAt_9 : decode cX6_counterAt 9 = .ok (.iload_n 3, 1) := by decide +kernel
theorem dX6_counterAt_10 : decode cX6_counterAt 10 = .ok (.invokestatic 36, 3) := by decide +kernel
theorem dX6_counterAt_13 : decode cX6_counterAt 13 = .ok (.iadd, 1) := by decide +kernel
theorem dX6_counterAt_14 : decode cX6_counterAt 14 = .ok (.ireturn, 1) := by decide +kernel
set_option maxRecDepth 20000 in
theorem ggX6_counts_X6_counterAt : GoodIn wsX6_counts wsX6_counterAt := goodIn_r _ [6, 7, 8, 5, 9] (by decide +kernel) (by decide +kernel)
set_option maxRecDepth 20000 in
theorem gX6_counts_X6_counterAt : GoodIn wsX6_counts (wsV RX6 40 RX6 yX6_counterAt wsX6_counterAt) := goodIn_app (goodIn_of _ (by decide +kernel)) ggX6_counts_X6_counterAt
set_option maxRecDepth 20000 in
theorem ggX6_counts_X6_counterOf : GoodIn wsX6_counts wsX6_counterOf := goodIn_r _ [9] (by decide +kernel) (by decide +kernel)
set_option maxRecDepth 20000 in
theorem gX6_counts_X6_counterOf : GoodIn wsX6_counts (va_wsS RX6 36 yX6_counterOf wsX6_counterOf) := goodIn_app (goodIn_of _ (by decide +kernel)) ggX6_counts_X6_counterOf
theorem dX6_counts_0 : decode cX6_counts 0 = .ok (.iconst 0, 1) := by decide +kernel
theorem dX6_counts_1 : decode cX6_counts 1 = .ok (.istore 4, 2) := by decide +kernel
theorem dX6_counts_3 : decode cX6_counts 3 = .ok (.iload 4, 2) := by decide +kernel
theorem dX6_counts_5 : decode cX6_counts 5 = .ok (.iconst 2, 1) := by decide +kernel
theorem dX6_counts_6 : decode cX6_counts 6 = .ok (.if_icmp .ge 116, 3) := by decide +kernel
theorem dX6_counts_9 : decode cX6_counts 9 = .ok (.aload_n 0, 1) := by decide +kernel
theorem dX6_counts_10 : decode cX6_counts 10 = .ok (.iload_n 1, 1) := by decide +kernel
theorem dX6_counts_11 : decode cX6_counts 11 = .ok (.iload_n 2, 1) := by decide +kernel
theorem dX6_counts_12 : decode cX6_counts 12 = .ok (.iload 4, 2) := by decide +kernel
theorem dX6_counts_14 : decode cX6_counts 14 = .ok (.invokevirtual 40, 3) := by decide +kernel
theorem dX6_counts_17 : decode cX6_counts 17 = .ok (.istore 5, 2) := by decide +kernel
theorem dX6_counts_19 : decode cX6_counts 19 = .ok (.iload_n 3, 1) := by decide +kernel
theorem dX6_counts_20 : decode cX6_counts 20 = .ok (.ifCond .le 25, 3) := by decide +kernel
theorem dX6_counts_23 : decode cX6_counts 23 = .ok (.aload_n 0, 1) := by decide +kernel
theorem dX6_counts_24 : decode cX6_counts 24 = .ok (.getfield 7, 3) := by decide +kernel
theorem dX6_counts_27 : decode cX6_counts 27 = .ok (.iload 5, 2) := by decide +kernel
theorem dX6_counts_29 : decode cX6_counts 29 = .ok (.iaload, 1) := by decide +kernel
theorem dX6_counts_30 : decode cX6_counts 30 = .ok (.aload_n 0, 1) := by decide +kernel
theorem dX6_counts_31 : decode cX6_counts 31 = .ok (.getfield 7, 3) := by decide +kernel
theorem dX6_counts_34 : decode cX6_counts 34 = .ok (.sipush 536, 3) := by decide +kernel
theorem dX6_counts_37 : decode cX6_counts 37 = .ok (.iaload, 1) := by decide +kernel
theorem dX6_counts_38 : decode cX6_counts 38 = .ok (.if_icmp .lt 7, 3) := by decide +kernel
theorem dX6_counts_41 : decode cX6_counts 41 = .ok (.iconst 1, 1) := by decide +kernel
theorem dX6_counts_42 : decode cX6_counts 42 = .ok (.goto 4, 3) := by decide +kernel
theorem dX6_counts_45 : decode cX6_counts 45 = .ok (.iconst 0, 1) := by decide +kernel
theorem dX6_counts_46 : decode cX6_counts 46 = .ok (.istore 6, 2) := by decide +kernel
theorem dX6_counts_48 : decode cX6_counts 48 = .ok (.aload_n 0, 1) := by decide +kernel
theorem dX6_counts_49 : decode cX6_counts 49 = .ok (.getfield 7, 3) := by decide +kernel
theorem dX6_counts_52 : decode cX6_counts 52 = .ok (.sipush 540, 3) := by decide +kernel
theorem dX6_counts_55 : decode cX6_counts 55 = .ok (.iload_n 1, 1) := by decide +kernel
theorem dX6_counts_56 : decode cX6_counts 56 = .ok (.iadd, 1) := by decide +kernel
theorem dX6_counts_57 : decode cX6_counts 57 = .ok (.dup2, 1) := by decide +kernel
theorem dX6_counts_58 : decode cX6_counts 58 = .ok (.iaload, 1) := by decide +kernel
theorem dX6_counts_59 : decode cX6_counts 59 = .ok (.iload 6, 2) := by decide +kernel
theorem dX6_counts_61 : decode cX6_counts 61 = .ok (.ifCond .eq 14, 3) := by decide +kernel
theorem dX6_counts_64 : decode cX6_counts 64 = .ok (.iconst 1, 1) := by decide +kernel
theorem dX6_counts_65 : decode cX6_counts 65 = .ok (.iload_n 2, 1) := by decide +kernel
theorem dX6_counts_66 : decode cX6_counts 66 = .ok (.iload 4, 2) := by decide +kernel
theorem dX6_counts_68 : decode cX6_counts 68 = .ok (.invokestatic 36, 3) := by decide +kernel
theorem dX6_counts_71 : decode cX6_counts 71 = .ok (.ishl, 1) := by decide +kernel
theorem dX6_counts_72 : decode cX6_counts 72 = .ok (.goto 4, 3) := by decide +kernel
theorem dX6_counts_75 : decode cX6_counts 75 = .ok (.iconst 0, 1) := by decide +kernel
theorem dX6_counts_76 : decode cX6_counts 76 = .ok (.ior, 1) := by decide +kernel
theorem dX6_counts_77 : decode cX6_counts 77 = .ok (.iastore, 1) := by decide +kernel
theorem dX6_counts_78 : decode cX6_counts 78 = .ok (.aload_n 0, 1) := by decide +kernel
theorem dX6_counts_79 : decode cX6_counts 79 = .ok (.getfield 7, 3) := by decide +kernel
theorem dX6_counts_82 : decode cX6_counts 82 = .ok (.iload 5, 2) := by decide +kernel
theorem dX6_counts_84 : decode cX6_counts 84 = .ok (.dup2, 1) := by decide +kernel
theorem dX6_counts_85 : decode cX6_counts 85 = .ok (.iaload, 1) := by decide +kernel
theorem dX6_counts_86 : decode cX6_counts 86 = .ok (.aload_n 0, 1) := by decide +kernel
theorem dX6_counts_87 : decode cX6_counts 87 = .ok (.getfield 7, 3) := by decide +kernel
theorem dX6_counts_90 : decode cX6_counts 90 = .ok (.sipush 540, 3) := by decide +kernel
theorem dX6_counts_93 : decode cX6_counts 93 = .ok (.iload_n 1, 1) := by decide +kernel
theorem dX6_counts_94 : decode cX6_counts 94 = .ok (.iadd, 1) := by decide +kernel
theorem dX6_counts_95 : decode cX6_counts 95 = .ok (.iaload, 1) := by decide +kernel
theorem dX6_counts_96 : decode cX6_counts 96 = .ok (.iload_n 2, 1) := by decide +kernel
theorem dX6_counts_97 : decode cX6_counts 97 = .ok (.iload 4, 2) := by decide +kernel
theorem dX6_counts_99 : decode cX6_counts 99 = .ok (.invokestatic 36, 3) := by decide +kernel
theorem dX6_counts_102 : decode cX6_counts 102 = .ok (.ishr, 1) := by decide +kernel
theorem dX6_counts_103 : decode cX6_counts 103 = .ok (.iconst 1, 1) := by decide +kernel
theorem dX6_counts_104 : decode cX6_counts 104 = .ok (.iand, 1) := by decide +kernel
theorem dX6_counts_105 : decode cX6_counts 105 = .ok (.iconst 1, 1) := by decide +kernel
theorem dX6_counts_106 : decode cX6_counts 106 = .ok (.if_icmp .ne 7, 3) := by decide +kernel
theorem dX6_counts_109 : decode cX6_counts 109 = .ok (.iconst 0, 1) := by decide +kernel
theorem dX6_counts_110 : decode cX6_counts 110 = .ok (.goto 4, 3) := by decide +kernel
theorem dX6_counts_113 : decode cX6_counts 113 = .ok (.iload_n 3, 1) := by decide +kernel
theorem dX6_counts_114 : decode cX6_counts 114 = .ok (.iadd, 1) := by decide +kernel
theorem dX6_counts_115 : decode cX6_counts 115 = .ok (.iastore, 1) := by decide +kernel
theorem dX6_counts_116 : decode cX6_counts 116 = .ok (.iinc 4 1, 3) := by decide +kernel
theorem dX6_counts_119 : decode cX6_counts 119 = .ok (.goto (-116), 3) := by decide +kernel
theorem dX6_counts_122 : decode cX6_counts 122 = .ok (.return_, 1) := by decide +kernel
theorem dX6_stuckOf_0 : decode cX6_stuckOf 0 = .ok (.iconst 0, 1) := by decide +kernel
theorem dX6_stuckOf_1 : decode cX6_stuckOf 1 = .ok (.istore_n 2, 1) := by decide +kernel
theorem dX6_stuckOf_2 : decode cX6_stuckOf 2 = .ok (.iconst 0, 1) := by decide +kernel
theorem dX6_stuckOf_3 : decode cX6_stuckOf 3 = .ok (.istore_n 3, 1) := by decide +kernel
theorem dX6_stuckOf_4 : decode cX6_stuckOf 4 = .ok (.iload_n 3, 1) := by decide +kernel
theorem dX6_stuckOf_5 : decode cX6_stuckOf 5 = .ok (.bipush 24, 2) := by decide +kernel
theorem dX6_stuckOf_7 : decode cX6_stuckOf 7 = .ok (.if_icmp .ge 26, 3) := by decide +kernel
theorem dX6_stuckOf_10 : decode cX6_stuckOf 10 = .ok (.iload_n 2, 1) := by decide +kernel
theorem dX6_stuckOf_11 : decode cX6_stuckOf 11 = .ok (.aload_n 0, 1) := by decide +kernel
theorem dX6_stuckOf_12 : decode cX6_stuckOf 12 = .ok (.getfield 7, 3) := by decide +kernel
theorem dX6_stuckOf_15 : decode cX6_stuckOf 15 = .ok (.sipush 540, 3) := by decide +kernel
theorem dX6_stuckOf_18 : decode cX6_stuckOf 18 = .ok (.iload_n 1, 1) := by decide +kernel
theorem dX6_stuckOf_19 : decode cX6_stuckOf 19 = .ok (.iadd, 1) := by decide +kernel
theorem dX6_stuckOf_20 : decode cX6_stuckOf 20 = .ok (.iaload, 1) := by decide +kernel
theorem dX6_stuckOf_21 : decode cX6_stuckOf 21 = .ok (.iload_n 3, 1) := by decide +kernel
theorem dX6_stuckOf_22 : decode cX6_stuckOf 22 = .ok (.ishr, 1) := by decide +kernel
theorem dX6_stuckOf_23 : decode cX6_stuckOf 23 = .ok (.iconst 1, 1) := by decide +kernel
theorem dX6_stuckOf_24 : decode cX6_stuckOf 24 = .ok (.iand, 1) := by decide +kernel
theorem dX6_stuckOf_25 : decode cX6_stuckOf 25 = .ok (.iadd, 1) := by decide +kernel
theorem dX6_stuckOf_26 : decode cX6_stuckOf 26 = .ok (.istore_n 2, 1) := by decide +kernel
theorem dX6_stuckOf_27 : decode cX6_stuckOf 27 = .ok (.iinc 3 1, 3) := by decide +kernel
theorem dX6_stuckOf_30 : decode cX6_stuckOf 30 = .ok (.goto (-26), 3) := by decide +kernel
theorem dX6_stuckOf_33 : decode cX6_stuckOf 33 = .ok (.iload_n 2, 1) := by decide +kernel
theorem dX6_stuckOf_34 : decode cX6_stuckOf 34 = .ok (.ireturn, 1) := by decide +kernel
theorem dX6_isBit_0 : decode cX6_isBit 0 = .ok (.aload_n 0, 1) := by decide +kernel
theorem dX6_isBit_1 : decode cX6_isBit 1 = .ok (.getfield 7, 3) := by decide +kernel
theorem dX6_isBit_4 : decode cX6_isBit 4 = .ok (.sipush 448, 3) := by decide +kernel
theorem dX6_isBit_7 : decode cX6_isBit 7 = .ok (.bipush 16, 2) := by decide +kernel
theorem dX6_isBit_9 : decode cX6_isBit 9 = .ok (.iload_n 1, 1) := by decide +kernel
theorem dX6_isBit_10 : decode cX6_isBit 10 = .ok (.imul, 1) := by decide +kernel
theorem dX6_isBit_11 : decode cX6_isBit 11 = .ok (.iadd, 1) := by decide +kernel
theorem dX6_isBit_12 : decode cX6_isBit 12 = .ok (.iload_n 2, 1) := by decide +kernel
theorem dX6_isBit_13 : decode cX6_isBit 13 = .ok (.bipush 16, 2) := by decide +kernel
theorem dX6_isBit_15 : decode cX6_isBit 15 = .ok (.idiv, 1) := by decide +kernel
theorem dX6_isBit_16 : decode cX6_isBit 16 = .ok (.iadd, 1) := by decide +kernel
theorem dX6_isBit_17 : decode cX6_isBit 17 = .ok (.iaload, 1) := by decide +kernel
theorem dX6_isBit_18 : decode cX6_isBit 18 = .ok (.iconst 1, 1) := by decide +kernel
theorem dX6_isBit_19 : decode cX6_isBit 19 = .ok (.if_icmp .ne 7, 3) := by decide +kernel
theorem dX6_isBit_22 : decode cX6_isBit 22 = .ok (.iconst 1, 1) := by decide +kernel
theorem dX6_isBit_23 : decode cX6_isBit 23 = .ok (.goto 4, 3) := by decide +kernel
theorem dX6_isBit_26 : decode cX6_isBit 26 = .ok (.iconst 0, 1) := by decide +kernel
theorem dX6_isBit_27 : decode cX6_isBit 27 = .ok (.ireturn, 1) := by decide +kernel
set_option maxRecDepth 20000 in
theorem ggX6_mayHave_X6_isBit : GoodIn wsX6_mayHave wsX6_isBit := goodIn_r _ [6, 1, 14, 15, 16, 17, 18, 19, 20, 21, 22, 23, 24, 25, 26, 27, 28, 29, 30, 31] (by decide +kernel) (by decide +kernel)
set_option maxRecDepth 20000 in
theorem gX6_mayHave_X6_isBit : GoodIn wsX6_mayHave (wsV RX6 44 RX6 yX6_isBit wsX6_isBit) := goodIn_app (goodIn_of _ (by decide +kernel)) ggX6_mayHave_X6_isBit
set_option maxRecDepth 20000 in
theorem ggX6_mayHave_X6_counterAt : GoodIn wsX6_mayHave wsX6_counterAt := goodIn_r _ [10, 11, 12, 5, 13] (by decide +kernel) (by decide +kernel)
set_option maxRecDepth 20000 in
theorem gX6_mayHave_X6_counterAt : GoodIn wsX6_mayHave (wsV RX6 40 RX6 yX6_counterAt wsX6_counterAt) := goodIn_app (goodIn_of _ (by decide +kernel)) ggX6_mayHave_X6_counterAt
theorem dX6_mayHave_0 : decode cX6_mayHave 0 = .ok (.aload_n 0, 1) := by decide +kernel
theorem dX6_mayHave_1 : decode cX6_mayHave 1 = .ok (.iload_n 1, 1) := by decide +kernel
theorem dX6_mayHave_2 : decode cX6_mayHave 2 = .ok (.iload_n 2, 1) := by decide +kernel
theorem dX6_mayHave_3 : decode cX6_mayHave 3 = .ok (.invokevirtual 44, 3) := by decide +kernel
theorem dX6_mayHave_6 : decode cX6_mayHave 6 = .ok (.istore_n 3, 1) := by decide +kernel
theorem dX6_mayHave_7 : decode cX6_mayHave 7 = .ok (.iconst 0, 1) := by decide +kernel
theorem dX6_mayHave_8 : decode cX6_mayHave 8 = .ok (.istore 4, 2) := by decide +kernel
theorem dX6_mayHave_10 : decode cX6_mayHave 10 = .ok (.iload 4, 2) := by decide +kernel
theorem dX6_mayHave_12 : decode cX6_mayHave 12 = .ok (.iconst 2, 1) := by decide +kernel
theorem dX6_mayHave_13 : decode cX6_mayHave 13 = .ok (.if_icmp .ge 35, 3) := by decide +kernel
theorem dX6_mayHave_16 : decode cX6_mayHave 16 = .ok (.iload_n 3, 1) := by decide +kernel
theorem dX6_mayHave_17 : decode cX6_mayHave 17 = .ok (.ifCond .eq 23, 3) := by decide +kernel
theorem dX6_mayHave_20 : decode cX6_mayHave 20 = .ok (.aload_n 0, 1) := by decide +kernel
theorem dX6_mayHave_21 : decode cX6_mayHave 21 = .ok (.getfield 7, 3) := by decide +kernel
theorem dX6_mayHave_24 : decode cX6_mayHave 24 = .ok (.aload_n 0, 1) := by decide +kernel
theorem dX6_mayHave_25 : decode cX6_mayHave 25 = .ok (.iload_n 1, 1) := by decide +kernel
theorem dX6_mayHave_26 : decode cX6_mayHave 26 = .ok (.iload_n 2, 1) := by decide +kernel
theorem dX6_mayHave_27 : decode cX6_mayHave 27 = .ok (.iload 4, 2) := by decide +kernel
theorem dX6_mayHave_29 : decode cX6_mayHave 29 = .ok (.invokevirtual 40, 3) := by decide +kernel
theorem dX6_mayHave_32 : decode cX6_mayHave 32 = .ok (.iaload, 1) := by decide +kernel
theorem dX6_mayHave_33 : decode cX6_mayHave 33 = .ok (.ifCond .le 7, 3) := by decide +kernel
theorem dX6_mayHave_36 : decode cX6_mayHave 36 = .ok (.iconst 1, 1) := by decide +kernel
theorem dX6_mayHave_37 : decode cX6_mayHave 37 = .ok (.goto 4, 3) := by decide +kernel
theorem dX6_mayHave_40 : decode cX6_mayHave 40 = .ok (.iconst 0, 1) := by decide +kernel
theorem dX6_mayHave_41 : decode cX6_mayHave 41 = .ok (.istore_n 3, 1) := by decide +kernel
theorem dX6_mayHave_42 : decode cX6_mayHave 42 = .ok (.iinc 4 1, 3) := by decide +kernel
theorem dX6_mayHave_45 : decode cX6_mayHave 45 = .ok (.goto (-35), 3) := by decide +kernel
theorem dX6_mayHave_48 : decode cX6_mayHave 48 = .ok (.iload_n 3, 1) := by decide +kernel
theorem dX6_mayHave_49 : decode cX6_mayHave 49 = .ok (.ireturn, 1) := by decide +kernel
theorem dX6_countersFrom_0 : decode cX6_countersFrom 0 = .ok (.iconst 0, 1) := by decide +kernel
theorem dX6_countersFrom_1 : decode cX6_countersFrom 1 = .ok (.istore_n 3, 1) := by decide +kernel
theorem dX6_countersFrom_2 : decode cX6_countersFrom 2 = .ok (.iconst 0, 1) := by decide +kernel
theorem dX6_countersFrom_3 : decode cX6_countersFrom 3 = .ok (.istore 4, 2) := by decide +kernel
theorem dX6_countersFrom_5 : decode cX6_countersFrom 5 = .ok (.iload 4, 2) := by decide +kernel
theorem dX6_countersFrom_7 : decode cX6_countersFrom 7 = .ok (.bipush 24, 2) := by decide +kernel
theorem dX6_countersFrom_9 : decode cX6_countersFrom 9 = .ok (.if_icmp .ge 37, 3) := by decide +kernel
theorem dX6_countersFrom_12 : decode cX6_countersFrom 12 = .ok (.iload_n 3, 1) := by decide +kernel
theorem dX6_countersFrom_13 : decode cX6_countersFrom 13 = .ok (.aload_n 0, 1) := by decide +kernel
theorem dX6_countersFrom_14 : decode cX6_countersFrom 14 = .ok (.getfield 7, 3) := by decide +kernel
theorem dX6_countersFrom_17 : decode cX6_countersFrom 17 = .ok (.sipush 352, 3) := by decide +kernel
theorem dX6_countersFrom_20 : decode cX6_countersFrom 20 = .ok (.bipush 24, 2) := by decide +kernel
theorem dX6_countersFrom_22 : decode cX6_countersFrom 22 = .ok (.iload_n 1, 1) := by decide +kernel
theorem dX6_countersFrom_23 : decode cX6_countersFrom 23 = .ok (.imul, 1) := by decide +kernel
theorem dX6_countersFrom_24 : decode cX6_countersFrom 24 = .ok (.iadd, 1) := by decide +kernel
theorem dX6_countersFrom_25 : decode cX6_countersFrom 25 = .ok (.iload 4, 2) := by decide +kernel
theorem dX6_countersFrom_27 : decode cX6_countersFrom 27 = .ok (.iadd, 1) := by decide +kernel
theorem dX6_countersFrom_28 : decode cX6_countersFrom 28 = .ok (.iaload, 1) := by decide +kernel
theorem dX6_countersFrom_29 : decode cX6_countersFrom 29 = .ok (.iload_n 2, 1) := by decide +kernel
theorem dX6_countersFrom_30 : decode cX6_countersFrom 30 = .ok (.if_icmp .lt 7, 3) := by decide +kernel
theorem dX6_countersFrom_33 : decode cX6_countersFrom 33 = .ok (.iconst 1, 1) := by decide +kernel
theorem dX6_countersFrom_34 : decode cX6_countersFrom 34 = .ok (.goto 4, 3) := by decide +kernel
theorem dX6_countersFrom_37 : decode cX6_countersFrom 37 = .ok (.iconst 0, 1) := by decide +kernel
theorem dX6_countersFrom_38 : decode cX6_countersFrom 38 = .ok (.iadd, 1) := by decide +kernel
theorem dX6_countersFrom_39 : decode cX6_countersFrom 39 = .ok (.istore_n 3, 1) := by decide +kernel
theorem dX6_countersFrom_40 : decode cX6_countersFrom 40 = .ok (.iinc 4 1, 3) := by decide +kernel
theorem dX6_countersFrom_43 : decode cX6_countersFrom 43 = .ok (.goto (-38), 3) := by decide +kernel
theorem dX6_countersFrom_46 : decode cX6_countersFrom 46 = .ok (.iload_n 3, 1) := by decide +kernel
theorem dX6_countersFrom_47 : decode cX6_countersFrom 47 = .ok (.ireturn, 1) := by decide +kernel
theorem dX6_bits_0 : decode cX6_bits 0 = .ok (.iconst 0, 1) := by decide +kernel
theorem dX6_bits_1 : decode cX6_bits 1 = .ok (.istore_n 2, 1) := by decide +kernel
theorem dX6_bits_2 : decode cX6_bits 2 = .ok (.iconst 0, 1) := by decide +kernel
theorem dX6_bits_3 : decode cX6_bits 3 = .ok (.istore_n 3, 1) := by decide +kernel
theorem dX6_bits_4 : decode cX6_bits 4 = .ok (.iload_n 3, 1) := by decide +kernel
theorem dX6_bits_5 : decode cX6_bits 5 = .ok (.bipush 16, 2) := by decide +kernel
theorem dX6_bits_7 : decode cX6_bits 7 = .ok (.if_icmp .ge 27, 3) := by decide +kernel
theorem dX6_bits_10 : decode cX6_bits 10 = .ok (.iload_n 2, 1) := by decide +kernel
theorem dX6_bits_11 : decode cX6_bits 11 = .ok (.aload_n 0, 1) := by decide +kernel
theorem dX6_bits_12 : decode cX6_bits 12 = .ok (.getfield 7, 3) := by decide +kernel
theorem dX6_bits_15 : decode cX6_bits 15 = .ok (.sipush 448, 3) := by decide +kernel
theorem dX6_bits_18 : decode cX6_bits 18 = .ok (.bipush 16, 2) := by decide +kernel
theorem dX6_bits_20 : decode cX6_bits 20 = .ok (.iload_n 1, 1) := by decide +kernel
theorem dX6_bits_21 : decode cX6_bits 21 = .ok (.imul, 1) := by decide +kernel
theorem dX6_bits_22 : decode cX6_bits 22 = .ok (.iadd, 1) := by decide +kernel
theorem dX6_bits_23 : decode cX6_bits 23 = .ok (.iload_n 3, 1) := by decide +kernel
theorem dX6_bits_24 : decode cX6_bits 24 = .ok (.iadd, 1) := by decide +kernel
theorem dX6_bits_25 : decode cX6_bits 25 = .ok (.iaload, 1) := by decide +kernel
theorem dX6_bits_26 : decode cX6_bits 26 = .ok (.iadd, 1) := by decide +kernel
theorem dX6_bits_27 : decode cX6_bits 27 = .ok (.istore_n 2, 1) := by decide +kernel
theorem dX6_bits_28 : decode cX6_bits 28 = .ok (.iinc 3 1, 3) := by decide +kernel
theorem dX6_bits_31 : decode cX6_bits 31 = .ok (.goto (-27), 3) := by decide +kernel
theorem dX6_bits_34 : decode cX6_bits 34 = .ok (.iload_n 2, 1) := by decide +kernel
theorem dX6_bits_35 : decode cX6_bits 35 = .ok (.ireturn, 1) := by decide +kernel
theorem dX6_clears_0 : decode cX6_clears 0 = .ok (.iconst 0, 1) := by decide +kernel
theorem dX6_clears_1 : decode cX6_clears 1 = .ok (.istore_n 2, 1) := by decide +kernel
theorem dX6_clears_2 : decode cX6_clears 2 = .ok (.iload_n 2, 1) := by decide +kernel
theorem dX6_clears_3 : decode cX6_clears 3 = .ok (.bipush 24, 2) := by decide +kernel
theorem dX6_clears_5 : decode cX6_clears 5 = .ok (.if_icmp .ge 25, 3) := by decide +kernel
theorem dX6_clears_8 : decode cX6_clears 8 = .ok (.aload_n 0, 1) := by decide +kernel
theorem dX6_clears_9 : decode cX6_clears 9 = .ok (.getfield 7, 3) := by decide +kernel
theorem dX6_clears_12 : decode cX6_clears 12 = .ok (.sipush 352, 3) := by decide +kernel
theorem dX6_clears_15 : decode cX6_clears 15 = .ok (.bipush 24, 2) := by decide +kernel
theorem dX6_clears_17 : decode cX6_clears 17 = .ok (.iload_n 1, 1) := by decide +kernel
theorem dX6_clears_18 : decode cX6_clears 18 = .ok (.imul, 1) := by decide +kernel
theorem dX6_clears_19 : decode cX6_clears 19 = .ok (.iadd, 1) := by decide +kernel
theorem dX6_clears_20 : decode cX6_clears 20 = .ok (.iload_n 2, 1) := by decide +kernel
theorem dX6_clears_21 : decode cX6_clears 21 = .ok (.iadd, 1) := by decide +kernel
theorem dX6_clears_22 : decode cX6_clears 22 = .ok (.iconst 0, 1) := by decide +kernel
theorem dX6_clears_23 : decode cX6_clears 23 = .ok (.iastore, 1) := by decide +kernel
theorem dX6_clears_24 : decode cX6_clears 24 = .ok (.iinc 2 1, 3) := by decide +kernel
theorem dX6_clears_27 : decode cX6_clears 27 = .ok (.goto (-25), 3) := by decide +kernel
theorem dX6_clears_30 : decode cX6_clears 30 = .ok (.iconst 0, 1) := by decide +kernel
theorem dX6_clears_31 : decode cX6_clears 31 = .ok (.istore_n 2, 1) := by decide +kernel
theorem dX6_clears_32 : decode cX6_clears 32 = .ok (.iload_n 2, 1) := by decide +kernel
theorem dX6_clears_33 : decode cX6_clears 33 = .ok (.bipush 16, 2) := by decide +kernel
theorem dX6_clears_35 : decode cX6_clears 35 = .ok (.if_icmp .ge 25, 3) := by decide +kernel
theorem dX6_clears_38 : decode cX6_clears 38 = .ok (.aload_n 0, 1) := by decide +kernel
theorem dX6_clears_39 : decode cX6_clears 39 = .ok (.getfield 7, 3) := by decide +kernel
theorem dX6_clears_42 : decode cX6_clears 42 = .ok (.sipush 448, 3) := by decide +kernel
theorem dX6_clears_45 : decode cX6_clears 45 = .ok (.bipush 16, 2) := by decide +kernel
theorem dX6_clears_47 : decode cX6_clears 47 = .ok (.iload_n 1, 1) := by decide +kernel
theorem dX6_clears_48 : decode cX6_clears 48 = .ok (.imul, 1) := by decide +kernel
theorem dX6_clears_49 : decode cX6_clears 49 = .ok (.iadd, 1) := by decide +kernel
theorem dX6_clears_50 : decode cX6_clears 50 = .ok (.iload_n 2, 1) := by decide +kernel
theorem dX6_clears_51 : decode cX6_clears 51 = .ok (.iadd, 1) := by decide +kernel
theorem dX6_clears_52 : decode cX6_clears 52 = .ok (.iconst 0, 1) := by decide +kernel
theorem dX6_clears_53 : decode cX6_clears 53 = .ok (.iastore, 1) := by decide +kernel
theorem dX6_clears_54 : decode cX6_clears 54 = .ok (.iinc 2 1, 3) := by decide +kernel
theorem dX6_clears_57 : decode cX6_clears 57 = .ok (.goto (-25), 3) := by decide +kernel
theorem dX6_clears_60 : decode cX6_clears 60 = .ok (.aload_n 0, 1) := by decide +kernel
theorem dX6_clears_61 : decode cX6_clears 61 = .ok (.getfield 7, 3) := by decide +kernel
theorem dX6_clears_64 : decode cX6_clears 64 = .ok (.sipush 540, 3) := by decide +kernel
theorem dX6_clears_67 : decode cX6_clears 67 = .ok (.iload_n 1, 1) := by decide +kernel
theorem dX6_clears_68 : decode cX6_clears 68 = .ok (.iadd, 1) := by decide +kernel
theorem dX6_clears_69 : decode cX6_clears 69 = .ok (.iconst 0, 1) := by decide +kernel
theorem dX6_clears_70 : decode cX6_clears 70 = .ok (.iastore, 1) := by decide +kernel
theorem dX6_clears_71 : decode cX6_clears 71 = .ok (.return_, 1) := by decide +kernel
set_option maxRecDepth 20000 in
theorem ggX6_holds_X6_placeOf : GoodIn wsX6_holds wsX6_placeOf := goodIn_r _ [5] (by decide +kernel) (by decide +kernel)
set_option maxRecDepth 20000 in
theorem gX6_holds_X6_placeOf : GoodIn wsX6_holds (va_wsS RX6 48 yX6_placeOf wsX6_placeOf) := goodIn_app (goodIn_of _ (by decide +kernel)) ggX6_holds_X6_placeOf
theorem dX6_holds_0 : decode cX6_holds 0 = .ok (.aload_n 0, 1) := by decide +kernel
theorem dX6_holds_1 : decode cX6_holds 1 = .ok (.getfield 7, 3) := by decide +kernel
theorem dX6_holds_4 : decode cX6_holds 4 = .ok (.sipush 256, 3) := by decide +kernel
theorem dX6_holds_7 : decode cX6_holds 7 = .ok (.iload_n 1, 1) := by decide +kernel
theorem dX6_holds_8 : decode cX6_holds 8 = .ok (.iload_n 2, 1) := by decide +kernel
theorem dX6_holds_9 : decode cX6_holds 9 = .ok (.invokestatic 48, 3) := by decide +kernel
theorem dX6_holds_12 : decode cX6_holds 12 = .ok (.iadd, 1) := by decide +kernel
theorem dX6_holds_13 : decode cX6_holds 13 = .ok (.iaload, 1) := by decide +kernel
theorem dX6_holds_14 : decode cX6_holds 14 = .ok (.iload_n 2, 1) := by decide +kernel
theorem dX6_holds_15 : decode cX6_holds 15 = .ok (.if_icmp .ne 7, 3) := by decide +kernel
theorem dX6_holds_18 : decode cX6_holds 18 = .ok (.iconst 1, 1) := by decide +kernel
theorem dX6_holds_19 : decode cX6_holds 19 = .ok (.goto 4, 3) := by decide +kernel
theorem dX6_holds_22 : decode cX6_holds 22 = .ok (.iconst 0, 1) := by decide +kernel
theorem dX6_holds_23 : decode cX6_holds 23 = .ok (.ireturn, 1) := by decide +kernel
theorem dX6_writesBack_0 : decode cX6_writesBack 0 = .ok (.aload_n 0, 1) := by decide +kernel
theorem dX6_writesBack_1 : decode cX6_writesBack 1 = .ok (.getfield 7, 3) := by decide +kernel
theorem dX6_writesBack_4 : decode cX6_writesBack 4 = .ok (.sipush 256, 3) := by decide +kernel
theorem dX6_writesBack_7 : decode cX6_writesBack 7 = .ok (.iload_n 1, 1) := by decide +kernel
theorem dX6_writesBack_8 : decode cX6_writesBack 8 = .ok (.iadd, 1) := by decide +kernel
theorem dX6_writesBack_9 : decode cX6_writesBack 9 = .ok (.iaload, 1) := by decide +kernel
theorem dX6_writesBack_10 : decode cX6_writesBack 10 = .ok (.bipush (-5), 2) := by decide +kernel
theorem dX6_writesBack_12 : decode cX6_writesBack 12 = .ok (.if_icmp .eq 67, 3) := by decide +kernel
theorem dX6_writesBack_15 : decode cX6_writesBack 15 = .ok (.aload_n 0, 1) := by decide +kernel
theorem dX6_writesBack_16 : decode cX6_writesBack 16 = .ok (.getfield 7, 3) := by decide +kernel
theorem dX6_writesBack_19 : decode cX6_writesBack 19 = .ok (.sipush 320, 3) := by decide +kernel
theorem dX6_writesBack_22 : decode cX6_writesBack 22 = .ok (.iload_n 1, 1) := by decide +kernel
theorem dX6_writesBack_23 : decode cX6_writesBack 23 = .ok (.iadd, 1) := by decide +kernel
theorem dX6_writesBack_24 : decode cX6_writesBack 24 = .ok (.iaload, 1) := by decide +kernel
theorem dX6_writesBack_25 : decode cX6_writesBack 25 = .ok (.iconst 1, 1) := by decide +kernel
theorem dX6_writesBack_26 : decode cX6_writesBack 26 = .ok (.if_icmp .ne 53, 3) := by decide +kernel
theorem dX6_writesBack_29 : decode cX6_writesBack 29 = .ok (.aload_n 0, 1) := by decide +kernel
theorem dX6_writesBack_30 : decode cX6_writesBack 30 = .ok (.getfield 7, 3) := by decide +kernel
theorem dX6_writesBack_33 : decode cX6_writesBack 33 = .ok (.iconst 0, 1) := by decide +kernel
theorem dX6_writesBack_34 : decode cX6_writesBack 34 = .ok (.aload_n 0, 1) := by decide +kernel
theorem dX6_writesBack_35 : decode cX6_writesBack 35 = .ok (.getfield 7, 3) := by decide +kernel
theorem dX6_writesBack_38 : decode cX6_writesBack 38 = .ok (.sipush 256, 3) := by decide +kernel
theorem dX6_writesBack_41 : decode cX6_writesBack 41 = .ok (.iload_n 1, 1) := by decide +kernel
theorem dX6_writesBack_42 : decode cX6_writesBack 42 = .ok (.iadd, 1) := by decide +kernel
theorem dX6_writesBack_43 : decode cX6_writesBack 43 = .ok (.iaload, 1) := by decide +kernel
theorem dX6_writesBack_44 : decode cX6_writesBack 44 = .ok (.iadd, 1) := by decide +kernel
theorem dX6_writesBack_45 : decode cX6_writesBack 45 = .ok (.aload_n 0, 1) := by decide +kernel
theorem dX6_writesBack_46 : decode cX6_writesBack 46 = .ok (.getfield 7, 3) := by decide +kernel
theorem dX6_writesBack_49 : decode cX6_writesBack 49 = .ok (.sipush 288, 3) := by decide +kernel
theorem dX6_writesBack_52 : decode cX6_writesBack 52 = .ok (.iload_n 1, 1) := by decide +kernel
theorem dX6_writesBack_53 : decode cX6_writesBack 53 = .ok (.iadd, 1) := by decide +kernel
theorem dX6_writesBack_54 : decode cX6_writesBack 54 = .ok (.iaload, 1) := by decide +kernel
theorem dX6_writesBack_55 : decode cX6_writesBack 55 = .ok (.iastore, 1) := by decide +kernel
theorem dX6_writesBack_56 : decode cX6_writesBack 56 = .ok (.aload_n 0, 1) := by decide +kernel
theorem dX6_writesBack_57 : decode cX6_writesBack 57 = .ok (.getfield 7, 3) := by decide +kernel
theorem dX6_writesBack_60 : decode cX6_writesBack 60 = .ok (.sipush 320, 3) := by decide +kernel
theorem dX6_writesBack_63 : decode cX6_writesBack 63 = .ok (.iload_n 1, 1) := by decide +kernel
theorem dX6_writesBack_64 : decode cX6_writesBack 64 = .ok (.iadd, 1) := by decide +kernel
theorem dX6_writesBack_65 : decode cX6_writesBack 65 = .ok (.iconst 0, 1) := by decide +kernel
theorem dX6_writesBack_66 : decode cX6_writesBack 66 = .ok (.iastore, 1) := by decide +kernel
theorem dX6_writesBack_67 : decode cX6_writesBack 67 = .ok (.aload_n 0, 1) := by decide +kernel
theorem dX6_writesBack_68 : decode cX6_writesBack 68 = .ok (.getfield 7, 3) := by decide +kernel
theorem dX6_writesBack_71 : decode cX6_writesBack 71 = .ok (.sipush 538, 3) := by decide +kernel
theorem dX6_writesBack_74 : decode cX6_writesBack 74 = .ok (.dup2, 1) := by decide +kernel
theorem dX6_writesBack_75 : decode cX6_writesBack 75 = .ok (.iaload, 1) := by decide +kernel
theorem dX6_writesBack_76 : decode cX6_writesBack 76 = .ok (.iconst 1, 1) := by decide +kernel
theorem dX6_writesBack_77 : decode cX6_writesBack 77 = .ok (.iadd, 1) := by decide +kernel
theorem dX6_writesBack_78 : decode cX6_writesBack 78 = .ok (.iastore, 1) := by decide +kernel
theorem dX6_writesBack_79 : decode cX6_writesBack 79 = .ok (.return_, 1) := by decide +kernel
set_option maxRecDepth 20000 in
theorem ggX6_leaves_X6_counts : GoodIn wsX6_leaves wsX6_counts := goodIn_r _ [6, 1, 7, 8, 9, 5, 10, 11, 12, 13, 14, 15, 16, 17, 18, 19, 20, 21, 22, 23, 24, 25, 26, 27, 28, 29, 30, 31] (by decide +kernel) (by decide +kernel)
set_option maxRecDepth 20000 in
theorem gX6_leaves_X6_counts : GoodIn wsX6_leaves (wsV RX6 51 RX6 yX6_counts wsX6_counts) := goodIn_app (goodIn_of _ (by decide +kernel)) ggX6_leaves_X6_counts
theorem dX6_leaves_0 : decode cX6_leaves 0 = .ok (.aload_n 0, 1) := by decide +kernel
theorem dX6_leaves_1 : decode cX6_leaves 1 = .ok (.getfield 7, 3) := by decide +kernel
theorem dX6_leaves_4 : decode cX6_leaves 4 = .ok (.sipush 256, 3) := by decide +kernel
theorem dX6_leaves_7 : decode cX6_leaves 7 = .ok (.iload_n 2, 1) := by decide +kernel
theorem dX6_leaves_8 : decode cX6_leaves 8 = .ok (.iadd, 1) := by decide +kernel
theorem dX6_leaves_9 : decode cX6_leaves 9 = .ok (.iaload, 1) := by decide +kernel
theorem dX6_leaves_10 : decode cX6_leaves 10 = .ok (.istore_n 3, 1) := by decide +kernel
theorem dX6_leaves_11 : decode cX6_leaves 11 = .ok (.iload_n 3, 1) := by decide +kernel
theorem dX6_leaves_12 : decode cX6_leaves 12 = .ok (.bipush (-5), 2) := by decide +kernel
theorem dX6_leaves_14 : decode cX6_leaves 14 = .ok (.if_icmp .eq 44, 3) := by decide +kernel
theorem dX6_leaves_17 : decode cX6_leaves 17 = .ok (.aload_n 0, 1) := by decide +kernel
theorem dX6_leaves_18 : decode cX6_leaves 18 = .ok (.iload_n 1, 1) := by decide +kernel
theorem dX6_leaves_19 : decode cX6_leaves 19 = .ok (.iload_n 3, 1) := by decide +kernel
theorem dX6_leaves_20 : decode cX6_leaves 20 = .ok (.iconst (-1), 1) := by decide +kernel
theorem dX6_leaves_21 : decode cX6_leaves 21 = .ok (.invokevirtual 51, 3) := by decide +kernel
theorem dX6_leaves_24 : decode cX6_leaves 24 = .ok (.aload_n 0, 1) := by decide +kernel
theorem dX6_leaves_25 : decode cX6_leaves 25 = .ok (.getfield 7, 3) := by decide +kernel
theorem dX6_leaves_28 : decode cX6_leaves 28 = .ok (.sipush 256, 3) := by decide +kernel
theorem dX6_leaves_31 : decode cX6_leaves 31 = .ok (.iload_n 2, 1) := by decide +kernel
theorem dX6_leaves_32 : decode cX6_leaves 32 = .ok (.iadd, 1) := by decide +kernel
theorem dX6_leaves_33 : decode cX6_leaves 33 = .ok (.bipush (-5), 2) := by decide +kernel
theorem dX6_leaves_35 : decode cX6_leaves 35 = .ok (.iastore, 1) := by decide +kernel
theorem dX6_leaves_36 : decode cX6_leaves 36 = .ok (.aload_n 0, 1) := by decide +kernel
theorem dX6_leaves_37 : decode cX6_leaves 37 = .ok (.getfield 7, 3) := by decide +kernel
theorem dX6_leaves_40 : decode cX6_leaves 40 = .ok (.sipush 288, 3) := by decide +kernel
theorem dX6_leaves_43 : decode cX6_leaves 43 = .ok (.iload_n 2, 1) := by decide +kernel
theorem dX6_leaves_44 : decode cX6_leaves 44 = .ok (.iadd, 1) := by decide +kernel
theorem dX6_leaves_45 : decode cX6_leaves 45 = .ok (.iconst 0, 1) := by decide +kernel
theorem dX6_leaves_46 : decode cX6_leaves 46 = .ok (.iastore, 1) := by decide +kernel
theorem dX6_leaves_47 : decode cX6_leaves 47 = .ok (.aload_n 0, 1) := by decide +kernel
theorem dX6_leaves_48 : decode cX6_leaves 48 = .ok (.getfield 7, 3) := by decide +kernel
theorem dX6_leaves_51 : decode cX6_leaves 51 = .ok (.sipush 320, 3) := by decide +kernel
theorem dX6_leaves_54 : decode cX6_leaves 54 = .ok (.iload_n 2, 1) := by decide +kernel
theorem dX6_leaves_55 : decode cX6_leaves 55 = .ok (.iadd, 1) := by decide +kernel
theorem dX6_leaves_56 : decode cX6_leaves 56 = .ok (.iconst 0, 1) := by decide +kernel
theorem dX6_leaves_57 : decode cX6_leaves 57 = .ok (.iastore, 1) := by decide +kernel
theorem dX6_leaves_58 : decode cX6_leaves 58 = .ok (.return_, 1) := by decide +kernel
set_option maxRecDepth 20000 in
theorem ggX6_notes_X6_counts : GoodIn wsX6_notes wsX6_counts := goodIn_r _ [6, 1, 7, 8, 9, 5, 10, 11, 12, 13, 14, 15, 16, 17, 18, 19, 20, 21, 22, 23, 24, 25, 26, 27, 28, 29, 30, 31] (by decide +kernel) (by decide +kernel)
set_option maxRecDepth 20000 in
theorem gX6_notes_X6_counts : GoodIn wsX6_notes (wsV RX6 51 RX6 yX6_counts wsX6_counts) := goodIn_app (goodIn_of _ (by decide +kernel)) ggX6_notes_X6_counts
theorem dX6_notes_0 : decode cX6_notes 0 = .ok (.aload_n 0, 1) := by decide +kernel
theorem dX6_notes_1 : decode cX6_notes 1 = .ok (.getfield 7, 3) := by decide +kernel
theorem dX6_notes_4 : decode cX6_notes 4 = .ok (.sipush 448, 3) := by decide +kernel
theorem dX6_notes_7 : decode cX6_notes 7 = .ok (.bipush 16, 2) := by decide +kernel
theorem dX6_notes_9 : decode cX6_notes 9 = .ok (.iload_n 1, 1) := by decide +kernel
theorem dX6_notes_10 : decode cX6_notes 10 = .ok (.imul, 1) := by decide +kernel
theorem dX6_notes_11 : decode cX6_notes 11 = .ok (.iadd, 1) := by decide +kernel
theorem dX6_notes_12 : decode cX6_notes 12 = .ok (.iload_n 2, 1) := by decide +kernel
theorem dX6_notes_13 : decode cX6_notes 13 = .ok (.bipush 16, 2) := by decide +kernel
theorem dX6_notes_15 : decode cX6_notes 15 = .ok (.idiv, 1) := by decide +kernel
theorem dX6_notes_16 : decode cX6_notes 16 = .ok (.iadd, 1) := by decide +kernel
theorem dX6_notes_17 : decode cX6_notes 17 = .ok (.iconst 1, 1) := by decide +kernel
theorem dX6_notes_18 : decode cX6_notes 18 = .ok (.iastore, 1) := by decide +kernel
theorem dX6_notes_19 : decode cX6_notes 19 = .ok (.aload_n 0, 1) := by decide +kernel
theorem dX6_notes_20 : decode cX6_notes 20 = .ok (.iload_n 1, 1) := by decide +kernel
theorem dX6_notes_21 : decode cX6_notes 21 = .ok (.iload_n 2, 1) := by decide +kernel
theorem dX6_notes_22 : decode cX6_notes 22 = .ok (.iconst 1, 1) := by decide +kernel
theorem dX6_notes_23 : decode cX6_notes 23 = .ok (.invokevirtual 51, 3) := by decide +kernel
theorem dX6_notes_26 : decode cX6_notes 26 = .ok (.return_, 1) := by decide +kernel
set_option maxRecDepth 20000 in
theorem ggX6_forgets_X6_writesBack : GoodIn wsX6_forgets wsX6_writesBack := goodIn_r _ [6, 1, 29, 30, 31, 32, 33, 34, 35, 36, 37, 38, 39, 40, 41, 42, 43, 44, 45, 46] (by decide +kernel) (by decide +kernel)
set_option maxRecDepth 20000 in
theorem gX6_forgets_X6_writesBack : GoodIn wsX6_forgets (wsV RX6 55 RX6 yX6_writesBack wsX6_writesBack) := goodIn_app (goodIn_of _ (by decide +kernel)) ggX6_forgets_X6_writesBack
set_option maxRecDepth 20000 in
theorem ggX6_forgets_X6_leaves : GoodIn wsX6_forgets wsX6_leaves := goodIn_r _ [10, 1, 11, 12, 13, 5, 14, 15, 16, 17, 18, 19, 20, 21, 29, 30, 31, 32, 33, 34, 35, 36, 37, 38, 39, 40, 41, 42, 43, 44, 45, 46] (by decide +kernel) (by decide +kernel)
set_option maxRecDepth 20000 in
theorem gX6_forgets_X6_leaves : GoodIn wsX6_forgets (wsV RX6 59 RX6 yX6_leaves wsX6_leaves) := goodIn_app (goodIn_of _ (by decide +kernel)) ggX6_forgets_X6_leaves
set_option maxRecDepth 20000 in
theorem ggX6_forgets_X6_clears : GoodIn wsX6_forgets wsX6_clears := goodIn_r _ [25, 1, 29, 30, 31, 32, 33, 34, 35, 36, 37, 38, 39, 40, 41, 42, 43, 44, 45, 46] (by decide +kernel) (by decide +kernel)
set_option maxRecDepth 20000 in
theorem gX6_forgets_X6_clears : GoodIn wsX6_forgets (wsV RX6 63 RX6 yX6_clears wsX6_clears) := goodIn_app (goodIn_of _ (by decide +kernel)) ggX6_forgets_X6_clears
set_option maxRecDepth 20000 in
theorem ggX6_forgets_X6_told : GoodIn wsX6_forgets wsX6_told := goodIn_r _ [28] (by decide +kernel) (by decide +kernel)
set_option maxRecDepth 20000 in
theorem gX6_forgets_X6_told : GoodIn wsX6_forgets (va_wsS RX6 66 yX6_told wsX6_told) := goodIn_app (goodIn_of _ (by decide +kernel)) ggX6_forgets_X6_told
theorem dX6_forgets_0 : decode cX6_forgets 0 = .ok (.iconst 0, 1) := by decide +kernel
theorem dX6_forgets_1 : decode cX6_forgets 1 = .ok (.istore_n 3, 1) := by decide +kernel
theorem dX6_forgets_2 : decode cX6_forgets 2 = .ok (.bipush 8, 2) := by decide +kernel
theorem dX6_forgets_4 : decode cX6_forgets 4 = .ok (.iload_n 1, 1) := by decide +kernel
theorem dX6_forgets_5 : decode cX6_forgets 5 = .ok (.imul, 1) := by decide +kernel
theorem dX6_forgets_6 : decode cX6_forgets 6 = .ok (.istore 4, 2) := by decide +kernel
theorem dX6_forgets_8 : decode cX6_forgets 8 = .ok (.iload 4, 2) := by decide +kernel
theorem dX6_forgets_10 : decode cX6_forgets 10 = .ok (.bipush 8, 2) := by decide +kernel
theorem dX6_forgets_12 : decode cX6_forgets 12 = .ok (.iload_n 1, 1) := by decide +kernel
theorem dX6_forgets_13 : decode cX6_forgets 13 = .ok (.imul, 1) := by decide +kernel
theorem dX6_forgets_14 : decode cX6_forgets 14 = .ok (.bipush 8, 2) := by decide +kernel
theorem dX6_forgets_16 : decode cX6_forgets 16 = .ok (.iadd, 1) := by decide +kernel
theorem dX6_forgets_17 : decode cX6_forgets 17 = .ok (.if_icmp .ge 68, 3) := by decide +kernel
theorem dX6_forgets_20 : decode cX6_forgets 20 = .ok (.aload_n 0, 1) := by decide +kernel
theorem dX6_forgets_21 : decode cX6_forgets 21 = .ok (.getfield 7, 3) := by decide +kernel
theorem dX6_forgets_24 : decode cX6_forgets 24 = .ok (.sipush 256, 3) := by decide +kernel
theorem dX6_forgets_27 : decode cX6_forgets 27 = .ok (.iload 4, 2) := by decide +kernel
theorem dX6_forgets_29 : decode cX6_forgets 29 = .ok (.iadd, 1) := by decide +kernel
theorem dX6_forgets_30 : decode cX6_forgets 30 = .ok (.iaload, 1) := by decide +kernel
theorem dX6_forgets_31 : decode cX6_forgets 31 = .ok (.bipush (-5), 2) := by decide +kernel
theorem dX6_forgets_33 : decode cX6_forgets 33 = .ok (.if_icmp .eq 22, 3) := by decide +kernel
theorem dX6_forgets_36 : decode cX6_forgets 36 = .ok (.aload_n 0, 1) := by decide +kernel
theorem dX6_forgets_37 : decode cX6_forgets 37 = .ok (.getfield 7, 3) := by decide +kernel
theorem dX6_forgets_40 : decode cX6_forgets 40 = .ok (.sipush 256, 3) := by decide +kernel
theorem dX6_forgets_43 : decode cX6_forgets 43 = .ok (.iload 4, 2) := by decide +kernel
theorem dX6_forgets_45 : decode cX6_forgets 45 = .ok (.iadd, 1) := by decide +kernel
theorem dX6_forgets_46 : decode cX6_forgets 46 = .ok (.iaload, 1) := by decide +kernel
theorem dX6_forgets_47 : decode cX6_forgets 47 = .ok (.iload_n 2, 1) := by decide +kernel
theorem dX6_forgets_48 : decode cX6_forgets 48 = .ok (.if_icmp .eq 7, 3) := by decide +kernel
theorem dX6_forgets_51 : decode cX6_forgets 51 = .ok (.iconst 1, 1) := by decide +kernel
theorem dX6_forgets_52 : decode cX6_forgets 52 = .ok (.goto 4, 3) := by decide +kernel
theorem dX6_forgets_55 : decode cX6_forgets 55 = .ok (.iconst 0, 1) := by decide +kernel
theorem dX6_forgets_56 : decode cX6_forgets 56 = .ok (.istore 5, 2) := by decide +kernel
theorem dX6_forgets_58 : decode cX6_forgets 58 = .ok (.iload 5, 2) := by decide +kernel
theorem dX6_forgets_60 : decode cX6_forgets 60 = .ok (.ifCond .eq 19, 3) := by decide +kernel
theorem dX6_forgets_63 : decode cX6_forgets 63 = .ok (.aload_n 0, 1) := by decide +kernel
theorem dX6_forgets_64 : decode cX6_forgets 64 = .ok (.iload 4, 2) := by decide +kernel
theorem dX6_forgets_66 : decode cX6_forgets 66 = .ok (.invokevirtual 55, 3) := by decide +kernel
theorem dX6_forgets_69 : decode cX6_forgets 69 = .ok (.aload_n 0, 1) := by decide +kernel
theorem dX6_forgets_70 : decode cX6_forgets 70 = .ok (.iload_n 1, 1) := by decide +kernel
theorem dX6_forgets_71 : decode cX6_forgets 71 = .ok (.iload 4, 2) := by decide +kernel
theorem dX6_forgets_73 : decode cX6_forgets 73 = .ok (.invokevirtual 59, 3) := by decide +kernel
theorem dX6_forgets_76 : decode cX6_forgets 76 = .ok (.iinc 3 1, 3) := by decide +kernel
theorem dX6_forgets_79 : decode cX6_forgets 79 = .ok (.iinc 4 1, 3) := by decide +kernel
theorem dX6_forgets_82 : decode cX6_forgets 82 = .ok (.goto (-74), 3) := by decide +kernel
theorem dX6_forgets_85 : decode cX6_forgets 85 = .ok (.aload_n 0, 1) := by decide +kernel
theorem dX6_forgets_86 : decode cX6_forgets 86 = .ok (.iload_n 1, 1) := by decide +kernel
theorem dX6_forgets_87 : decode cX6_forgets 87 = .ok (.invokevirtual 63, 3) := by decide +kernel
theorem dX6_forgets_90 : decode cX6_forgets 90 = .ok (.aload_n 0, 1) := by decide +kernel
theorem dX6_forgets_91 : decode cX6_forgets 91 = .ok (.getfield 7, 3) := by decide +kernel
theorem dX6_forgets_94 : decode cX6_forgets 94 = .ok (.iload_n 1, 1) := by decide +kernel
theorem dX6_forgets_95 : decode cX6_forgets 95 = .ok (.iconst 5, 1) := by decide +kernel
theorem dX6_forgets_96 : decode cX6_forgets 96 = .ok (.invokestatic 66, 3) := by decide +kernel
theorem dX6_forgets_99 : decode cX6_forgets 99 = .ok (.dup2, 1) := by decide +kernel
theorem dX6_forgets_100 : decode cX6_forgets 100 = .ok (.iaload, 1) := by decide +kernel
theorem dX6_forgets_101 : decode cX6_forgets 101 = .ok (.iconst 1, 1) := by decide +kernel
theorem dX6_forgets_102 : decode cX6_forgets 102 = .ok (.iadd, 1) := by decide +kernel
theorem dX6_forgets_103 : decode cX6_forgets 103 = .ok (.iastore, 1) := by decide +kernel
theorem dX6_forgets_104 : decode cX6_forgets 104 = .ok (.iload_n 3, 1) := by decide +kernel
theorem dX6_forgets_105 : decode cX6_forgets 105 = .ok (.ireturn, 1) := by decide +kernel
set_option maxRecDepth 20000 in
theorem ggX6_begins_X6_placeOf : GoodIn wsX6_begins wsX6_placeOf := goodIn_r _ [5] (by decide +kernel) (by decide +kernel)
set_option maxRecDepth 20000 in
theorem gX6_begins_X6_placeOf : GoodIn wsX6_begins (va_wsS RX6 48 yX6_placeOf wsX6_placeOf) := goodIn_app (goodIn_of _ (by decide +kernel)) ggX6_begins_X6_placeOf
set_option maxRecDepth 20000 in
theorem ggX6_begins_X6_writesBack : GoodIn wsX6_begins wsX6_writesBack := goodIn_r _ [9, 1, 44, 45, 46, 47, 48, 49, 50, 51, 52, 53, 54, 55, 56, 57, 58, 59, 60, 61] (by decide +kernel) (by decide +kernel)
set_option maxRecDepth 20000 in
theorem gX6_begins_X6_writesBack : GoodIn wsX6_begins (wsV RX6 55 RX6 yX6_writesBack wsX6_writesBack) := goodIn_app (goodIn_of _ (by decide +kernel)) ggX6_begins_X6_writesBack
set_option maxRecDepth 20000 in
theorem ggX6_begins_X6_leaves : GoodIn wsX6_begins wsX6_leaves := goodIn_r _ [13, 1, 14, 15, 16, 4, 17, 18, 19, 20, 21, 22, 23, 24, 44, 45, 46, 47, 48, 49, 50, 51, 52, 53, 54, 55, 56, 57, 58, 59, 60, 61] (by decide +kernel) (by decide +kernel)
set_option maxRecDepth 20000 in
theorem gX6_begins_X6_leaves : GoodIn wsX6_begins (wsV RX6 59 RX6 yX6_leaves wsX6_leaves) := goodIn_app (goodIn_of _ (by decide +kernel)) ggX6_begins_X6_leaves
set_option maxRecDepth 20000 in
theorem ggX6_begins_X6_notes : GoodIn wsX6_begins wsX6_notes := goodIn_r _ [28, 1, 14, 15, 16, 4, 17, 18, 19, 20, 21, 22, 23, 24, 44, 45, 46, 47, 48, 49, 50, 51, 52, 53, 54, 55, 56, 57, 58, 59, 60, 61] (by decide +kernel) (by decide +kernel)
set_option maxRecDepth 20000 in
theorem gX6_begins_X6_notes : GoodIn wsX6_begins (wsV RX6 69 RX6 yX6_notes wsX6_notes) := goodIn_app (goodIn_of _ (by decide +kernel)) ggX6_begins_X6_notes
set_option maxRecDepth 20000 in
theorem ggX6_begins_X6_countersFrom : GoodIn wsX6_begins wsX6_countersFrom := goodIn_r _ [32, 1, 44, 45, 46, 47, 48, 49, 50, 51, 52, 53, 54, 55, 56, 57, 58, 59, 60, 61] (by decide +kernel) (by decide +kernel)
set_option maxRecDepth 20000 in
theorem gX6_begins_X6_countersFrom : GoodIn wsX6_begins (wsV RX6 72 RX6 yX6_countersFrom wsX6_countersFrom) := goodIn_app (goodIn_of _ (by decide +kernel)) ggX6_begins_X6_countersFrom
set_option maxRecDepth 20000 in
theorem ggX6_begins_X6_forgets : GoodIn wsX6_begins wsX6_forgets := goodIn_r _ [36, 1, 6, 7, 8, 4, 9, 10, 11, 12, 13, 14, 15, 16, 17, 18, 19, 20, 21, 22, 23, 24, 37, 38, 39, 40, 41, 42, 43, 44, 45, 46, 47, 48, 49, 50, 51, 52, 53, 54, 55, 56, 57, 58, 59, 60, 61] (by decide +kernel) (by decide +kernel)
set_option maxRecDepth 20000 in
theorem gX6_begins_X6_forgets : GoodIn wsX6_begins (wsV RX6 75 RX6 yX6_forgets wsX6_forgets) := goodIn_app (goodIn_of _ (by decide +kernel)) ggX6_begins_X6_forgets
theorem dX6_begins_0 : decode cX6_begins 0 = .ok (.iload_n 1, 1) := by decide +kernel
theorem dX6_begins_1 : decode cX6_begins 1 = .ok (.iload_n 2, 1) := by decide +kernel
theorem dX6_begins_2 : decode cX6_begins 2 = .ok (.invokestatic 48, 3) := by decide +kernel
theorem dX6_begins_5 : decode cX6_begins 5 = .ok (.istore 5, 2) := by decide +kernel
theorem dX6_begins_7 : decode cX6_begins 7 = .ok (.aload_n 0, 1) := by decide +kernel
theorem dX6_begins_8 : decode cX6_begins 8 = .ok (.iload 5, 2) := by decide +kernel
theorem dX6_begins_10 : decode cX6_begins 10 = .ok (.invokevirtual 55, 3) := by decide +kernel
theorem dX6_begins_13 : decode cX6_begins 13 = .ok (.aload_n 0, 1) := by decide +kernel
theorem dX6_begins_14 : decode cX6_begins 14 = .ok (.iload_n 1, 1) := by decide +kernel
theorem dX6_begins_15 : decode cX6_begins 15 = .ok (.iload 5, 2) := by decide +kernel
theorem dX6_begins_17 : decode cX6_begins 17 = .ok (.invokevirtual 59, 3) := by decide +kernel
theorem dX6_begins_20 : decode cX6_begins 20 = .ok (.aload_n 0, 1) := by decide +kernel
theorem dX6_begins_21 : decode cX6_begins 21 = .ok (.getfield 7, 3) := by decide +kernel
theorem dX6_begins_24 : decode cX6_begins 24 = .ok (.sipush 256, 3) := by decide +kernel
theorem dX6_begins_27 : decode cX6_begins 27 = .ok (.iload 5, 2) := by decide +kernel
theorem dX6_begins_29 : decode cX6_begins 29 = .ok (.iadd, 1) := by decide +kernel
theorem dX6_begins_30 : decode cX6_begins 30 = .ok (.iload_n 2, 1) := by decide +kernel
theorem dX6_begins_31 : decode cX6_begins 31 = .ok (.iastore, 1) := by decide +kernel
theorem dX6_begins_32 : decode cX6_begins 32 = .ok (.aload_n 0, 1) := by decide +kernel
theorem dX6_begins_33 : decode cX6_begins 33 = .ok (.getfield 7, 3) := by decide +kernel
theorem dX6_begins_36 : decode cX6_begins 36 = .ok (.sipush 288, 3) := by decide +kernel
theorem dX6_begins_39 : decode cX6_begins 39 = .ok (.iload 5, 2) := by decide +kernel
theorem dX6_begins_41 : decode cX6_begins 41 = .ok (.iadd, 1) := by decide +kernel
theorem dX6_begins_42 : decode cX6_begins 42 = .ok (.iload_n 3, 1) := by decide +kernel
theorem dX6_begins_43 : decode cX6_begins 43 = .ok (.iastore, 1) := by decide +kernel
theorem dX6_begins_44 : decode cX6_begins 44 = .ok (.aload_n 0, 1) := by decide +kernel
theorem dX6_begins_45 : decode cX6_begins 45 = .ok (.getfield 7, 3) := by decide +kernel
theorem dX6_begins_48 : decode cX6_begins 48 = .ok (.sipush 320, 3) := by decide +kernel
theorem dX6_begins_51 : decode cX6_begins 51 = .ok (.iload 5, 2) := by decide +kernel
theorem dX6_begins_53 : decode cX6_begins 53 = .ok (.iadd, 1) := by decide +kernel
theorem dX6_begins_54 : decode cX6_begins 54 = .ok (.iload 4, 2) := by decide +kernel
theorem dX6_begins_56 : decode cX6_begins 56 = .ok (.iastore, 1) := by decide +kernel
theorem dX6_begins_57 : decode cX6_begins 57 = .ok (.aload_n 0, 1) := by decide +kernel
theorem dX6_begins_58 : decode cX6_begins 58 = .ok (.iload_n 1, 1) := by decide +kernel
theorem dX6_begins_59 : decode cX6_begins 59 = .ok (.iload_n 2, 1) := by decide +kernel
theorem dX6_begins_60 : decode cX6_begins 60 = .ok (.invokevirtual 69, 3) := by decide +kernel
theorem dX6_begins_63 : decode cX6_begins 63 = .ok (.aload_n 0, 1) := by decide +kernel
theorem dX6_begins_64 : decode cX6_begins 64 = .ok (.iload_n 1, 1) := by decide +kernel
theorem dX6_begins_65 : decode cX6_begins 65 = .ok (.iconst 1, 1) := by decide +kernel
theorem dX6_begins_66 : decode cX6_begins 66 = .ok (.invokevirtual 72, 3) := by decide +kernel
theorem dX6_begins_69 : decode cX6_begins 69 = .ok (.aload_n 0, 1) := by decide +kernel
theorem dX6_begins_70 : decode cX6_begins 70 = .ok (.getfield 7, 3) := by decide +kernel
theorem dX6_begins_73 : decode cX6_begins 73 = .ok (.sipush 537, 3) := by decide +kernel
theorem dX6_begins_76 : decode cX6_begins 76 = .ok (.iaload, 1) := by decide +kernel
theorem dX6_begins_77 : decode cX6_begins 77 = .ok (.if_icmp .lt 17, 3) := by decide +kernel
theorem dX6_begins_80 : decode cX6_begins 80 = .ok (.aload_n 0, 1) := by decide +kernel
theorem dX6_begins_81 : decode cX6_begins 81 = .ok (.iload_n 1, 1) := by decide +kernel
theorem dX6_begins_82 : decode cX6_begins 82 = .ok (.iload_n 2, 1) := by decide +kernel
theorem dX6_begins_83 : decode cX6_begins 83 = .ok (.invokevirtual 75, 3) := by decide +kernel
theorem dX6_begins_86 : decode cX6_begins 86 = .ok (.istore 6, 2) := by decide +kernel
theorem dX6_begins_88 : decode cX6_begins 88 = .ok (.aload_n 0, 1) := by decide +kernel
theorem dX6_begins_89 : decode cX6_begins 89 = .ok (.iload_n 1, 1) := by decide +kernel
theorem dX6_begins_90 : decode cX6_begins 90 = .ok (.iload_n 2, 1) := by decide +kernel
theorem dX6_begins_91 : decode cX6_begins 91 = .ok (.invokevirtual 69, 3) := by decide +kernel
theorem dX6_begins_94 : decode cX6_begins 94 = .ok (.return_, 1) := by decide +kernel
set_option maxRecDepth 20000 in
theorem ggX6_isSnooped_X6_mayHave : GoodIn wsX6_isSnooped wsX6_mayHave := goodIn_r _ [6, 1, 7, 8, 9, 5, 10, 11, 12, 13, 14, 15, 16, 17, 40, 41, 42, 43, 44, 45, 46, 47, 48, 49, 50, 51, 52, 53, 54, 55, 56, 57] (by decide +kernel) (by decide +kernel)
set_option maxRecDepth 20000 in
theorem gX6_isSnooped_X6_mayHave : GoodIn wsX6_isSnooped (wsV RX6 78 RX6 yX6_mayHave wsX6_mayHave) := goodIn_app (goodIn_of _ (by decide +kernel)) ggX6_isSnooped_X6_mayHave
set_option maxRecDepth 20000 in
theorem ggX6_isSnooped_X6_told : GoodIn wsX6_isSnooped wsX6_told := goodIn_r _ [20] (by decide +kernel) (by decide +kernel)
set_option maxRecDepth 20000 in
theorem gX6_isSnooped_X6_told : GoodIn wsX6_isSnooped (va_wsS RX6 66 yX6_told wsX6_told) := goodIn_app (goodIn_of _ (by decide +kernel)) ggX6_isSnooped_X6_told
set_option maxRecDepth 20000 in
theorem ggX6_isSnooped_X6_holds : GoodIn wsX6_isSnooped wsX6_holds := goodIn_r _ [24, 1, 25, 26, 5, 27, 40, 41, 42, 43, 44, 45, 46, 47, 48, 49, 50, 51, 52, 53, 54, 55, 56, 57] (by decide +kernel) (by decide +kernel)
set_option maxRecDepth 20000 in
theorem gX6_isSnooped_X6_holds : GoodIn wsX6_isSnooped (wsV RX6 81 RX6 yX6_holds wsX6_holds) := goodIn_app (goodIn_of _ (by decide +kernel)) ggX6_isSnooped_X6_holds
set_option maxRecDepth 20000 in
theorem ggX6_isSnooped_X6_placeOf : GoodIn wsX6_isSnooped wsX6_placeOf := goodIn_r _ [27] (by decide +kernel) (by decide +kernel)
set_option maxRecDepth 20000 in
theorem gX6_isSnooped_X6_placeOf : GoodIn wsX6_isSnooped (va_wsS RX6 48 yX6_placeOf wsX6_placeOf) := goodIn_app (goodIn_of _ (by decide +kernel)) ggX6_isSnooped_X6_placeOf
set_option maxRecDepth 20000 in
theorem ggX6_isSnooped_X6_leaves : GoodIn wsX6_isSnooped wsX6_leaves := goodIn_r _ [31, 1, 32, 33, 34, 5, 35, 11, 12, 13, 14, 15, 16, 17, 40, 41, 42, 43, 44, 45, 46, 47, 48, 49, 50, 51, 52, 53, 54, 55, 56, 57] (by decide +kernel) (by decide +kernel)
set_option maxRecDepth 20000 in
theorem gX6_isSnooped_X6_leaves : GoodIn wsX6_isSnooped (wsV RX6 59 RX6 yX6_leaves wsX6_leaves) := goodIn_app (goodIn_of _ (by decide +kernel)) ggX6_isSnooped_X6_leaves
set_option maxRecDepth 20000 in
theorem ggX6_isSnooped_X6_writesBack : GoodIn wsX6_isSnooped wsX6_writesBack := goodIn_r _ [39, 1, 40, 41, 42, 43, 44, 45, 46, 47, 48, 49, 50, 51, 52, 53, 54, 55, 56, 57] (by decide +kernel) (by decide +kernel)
set_option maxRecDepth 20000 in
theorem gX6_isSnooped_X6_writesBack : GoodIn wsX6_isSnooped (wsV RX6 55 RX6 yX6_writesBack wsX6_writesBack) := goodIn_app (goodIn_of _ (by decide +kernel)) ggX6_isSnooped_X6_writesBack
theorem dX6_isSnooped_0 : decode cX6_isSnooped 0 = .ok (.aload_n 0, 1) := by decide +kernel
theorem dX6_isSnooped_1 : decode cX6_isSnooped 1 = .ok (.iload_n 1, 1) := by decide +kernel
theorem dX6_isSnooped_2 : decode cX6_isSnooped 2 = .ok (.iload_n 2, 1) := by decide +kernel
theorem dX6_isSnooped_3 : decode cX6_isSnooped 3 = .ok (.invokevirtual 78, 3) := by decide +kernel
theorem dX6_isSnooped_6 : decode cX6_isSnooped 6 = .ok (.ifCond .ne 19, 3) := by decide +kernel
theorem dX6_isSnooped_9 : decode cX6_isSnooped 9 = .ok (.aload_n 0, 1) := by decide +kernel
theorem dX6_isSnooped_10 : decode cX6_isSnooped 10 = .ok (.getfield 7, 3) := by decide +kernel
theorem dX6_isSnooped_13 : decode cX6_isSnooped 13 = .ok (.iload_n 1, 1) := by decide +kernel
theorem dX6_isSnooped_14 : decode cX6_isSnooped 14 = .ok (.iconst 4, 1) := by decide +kernel
theorem dX6_isSnooped_15 : decode cX6_isSnooped 15 = .ok (.invokestatic 66, 3) := by decide +kernel
theorem dX6_isSnooped_18 : decode cX6_isSnooped 18 = .ok (.dup2, 1) := by decide +kernel
theorem dX6_isSnooped_19 : decode cX6_isSnooped 19 = .ok (.iaload, 1) := by decide +kernel
theorem dX6_isSnooped_20 : decode cX6_isSnooped 20 = .ok (.iconst 1, 1) := by decide +kernel
theorem dX6_isSnooped_21 : decode cX6_isSnooped 21 = .ok (.iadd, 1) := by decide +kernel
theorem dX6_isSnooped_22 : decode cX6_isSnooped 22 = .ok (.iastore, 1) := by decide +kernel
theorem dX6_isSnooped_23 : decode cX6_isSnooped 23 = .ok (.iconst 0, 1) := by decide +kernel
theorem dX6_isSnooped_24 : decode cX6_isSnooped 24 = .ok (.ireturn, 1) := by decide +kernel
theorem dX6_isSnooped_25 : decode cX6_isSnooped 25 = .ok (.aload_n 0, 1) := by decide +kernel
theorem dX6_isSnooped_26 : decode cX6_isSnooped 26 = .ok (.getfield 7, 3) := by decide +kernel
theorem dX6_isSnooped_29 : decode cX6_isSnooped 29 = .ok (.iload_n 1, 1) := by decide +kernel
theorem dX6_isSnooped_30 : decode cX6_isSnooped 30 = .ok (.iconst 2, 1) := by decide +kernel
theorem dX6_isSnooped_31 : decode cX6_isSnooped 31 = .ok (.invokestatic 66, 3) := by decide +kernel
theorem dX6_isSnooped_34 : decode cX6_isSnooped 34 = .ok (.dup2, 1) := by decide +kernel
theorem dX6_isSnooped_35 : decode cX6_isSnooped 35 = .ok (.iaload, 1) := by decide +kernel
theorem dX6_isSnooped_36 : decode cX6_isSnooped 36 = .ok (.iconst 1, 1) := by decide +kernel
theorem dX6_isSnooped_37 : decode cX6_isSnooped 37 = .ok (.iadd, 1) := by decide +kernel
theorem dX6_isSnooped_38 : decode cX6_isSnooped 38 = .ok (.iastore, 1) := by decide +kernel
theorem dX6_isSnooped_39 : decode cX6_isSnooped 39 = .ok (.aload_n 0, 1) := by decide +kernel
theorem dX6_isSnooped_40 : decode cX6_isSnooped 40 = .ok (.iload_n 1, 1) := by decide +kernel
theorem dX6_isSnooped_41 : decode cX6_isSnooped 41 = .ok (.iload_n 2, 1) := by decide +kernel
theorem dX6_isSnooped_42 : decode cX6_isSnooped 42 = .ok (.invokevirtual 81, 3) := by decide +kernel
theorem dX6_isSnooped_45 : decode cX6_isSnooped 45 = .ok (.ifCond .ne 20, 3) := by decide +kernel
theorem dX6_isSnooped_48 : decode cX6_isSnooped 48 = .ok (.aload_n 0, 1) := by decide +kernel
theorem dX6_isSnooped_49 : decode cX6_isSnooped 49 = .ok (.getfield 7, 3) := by decide +kernel
theorem dX6_isSnooped_52 : decode cX6_isSnooped 52 = .ok (.iload_n 1, 1) := by decide +kernel
theorem dX6_isSnooped_53 : decode cX6_isSnooped 53 = .ok (.iconst 3, 1) := by decide +kernel
theorem dX6_isSnooped_54 : decode cX6_isSnooped 54 = .ok (.invokestatic 66, 3) := by decide +kernel
theorem dX6_isSnooped_57 : decode cX6_isSnooped 57 = .ok (.dup2, 1) := by decide +kernel
theorem dX6_isSnooped_58 : decode cX6_isSnooped 58 = .ok (.iaload, 1) := by decide +kernel
theorem dX6_isSnooped_59 : decode cX6_isSnooped 59 = .ok (.iconst 1, 1) := by decide +kernel
theorem dX6_isSnooped_60 : decode cX6_isSnooped 60 = .ok (.iadd, 1) := by decide +kernel
theorem dX6_isSnooped_61 : decode cX6_isSnooped 61 = .ok (.iastore, 1) := by decide +kernel
theorem dX6_isSnooped_62 : decode cX6_isSnooped 62 = .ok (.goto 29, 3) := by decide +kernel
theorem dX6_isSnooped_65 : decode cX6_isSnooped 65 = .ok (.iload_n 3, 1) := by decide +kernel
theorem dX6_isSnooped_66 : decode cX6_isSnooped 66 = .ok (.ifCond .eq 16, 3) := by decide +kernel
theorem dX6_isSnooped_69 : decode cX6_isSnooped 69 = .ok (.aload_n 0, 1) := by decide +kernel
theorem dX6_isSnooped_70 : decode cX6_isSnooped 70 = .ok (.iload_n 1, 1) := by decide +kernel
theorem dX6_isSnooped_71 : decode cX6_isSnooped 71 = .ok (.iload_n 1, 1) := by decide +kernel
theorem dX6_isSnooped_72 : decode cX6_isSnooped 72 = .ok (.iload_n 2, 1) := by decide +kernel
theorem dX6_isSnooped_73 : decode cX6_isSnooped 73 = .ok (.invokestatic 48, 3) := by decide +kernel
theorem dX6_isSnooped_76 : decode cX6_isSnooped 76 = .ok (.invokevirtual 59, 3) := by decide +kernel
theorem dX6_isSnooped_79 : decode cX6_isSnooped 79 = .ok (.goto 12, 3) := by decide +kernel
theorem dX6_isSnooped_82 : decode cX6_isSnooped 82 = .ok (.aload_n 0, 1) := by decide +kernel
theorem dX6_isSnooped_83 : decode cX6_isSnooped 83 = .ok (.iload_n 1, 1) := by decide +kernel
theorem dX6_isSnooped_84 : decode cX6_isSnooped 84 = .ok (.iload_n 2, 1) := by decide +kernel
theorem dX6_isSnooped_85 : decode cX6_isSnooped 85 = .ok (.invokestatic 48, 3) := by decide +kernel
theorem dX6_isSnooped_88 : decode cX6_isSnooped 88 = .ok (.invokevirtual 55, 3) := by decide +kernel
theorem dX6_isSnooped_91 : decode cX6_isSnooped 91 = .ok (.iconst 1, 1) := by decide +kernel
theorem dX6_isSnooped_92 : decode cX6_isSnooped 92 = .ok (.ireturn, 1) := by decide +kernel
set_option maxRecDepth 20000 in
theorem ggX6_snoops_X6_isSnooped : GoodIn wsX6_snoops wsX6_isSnooped := goodIn_r _ [5, 6, 7, 8, 9, 4, 10, 11, 12, 13, 14, 15, 16, 17, 18, 19, 20, 21, 22, 23, 24, 25, 26, 27, 28, 29, 30, 31, 32, 33, 34, 35, 36, 37, 38, 39, 40, 41, 42, 43, 44, 45, 46, 47, 48, 49, 50, 51, 52, 53, 54, 55, 56, 57, 58, 59, 60, 61] (by decide +kernel) (by decide +kernel)
set_option maxRecDepth 20000 in
theorem gX6_snoops_X6_isSnooped : GoodIn wsX6_snoops (wsV RX6 84 RX6 yX6_isSnooped wsX6_isSnooped) := goodIn_app (goodIn_of _ (by decide +kernel)) ggX6_snoops_X6_isSnooped
theorem dX6_snoops_0 : decode cX6_snoops 0 = .ok (.iconst 0, 1) := by decide +kernel
theorem dX6_snoops_1 : decode cX6_snoops 1 = .ok (.istore 4, 2) := by decide +kernel
theorem dX6_snoops_3 : decode cX6_snoops 3 = .ok (.iconst 0, 1) := by decide +kernel
theorem dX6_snoops_4 : decode cX6_snoops 4 = .ok (.istore 5, 2) := by decide +kernel
theorem dX6_snoops_6 : decode cX6_snoops 6 = .ok (.iload 5, 2) := by decide +kernel
theorem dX6_snoops_8 : decode cX6_snoops 8 = .ok (.iconst 4, 1) := by decide +kernel
theorem dX6_snoops_9 : decode cX6_snoops 9 = .ok (.if_icmp .ge 36, 3) := by decide +kernel
theorem dX6_snoops_12 : decode cX6_snoops 12 = .ok (.iload 4, 2) := by decide +kernel
theorem dX6_snoops_14 : decode cX6_snoops 14 = .ok (.iload 5, 2) := by decide +kernel
theorem dX6_snoops_16 : decode cX6_snoops 16 = .ok (.iload_n 1, 1) := by decide +kernel
theorem dX6_snoops_17 : decode cX6_snoops 17 = .ok (.if_icmp .eq 18, 3) := by decide +kernel
theorem dX6_snoops_20 : decode cX6_snoops 20 = .ok (.aload_n 0, 1) := by decide +kernel
theorem dX6_snoops_21 : decode cX6_snoops 21 = .ok (.iload 5, 2) := by decide +kernel
theorem dX6_snoops_23 : decode cX6_snoops 23 = .ok (.iload_n 2, 1) := by decide +kernel
theorem dX6_snoops_24 : decode cX6_snoops 24 = .ok (.iload_n 3, 1) := by decide +kernel
theorem dX6_snoops_25 : decode cX6_snoops 25 = .ok (.invokevirtual 84, 3) := by decide +kernel
theorem dX6_snoops_28 : decode cX6_snoops 28 = .ok (.ifCond .eq 7, 3) := by decide +kernel
theorem dX6_snoops_31 : decode cX6_snoops 31 = .ok (.iconst 1, 1) := by decide +kernel
theorem dX6_snoops_32 : decode cX6_snoops 32 = .ok (.goto 4, 3) := by decide +kernel
theorem dX6_snoops_35 : decode cX6_snoops 35 = .ok (.iconst 0, 1) := by decide +kernel
theorem dX6_snoops_36 : decode cX6_snoops 36 = .ok (.iadd, 1) := by decide +kernel
theorem dX6_snoops_37 : decode cX6_snoops 37 = .ok (.istore 4, 2) := by decide +kernel
theorem dX6_snoops_39 : decode cX6_snoops 39 = .ok (.iinc 5 1, 3) := by decide +kernel
theorem dX6_snoops_42 : decode cX6_snoops 42 = .ok (.goto (-36), 3) := by decide +kernel
theorem dX6_snoops_45 : decode cX6_snoops 45 = .ok (.iload 4, 2) := by decide +kernel
theorem dX6_snoops_47 : decode cX6_snoops 47 = .ok (.ireturn, 1) := by decide +kernel
set_option maxRecDepth 20000 in
theorem ggX6_reads_X6_holds : GoodIn wsX6_reads wsX6_holds := goodIn_r _ [6, 1, 7, 8, 5, 9, 68, 69, 70, 71, 72, 73, 74, 75, 76, 77, 78, 79, 80, 81, 82, 83, 84, 85] (by decide +kernel) (by decide +kernel)
set_option maxRecDepth 20000 in
theorem gX6_reads_X6_holds : GoodIn wsX6_reads (wsV RX6 81 RX6 yX6_holds wsX6_holds) := goodIn_app (goodIn_of _ (by decide +kernel)) ggX6_reads_X6_holds
set_option maxRecDepth 20000 in
theorem ggX6_reads_X6_told : GoodIn wsX6_reads wsX6_told := goodIn_r _ [12] (by decide +kernel) (by decide +kernel)
set_option maxRecDepth 20000 in
theorem gX6_reads_X6_told : GoodIn wsX6_reads (va_wsS RX6 66 yX6_told wsX6_told) := goodIn_app (goodIn_of _ (by decide +kernel)) ggX6_reads_X6_told
set_option maxRecDepth 20000 in
theorem ggX6_reads_X6_placeOf : GoodIn wsX6_reads wsX6_placeOf := goodIn_r _ [9] (by decide +kernel) (by decide +kernel)
set_option maxRecDepth 20000 in
theorem gX6_reads_X6_placeOf : GoodIn wsX6_reads (va_wsS RX6 48 yX6_placeOf wsX6_placeOf) := goodIn_app (goodIn_of _ (by decide +kernel)) ggX6_reads_X6_placeOf
set_option maxRecDepth 20000 in
theorem ggX6_reads_X6_snoops : GoodIn wsX6_reads wsX6_snoops := goodIn_r _ [16, 17, 18, 19, 5, 20, 1, 21, 22, 23, 24, 25, 26, 27, 28, 29, 30, 31, 32, 33, 34, 35, 10, 11, 12, 2, 3, 4, 6, 7, 8, 9, 36, 37, 38, 39, 40, 41, 42, 43, 44, 45, 46, 47, 68, 69, 70, 71, 72, 73, 74, 75, 76, 77, 78, 79, 80, 81, 82, 83, 84, 85] (by decide +kernel) (by decide +kernel)
set_option maxRecDepth 20000 in
theorem gX6_reads_X6_snoops : GoodIn wsX6_reads (wsV RX6 88 RX6 yX6_snoops wsX6_snoops) := goodIn_app (goodIn_of _ (by decide +kernel)) ggX6_reads_X6_snoops
set_option maxRecDepth 20000 in
theorem ggX6_reads_X6_begins : GoodIn wsX6_reads wsX6_begins := goodIn_r _ [51, 1, 7, 8, 5, 9, 44, 45, 46, 47, 36, 37, 38, 39, 40, 41, 42, 43, 29, 30, 31, 32, 33, 34, 35, 52, 53, 54, 55, 56, 57, 58, 59, 60, 61, 62, 63, 64, 65, 66, 67, 10, 11, 12, 68, 69, 70, 71, 72, 73, 74, 75, 76, 77, 78, 79, 80, 81, 82, 83, 84, 85] (by decide +kernel) (by decide +kernel)
set_option maxRecDepth 20000 in
theorem gX6_reads_X6_begins : GoodIn wsX6_reads (wsV RX6 92 RX6 yX6_begins wsX6_begins) := goodIn_app (goodIn_of _ (by decide +kernel)) ggX6_reads_X6_begins
theorem dX6_reads_0 : decode cX6_reads 0 = .ok (.aload_n 0, 1) := by decide +kernel
theorem dX6_reads_1 : decode cX6_reads 1 = .ok (.iload_n 1, 1) := by decide +kernel
theorem dX6_reads_2 : decode cX6_reads 2 = .ok (.iload_n 2, 1) := by decide +kernel
theorem dX6_reads_3 : decode cX6_reads 3 = .ok (.invokevirtual 81, 3) := by decide +kernel
theorem dX6_reads_6 : decode cX6_reads 6 = .ok (.ifCond .eq 32, 3) := by decide +kernel
theorem dX6_reads_9 : decode cX6_reads 9 = .ok (.aload_n 0, 1) := by decide +kernel
theorem dX6_reads_10 : decode cX6_reads 10 = .ok (.getfield 7, 3) := by decide +kernel
theorem dX6_reads_13 : decode cX6_reads 13 = .ok (.iload_n 1, 1) := by decide +kernel
theorem dX6_reads_14 : decode cX6_reads 14 = .ok (.iconst 0, 1) := by decide +kernel
theorem dX6_reads_15 : decode cX6_reads 15 = .ok (.invokestatic 66, 3) := by decide +kernel
theorem dX6_reads_18 : decode cX6_reads 18 = .ok (.dup2, 1) := by decide +kernel
theorem dX6_reads_19 : decode cX6_reads 19 = .ok (.iaload, 1) := by decide +kernel
theorem dX6_reads_20 : decode cX6_reads 20 = .ok (.iconst 1, 1) := by decide +kernel
theorem dX6_reads_21 : decode cX6_reads 21 = .ok (.iadd, 1) := by decide +kernel
theorem dX6_reads_22 : decode cX6_reads 22 = .ok (.iastore, 1) := by decide +kernel
theorem dX6_reads_23 : decode cX6_reads 23 = .ok (.aload_n 0, 1) := by decide +kernel
theorem dX6_reads_24 : decode cX6_reads 24 = .ok (.getfield 7, 3) := by decide +kernel
theorem dX6_reads_27 : decode cX6_reads 27 = .ok (.sipush 288, 3) := by decide +kernel
theorem dX6_reads_30 : decode cX6_reads 30 = .ok (.iload_n 1, 1) := by decide +kernel
theorem dX6_reads_31 : decode cX6_reads 31 = .ok (.iload_n 2, 1) := by decide +kernel
theorem dX6_reads_32 : decode cX6_reads 32 = .ok (.invokestatic 48, 3) := by decide +kernel
theorem dX6_reads_35 : decode cX6_reads 35 = .ok (.iadd, 1) := by decide +kernel
theorem dX6_reads_36 : decode cX6_reads 36 = .ok (.iaload, 1) := by decide +kernel
theorem dX6_reads_37 : decode cX6_reads 37 = .ok (.ireturn, 1) := by decide +kernel
theorem dX6_reads_38 : decode cX6_reads 38 = .ok (.aload_n 0, 1) := by decide +kernel
theorem dX6_reads_39 : decode cX6_reads 39 = .ok (.getfield 7, 3) := by decide +kernel
theorem dX6_reads_42 : decode cX6_reads 42 = .ok (.iload_n 1, 1) := by decide +kernel
theorem dX6_reads_43 : decode cX6_reads 43 = .ok (.iconst 1, 1) := by decide +kernel
theorem dX6_reads_44 : decode cX6_reads 44 = .ok (.invokestatic 66, 3) := by decide +kernel
theorem dX6_reads_47 : decode cX6_reads 47 = .ok (.dup2, 1) := by decide +kernel
theorem dX6_reads_48 : decode cX6_reads 48 = .ok (.iaload, 1) := by decide +kernel
theorem dX6_reads_49 : decode cX6_reads 49 = .ok (.iconst 1, 1) := by decide +kernel
theorem dX6_reads_50 : decode cX6_reads 50 = .ok (.iadd, 1) := by decide +kernel
theorem dX6_reads_51 : decode cX6_reads 51 = .ok (.iastore, 1) := by decide +kernel
theorem dX6_reads_52 : decode cX6_reads 52 = .ok (.aload_n 0, 1) := by decide +kernel
theorem dX6_reads_53 : decode cX6_reads 53 = .ok (.iload_n 1, 1) := by decide +kernel
theorem dX6_reads_54 : decode cX6_reads 54 = .ok (.iload_n 2, 1) := by decide +kernel
theorem dX6_reads_55 : decode cX6_reads 55 = .ok (.iconst 0, 1) := by decide +kernel
theorem dX6_reads_56 : decode cX6_reads 56 = .ok (.invokevirtual 88, 3) := by decide +kernel
theorem dX6_reads_59 : decode cX6_reads 59 = .ok (.istore_n 3, 1) := by decide +kernel
theorem dX6_reads_60 : decode cX6_reads 60 = .ok (.aload_n 0, 1) := by decide +kernel
theorem dX6_reads_61 : decode cX6_reads 61 = .ok (.iload_n 1, 1) := by decide +kernel
theorem dX6_reads_62 : decode cX6_reads 62 = .ok (.iload_n 2, 1) := by decide +kernel
theorem dX6_reads_63 : decode cX6_reads 63 = .ok (.aload_n 0, 1) := by decide +kernel
theorem dX6_reads_64 : decode cX6_reads 64 = .ok (.getfield 7, 3) := by decide +kernel
theorem dX6_reads_67 : decode cX6_reads 67 = .ok (.iconst 0, 1) := by decide +kernel
theorem dX6_reads_68 : decode cX6_reads 68 = .ok (.iload_n 2, 1) := by decide +kernel
theorem dX6_reads_69 : decode cX6_reads 69 = .ok (.iadd, 1) := by decide +kernel
theorem dX6_reads_70 : decode cX6_reads 70 = .ok (.iaload, 1) := by decide +kernel
theorem dX6_reads_71 : decode cX6_reads 71 = .ok (.iconst 0, 1) := by decide +kernel
theorem dX6_reads_72 : decode cX6_reads 72 = .ok (.invokevirtual 92, 3) := by decide +kernel
theorem dX6_reads_75 : decode cX6_reads 75 = .ok (.aload_n 0, 1) := by decide +kernel
theorem dX6_reads_76 : decode cX6_reads 76 = .ok (.getfield 7, 3) := by decide +kernel
theorem dX6_reads_79 : decode cX6_reads 79 = .ok (.sipush 288, 3) := by decide +kernel
theorem dX6_reads_82 : decode cX6_reads 82 = .ok (.iload_n 1, 1) := by decide +kernel
theorem dX6_reads_83 : decode cX6_reads 83 = .ok (.iload_n 2, 1) := by decide +kernel
theorem dX6_reads_84 : decode cX6_reads 84 = .ok (.invokestatic 48, 3) := by decide +kernel
theorem dX6_reads_87 : decode cX6_reads 87 = .ok (.iadd, 1) := by decide +kernel
theorem dX6_reads_88 : decode cX6_reads 88 = .ok (.iaload, 1) := by decide +kernel
theorem dX6_reads_89 : decode cX6_reads 89 = .ok (.ireturn, 1) := by decide +kernel
set_option maxRecDepth 20000 in
theorem ggX6_writes_X6_placeOf : GoodIn wsX6_writes wsX6_placeOf := goodIn_r _ [5] (by decide +kernel) (by decide +kernel)
set_option maxRecDepth 20000 in
theorem gX6_writes_X6_placeOf : GoodIn wsX6_writes (va_wsS RX6 48 yX6_placeOf wsX6_placeOf) := goodIn_app (goodIn_of _ (by decide +kernel)) ggX6_writes_X6_placeOf
set_option maxRecDepth 20000 in
theorem ggX6_writes_X6_holds : GoodIn wsX6_writes wsX6_holds := goodIn_r _ [9, 1, 2, 3, 4, 5, 68, 69, 70, 71, 72, 73, 74, 75, 76, 77, 78, 79, 80, 81, 82, 83, 84, 85] (by decide +kernel) (by decide +kernel)
set_option maxRecDepth 20000 in
theorem gX6_writes_X6_holds : GoodIn wsX6_writes (wsV RX6 81 RX6 yX6_holds wsX6_holds) := goodIn_app (goodIn_of _ (by decide +kernel)) ggX6_writes_X6_holds
set_option maxRecDepth 20000 in
theorem ggX6_writes_X6_snoops : GoodIn wsX6_writes wsX6_snoops := goodIn_r _ [13, 14, 15, 16, 4, 17, 1, 18, 19, 20, 21, 22, 23, 24, 25, 26, 27, 28, 29, 30, 31, 32, 33, 34, 35, 6, 7, 8, 9, 2, 3, 5, 36, 37, 38, 39, 40, 41, 42, 43, 44, 45, 46, 47, 68, 69, 70, 71, 72, 73, 74, 75, 76, 77, 78, 79, 80, 81, 82, 83, 84, 85] (by decide +kernel) (by decide +kernel)
set_option maxRecDepth 20000 in
theorem gX6_writes_X6_snoops : GoodIn wsX6_writes (wsV RX6 88 RX6 yX6_snoops wsX6_snoops) := goodIn_app (goodIn_of _ (by decide +kernel)) ggX6_writes_X6_snoops
set_option maxRecDepth 20000 in
theorem ggX6_writes_X6_begins : GoodIn wsX6_writes wsX6_begins := goodIn_r _ [51, 1, 2, 3, 4, 5, 44, 45, 46, 47, 36, 37, 38, 39, 40, 41, 42, 43, 26, 27, 28, 29, 30, 31, 32, 52, 53, 54, 55, 56, 57, 58, 59, 60, 61, 62, 63, 64, 65, 66, 67, 33, 34, 35, 68, 69, 70, 71, 72, 73, 74, 75, 76, 77, 78, 79, 80, 81, 82, 83, 84, 85] (by decide +kernel) (by decide +kernel)
set_option maxRecDepth 20000 in
theorem gX6_writes_X6_begins : GoodIn wsX6_writes (wsV RX6 92 RX6 yX6_begins wsX6_begins) := goodIn_app (goodIn_of _ (by decide +kernel)) ggX6_writes_X6_begins
theorem dX6_writes_0 : decode cX6_writes 0 = .ok (.iload_n 1, 1) := by decide +kernel
theorem dX6_writes_1 : decode cX6_writes 1 = .ok (.iload_n 2, 1) := by decide +kernel
theorem dX6_writes_2 : decode cX6_writes 2 = .ok (.invokestatic 48, 3) := by decide +kernel
theorem dX6_writes_5 : decode cX6_writes 5 = .ok (.istore 4, 2) := by decide +kernel
theorem dX6_writes_7 : decode cX6_writes 7 = .ok (.aload_n 0, 1) := by decide +kernel
theorem dX6_writes_8 : decode cX6_writes 8 = .ok (.getfield 7, 3) := by decide +kernel
theorem dX6_writes_11 : decode cX6_writes 11 = .ok (.sipush 539, 3) := by decide +kernel
theorem dX6_writes_14 : decode cX6_writes 14 = .ok (.dup2, 1) := by decide +kernel
theorem dX6_writes_15 : decode cX6_writes 15 = .ok (.iaload, 1) := by decide +kernel
theorem dX6_writes_16 : decode cX6_writes 16 = .ok (.iconst 1, 1) := by decide +kernel
theorem dX6_writes_17 : decode cX6_writes 17 = .ok (.iadd, 1) := by decide +kernel
theorem dX6_writes_18 : decode cX6_writes 18 = .ok (.iastore, 1) := by decide +kernel
theorem dX6_writes_19 : decode cX6_writes 19 = .ok (.aload_n 0, 1) := by decide +kernel
theorem dX6_writes_20 : decode cX6_writes 20 = .ok (.iload_n 1, 1) := by decide +kernel
theorem dX6_writes_21 : decode cX6_writes 21 = .ok (.iload_n 2, 1) := by decide +kernel
theorem dX6_writes_22 : decode cX6_writes 22 = .ok (.invokevirtual 81, 3) := by decide +kernel
theorem dX6_writes_25 : decode cX6_writes 25 = .ok (.ifCond .eq 32, 3) := by decide +kernel
theorem dX6_writes_28 : decode cX6_writes 28 = .ok (.aload_n 0, 1) := by decide +kernel
theorem dX6_writes_29 : decode cX6_writes 29 = .ok (.getfield 7, 3) := by decide +kernel
theorem dX6_writes_32 : decode cX6_writes 32 = .ok (.sipush 320, 3) := by decide +kernel
theorem dX6_writes_35 : decode cX6_writes 35 = .ok (.iload 4, 2) := by decide +kernel
theorem dX6_writes_37 : decode cX6_writes 37 = .ok (.iadd, 1) := by decide +kernel
theorem dX6_writes_38 : decode cX6_writes 38 = .ok (.iaload, 1) := by decide +kernel
theorem dX6_writes_39 : decode cX6_writes 39 = .ok (.iconst 1, 1) := by decide +kernel
theorem dX6_writes_40 : decode cX6_writes 40 = .ok (.if_icmp .ne 17, 3) := by decide +kernel
theorem dX6_writes_43 : decode cX6_writes 43 = .ok (.aload_n 0, 1) := by decide +kernel
theorem dX6_writes_44 : decode cX6_writes 44 = .ok (.getfield 7, 3) := by decide +kernel
theorem dX6_writes_47 : decode cX6_writes 47 = .ok (.sipush 288, 3) := by decide +kernel
theorem dX6_writes_50 : decode cX6_writes 50 = .ok (.iload 4, 2) := by decide +kernel
theorem dX6_writes_52 : decode cX6_writes 52 = .ok (.iadd, 1) := by decide +kernel
theorem dX6_writes_53 : decode cX6_writes 53 = .ok (.iload_n 3, 1) := by decide +kernel
theorem dX6_writes_54 : decode cX6_writes 54 = .ok (.iastore, 1) := by decide +kernel
theorem dX6_writes_55 : decode cX6_writes 55 = .ok (.iconst 0, 1) := by decide +kernel
theorem dX6_writes_56 : decode cX6_writes 56 = .ok (.ireturn, 1) := by decide +kernel
theorem dX6_writes_57 : decode cX6_writes 57 = .ok (.aload_n 0, 1) := by decide +kernel
theorem dX6_writes_58 : decode cX6_writes 58 = .ok (.iload_n 1, 1) := by decide +kernel
theorem dX6_writes_59 : decode cX6_writes 59 = .ok (.iload_n 2, 1) := by decide +kernel
theorem dX6_writes_60 : decode cX6_writes 60 = .ok (.iconst 1, 1) := by decide +kernel
theorem dX6_writes_61 : decode cX6_writes 61 = .ok (.invokevirtual 88, 3) := by decide +kernel
theorem dX6_writes_64 : decode cX6_writes 64 = .ok (.istore 5, 2) := by decide +kernel
theorem dX6_writes_66 : decode cX6_writes 66 = .ok (.aload_n 0, 1) := by decide +kernel
theorem dX6_writes_67 : decode cX6_writes 67 = .ok (.iload_n 1, 1) := by decide +kernel
theorem dX6_writes_68 : decode cX6_writes 68 = .ok (.iload_n 2, 1) := by decide +kernel
theorem dX6_writes_69 : decode cX6_writes 69 = .ok (.invokevirtual 81, 3) := by decide +kernel
theorem dX6_writes_72 : decode cX6_writes 72 = .ok (.ifCond .eq 30, 3) := by decide +kernel
theorem dX6_writes_75 : decode cX6_writes 75 = .ok (.aload_n 0, 1) := by decide +kernel
theorem dX6_writes_76 : decode cX6_writes 76 = .ok (.getfield 7, 3) := by decide +kernel
theorem dX6_writes_79 : decode cX6_writes 79 = .ok (.sipush 288, 3) := by decide +kernel
theorem dX6_writes_82 : decode cX6_writes 82 = .ok (.iload 4, 2) := by decide +kernel
theorem dX6_writes_84 : decode cX6_writes 84 = .ok (.iadd, 1) := by decide +kernel
theorem dX6_writes_85 : decode cX6_writes 85 = .ok (.iload_n 3, 1) := by decide +kernel
theorem dX6_writes_86 : decode cX6_writes 86 = .ok (.iastore, 1) := by decide +kernel
theorem dX6_writes_87 : decode cX6_writes 87 = .ok (.aload_n 0, 1) := by decide +kernel
theorem dX6_writes_88 : decode cX6_writes 88 = .ok (.getfield 7, 3) := by decide +kernel
theorem dX6_writes_91 : decode cX6_writes 91 = .ok (.sipush 320, 3) := by decide +kernel
theorem dX6_writes_94 : decode cX6_writes 94 = .ok (.iload 4, 2) := by decide +kernel
theorem dX6_writes_96 : decode cX6_writes 96 = .ok (.iadd, 1) := by decide +kernel
theorem dX6_writes_97 : decode cX6_writes 97 = .ok (.iconst 1, 1) := by decide +kernel
theorem dX6_writes_98 : decode cX6_writes 98 = .ok (.iastore, 1) := by decide +kernel
theorem dX6_writes_99 : decode cX6_writes 99 = .ok (.goto 11, 3) := by decide +kernel
theorem dX6_writes_102 : decode cX6_writes 102 = .ok (.aload_n 0, 1) := by decide +kernel
theorem dX6_writes_103 : decode cX6_writes 103 = .ok (.iload_n 1, 1) := by decide +kernel
theorem dX6_writes_104 : decode cX6_writes 104 = .ok (.iload_n 2, 1) := by decide +kernel
theorem dX6_writes_105 : decode cX6_writes 105 = .ok (.iload_n 3, 1) := by decide +kernel
theorem dX6_writes_106 : decode cX6_writes 106 = .ok (.iconst 1, 1) := by decide +kernel
theorem dX6_writes_107 : decode cX6_writes 107 = .ok (.invokevirtual 92, 3) := by decide +kernel
theorem dX6_writes_110 : decode cX6_writes 110 = .ok (.iload 5, 2) := by decide +kernel
theorem dX6_writes_112 : decode cX6_writes 112 = .ok (.ireturn, 1) := by decide +kernel
set_option maxRecDepth 20000 in
theorem ggX6_drops_X6_placeOf : GoodIn wsX6_drops wsX6_placeOf := goodIn_r _ [5] (by decide +kernel) (by decide +kernel)
set_option maxRecDepth 20000 in
theorem gX6_drops_X6_placeOf : GoodIn wsX6_drops (va_wsS RX6 48 yX6_placeOf wsX6_placeOf) := goodIn_app (goodIn_of _ (by decide +kernel)) ggX6_drops_X6_placeOf
set_option maxRecDepth 20000 in
theorem ggX6_drops_X6_writesBack : GoodIn wsX6_drops wsX6_writesBack := goodIn_r _ [9, 1, 25, 26, 27, 28, 29, 30, 31, 32, 33, 34, 35, 36, 37, 38, 39, 40, 41, 42] (by decide +kernel) (by decide +kernel)
set_option maxRecDepth 20000 in
theorem gX6_drops_X6_writesBack : GoodIn wsX6_drops (wsV RX6 55 RX6 yX6_writesBack wsX6_writesBack) := goodIn_app (goodIn_of _ (by decide +kernel)) ggX6_drops_X6_writesBack
set_option maxRecDepth 20000 in
theorem ggX6_drops_X6_leaves : GoodIn wsX6_drops wsX6_leaves := goodIn_r _ [13, 1, 14, 15, 16, 4, 17, 18, 19, 20, 21, 22, 23, 24, 25, 26, 27, 28, 29, 30, 31, 32, 33, 34, 35, 36, 37, 38, 39, 40, 41, 42] (by decide +kernel) (by decide +kernel)
set_option maxRecDepth 20000 in
theorem gX6_drops_X6_leaves : GoodIn wsX6_drops (wsV RX6 59 RX6 yX6_leaves wsX6_leaves) := goodIn_app (goodIn_of _ (by decide +kernel)) ggX6_drops_X6_leaves
theorem dX6_drops_0 : decode cX6_drops 0 = .ok (.iload_n 1, 1) := by decide +kernel
theorem dX6_drops_1 : decode cX6_drops 1 = .ok (.iload_n 2, 1) := by decide +kernel
theorem dX6_drops_2 : decode cX6_drops 2 = .ok (.invokestatic 48, 3) := by decide +kernel
theorem dX6_drops_5 : decode cX6_drops 5 = .ok (.istore_n 3, 1) := by decide +kernel
theorem dX6_drops_6 : decode cX6_drops 6 = .ok (.aload_n 0, 1) := by decide +kernel
theorem dX6_drops_7 : decode cX6_drops 7 = .ok (.getfield 7, 3) := by decide +kernel
theorem dX6_drops_10 : decode cX6_drops 10 = .ok (.sipush 320, 3) := by decide +kernel
theorem dX6_drops_13 : decode cX6_drops 13 = .ok (.iload_n 3, 1) := by decide +kernel
theorem dX6_drops_14 : decode cX6_drops 14 = .ok (.iadd, 1) := by decide +kernel
theorem dX6_drops_15 : decode cX6_drops 15 = .ok (.iaload, 1) := by decide +kernel
theorem dX6_drops_16 : decode cX6_drops 16 = .ok (.istore 4, 2) := by decide +kernel
theorem dX6_drops_18 : decode cX6_drops 18 = .ok (.aload_n 0, 1) := by decide +kernel
theorem dX6_drops_19 : decode cX6_drops 19 = .ok (.iload_n 3, 1) := by decide +kernel
theorem dX6_drops_20 : decode cX6_drops 20 = .ok (.invokevirtual 55, 3) := by decide +kernel
theorem dX6_drops_23 : decode cX6_drops 23 = .ok (.aload_n 0, 1) := by decide +kernel
theorem dX6_drops_24 : decode cX6_drops 24 = .ok (.iload_n 1, 1) := by decide +kernel
theorem dX6_drops_25 : decode cX6_drops 25 = .ok (.iload_n 3, 1) := by decide +kernel
theorem dX6_drops_26 : decode cX6_drops 26 = .ok (.invokevirtual 59, 3) := by decide +kernel
theorem dX6_drops_29 : decode cX6_drops 29 = .ok (.iload 4, 2) := by decide +kernel
theorem dX6_drops_31 : decode cX6_drops 31 = .ok (.ireturn, 1) := by decide +kernel
theorem dX6_linesOf_0 : decode cX6_linesOf 0 = .ok (.iconst 0, 1) := by decide +kernel
theorem dX6_linesOf_1 : decode cX6_linesOf 1 = .ok (.istore_n 2, 1) := by decide +kernel
theorem dX6_linesOf_2 : decode cX6_linesOf 2 = .ok (.bipush 8, 2) := by decide +kernel
theorem dX6_linesOf_4 : decode cX6_linesOf 4 = .ok (.iload_n 1, 1) := by decide +kernel
theorem dX6_linesOf_5 : decode cX6_linesOf 5 = .ok (.imul, 1) := by decide +kernel
theorem dX6_linesOf_6 : decode cX6_linesOf 6 = .ok (.istore_n 3, 1) := by decide +kernel
theorem dX6_linesOf_7 : decode cX6_linesOf 7 = .ok (.iload_n 3, 1) := by decide +kernel
theorem dX6_linesOf_8 : decode cX6_linesOf 8 = .ok (.bipush 8, 2) := by decide +kernel
theorem dX6_linesOf_10 : decode cX6_linesOf 10 = .ok (.iload_n 1, 1) := by decide +kernel
theorem dX6_linesOf_11 : decode cX6_linesOf 11 = .ok (.imul, 1) := by decide +kernel
theorem dX6_linesOf_12 : decode cX6_linesOf 12 = .ok (.bipush 8, 2) := by decide +kernel
theorem dX6_linesOf_14 : decode cX6_linesOf 14 = .ok (.iadd, 1) := by decide +kernel
theorem dX6_linesOf_15 : decode cX6_linesOf 15 = .ok (.if_icmp .ge 32, 3) := by decide +kernel
theorem dX6_linesOf_18 : decode cX6_linesOf 18 = .ok (.iload_n 2, 1) := by decide +kernel
theorem dX6_linesOf_19 : decode cX6_linesOf 19 = .ok (.aload_n 0, 1) := by decide +kernel
theorem dX6_linesOf_20 : decode cX6_linesOf 20 = .ok (.getfield 7, 3) := by decide +kernel
theorem dX6_linesOf_23 : decode cX6_linesOf 23 = .ok (.sipush 256, 3) := by decide +kernel
theorem dX6_linesOf_26 : decode cX6_linesOf 26 = .ok (.iload_n 3, 1) := by decide +kernel
theorem dX6_linesOf_27 : decode cX6_linesOf 27 = .ok (.iadd, 1) := by decide +kernel
theorem dX6_linesOf_28 : decode cX6_linesOf 28 = .ok (.iaload, 1) := by decide +kernel
theorem dX6_linesOf_29 : decode cX6_linesOf 29 = .ok (.bipush (-5), 2) := by decide +kernel
theorem dX6_linesOf_31 : decode cX6_linesOf 31 = .ok (.if_icmp .ne 7, 3) := by decide +kernel
theorem dX6_linesOf_34 : decode cX6_linesOf 34 = .ok (.iconst 0, 1) := by decide +kernel
theorem dX6_linesOf_35 : decode cX6_linesOf 35 = .ok (.goto 4, 3) := by decide +kernel
theorem dX6_linesOf_38 : decode cX6_linesOf 38 = .ok (.iconst 1, 1) := by decide +kernel
theorem dX6_linesOf_39 : decode cX6_linesOf 39 = .ok (.iadd, 1) := by decide +kernel
theorem dX6_linesOf_40 : decode cX6_linesOf 40 = .ok (.istore_n 2, 1) := by decide +kernel
theorem dX6_linesOf_41 : decode cX6_linesOf 41 = .ok (.iinc 3 1, 3) := by decide +kernel
theorem dX6_linesOf_44 : decode cX6_linesOf 44 = .ok (.goto (-37), 3) := by decide +kernel
theorem dX6_linesOf_47 : decode cX6_linesOf 47 = .ok (.iload_n 2, 1) := by decide +kernel
theorem dX6_linesOf_48 : decode cX6_linesOf 48 = .ok (.ireturn, 1) := by decide +kernel
set_option maxRecDepth 20000 in
theorem ggX6_isEmpty_X6_linesOf : GoodIn wsX6_isEmpty wsX6_linesOf := goodIn_r _ [5, 6, 15, 16, 17, 18, 19, 20, 21, 22, 23, 24, 25, 26, 27, 28, 29, 30, 31, 32] (by decide +kernel) (by decide +kernel)
set_option maxRecDepth 20000 in
theorem gX6_isEmpty_X6_linesOf : GoodIn wsX6_isEmpty (wsV RX6 96 RX6 yX6_linesOf wsX6_linesOf) := goodIn_app (goodIn_of _ (by decide +kernel)) ggX6_isEmpty_X6_linesOf
set_option maxRecDepth 20000 in
theorem ggX6_isEmpty_X6_countersFrom : GoodIn wsX6_isEmpty wsX6_countersFrom := goodIn_r _ [10, 6, 15, 16, 17, 18, 19, 20, 21, 22, 23, 24, 25, 26, 27, 28, 29, 30, 31, 32] (by decide +kernel) (by decide +kernel)
set_option maxRecDepth 20000 in
theorem gX6_isEmpty_X6_countersFrom : GoodIn wsX6_isEmpty (wsV RX6 72 RX6 yX6_countersFrom wsX6_countersFrom) := goodIn_app (goodIn_of _ (by decide +kernel)) ggX6_isEmpty_X6_countersFrom
set_option maxRecDepth 20000 in
theorem ggX6_isEmpty_X6_bits : GoodIn wsX6_isEmpty wsX6_bits := goodIn_r _ [14, 6, 15, 16, 17, 18, 19, 20, 21, 22, 23, 24, 25, 26, 27, 28, 29, 30, 31, 32] (by decide +kernel) (by decide +kernel)
set_option maxRecDepth 20000 in
theorem gX6_isEmpty_X6_bits : GoodIn wsX6_isEmpty (wsV RX6 100 RX6 yX6_bits wsX6_bits) := goodIn_app (goodIn_of _ (by decide +kernel)) ggX6_isEmpty_X6_bits
theorem dX6_isEmpty_0 : decode cX6_isEmpty 0 = .ok (.aload_n 0, 1) := by decide +kernel
theorem dX6_isEmpty_1 : decode cX6_isEmpty 1 = .ok (.iload_n 1, 1) := by decide +kernel
theorem dX6_isEmpty_2 : decode cX6_isEmpty 2 = .ok (.invokevirtual 96, 3) := by decide +kernel
theorem dX6_isEmpty_5 : decode cX6_isEmpty 5 = .ok (.ifCond .ne 24, 3) := by decide +kernel
theorem dX6_isEmpty_8 : decode cX6_isEmpty 8 = .ok (.aload_n 0, 1) := by decide +kernel
theorem dX6_isEmpty_9 : decode cX6_isEmpty 9 = .ok (.iload_n 1, 1) := by decide +kernel
theorem dX6_isEmpty_10 : decode cX6_isEmpty 10 = .ok (.iconst 1, 1) := by decide +kernel
theorem dX6_isEmpty_11 : decode cX6_isEmpty 11 = .ok (.invokevirtual 72, 3) := by decide +kernel
theorem dX6_isEmpty_14 : decode cX6_isEmpty 14 = .ok (.ifCond .ne 15, 3) := by decide +kernel
theorem dX6_isEmpty_17 : decode cX6_isEmpty 17 = .ok (.aload_n 0, 1) := by decide +kernel
theorem dX6_isEmpty_18 : decode cX6_isEmpty 18 = .ok (.iload_n 1, 1) := by decide +kernel
theorem dX6_isEmpty_19 : decode cX6_isEmpty 19 = .ok (.invokevirtual 100, 3) := by decide +kernel
theorem dX6_isEmpty_22 : decode cX6_isEmpty 22 = .ok (.ifCond .ne 7, 3) := by decide +kernel
theorem dX6_isEmpty_25 : decode cX6_isEmpty 25 = .ok (.iconst 1, 1) := by decide +kernel
theorem dX6_isEmpty_26 : decode cX6_isEmpty 26 = .ok (.goto 4, 3) := by decide +kernel
theorem dX6_isEmpty_29 : decode cX6_isEmpty 29 = .ok (.iconst 0, 1) := by decide +kernel
theorem dX6_isEmpty_30 : decode cX6_isEmpty 30 = .ok (.ireturn, 1) := by decide +kernel
set_option maxRecDepth 20000 in
theorem ggX6_read_X6_isCore : GoodIn wsX6_read wsX6_isCore := goodIn_r _ [4, 5, 6, 3, 7] (by decide +kernel) (by decide +kernel)
set_option maxRecDepth 20000 in
theorem gX6_read_X6_isCore : GoodIn wsX6_read (va_wsS RX6 103 yX6_isCore wsX6_isCore) := goodIn_app (goodIn_of _ (by decide +kernel)) ggX6_read_X6_isCore
set_option maxRecDepth 20000 in
theorem ggX6_read_X6_isLine : GoodIn wsX6_read wsX6_isLine := goodIn_r _ [10, 5, 6, 3, 7] (by decide +kernel) (by decide +kernel)
set_option maxRecDepth 20000 in
theorem gX6_read_X6_isLine : GoodIn wsX6_read (va_wsS RX6 107 yX6_isLine wsX6_isLine) := goodIn_app (goodIn_of _ (by decide +kernel)) ggX6_read_X6_isLine
set_option maxRecDepth 20000 in
theorem ggX6_read_X6_record : GoodIn wsX6_read wsX6_record := goodIn_r _ [14, 15, 16, 17, 87, 88, 89, 90, 91, 92, 93, 94, 95, 96, 97, 98, 99, 100, 101, 102, 103, 104] (by decide +kernel) (by decide +kernel)
set_option maxRecDepth 20000 in
theorem gX6_read_X6_record : GoodIn wsX6_read (wsV RX6 110 RX6 yX6_record wsX6_record) := goodIn_app (goodIn_of _ (by decide +kernel)) ggX6_read_X6_record
set_option maxRecDepth 20000 in
theorem ggX6_read_X6_reads : GoodIn wsX6_read wsX6_reads := goodIn_r _ [21, 17, 22, 23, 24, 3, 25, 26, 27, 28, 29, 30, 31, 32, 33, 34, 35, 36, 37, 38, 39, 40, 41, 42, 43, 44, 45, 46, 47, 48, 49, 50, 51, 52, 53, 54, 55, 56, 57, 58, 59, 60, 61, 62, 63, 64, 65, 66, 67, 68, 69, 70, 71, 72, 73, 74, 75, 76, 77, 78, 79, 80, 81, 82, 83, 84, 85, 86, 87, 88, 89, 90, 91, 92, 93, 94, 95, 96, 97, 98, 99, 100, 101, 102, 103, 104] (by decide +kernel) (by decide +kernel)
set_option maxRecDepth 20000 in
theorem gX6_read_X6_reads : GoodIn wsX6_read (wsV RX6 113 RX6 yX6_reads wsX6_reads) := goodIn_app (goodIn_of _ (by decide +kernel)) ggX6_read_X6_reads
theorem dX6_read_0 : decode cX6_read 0 = .ok (.iload_n 1, 1) := by decide +kernel
theorem dX6_read_1 : decode cX6_read 1 = .ok (.invokestatic 103, 3) := by decide +kernel
theorem dX6_read_4 : decode cX6_read 4 = .ok (.ifCond .eq 10, 3) := by decide +kernel
theorem dX6_read_7 : decode cX6_read 7 = .ok (.iload_n 2, 1) := by decide +kernel
theorem dX6_read_8 : decode cX6_read 8 = .ok (.invokestatic 107, 3) := by decide +kernel
theorem dX6_read_11 : decode cX6_read 11 = .ok (.ifCond .ne 5, 3) := by decide +kernel
theorem dX6_read_14 : decode cX6_read 14 = .ok (.iconst (-1), 1) := by decide +kernel
theorem dX6_read_15 : decode cX6_read 15 = .ok (.ireturn, 1) := by decide +kernel
theorem dX6_read_16 : decode cX6_read 16 = .ok (.aload_n 0, 1) := by decide +kernel
theorem dX6_read_17 : decode cX6_read 17 = .ok (.invokevirtual 110, 3) := by decide +kernel
theorem dX6_read_20 : decode cX6_read 20 = .ok (.aload_n 0, 1) := by decide +kernel
theorem dX6_read_21 : decode cX6_read 21 = .ok (.iload_n 1, 1) := by decide +kernel
theorem dX6_read_22 : decode cX6_read 22 = .ok (.iload_n 2, 1) := by decide +kernel
theorem dX6_read_23 : decode cX6_read 23 = .ok (.invokevirtual 113, 3) := by decide +kernel
theorem dX6_read_26 : decode cX6_read 26 = .ok (.ireturn, 1) := by decide +kernel
set_option maxRecDepth 20000 in
theorem ggX6_write_X6_isCore : GoodIn wsX6_write wsX6_isCore := goodIn_r _ [4, 5, 6, 3, 7] (by decide +kernel) (by decide +kernel)
set_option maxRecDepth 20000 in
theorem gX6_write_X6_isCore : GoodIn wsX6_write (va_wsS RX6 103 yX6_isCore wsX6_isCore) := goodIn_app (goodIn_of _ (by decide +kernel)) ggX6_write_X6_isCore
set_option maxRecDepth 20000 in
theorem ggX6_write_X6_isLine : GoodIn wsX6_write wsX6_isLine := goodIn_r _ [10, 5, 6, 3, 7] (by decide +kernel) (by decide +kernel)
set_option maxRecDepth 20000 in
theorem gX6_write_X6_isLine : GoodIn wsX6_write (va_wsS RX6 107 yX6_isLine wsX6_isLine) := goodIn_app (goodIn_of _ (by decide +kernel)) ggX6_write_X6_isLine
set_option maxRecDepth 20000 in
theorem ggX6_write_X6_in : GoodIn wsX6_write wsX6_in := goodIn_r _ [7] (by decide +kernel) (by decide +kernel)
set_option maxRecDepth 20000 in
theorem gX6_write_X6_in : GoodIn wsX6_write (va_wsS RX6 29 yX6_in wsX6_in) := goodIn_app (goodIn_of _ (by decide +kernel)) ggX6_write_X6_in
set_option maxRecDepth 20000 in
theorem ggX6_write_X6_record : GoodIn wsX6_write wsX6_record := goodIn_r _ [14, 15, 16, 17, 87, 88, 89, 90, 91, 92, 93, 94, 95, 96, 97, 98, 99, 100, 101, 102, 103, 104] (by decide +kernel) (by decide +kernel)
set_option maxRecDepth 20000 in
theorem gX6_write_X6_record : GoodIn wsX6_write (wsV RX6 110 RX6 yX6_record wsX6_record) := goodIn_app (goodIn_of _ (by decide +kernel)) ggX6_write_X6_record
set_option maxRecDepth 20000 in
theorem ggX6_write_X6_writes : GoodIn wsX6_write wsX6_writes := goodIn_r _ [21, 17, 22, 23, 3, 24, 25, 26, 27, 28, 29, 30, 31, 32, 33, 34, 35, 36, 37, 38, 39, 40, 41, 42, 43, 44, 45, 46, 47, 48, 49, 50, 51, 52, 53, 54, 55, 56, 57, 58, 59, 60, 61, 62, 63, 64, 65, 66, 67, 68, 69, 70, 71, 72, 73, 74, 75, 76, 77, 78, 79, 80, 81, 82, 83, 84, 85, 86, 87, 88, 89, 90, 91, 92, 93, 94, 95, 96, 97, 98, 99, 100, 101, 102, 103, 104] (by decide +kernel) (by decide +kernel)
set_option maxRecDepth 20000 in
theorem gX6_write_X6_writes : GoodIn wsX6_write (wsV RX6 116 RX6 yX6_writes wsX6_writes) := goodIn_app (goodIn_of _ (by decide +kernel)) ggX6_write_X6_writes
theorem dX6_write_0 : decode cX6_write 0 = .ok (.iload_n 1, 1) := by decide +kernel
theorem dX6_write_1 : decode cX6_write 1 = .ok (.invokestatic 103, 3) := by decide +kernel
theorem dX6_write_4 : decode cX6_write 4 = .ok (.ifCond .eq 10, 3) := by decide +kernel
theorem dX6_write_7 : decode cX6_write 7 = .ok (.iload_n 2, 1) := by decide +kernel
theorem dX6_write_8 : decode cX6_write 8 = .ok (.invokestatic 107, 3) := by decide +kernel
theorem dX6_write_11 : decode cX6_write 11 = .ok (.ifCond .ne 5, 3) := by decide +kernel
theorem dX6_write_14 : decode cX6_write 14 = .ok (.iconst (-1), 1) := by decide +kernel
theorem dX6_write_15 : decode cX6_write 15 = .ok (.ireturn, 1) := by decide +kernel
theorem dX6_write_16 : decode cX6_write 16 = .ok (.iload_n 3, 1) := by decide +kernel
theorem dX6_write_17 : decode cX6_write 17 = .ok (.iconst 0, 1) := by decide +kernel
theorem dX6_write_18 : decode cX6_write 18 = .ok (.sipush 9999, 3) := by decide +kernel
theorem dX6_write_21 : decode cX6_write 21 = .ok (.invokestatic 29, 3) := by decide +kernel
theorem dX6_write_24 : decode cX6_write 24 = .ok (.ifCond .ne 6, 3) := by decide +kernel
theorem dX6_write_27 : decode cX6_write 27 = .ok (.bipush (-2), 2) := by decide +kernel
theorem dX6_write_29 : decode cX6_write 29 = .ok (.ireturn, 1) := by decide +kernel
theorem dX6_write_30 : decode cX6_write 30 = .ok (.aload_n 0, 1) := by decide +kernel
theorem dX6_write_31 : decode cX6_write 31 = .ok (.invokevirtual 110, 3) := by decide +kernel
theorem dX6_write_34 : decode cX6_write 34 = .ok (.aload_n 0, 1) := by decide +kernel
theorem dX6_write_35 : decode cX6_write 35 = .ok (.iload_n 1, 1) := by decide +kernel
theorem dX6_write_36 : decode cX6_write 36 = .ok (.iload_n 2, 1) := by decide +kernel
theorem dX6_write_37 : decode cX6_write 37 = .ok (.iload_n 3, 1) := by decide +kernel
theorem dX6_write_38 : decode cX6_write 38 = .ok (.invokevirtual 116, 3) := by decide +kernel
theorem dX6_write_41 : decode cX6_write 41 = .ok (.ireturn, 1) := by decide +kernel
set_option maxRecDepth 20000 in
theorem ggX6_drop_X6_isCore : GoodIn wsX6_drop wsX6_isCore := goodIn_r _ [4, 5, 6, 3, 7] (by decide +kernel) (by decide +kernel)
set_option maxRecDepth 20000 in
theorem gX6_drop_X6_isCore : GoodIn wsX6_drop (va_wsS RX6 103 yX6_isCore wsX6_isCore) := goodIn_app (goodIn_of _ (by decide +kernel)) ggX6_drop_X6_isCore
set_option maxRecDepth 20000 in
theorem ggX6_drop_X6_isLine : GoodIn wsX6_drop wsX6_isLine := goodIn_r _ [10, 5, 6, 3, 7] (by decide +kernel) (by decide +kernel)
set_option maxRecDepth 20000 in
theorem gX6_drop_X6_isLine : GoodIn wsX6_drop (va_wsS RX6 107 yX6_isLine wsX6_isLine) := goodIn_app (goodIn_of _ (by decide +kernel)) ggX6_drop_X6_isLine
set_option maxRecDepth 20000 in
theorem ggX6_drop_X6_holds : GoodIn wsX6_drop wsX6_holds := goodIn_r _ [14, 15, 16, 17, 3, 18, 48, 49, 50, 51, 52, 53, 54, 55, 56, 57, 58, 59, 60, 61, 62, 63, 64, 65] (by decide +kernel) (by decide +kernel)
set_option maxRecDepth 20000 in
theorem gX6_drop_X6_holds : GoodIn wsX6_drop (wsV RX6 81 RX6 yX6_holds wsX6_holds) := goodIn_app (goodIn_of _ (by decide +kernel)) ggX6_drop_X6_holds
set_option maxRecDepth 20000 in
theorem ggX6_drop_X6_record : GoodIn wsX6_drop wsX6_record := goodIn_r _ [22, 23, 24, 15, 48, 49, 50, 51, 52, 53, 54, 55, 56, 57, 58, 59, 60, 61, 62, 63, 64, 65] (by decide +kernel) (by decide +kernel)
set_option maxRecDepth 20000 in
theorem gX6_drop_X6_record : GoodIn wsX6_drop (wsV RX6 110 RX6 yX6_record wsX6_record) := goodIn_app (goodIn_of _ (by decide +kernel)) ggX6_drop_X6_record
set_option maxRecDepth 20000 in
theorem ggX6_drop_X6_drops : GoodIn wsX6_drop wsX6_drops := goodIn_r _ [28, 15, 16, 17, 3, 18, 29, 30, 31, 32, 33, 34, 35, 36, 37, 38, 39, 40, 41, 42, 43, 44, 45, 46, 47, 48, 49, 50, 51, 52, 53, 54, 55, 56, 57, 58, 59, 60, 61, 62, 63, 64, 65] (by decide +kernel) (by decide +kernel)
set_option maxRecDepth 20000 in
theorem gX6_drop_X6_drops : GoodIn wsX6_drop (wsV RX6 119 RX6 yX6_drops wsX6_drops) := goodIn_app (goodIn_of _ (by decide +kernel)) ggX6_drop_X6_drops
theorem dX6_drop_0 : decode cX6_drop 0 = .ok (.iload_n 1, 1) := by decide +kernel
theorem dX6_drop_1 : decode cX6_drop 1 = .ok (.invokestatic 103, 3) := by decide +kernel
theorem dX6_drop_4 : decode cX6_drop 4 = .ok (.ifCond .eq 10, 3) := by decide +kernel
theorem dX6_drop_7 : decode cX6_drop 7 = .ok (.iload_n 2, 1) := by decide +kernel
theorem dX6_drop_8 : decode cX6_drop 8 = .ok (.invokestatic 107, 3) := by decide +kernel
theorem dX6_drop_11 : decode cX6_drop 11 = .ok (.ifCond .ne 5, 3) := by decide +kernel
theorem dX6_drop_14 : decode cX6_drop 14 = .ok (.iconst (-1), 1) := by decide +kernel
theorem dX6_drop_15 : decode cX6_drop 15 = .ok (.ireturn, 1) := by decide +kernel
theorem dX6_drop_16 : decode cX6_drop 16 = .ok (.aload_n 0, 1) := by decide +kernel
theorem dX6_drop_17 : decode cX6_drop 17 = .ok (.iload_n 1, 1) := by decide +kernel
theorem dX6_drop_18 : decode cX6_drop 18 = .ok (.iload_n 2, 1) := by decide +kernel
theorem dX6_drop_19 : decode cX6_drop 19 = .ok (.invokevirtual 81, 3) := by decide +kernel
theorem dX6_drop_22 : decode cX6_drop 22 = .ok (.ifCond .ne 6, 3) := by decide +kernel
theorem dX6_drop_25 : decode cX6_drop 25 = .ok (.bipush (-4), 2) := by decide +kernel
theorem dX6_drop_27 : decode cX6_drop 27 = .ok (.ireturn, 1) := by decide +kernel
theorem dX6_drop_28 : decode cX6_drop 28 = .ok (.aload_n 0, 1) := by decide +kernel
theorem dX6_drop_29 : decode cX6_drop 29 = .ok (.invokevirtual 110, 3) := by decide +kernel
theorem dX6_drop_32 : decode cX6_drop 32 = .ok (.aload_n 0, 1) := by decide +kernel
theorem dX6_drop_33 : decode cX6_drop 33 = .ok (.iload_n 1, 1) := by decide +kernel
theorem dX6_drop_34 : decode cX6_drop 34 = .ok (.iload_n 2, 1) := by decide +kernel
theorem dX6_drop_35 : decode cX6_drop 35 = .ok (.invokevirtual 119, 3) := by decide +kernel
theorem dX6_drop_38 : decode cX6_drop 38 = .ok (.ireturn, 1) := by decide +kernel
set_option maxRecDepth 20000 in
theorem ggX6_forget_X6_isCore : GoodIn wsX6_forget wsX6_isCore := goodIn_r _ [4, 5, 6, 3, 7] (by decide +kernel) (by decide +kernel)
set_option maxRecDepth 20000 in
theorem gX6_forget_X6_isCore : GoodIn wsX6_forget (va_wsS RX6 103 yX6_isCore wsX6_isCore) := goodIn_app (goodIn_of _ (by decide +kernel)) ggX6_forget_X6_isCore
set_option maxRecDepth 20000 in
theorem ggX6_forget_X6_isEmpty : GoodIn wsX6_forget wsX6_isEmpty := goodIn_r _ [11, 12, 13, 14, 3, 15, 16, 17, 18, 19, 20, 21, 22, 23, 24, 61, 62, 63, 64, 65, 66, 67, 68, 69, 70, 71, 72, 73, 74, 75, 76, 77, 78] (by decide +kernel) (by decide +kernel)
set_option maxRecDepth 20000 in
theorem gX6_forget_X6_isEmpty : GoodIn wsX6_forget (wsV RX6 122 RX6 yX6_isEmpty wsX6_isEmpty) := goodIn_app (goodIn_of _ (by decide +kernel)) ggX6_forget_X6_isEmpty
set_option maxRecDepth 20000 in
theorem ggX6_forget_X6_record : GoodIn wsX6_forget wsX6_record := goodIn_r _ [28, 29, 30, 16, 61, 62, 63, 64, 65, 66, 67, 68, 69, 70, 71, 72, 73, 74, 75, 76, 77, 78] (by decide +kernel) (by decide +kernel)
set_option maxRecDepth 20000 in
theorem gX6_forget_X6_record : GoodIn wsX6_forget (wsV RX6 110 RX6 yX6_record wsX6_record) := goodIn_app (goodIn_of _ (by decide +kernel)) ggX6_forget_X6_record
set_option maxRecDepth 20000 in
theorem ggX6_forget_X6_forgets : GoodIn wsX6_forget wsX6_forgets := goodIn_r _ [34, 16, 35, 36, 37, 3, 38, 39, 40, 41, 42, 43, 44, 45, 46, 47, 48, 49, 50, 51, 52, 53, 54, 55, 56, 57, 58, 59, 60, 61, 62, 63, 64, 65, 66, 67, 68, 69, 70, 71, 72, 73, 74, 75, 76, 77, 78] (by decide +kernel) (by decide +kernel)
set_option maxRecDepth 20000 in
theorem gX6_forget_X6_forgets : GoodIn wsX6_forget (wsV RX6 75 RX6 yX6_forgets wsX6_forgets) := goodIn_app (goodIn_of _ (by decide +kernel)) ggX6_forget_X6_forgets
theorem dX6_forget_0 : decode cX6_forget 0 = .ok (.iload_n 1, 1) := by decide +kernel
theorem dX6_forget_1 : decode cX6_forget 1 = .ok (.invokestatic 103, 3) := by decide +kernel
theorem dX6_forget_4 : decode cX6_forget 4 = .ok (.ifCond .ne 5, 3) := by decide +kernel
theorem dX6_forget_7 : decode cX6_forget 7 = .ok (.iconst (-1), 1) := by decide +kernel
theorem dX6_forget_8 : decode cX6_forget 8 = .ok (.ireturn, 1) := by decide +kernel
theorem dX6_forget_9 : decode cX6_forget 9 = .ok (.aload_n 0, 1) := by decide +kernel
theorem dX6_forget_10 : decode cX6_forget 10 = .ok (.iload_n 1, 1) := by decide +kernel
theorem dX6_forget_11 : decode cX6_forget 11 = .ok (.invokevirtual 122, 3) := by decide +kernel
theorem dX6_forget_14 : decode cX6_forget 14 = .ok (.ifCond .eq 6, 3) := by decide +kernel
theorem dX6_forget_17 : decode cX6_forget 17 = .ok (.bipush (-5), 2) := by decide +kernel
theorem dX6_forget_19 : decode cX6_forget 19 = .ok (.ireturn, 1) := by decide +kernel
theorem dX6_forget_20 : decode cX6_forget 20 = .ok (.aload_n 0, 1) := by decide +kernel
theorem dX6_forget_21 : decode cX6_forget 21 = .ok (.invokevirtual 110, 3) := by decide +kernel
theorem dX6_forget_24 : decode cX6_forget 24 = .ok (.aload_n 0, 1) := by decide +kernel
theorem dX6_forget_25 : decode cX6_forget 25 = .ok (.iload_n 1, 1) := by decide +kernel
theorem dX6_forget_26 : decode cX6_forget 26 = .ok (.bipush (-5), 2) := by decide +kernel
theorem dX6_forget_28 : decode cX6_forget 28 = .ok (.invokevirtual 75, 3) := by decide +kernel
theorem dX6_forget_31 : decode cX6_forget 31 = .ok (.ireturn, 1) := by decide +kernel
set_option maxRecDepth 20000 in
theorem ggX6_set_X6_in : GoodIn wsX6_set wsX6_in := goodIn_r _ [5] (by decide +kernel) (by decide +kernel)
set_option maxRecDepth 20000 in
theorem gX6_set_X6_in : GoodIn wsX6_set (va_wsS RX6 29 yX6_in wsX6_in) := goodIn_app (goodIn_of _ (by decide +kernel)) ggX6_set_X6_in
set_option maxRecDepth 20000 in
theorem ggX6_set_X6_record : GoodIn wsX6_set wsX6_record := goodIn_r _ [9, 10, 11, 1, 12, 13, 14, 15, 16, 17, 18, 19, 20, 21, 22, 23, 24, 25, 26, 27, 28, 29] (by decide +kernel) (by decide +kernel)
set_option maxRecDepth 20000 in
theorem gX6_set_X6_record : GoodIn wsX6_set (wsV RX6 110 RX6 yX6_record wsX6_record) := goodIn_app (goodIn_of _ (by decide +kernel)) ggX6_set_X6_record
theorem dX6_set_0 : decode cX6_set 0 = .ok (.iload_n 1, 1) := by decide +kernel
theorem dX6_set_1 : decode cX6_set 1 = .ok (.iconst 0, 1) := by decide +kernel
theorem dX6_set_2 : decode cX6_set 2 = .ok (.iconst 1, 1) := by decide +kernel
theorem dX6_set_3 : decode cX6_set 3 = .ok (.invokestatic 29, 3) := by decide +kernel
theorem dX6_set_6 : decode cX6_set 6 = .ok (.ifCond .ne 5, 3) := by decide +kernel
theorem dX6_set_9 : decode cX6_set 9 = .ok (.iconst (-1), 1) := by decide +kernel
theorem dX6_set_10 : decode cX6_set 10 = .ok (.ireturn, 1) := by decide +kernel
theorem dX6_set_11 : decode cX6_set 11 = .ok (.iload_n 2, 1) := by decide +kernel
theorem dX6_set_12 : decode cX6_set 12 = .ok (.iconst 1, 1) := by decide +kernel
theorem dX6_set_13 : decode cX6_set 13 = .ok (.iload_n 1, 1) := by decide +kernel
theorem dX6_set_14 : decode cX6_set 14 = .ok (.ifCond .ne 8, 3) := by decide +kernel
theorem dX6_set_17 : decode cX6_set 17 = .ok (.bipush 9, 2) := by decide +kernel
theorem dX6_set_19 : decode cX6_set 19 = .ok (.goto 5, 3) := by decide +kernel
theorem dX6_set_22 : decode cX6_set 22 = .ok (.bipush 24, 2) := by decide +kernel
theorem dX6_set_24 : decode cX6_set 24 = .ok (.invokestatic 29, 3) := by decide +kernel
theorem dX6_set_27 : decode cX6_set 27 = .ok (.ifCond .ne 6, 3) := by decide +kernel
theorem dX6_set_30 : decode cX6_set 30 = .ok (.bipush (-2), 2) := by decide +kernel
theorem dX6_set_32 : decode cX6_set 32 = .ok (.ireturn, 1) := by decide +kernel
theorem dX6_set_33 : decode cX6_set 33 = .ok (.aload_n 0, 1) := by decide +kernel
theorem dX6_set_34 : decode cX6_set 34 = .ok (.getfield 7, 3) := by decide +kernel
theorem dX6_set_37 : decode cX6_set 37 = .ok (.sipush 536, 3) := by decide +kernel
theorem dX6_set_40 : decode cX6_set 40 = .ok (.iload_n 1, 1) := by decide +kernel
theorem dX6_set_41 : decode cX6_set 41 = .ok (.iadd, 1) := by decide +kernel
theorem dX6_set_42 : decode cX6_set 42 = .ok (.iaload, 1) := by decide +kernel
theorem dX6_set_43 : decode cX6_set 43 = .ok (.istore_n 3, 1) := by decide +kernel
theorem dX6_set_44 : decode cX6_set 44 = .ok (.iload_n 3, 1) := by decide +kernel
theorem dX6_set_45 : decode cX6_set 45 = .ok (.iload_n 2, 1) := by decide +kernel
theorem dX6_set_46 : decode cX6_set 46 = .ok (.if_icmp .ne 6, 3) := by decide +kernel
theorem dX6_set_49 : decode cX6_set 49 = .ok (.bipush (-5), 2) := by decide +kernel
theorem dX6_set_51 : decode cX6_set 51 = .ok (.ireturn, 1) := by decide +kernel
theorem dX6_set_52 : decode cX6_set 52 = .ok (.aload_n 0, 1) := by decide +kernel
theorem dX6_set_53 : decode cX6_set 53 = .ok (.invokevirtual 110, 3) := by decide +kernel
theorem dX6_set_56 : decode cX6_set 56 = .ok (.aload_n 0, 1) := by decide +kernel
theorem dX6_set_57 : decode cX6_set 57 = .ok (.getfield 7, 3) := by decide +kernel
theorem dX6_set_60 : decode cX6_set 60 = .ok (.sipush 536, 3) := by decide +kernel
theorem dX6_set_63 : decode cX6_set 63 = .ok (.iload_n 1, 1) := by decide +kernel
theorem dX6_set_64 : decode cX6_set 64 = .ok (.iadd, 1) := by decide +kernel
theorem dX6_set_65 : decode cX6_set 65 = .ok (.iload_n 2, 1) := by decide +kernel
theorem dX6_set_66 : decode cX6_set 66 = .ok (.iastore, 1) := by decide +kernel
theorem dX6_set_67 : decode cX6_set 67 = .ok (.iload_n 3, 1) := by decide +kernel
theorem dX6_set_68 : decode cX6_set 68 = .ok (.ireturn, 1) := by decide +kernel
theorem dX6_type_0 : decode cX6_type 0 = .ok (.aload_n 0, 1) := by decide +kernel
theorem dX6_type_1 : decode cX6_type 1 = .ok (.getfield 125, 3) := by decide +kernel
theorem dX6_type_4 : decode cX6_type 4 = .ok (.bipush 80, 2) := by decide +kernel
theorem dX6_type_6 : decode cX6_type 6 = .ok (.if_icmp .ne 6, 3) := by decide +kernel
theorem dX6_type_9 : decode cX6_type 9 = .ok (.bipush (-3), 2) := by decide +kernel
theorem dX6_type_11 : decode cX6_type 11 = .ok (.ireturn, 1) := by decide +kernel
theorem dX6_type_12 : decode cX6_type 12 = .ok (.aload_n 0, 1) := by decide +kernel
theorem dX6_type_13 : decode cX6_type 13 = .ok (.getfield 22, 3) := by decide +kernel
theorem dX6_type_16 : decode cX6_type 16 = .ok (.aload_n 0, 1) := by decide +kernel
theorem dX6_type_17 : decode cX6_type 17 = .ok (.getfield 125, 3) := by decide +kernel
theorem dX6_type_20 : decode cX6_type 20 = .ok (.iload_n 1, 1) := by decide +kernel
theorem dX6_type_21 : decode cX6_type 21 = .ok (.iastore, 1) := by decide +kernel
theorem dX6_type_22 : decode cX6_type 22 = .ok (.aload_n 0, 1) := by decide +kernel
theorem dX6_type_23 : decode cX6_type 23 = .ok (.dup, 1) := by decide +kernel
theorem dX6_type_24 : decode cX6_type 24 = .ok (.getfield 125, 3) := by decide +kernel
theorem dX6_type_27 : decode cX6_type 27 = .ok (.iconst 1, 1) := by decide +kernel
theorem dX6_type_28 : decode cX6_type 28 = .ok (.iadd, 1) := by decide +kernel
theorem dX6_type_29 : decode cX6_type 29 = .ok (.putfield 125, 3) := by decide +kernel
theorem dX6_type_32 : decode cX6_type 32 = .ok (.aload_n 0, 1) := by decide +kernel
theorem dX6_type_33 : decode cX6_type 33 = .ok (.getfield 125, 3) := by decide +kernel
theorem dX6_type_36 : decode cX6_type 36 = .ok (.ireturn, 1) := by decide +kernel
theorem dX6_clearText_0 : decode cX6_clearText 0 = .ok (.aload_n 0, 1) := by decide +kernel
theorem dX6_clearText_1 : decode cX6_clearText 1 = .ok (.getfield 125, 3) := by decide +kernel
theorem dX6_clearText_4 : decode cX6_clearText 4 = .ok (.istore_n 1, 1) := by decide +kernel
theorem dX6_clearText_5 : decode cX6_clearText 5 = .ok (.aload_n 0, 1) := by decide +kernel
theorem dX6_clearText_6 : decode cX6_clearText 6 = .ok (.iconst 0, 1) := by decide +kernel
theorem dX6_clearText_7 : decode cX6_clearText 7 = .ok (.putfield 125, 3) := by decide +kernel
theorem dX6_clearText_10 : decode cX6_clearText 10 = .ok (.iload_n 1, 1) := by decide +kernel
theorem dX6_clearText_11 : decode cX6_clearText 11 = .ok (.ireturn, 1) := by decide +kernel
set_option maxRecDepth 20000 in
theorem ggX6_isNext_X6_in : GoodIn wsX6_isNext wsX6_in := goodIn_r _ [8] (by decide +kernel) (by decide +kernel)
set_option maxRecDepth 20000 in
theorem gX6_isNext_X6_in : GoodIn wsX6_isNext (va_wsS RX6 29 yX6_in wsX6_in) := goodIn_app (goodIn_of _ (by decide +kernel)) ggX6_isNext_X6_in
theorem dX6_isNext_0 : decode cX6_isNext 0 = .ok (.aload_n 0, 1) := by decide +kernel
theorem dX6_isNext_1 : decode cX6_isNext 1 = .ok (.getfield 128, 3) := by decide +kernel
theorem dX6_isNext_4 : decode cX6_isNext 4 = .ok (.ifCond .ne 35, 3) := by decide +kernel
theorem dX6_isNext_7 : decode cX6_isNext 7 = .ok (.aload_n 0, 1) := by decide +kernel
theorem dX6_isNext_8 : decode cX6_isNext 8 = .ok (.getfield 132, 3) := by decide +kernel
theorem dX6_isNext_11 : decode cX6_isNext 11 = .ok (.aload_n 0, 1) := by decide +kernel
theorem dX6_isNext_12 : decode cX6_isNext 12 = .ok (.getfield 125, 3) := by decide +kernel
theorem dX6_isNext_15 : decode cX6_isNext 15 = .ok (.if_icmp .ge 24, 3) := by decide +kernel
theorem dX6_isNext_18 : decode cX6_isNext 18 = .ok (.aload_n 0, 1) := by decide +kernel
theorem dX6_isNext_19 : decode cX6_isNext 19 = .ok (.getfield 22, 3) := by decide +kernel
theorem dX6_isNext_22 : decode cX6_isNext 22 = .ok (.aload_n 0, 1) := by decide +kernel
theorem dX6_isNext_23 : decode cX6_isNext 23 = .ok (.getfield 132, 3) := by decide +kernel
theorem dX6_isNext_26 : decode cX6_isNext 26 = .ok (.iaload, 1) := by decide +kernel
theorem dX6_isNext_27 : decode cX6_isNext 27 = .ok (.iload_n 1, 1) := by decide +kernel
theorem dX6_isNext_28 : decode cX6_isNext 28 = .ok (.iload_n 2, 1) := by decide +kernel
theorem dX6_isNext_29 : decode cX6_isNext 29 = .ok (.invokestatic 29, 3) := by decide +kernel
theorem dX6_isNext_32 : decode cX6_isNext 32 = .ok (.ifCond .eq 7, 3) := by decide +kernel
theorem dX6_isNext_35 : decode cX6_isNext 35 = .ok (.iconst 1, 1) := by decide +kernel
theorem dX6_isNext_36 : decode cX6_isNext 36 = .ok (.goto 4, 3) := by decide +kernel
theorem dX6_isNext_39 : decode cX6_isNext 39 = .ok (.iconst 0, 1) := by decide +kernel
theorem dX6_isNext_40 : decode cX6_isNext 40 = .ok (.ireturn, 1) := by decide +kernel
set_option maxRecDepth 20000 in
theorem ggX6_needs_X6_isNext : GoodIn wsX6_needs wsX6_isNext := goodIn_r _ [7, 2, 1, 8, 9, 10, 11, 6, 12, 13, 14, 15, 16, 17, 18, 19, 20, 21, 22, 23, 24, 25, 26, 27, 28, 29, 30] (by decide +kernel) (by decide +kernel)
set_option maxRecDepth 20000 in
theorem gX6_needs_X6_isNext : GoodIn wsX6_needs (wsV RX6 135 RX6 yX6_isNext wsX6_isNext) := goodIn_app (goodIn_of _ (by decide +kernel)) ggX6_needs_X6_isNext
theorem dX6_needs_0 : decode cX6_needs 0 = .ok (.aload_n 0, 1) := by decide +kernel
theorem dX6_needs_1 : decode cX6_needs 1 = .ok (.iload_n 1, 1) := by decide +kernel
theorem dX6_needs_2 : decode cX6_needs 2 = .ok (.iload_n 1, 1) := by decide +kernel
theorem dX6_needs_3 : decode cX6_needs 3 = .ok (.invokevirtual 135, 3) := by decide +kernel
theorem dX6_needs_6 : decode cX6_needs 6 = .ok (.istore_n 2, 1) := by decide +kernel
theorem dX6_needs_7 : decode cX6_needs 7 = .ok (.aload_n 0, 1) := by decide +kernel
theorem dX6_needs_8 : decode cX6_needs 8 = .ok (.dup, 1) := by decide +kernel
theorem dX6_needs_9 : decode cX6_needs 9 = .ok (.getfield 132, 3) := by decide +kernel
theorem dX6_needs_12 : decode cX6_needs 12 = .ok (.iload_n 2, 1) := by decide +kernel
theorem dX6_needs_13 : decode cX6_needs 13 = .ok (.ifCond .eq 7, 3) := by decide +kernel
theorem dX6_needs_16 : decode cX6_needs 16 = .ok (.iconst 1, 1) := by decide +kernel
theorem dX6_needs_17 : decode cX6_needs 17 = .ok (.goto 4, 3) := by decide +kernel
theorem dX6_needs_20 : decode cX6_needs 20 = .ok (.iconst 0, 1) := by decide +kernel
theorem dX6_needs_21 : decode cX6_needs 21 = .ok (.iadd, 1) := by decide +kernel
theorem dX6_needs_22 : decode cX6_needs 22 = .ok (.putfield 132, 3) := by decide +kernel
theorem dX6_needs_25 : decode cX6_needs 25 = .ok (.aload_n 0, 1) := by decide +kernel
theorem dX6_needs_26 : decode cX6_needs 26 = .ok (.aload_n 0, 1) := by decide +kernel
theorem dX6_needs_27 : decode cX6_needs 27 = .ok (.getfield 128, 3) := by decide +kernel
theorem dX6_needs_30 : decode cX6_needs 30 = .ok (.ifCond .ne 7, 3) := by decide +kernel
theorem dX6_needs_33 : decode cX6_needs 33 = .ok (.iload_n 2, 1) := by decide +kernel
theorem dX6_needs_34 : decode cX6_needs 34 = .ok (.ifCond .ne 7, 3) := by decide +kernel
theorem dX6_needs_37 : decode cX6_needs 37 = .ok (.iconst 1, 1) := by decide +kernel
theorem dX6_needs_38 : decode cX6_needs 38 = .ok (.goto 4, 3) := by decide +kernel
theorem dX6_needs_41 : decode cX6_needs 41 = .ok (.iconst 0, 1) := by decide +kernel
theorem dX6_needs_42 : decode cX6_needs 42 = .ok (.putfield 128, 3) := by decide +kernel
theorem dX6_needs_45 : decode cX6_needs 45 = .ok (.return_, 1) := by decide +kernel
set_option maxRecDepth 20000 in
theorem ggX6_number_X6_isNext : GoodIn wsX6_number wsX6_isNext := goodIn_r _ [8, 1, 3, 9, 2, 10, 11, 7, 12, 13, 14, 15, 16, 17, 18, 19, 20, 21, 22, 23, 24, 25, 26, 27, 28, 29, 30] (by decide +kernel) (by decide +kernel)
set_option maxRecDepth 20000 in
theorem gX6_number_X6_isNext : GoodIn wsX6_number (wsV RX6 135 RX6 yX6_isNext wsX6_isNext) := goodIn_app (goodIn_of _ (by decide +kernel)) ggX6_number_X6_isNext
theorem dX6_number_0 : decode cX6_number 0 = .ok (.aload_n 0, 1) := by decide +kernel
theorem dX6_number_1 : decode cX6_number 1 = .ok (.aload_n 0, 1) := by decide +kernel
theorem dX6_number_2 : decode cX6_number 2 = .ok (.getfield 128, 3) := by decide +kernel
theorem dX6_number_5 : decode cX6_number 5 = .ok (.ifCond .ne 27, 3) := by decide +kernel
theorem dX6_number_8 : decode cX6_number 8 = .ok (.aload_n 0, 1) := by decide +kernel
theorem dX6_number_9 : decode cX6_number 9 = .ok (.bipush 48, 2) := by decide +kernel
theorem dX6_number_11 : decode cX6_number 11 = .ok (.iload_n 1, 1) := by decide +kernel
theorem dX6_number_12 : decode cX6_number 12 = .ok (.bipush 9, 2) := by decide +kernel
theorem dX6_number_14 : decode cX6_number 14 = .ok (.if_icmp .ge 10, 3) := by decide +kernel
theorem dX6_number_17 : decode cX6_number 17 = .ok (.bipush 48, 2) := by decide +kernel
theorem dX6_number_19 : decode cX6_number 19 = .ok (.iload_n 1, 1) := by decide +kernel
theorem dX6_number_20 : decode cX6_number 20 = .ok (.iadd, 1) := by decide +kernel
theorem dX6_number_21 : decode cX6_number 21 = .ok (.goto 5, 3) := by decide +kernel
theorem dX6_number_24 : decode cX6_number 24 = .ok (.bipush 57, 2) := by decide +kernel
theorem dX6_number_26 : decode cX6_number 26 = .ok (.invokevirtual 135, 3) := by decide +kernel
theorem dX6_number_29 : decode cX6_number 29 = .ok (.ifCond .ne 7, 3) := by decide +kernel
theorem dX6_number_32 : decode cX6_number 32 = .ok (.iconst 1, 1) := by decide +kernel
theorem dX6_number_33 : decode cX6_number 33 = .ok (.goto 4, 3) := by decide +kernel
theorem dX6_number_36 : decode cX6_number 36 = .ok (.iconst 0, 1) := by decide +kernel
theorem dX6_number_37 : decode cX6_number 37 = .ok (.putfield 128, 3) := by decide +kernel
theorem dX6_number_40 : decode cX6_number 40 = .ok (.aload_n 0, 1) := by decide +kernel
theorem dX6_number_41 : decode cX6_number 41 = .ok (.getfield 128, 3) := by decide +kernel
theorem dX6_number_44 : decode cX6_number 44 = .ok (.ifCond .eq 7, 3) := by decide +kernel
theorem dX6_number_47 : decode cX6_number 47 = .ok (.iconst 0, 1) := by decide +kernel
theorem dX6_number_48 : decode cX6_number 48 = .ok (.goto 15, 3) := by decide +kernel
theorem dX6_number_51 : decode cX6_number 51 = .ok (.aload_n 0, 1) := by decide +kernel
theorem dX6_number_52 : decode cX6_number 52 = .ok (.getfield 22, 3) := by decide +kernel
theorem dX6_number_55 : decode cX6_number 55 = .ok (.aload_n 0, 1) := by decide +kernel
theorem dX6_number_56 : decode cX6_number 56 = .ok (.getfield 132, 3) := by decide +kernel
theorem dX6_number_59 : decode cX6_number 59 = .ok (.iaload, 1) := by decide +kernel
theorem dX6_number_60 : decode cX6_number 60 = .ok (.bipush 48, 2) := by decide +kernel
theorem dX6_number_62 : decode cX6_number 62 = .ok (.isub, 1) := by decide +kernel
theorem dX6_number_63 : decode cX6_number 63 = .ok (.istore_n 2, 1) := by decide +kernel
theorem dX6_number_64 : decode cX6_number 64 = .ok (.aload_n 0, 1) := by decide +kernel
theorem dX6_number_65 : decode cX6_number 65 = .ok (.dup, 1) := by decide +kernel
theorem dX6_number_66 : decode cX6_number 66 = .ok (.getfield 132, 3) := by decide +kernel
theorem dX6_number_69 : decode cX6_number 69 = .ok (.aload_n 0, 1) := by decide +kernel
theorem dX6_number_70 : decode cX6_number 70 = .ok (.getfield 128, 3) := by decide +kernel
theorem dX6_number_73 : decode cX6_number 73 = .ok (.ifCond .eq 7, 3) := by decide +kernel
theorem dX6_number_76 : decode cX6_number 76 = .ok (.iconst 0, 1) := by decide +kernel
theorem dX6_number_77 : decode cX6_number 77 = .ok (.goto 4, 3) := by decide +kernel
theorem dX6_number_80 : decode cX6_number 80 = .ok (.iconst 1, 1) := by decide +kernel
theorem dX6_number_81 : decode cX6_number 81 = .ok (.iadd, 1) := by decide +kernel
theorem dX6_number_82 : decode cX6_number 82 = .ok (.putfield 132, 3) := by decide +kernel
theorem dX6_number_85 : decode cX6_number 85 = .ok (.iload_n 2, 1) := by decide +kernel
theorem dX6_number_86 : decode cX6_number 86 = .ok (.ifCond .le 66, 3) := by decide +kernel
theorem dX6_number_89 : decode cX6_number 89 = .ok (.aload_n 0, 1) := by decide +kernel
theorem dX6_number_90 : decode cX6_number 90 = .ok (.bipush 48, 2) := by decide +kernel
theorem dX6_number_92 : decode cX6_number 92 = .ok (.bipush 57, 2) := by decide +kernel
theorem dX6_number_94 : decode cX6_number 94 = .ok (.invokevirtual 135, 3) := by decide +kernel
theorem dX6_number_97 : decode cX6_number 97 = .ok (.ifCond .eq 55, 3) := by decide +kernel
theorem dX6_number_100 : decode cX6_number 100 = .ok (.bipush 10, 2) := by decide +kernel
theorem dX6_number_102 : decode cX6_number 102 = .ok (.iload_n 2, 1) := by decide +kernel
theorem dX6_number_103 : decode cX6_number 103 = .ok (.imul, 1) := by decide +kernel
theorem dX6_number_104 : decode cX6_number 104 = .ok (.aload_n 0, 1) := by decide +kernel
theorem dX6_number_105 : decode cX6_number 105 = .ok (.getfield 22, 3) := by decide +kernel
theorem dX6_number_108 : decode cX6_number 108 = .ok (.aload_n 0, 1) := by decide +kernel
theorem dX6_number_109 : decode cX6_number 109 = .ok (.getfield 132, 3) := by decide +kernel
theorem dX6_number_112 : decode cX6_number 112 = .ok (.iaload, 1) := by decide +kernel
theorem dX6_number_113 : decode cX6_number 113 = .ok (.iadd, 1) := by decide +kernel
theorem dX6_number_114 : decode cX6_number 114 = .ok (.bipush 48, 2) := by decide +kernel
theorem dX6_number_116 : decode cX6_number 116 = .ok (.isub, 1) := by decide +kernel
theorem dX6_number_117 : decode cX6_number 117 = .ok (.iload_n 1, 1) := by decide +kernel
theorem dX6_number_118 : decode cX6_number 118 = .ok (.if_icmp .gt 34, 3) := by decide +kernel
theorem dX6_number_121 : decode cX6_number 121 = .ok (.bipush 10, 2) := by decide +kernel
theorem dX6_number_123 : decode cX6_number 123 = .ok (.iload_n 2, 1) := by decide +kernel
theorem dX6_number_124 : decode cX6_number 124 = .ok (.imul, 1) := by decide +kernel
theorem dX6_number_125 : decode cX6_number 125 = .ok (.aload_n 0, 1) := by decide +kernel
theorem dX6_number_126 : decode cX6_number 126 = .ok (.getfield 22, 3) := by decide +kernel
theorem dX6_number_129 : decode cX6_number 129 = .ok (.aload_n 0, 1) := by decide +kernel
theorem dX6_number_130 : decode cX6_number 130 = .ok (.getfield 132, 3) := by decide +kernel
theorem dX6_number_133 : decode cX6_number 133 = .ok (.iaload, 1) := by decide +kernel
theorem dX6_number_134 : decode cX6_number 134 = .ok (.iadd, 1) := by decide +kernel
theorem dX6_number_135 : decode cX6_number 135 = .ok (.bipush 48, 2) := by decide +kernel
theorem dX6_number_137 : decode cX6_number 137 = .ok (.isub, 1) := by decide +kernel
theorem dX6_number_138 : decode cX6_number 138 = .ok (.istore_n 2, 1) := by decide +kernel
theorem dX6_number_139 : decode cX6_number 139 = .ok (.aload_n 0, 1) := by decide +kernel
theorem dX6_number_140 : decode cX6_number 140 = .ok (.dup, 1) := by decide +kernel
theorem dX6_number_141 : decode cX6_number 141 = .ok (.getfield 132, 3) := by decide +kernel
theorem dX6_number_144 : decode cX6_number 144 = .ok (.iconst 1, 1) := by decide +kernel
theorem dX6_number_145 : decode cX6_number 145 = .ok (.iadd, 1) := by decide +kernel
theorem dX6_number_146 : decode cX6_number 146 = .ok (.putfield 132, 3) := by decide +kernel
theorem dX6_number_149 : decode cX6_number 149 = .ok (.goto (-64), 3) := by decide +kernel
theorem dX6_number_152 : decode cX6_number 152 = .ok (.iload_n 2, 1) := by decide +kernel
theorem dX6_number_153 : decode cX6_number 153 = .ok (.ireturn, 1) := by decide +kernel
set_option maxRecDepth 20000 in
theorem ggX6_readsDeed_X6_isNext : GoodIn wsX6_readsDeed wsX6_isNext := goodIn_r _ [12, 4, 2, 13, 1, 14, 15, 11, 16, 25, 26, 27, 28, 29, 30, 31, 32, 33, 34, 35, 36, 37, 38, 39, 40, 41, 42] (by decide +kernel) (by decide +kernel)
set_option maxRecDepth 20000 in
theorem gX6_readsDeed_X6_isNext : GoodIn wsX6_readsDeed (wsV RX6 135 RX6 yX6_isNext wsX6_isNext) := goodIn_app (goodIn_of _ (by decide +kernel)) ggX6_readsDeed_X6_isNext
set_option maxRecDepth 20000 in
theorem ggX6_readsDeed_X6_number : GoodIn wsX6_readsDeed wsX6_number := goodIn_r _ [20, 4, 1, 2, 8, 9, 10, 11, 12, 13, 14, 15, 16, 25, 26, 27, 28, 29, 30, 31, 32, 33, 34, 35, 36, 37, 38, 39, 40, 41, 42] (by decide +kernel) (by decide +kernel)
set_option maxRecDepth 20000 in
theorem gX6_readsDeed_X6_number : GoodIn wsX6_readsDeed (wsV RX6 141 RX6 yX6_number wsX6_number) := goodIn_app (goodIn_of _ (by decide +kernel)) ggX6_readsDeed_X6_number
set_option maxRecDepth 20000 in
theorem ggX6_readsDeed_X6_needs : GoodIn wsX6_readsDeed wsX6_needs := goodIn_r _ [24, 2, 4, 8, 9, 10, 11, 12, 13, 1, 14, 15, 16, 25, 26, 27, 28, 29, 30, 31, 32, 33, 34, 35, 36, 37, 38, 39, 40, 41, 42] (by decide +kernel) (by decide +kernel)
set_option maxRecDepth 20000 in
theorem gX6_readsDeed_X6_needs : GoodIn wsX6_readsDeed (wsV RX6 147 RX6 yX6_needs wsX6_needs) := goodIn_app (goodIn_of _ (by decide +kernel)) ggX6_readsDeed_X6_needs
theorem dX6_readsDeed_0 : decode cX6_readsDeed 0 = .ok (.aload_n 0, 1) := by decide +kernel
theorem dX6_readsDeed_1 : decode cX6_readsDeed 1 = .ok (.aload_n 0, 1) := by decide +kernel
theorem dX6_readsDeed_2 : decode cX6_readsDeed 2 = .ok (.bipush 114, 2) := by decide +kernel
theorem dX6_readsDeed_4 : decode cX6_readsDeed 4 = .ok (.bipush 114, 2) := by decide +kernel
theorem dX6_readsDeed_6 : decode cX6_readsDeed 6 = .ok (.invokevirtual 135, 3) := by decide +kernel
theorem dX6_readsDeed_9 : decode cX6_readsDeed 9 = .ok (.ifCond .ne 36, 3) := by decide +kernel
theorem dX6_readsDeed_12 : decode cX6_readsDeed 12 = .ok (.aload_n 0, 1) := by decide +kernel
theorem dX6_readsDeed_13 : decode cX6_readsDeed 13 = .ok (.bipush 119, 2) := by decide +kernel
theorem dX6_readsDeed_15 : decode cX6_readsDeed 15 = .ok (.bipush 119, 2) := by decide +kernel
theorem dX6_readsDeed_17 : decode cX6_readsDeed 17 = .ok (.invokevirtual 135, 3) := by decide +kernel
theorem dX6_readsDeed_20 : decode cX6_readsDeed 20 = .ok (.ifCond .ne 25, 3) := by decide +kernel
theorem dX6_readsDeed_23 : decode cX6_readsDeed 23 = .ok (.aload_n 0, 1) := by decide +kernel
theorem dX6_readsDeed_24 : decode cX6_readsDeed 24 = .ok (.bipush 100, 2) := by decide +kernel
theorem dX6_readsDeed_26 : decode cX6_readsDeed 26 = .ok (.bipush 100, 2) := by decide +kernel
theorem dX6_readsDeed_28 : decode cX6_readsDeed 28 = .ok (.invokevirtual 135, 3) := by decide +kernel
theorem dX6_readsDeed_31 : decode cX6_readsDeed 31 = .ok (.ifCond .ne 14, 3) := by decide +kernel
theorem dX6_readsDeed_34 : decode cX6_readsDeed 34 = .ok (.aload_n 0, 1) := by decide +kernel
theorem dX6_readsDeed_35 : decode cX6_readsDeed 35 = .ok (.bipush 102, 2) := by decide +kernel
theorem dX6_readsDeed_37 : decode cX6_readsDeed 37 = .ok (.bipush 102, 2) := by decide +kernel
theorem dX6_readsDeed_39 : decode cX6_readsDeed 39 = .ok (.invokevirtual 135, 3) := by decide +kernel
theorem dX6_readsDeed_42 : decode cX6_readsDeed 42 = .ok (.ifCond .eq 15, 3) := by decide +kernel
theorem dX6_readsDeed_45 : decode cX6_readsDeed 45 = .ok (.aload_n 0, 1) := by decide +kernel
theorem dX6_readsDeed_46 : decode cX6_readsDeed 46 = .ok (.getfield 22, 3) := by decide +kernel
theorem dX6_readsDeed_49 : decode cX6_readsDeed 49 = .ok (.aload_n 0, 1) := by decide +kernel
theorem dX6_readsDeed_50 : decode cX6_readsDeed 50 = .ok (.getfield 132, 3) := by decide +kernel
theorem dX6_readsDeed_53 : decode cX6_readsDeed 53 = .ok (.iaload, 1) := by decide +kernel
theorem dX6_readsDeed_54 : decode cX6_readsDeed 54 = .ok (.goto 4, 3) := by decide +kernel
theorem dX6_readsDeed_57 : decode cX6_readsDeed 57 = .ok (.iconst 0, 1) := by decide +kernel
theorem dX6_readsDeed_58 : decode cX6_readsDeed 58 = .ok (.putfield 138, 3) := by decide +kernel
theorem dX6_readsDeed_61 : decode cX6_readsDeed 61 = .ok (.aload_n 0, 1) := by decide +kernel
theorem dX6_readsDeed_62 : decode cX6_readsDeed 62 = .ok (.aload_n 0, 1) := by decide +kernel
theorem dX6_readsDeed_63 : decode cX6_readsDeed 63 = .ok (.getfield 128, 3) := by decide +kernel
theorem dX6_readsDeed_66 : decode cX6_readsDeed 66 = .ok (.ifCond .ne 10, 3) := by decide +kernel
theorem dX6_readsDeed_69 : decode cX6_readsDeed 69 = .ok (.aload_n 0, 1) := by decide +kernel
theorem dX6_readsDeed_70 : decode cX6_readsDeed 70 = .ok (.getfield 138, 3) := by decide +kernel
theorem dX6_readsDeed_73 : decode cX6_readsDeed 73 = .ok (.ifCond .ne 7, 3) := by decide +kernel
theorem dX6_readsDeed_76 : decode cX6_readsDeed 76 = .ok (.iconst 1, 1) := by decide +kernel
theorem dX6_readsDeed_77 : decode cX6_readsDeed 77 = .ok (.goto 4, 3) := by decide +kernel
theorem dX6_readsDeed_80 : decode cX6_readsDeed 80 = .ok (.iconst 0, 1) := by decide +kernel
theorem dX6_readsDeed_81 : decode cX6_readsDeed 81 = .ok (.putfield 128, 3) := by decide +kernel
theorem dX6_readsDeed_84 : decode cX6_readsDeed 84 = .ok (.aload_n 0, 1) := by decide +kernel
theorem dX6_readsDeed_85 : decode cX6_readsDeed 85 = .ok (.dup, 1) := by decide +kernel
theorem dX6_readsDeed_86 : decode cX6_readsDeed 86 = .ok (.getfield 132, 3) := by decide +kernel
theorem dX6_readsDeed_89 : decode cX6_readsDeed 89 = .ok (.aload_n 0, 1) := by decide +kernel
theorem dX6_readsDeed_90 : decode cX6_readsDeed 90 = .ok (.getfield 128, 3) := by decide +kernel
theorem dX6_readsDeed_93 : decode cX6_readsDeed 93 = .ok (.ifCond .eq 7, 3) := by decide +kernel
theorem dX6_readsDeed_96 : decode cX6_readsDeed 96 = .ok (.iconst 0, 1) := by decide +kernel
theorem dX6_readsDeed_97 : decode cX6_readsDeed 97 = .ok (.goto 4, 3) := by decide +kernel
theorem dX6_readsDeed_100 : decode cX6_readsDeed 100 = .ok (.iconst 1, 1) := by decide +kernel
theorem dX6_readsDeed_101 : decode cX6_readsDeed 101 = .ok (.iadd, 1) := by decide +kernel
theorem dX6_readsDeed_102 : decode cX6_readsDeed 102 = .ok (.putfield 132, 3) := by decide +kernel
theorem dX6_readsDeed_105 : decode cX6_readsDeed 105 = .ok (.aload_n 0, 1) := by decide +kernel
theorem dX6_readsDeed_106 : decode cX6_readsDeed 106 = .ok (.aload_n 0, 1) := by decide +kernel
theorem dX6_readsDeed_107 : decode cX6_readsDeed 107 = .ok (.iconst 3, 1) := by decide +kernel
theorem dX6_readsDeed_108 : decode cX6_readsDeed 108 = .ok (.invokevirtual 141, 3) := by decide +kernel
theorem dX6_readsDeed_111 : decode cX6_readsDeed 111 = .ok (.putfield 144, 3) := by decide +kernel
theorem dX6_readsDeed_114 : decode cX6_readsDeed 114 = .ok (.aload_n 0, 1) := by decide +kernel
theorem dX6_readsDeed_115 : decode cX6_readsDeed 115 = .ok (.getfield 138, 3) := by decide +kernel
theorem dX6_readsDeed_118 : decode cX6_readsDeed 118 = .ok (.bipush 102, 2) := by decide +kernel
theorem dX6_readsDeed_120 : decode cX6_readsDeed 120 = .ok (.if_icmp .eq 20, 3) := by decide +kernel
theorem dX6_readsDeed_123 : decode cX6_readsDeed 123 = .ok (.aload_n 0, 1) := by decide +kernel
theorem dX6_readsDeed_124 : decode cX6_readsDeed 124 = .ok (.bipush 46, 2) := by decide +kernel
theorem dX6_readsDeed_126 : decode cX6_readsDeed 126 = .ok (.invokevirtual 147, 3) := by decide +kernel
theorem dX6_readsDeed_129 : decode cX6_readsDeed 129 = .ok (.aload_n 0, 1) := by decide +kernel
theorem dX6_readsDeed_130 : decode cX6_readsDeed 130 = .ok (.aload_n 0, 1) := by decide +kernel
theorem dX6_readsDeed_131 : decode cX6_readsDeed 131 = .ok (.sipush 255, 3) := by decide +kernel
theorem dX6_readsDeed_134 : decode cX6_readsDeed 134 = .ok (.invokevirtual 141, 3) := by decide +kernel
theorem dX6_readsDeed_137 : decode cX6_readsDeed 137 = .ok (.putfield 150, 3) := by decide +kernel
theorem dX6_readsDeed_140 : decode cX6_readsDeed 140 = .ok (.aload_n 0, 1) := by decide +kernel
theorem dX6_readsDeed_141 : decode cX6_readsDeed 141 = .ok (.getfield 138, 3) := by decide +kernel
theorem dX6_readsDeed_144 : decode cX6_readsDeed 144 = .ok (.bipush 119, 2) := by decide +kernel
theorem dX6_readsDeed_146 : decode cX6_readsDeed 146 = .ok (.if_icmp .ne 20, 3) := by decide +kernel
theorem dX6_readsDeed_149 : decode cX6_readsDeed 149 = .ok (.aload_n 0, 1) := by decide +kernel
theorem dX6_readsDeed_150 : decode cX6_readsDeed 150 = .ok (.bipush 61, 2) := by decide +kernel
theorem dX6_readsDeed_152 : decode cX6_readsDeed 152 = .ok (.invokevirtual 147, 3) := by decide +kernel
theorem dX6_readsDeed_155 : decode cX6_readsDeed 155 = .ok (.aload_n 0, 1) := by decide +kernel
theorem dX6_readsDeed_156 : decode cX6_readsDeed 156 = .ok (.aload_n 0, 1) := by decide +kernel
theorem dX6_readsDeed_157 : decode cX6_readsDeed 157 = .ok (.sipush 9999, 3) := by decide +kernel
theorem dX6_readsDeed_160 : decode cX6_readsDeed 160 = .ok (.invokevirtual 141, 3) := by decide +kernel
theorem dX6_readsDeed_163 : decode cX6_readsDeed 163 = .ok (.putfield 153, 3) := by decide +kernel
theorem dX6_readsDeed_166 : decode cX6_readsDeed 166 = .ok (.return_, 1) := by decide +kernel
set_option maxRecDepth 20000 in
theorem ggX6_isDone_X6_holds : GoodIn wsX6_isDone wsX6_holds := goodIn_r _ [10, 11, 12, 13, 9, 14, 97, 98, 99, 100, 101, 102, 103, 104, 105, 106, 107, 108, 109, 110, 111, 112, 113, 114] (by decide +kernel) (by decide +kernel)
set_option maxRecDepth 20000 in
theorem gX6_isDone_X6_holds : GoodIn wsX6_isDone (wsV RX6 81 RX6 yX6_holds wsX6_holds) := goodIn_app (goodIn_of _ (by decide +kernel)) ggX6_isDone_X6_holds
set_option maxRecDepth 20000 in
theorem ggX6_isDone_X6_reads : GoodIn wsX6_isDone wsX6_reads := goodIn_r _ [18, 11, 6, 7, 8, 9, 10, 12, 13, 14, 19, 20, 21, 22, 23, 24, 25, 26, 27, 28, 29, 30, 31, 32, 33, 34, 35, 36, 37, 38, 39, 40, 41, 42, 43, 44, 45, 46, 47, 48, 49, 50, 51, 52, 53, 54, 55, 56, 57, 58, 59, 60, 61, 62, 63, 64, 65, 66, 67, 68, 69, 70, 71, 72, 73, 74, 75, 76, 97, 98, 99, 100, 101, 102, 103, 104, 105, 106, 107, 108, 109, 110, 111, 112, 113, 114] (by decide +kernel) (by decide +kernel)
set_option maxRecDepth 20000 in
theorem gX6_isDone_X6_reads : GoodIn wsX6_isDone (wsV RX6 113 RX6 yX6_reads wsX6_reads) := goodIn_app (goodIn_of _ (by decide +kernel)) ggX6_isDone_X6_reads
set_option maxRecDepth 20000 in
theorem ggX6_isDone_X6_writes : GoodIn wsX6_isDone wsX6_writes := goodIn_r _ [80, 11, 12, 13, 9, 14, 6, 7, 8, 10, 22, 23, 24, 25, 26, 27, 28, 29, 30, 31, 32, 33, 34, 35, 36, 37, 38, 39, 40, 41, 42, 43, 44, 19, 20, 21, 45, 46, 47, 48, 49, 50, 51, 52, 53, 54, 55, 56, 57, 58, 59, 60, 61, 62, 63, 64, 65, 66, 67, 68, 69, 70, 71, 72, 73, 74, 75, 76, 97, 98, 99, 100, 101, 102, 103, 104, 105, 106, 107, 108, 109, 110, 111, 112, 113, 114] (by decide +kernel) (by decide +kernel)
set_option maxRecDepth 20000 in
theorem gX6_isDone_X6_writes : GoodIn wsX6_isDone (wsV RX6 116 RX6 yX6_writes wsX6_writes) := goodIn_app (goodIn_of _ (by decide +kernel)) ggX6_isDone_X6_writes
set_option maxRecDepth 20000 in
theorem ggX6_isDone_X6_drops : GoodIn wsX6_isDone wsX6_drops := goodIn_r _ [84, 11, 12, 13, 9, 14, 53, 54, 55, 56, 45, 46, 47, 48, 49, 50, 51, 52, 38, 39, 40, 41, 42, 43, 44, 97, 98, 99, 100, 101, 102, 103, 104, 105, 106, 107, 108, 109, 110, 111, 112, 113, 114] (by decide +kernel) (by decide +kernel)
set_option maxRecDepth 20000 in
theorem gX6_isDone_X6_drops : GoodIn wsX6_isDone (wsV RX6 119 RX6 yX6_drops wsX6_drops) := goodIn_app (goodIn_of _ (by decide +kernel)) ggX6_isDone_X6_drops
set_option maxRecDepth 20000 in
theorem ggX6_isDone_X6_isEmpty : GoodIn wsX6_isDone wsX6_isEmpty := goodIn_r _ [88, 89, 90, 91, 9, 92, 11, 65, 66, 67, 68, 93, 94, 95, 96, 97, 98, 99, 100, 101, 102, 103, 104, 105, 106, 107, 108, 109, 110, 111, 112, 113, 114] (by decide +kernel) (by decide +kernel)
set_option maxRecDepth 20000 in
theorem gX6_isDone_X6_isEmpty : GoodIn wsX6_isDone (wsV RX6 122 RX6 yX6_isEmpty wsX6_isEmpty) := goodIn_app (goodIn_of _ (by decide +kernel)) ggX6_isDone_X6_isEmpty
set_option maxRecDepth 20000 in
theorem ggX6_isDone_X6_forgets : GoodIn wsX6_isDone wsX6_forgets := goodIn_r _ [72, 11, 53, 54, 55, 9, 56, 45, 46, 47, 48, 49, 50, 51, 52, 38, 39, 40, 41, 42, 43, 44, 73, 74, 75, 76, 19, 20, 21, 97, 98, 99, 100, 101, 102, 103, 104, 105, 106, 107, 108, 109, 110, 111, 112, 113, 114] (by decide +kernel) (by decide +kernel)
set_option maxRecDepth 20000 in
theorem gX6_isDone_X6_forgets : GoodIn wsX6_isDone (wsV RX6 75 RX6 yX6_forgets wsX6_forgets) := goodIn_app (goodIn_of _ (by decide +kernel)) ggX6_isDone_X6_forgets
theorem dX6_isDone_0 : decode cX6_isDone 0 = .ok (.aload_n 0, 1) := by decide +kernel
theorem dX6_isDone_1 : decode cX6_isDone 1 = .ok (.getfield 138, 3) := by decide +kernel
theorem dX6_isDone_4 : decode cX6_isDone 4 = .ok (.bipush 100, 2) := by decide +kernel
theorem dX6_isDone_6 : decode cX6_isDone 6 = .ok (.if_icmp .ne 20, 3) := by decide +kernel
theorem dX6_isDone_9 : decode cX6_isDone 9 = .ok (.aload_n 0, 1) := by decide +kernel
theorem dX6_isDone_10 : decode cX6_isDone 10 = .ok (.aload_n 0, 1) := by decide +kernel
theorem dX6_isDone_11 : decode cX6_isDone 11 = .ok (.getfield 144, 3) := by decide +kernel
theorem dX6_isDone_14 : decode cX6_isDone 14 = .ok (.aload_n 0, 1) := by decide +kernel
theorem dX6_isDone_15 : decode cX6_isDone 15 = .ok (.getfield 150, 3) := by decide +kernel
theorem dX6_isDone_18 : decode cX6_isDone 18 = .ok (.invokevirtual 81, 3) := by decide +kernel
theorem dX6_isDone_21 : decode cX6_isDone 21 = .ok (.ifCond .ne 5, 3) := by decide +kernel
theorem dX6_isDone_24 : decode cX6_isDone 24 = .ok (.iconst 0, 1) := by decide +kernel
theorem dX6_isDone_25 : decode cX6_isDone 25 = .ok (.ireturn, 1) := by decide +kernel
theorem dX6_isDone_26 : decode cX6_isDone 26 = .ok (.iconst 0, 1) := by decide +kernel
theorem dX6_isDone_27 : decode cX6_isDone 27 = .ok (.istore_n 1, 1) := by decide +kernel
theorem dX6_isDone_28 : decode cX6_isDone 28 = .ok (.aload_n 0, 1) := by decide +kernel
theorem dX6_isDone_29 : decode cX6_isDone 29 = .ok (.getfield 138, 3) := by decide +kernel
theorem dX6_isDone_32 : decode cX6_isDone 32 = .ok (.bipush 114, 2) := by decide +kernel
theorem dX6_isDone_34 : decode cX6_isDone 34 = .ok (.if_icmp .ne 27, 3) := by decide +kernel
theorem dX6_isDone_37 : decode cX6_isDone 37 = .ok (.aload_n 0, 1) := by decide +kernel
theorem dX6_isDone_38 : decode cX6_isDone 38 = .ok (.dup, 1) := by decide +kernel
theorem dX6_isDone_39 : decode cX6_isDone 39 = .ok (.getfield 156, 3) := by decide +kernel
theorem dX6_isDone_42 : decode cX6_isDone 42 = .ok (.aload_n 0, 1) := by decide +kernel
theorem dX6_isDone_43 : decode cX6_isDone 43 = .ok (.aload_n 0, 1) := by decide +kernel
theorem dX6_isDone_44 : decode cX6_isDone 44 = .ok (.getfield 144, 3) := by decide +kernel
theorem dX6_isDone_47 : decode cX6_isDone 47 = .ok (.aload_n 0, 1) := by decide +kernel
theorem dX6_isDone_48 : decode cX6_isDone 48 = .ok (.getfield 150, 3) := by decide +kernel
theorem dX6_isDone_51 : decode cX6_isDone 51 = .ok (.invokevirtual 113, 3) := by decide +kernel
theorem dX6_isDone_54 : decode cX6_isDone 54 = .ok (.iadd, 1) := by decide +kernel
theorem dX6_isDone_55 : decode cX6_isDone 55 = .ok (.putfield 156, 3) := by decide +kernel
theorem dX6_isDone_58 : decode cX6_isDone 58 = .ok (.goto 84, 3) := by decide +kernel
theorem dX6_isDone_61 : decode cX6_isDone 61 = .ok (.aload_n 0, 1) := by decide +kernel
theorem dX6_isDone_62 : decode cX6_isDone 62 = .ok (.getfield 138, 3) := by decide +kernel
theorem dX6_isDone_65 : decode cX6_isDone 65 = .ok (.bipush 119, 2) := by decide +kernel
theorem dX6_isDone_67 : decode cX6_isDone 67 = .ok (.if_icmp .ne 23, 3) := by decide +kernel
theorem dX6_isDone_70 : decode cX6_isDone 70 = .ok (.aload_n 0, 1) := by decide +kernel
theorem dX6_isDone_71 : decode cX6_isDone 71 = .ok (.aload_n 0, 1) := by decide +kernel
theorem dX6_isDone_72 : decode cX6_isDone 72 = .ok (.getfield 144, 3) := by decide +kernel
theorem dX6_isDone_75 : decode cX6_isDone 75 = .ok (.aload_n 0, 1) := by decide +kernel
theorem dX6_isDone_76 : decode cX6_isDone 76 = .ok (.getfield 150, 3) := by decide +kernel
theorem dX6_isDone_79 : decode cX6_isDone 79 = .ok (.aload_n 0, 1) := by decide +kernel
theorem dX6_isDone_80 : decode cX6_isDone 80 = .ok (.getfield 153, 3) := by decide +kernel
theorem dX6_isDone_83 : decode cX6_isDone 83 = .ok (.invokevirtual 116, 3) := by decide +kernel
theorem dX6_isDone_86 : decode cX6_isDone 86 = .ok (.istore_n 1, 1) := by decide +kernel
theorem dX6_isDone_87 : decode cX6_isDone 87 = .ok (.goto 55, 3) := by decide +kernel
theorem dX6_isDone_90 : decode cX6_isDone 90 = .ok (.aload_n 0, 1) := by decide +kernel
theorem dX6_isDone_91 : decode cX6_isDone 91 = .ok (.getfield 138, 3) := by decide +kernel
theorem dX6_isDone_94 : decode cX6_isDone 94 = .ok (.bipush 100, 2) := by decide +kernel
theorem dX6_isDone_96 : decode cX6_isDone 96 = .ok (.if_icmp .ne 19, 3) := by decide +kernel
theorem dX6_isDone_99 : decode cX6_isDone 99 = .ok (.aload_n 0, 1) := by decide +kernel
theorem dX6_isDone_100 : decode cX6_isDone 100 = .ok (.aload_n 0, 1) := by decide +kernel
theorem dX6_isDone_101 : decode cX6_isDone 101 = .ok (.getfield 144, 3) := by decide +kernel
theorem dX6_isDone_104 : decode cX6_isDone 104 = .ok (.aload_n 0, 1) := by decide +kernel
theorem dX6_isDone_105 : decode cX6_isDone 105 = .ok (.getfield 150, 3) := by decide +kernel
theorem dX6_isDone_108 : decode cX6_isDone 108 = .ok (.invokevirtual 119, 3) := by decide +kernel
theorem dX6_isDone_111 : decode cX6_isDone 111 = .ok (.istore_n 1, 1) := by decide +kernel
theorem dX6_isDone_112 : decode cX6_isDone 112 = .ok (.goto 30, 3) := by decide +kernel
theorem dX6_isDone_115 : decode cX6_isDone 115 = .ok (.aload_n 0, 1) := by decide +kernel
theorem dX6_isDone_116 : decode cX6_isDone 116 = .ok (.aload_n 0, 1) := by decide +kernel
theorem dX6_isDone_117 : decode cX6_isDone 117 = .ok (.getfield 144, 3) := by decide +kernel
theorem dX6_isDone_120 : decode cX6_isDone 120 = .ok (.invokevirtual 122, 3) := by decide +kernel
theorem dX6_isDone_123 : decode cX6_isDone 123 = .ok (.ifCond .eq 8, 3) := by decide +kernel
theorem dX6_isDone_126 : decode cX6_isDone 126 = .ok (.bipush (-5), 2) := by decide +kernel
theorem dX6_isDone_128 : decode cX6_isDone 128 = .ok (.goto 13, 3) := by decide +kernel
theorem dX6_isDone_131 : decode cX6_isDone 131 = .ok (.aload_n 0, 1) := by decide +kernel
theorem dX6_isDone_132 : decode cX6_isDone 132 = .ok (.aload_n 0, 1) := by decide +kernel
theorem dX6_isDone_133 : decode cX6_isDone 133 = .ok (.getfield 144, 3) := by decide +kernel
theorem dX6_isDone_136 : decode cX6_isDone 136 = .ok (.bipush (-5), 2) := by decide +kernel
theorem dX6_isDone_138 : decode cX6_isDone 138 = .ok (.invokevirtual 75, 3) := by decide +kernel
theorem dX6_isDone_141 : decode cX6_isDone 141 = .ok (.istore_n 1, 1) := by decide +kernel
theorem dX6_isDone_142 : decode cX6_isDone 142 = .ok (.iconst 1, 1) := by decide +kernel
theorem dX6_isDone_143 : decode cX6_isDone 143 = .ok (.ireturn, 1) := by decide +kernel
set_option maxRecDepth 20000 in
theorem ggX6_readsProgram_X6_readsDeed : GoodIn wsX6_readsProgram wsX6_readsDeed := goodIn_r _ [10, 11, 1, 12, 2, 13, 14, 15, 16, 17, 18, 9, 19, 5, 20, 21, 22, 23, 24, 25, 26, 27, 28, 29, 30, 125, 126, 127, 128, 129, 130, 131, 132, 133, 134, 135, 136, 137, 138, 139, 140, 141, 142] (by decide +kernel) (by decide +kernel)
set_option maxRecDepth 20000 in
theorem gX6_readsProgram_X6_readsDeed : GoodIn wsX6_readsProgram (wsV RX6 162 RX6 yX6_readsDeed wsX6_readsDeed) := goodIn_app (goodIn_of _ (by decide +kernel)) ggX6_readsProgram_X6_readsDeed
set_option maxRecDepth 20000 in
theorem ggX6_readsProgram_X6_isDone : GoodIn wsX6_readsProgram wsX6_isDone := goodIn_r _ [34, 12, 13, 14, 3, 15, 35, 36, 37, 9, 38, 39, 40, 41, 42, 43, 44, 45, 46, 47, 48, 49, 50, 51, 52, 53, 54, 55, 56, 57, 58, 59, 60, 61, 62, 63, 64, 65, 66, 67, 68, 69, 70, 71, 72, 73, 74, 75, 76, 77, 78, 79, 80, 81, 82, 83, 84, 85, 86, 87, 88, 89, 90, 91, 92, 93, 94, 95, 96, 97, 98, 99, 100, 101, 102, 103, 104, 105, 106, 107, 108, 109, 110, 111, 112, 113, 114, 115, 116, 117, 118, 119, 120, 121, 122, 123, 124, 125, 126, 127, 128, 129, 130, 131, 132, 133, 134, 135, 136, 137, 138, 139, 140, 141, 142] (by decide +kernel) (by decide +kernel)
set_option maxRecDepth 20000 in
theorem gX6_readsProgram_X6_isDone : GoodIn wsX6_readsProgram (wsV RX6 165 RX6 yX6_isDone wsX6_isDone) := goodIn_app (goodIn_of _ (by decide +kernel)) ggX6_readsProgram_X6_isDone
set_option maxRecDepth 20000 in
theorem ggX6_readsProgram_X6_needs : GoodIn wsX6_readsProgram wsX6_needs := goodIn_r _ [30, 1, 2, 16, 17, 18, 9, 19, 5, 11, 20, 21, 22, 125, 126, 127, 128, 129, 130, 131, 132, 133, 134, 135, 136, 137, 138, 139, 140, 141, 142] (by decide +kernel) (by decide +kernel)
set_option maxRecDepth 20000 in
theorem gX6_readsProgram_X6_needs : GoodIn wsX6_readsProgram (wsV RX6 147 RX6 yX6_needs wsX6_needs) := goodIn_app (goodIn_of _ (by decide +kernel)) ggX6_readsProgram_X6_needs
theorem dX6_readsProgram_0 : decode cX6_readsProgram 0 = .ok (.aload_n 0, 1) := by decide +kernel
theorem dX6_readsProgram_1 : decode cX6_readsProgram 1 = .ok (.iconst 0, 1) := by decide +kernel
theorem dX6_readsProgram_2 : decode cX6_readsProgram 2 = .ok (.putfield 132, 3) := by decide +kernel
theorem dX6_readsProgram_5 : decode cX6_readsProgram 5 = .ok (.aload_n 0, 1) := by decide +kernel
theorem dX6_readsProgram_6 : decode cX6_readsProgram 6 = .ok (.iconst 0, 1) := by decide +kernel
theorem dX6_readsProgram_7 : decode cX6_readsProgram 7 = .ok (.putfield 128, 3) := by decide +kernel
theorem dX6_readsProgram_10 : decode cX6_readsProgram 10 = .ok (.aload_n 0, 1) := by decide +kernel
theorem dX6_readsProgram_11 : decode cX6_readsProgram 11 = .ok (.iconst 0, 1) := by decide +kernel
theorem dX6_readsProgram_12 : decode cX6_readsProgram 12 = .ok (.putfield 156, 3) := by decide +kernel
theorem dX6_readsProgram_15 : decode cX6_readsProgram 15 = .ok (.aload_n 0, 1) := by decide +kernel
theorem dX6_readsProgram_16 : decode cX6_readsProgram 16 = .ok (.bipush (-5), 2) := by decide +kernel
theorem dX6_readsProgram_18 : decode cX6_readsProgram 18 = .ok (.putfield 159, 3) := by decide +kernel
theorem dX6_readsProgram_21 : decode cX6_readsProgram 21 = .ok (.iconst 0, 1) := by decide +kernel
theorem dX6_readsProgram_22 : decode cX6_readsProgram 22 = .ok (.istore_n 2, 1) := by decide +kernel
theorem dX6_readsProgram_23 : decode cX6_readsProgram 23 = .ok (.iconst 1, 1) := by decide +kernel
theorem dX6_readsProgram_24 : decode cX6_readsProgram 24 = .ok (.istore_n 3, 1) := by decide +kernel
theorem dX6_readsProgram_25 : decode cX6_readsProgram 25 = .ok (.iload_n 3, 1) := by decide +kernel
theorem dX6_readsProgram_26 : decode cX6_readsProgram 26 = .ok (.ifCond .eq 92, 3) := by decide +kernel
theorem dX6_readsProgram_29 : decode cX6_readsProgram 29 = .ok (.aload_n 0, 1) := by decide +kernel
theorem dX6_readsProgram_30 : decode cX6_readsProgram 30 = .ok (.invokevirtual 162, 3) := by decide +kernel
theorem dX6_readsProgram_33 : decode cX6_readsProgram 33 = .ok (.aload_n 0, 1) := by decide +kernel
theorem dX6_readsProgram_34 : decode cX6_readsProgram 34 = .ok (.iload_n 1, 1) := by decide +kernel
theorem dX6_readsProgram_35 : decode cX6_readsProgram 35 = .ok (.ifCond .eq 14, 3) := by decide +kernel
theorem dX6_readsProgram_38 : decode cX6_readsProgram 38 = .ok (.aload_n 0, 1) := by decide +kernel
theorem dX6_readsProgram_39 : decode cX6_readsProgram 39 = .ok (.invokevirtual 165, 3) := by decide +kernel
theorem dX6_readsProgram_42 : decode cX6_readsProgram 42 = .ok (.ifCond .ne 7, 3) := by decide +kernel
theorem dX6_readsProgram_45 : decode cX6_readsProgram 45 = .ok (.iload_n 2, 1) := by decide +kernel
theorem dX6_readsProgram_46 : decode cX6_readsProgram 46 = .ok (.goto 7, 3) := by decide +kernel
theorem dX6_readsProgram_49 : decode cX6_readsProgram 49 = .ok (.aload_n 0, 1) := by decide +kernel
theorem dX6_readsProgram_50 : decode cX6_readsProgram 50 = .ok (.getfield 159, 3) := by decide +kernel
theorem dX6_readsProgram_53 : decode cX6_readsProgram 53 = .ok (.putfield 159, 3) := by decide +kernel
theorem dX6_readsProgram_56 : decode cX6_readsProgram 56 = .ok (.iinc 2 1, 3) := by decide +kernel
theorem dX6_readsProgram_59 : decode cX6_readsProgram 59 = .ok (.aload_n 0, 1) := by decide +kernel
theorem dX6_readsProgram_60 : decode cX6_readsProgram 60 = .ok (.getfield 128, 3) := by decide +kernel
theorem dX6_readsProgram_63 : decode cX6_readsProgram 63 = .ok (.ifCond .ne 27, 3) := by decide +kernel
theorem dX6_readsProgram_66 : decode cX6_readsProgram 66 = .ok (.aload_n 0, 1) := by decide +kernel
theorem dX6_readsProgram_67 : decode cX6_readsProgram 67 = .ok (.getfield 159, 3) := by decide +kernel
theorem dX6_readsProgram_70 : decode cX6_readsProgram 70 = .ok (.bipush (-5), 2) := by decide +kernel
theorem dX6_readsProgram_72 : decode cX6_readsProgram 72 = .ok (.if_icmp .ne 18, 3) := by decide +kernel
theorem dX6_readsProgram_75 : decode cX6_readsProgram 75 = .ok (.aload_n 0, 1) := by decide +kernel
theorem dX6_readsProgram_76 : decode cX6_readsProgram 76 = .ok (.getfield 132, 3) := by decide +kernel
theorem dX6_readsProgram_79 : decode cX6_readsProgram 79 = .ok (.aload_n 0, 1) := by decide +kernel
theorem dX6_readsProgram_80 : decode cX6_readsProgram 80 = .ok (.getfield 125, 3) := by decide +kernel
theorem dX6_readsProgram_83 : decode cX6_readsProgram 83 = .ok (.if_icmp .ge 7, 3) := by decide +kernel
theorem dX6_readsProgram_86 : decode cX6_readsProgram 86 = .ok (.iconst 1, 1) := by decide +kernel
theorem dX6_readsProgram_87 : decode cX6_readsProgram 87 = .ok (.goto 4, 3) := by decide +kernel
theorem dX6_readsProgram_90 : decode cX6_readsProgram 90 = .ok (.iconst 0, 1) := by decide +kernel
theorem dX6_readsProgram_91 : decode cX6_readsProgram 91 = .ok (.istore_n 3, 1) := by decide +kernel
theorem dX6_readsProgram_92 : decode cX6_readsProgram 92 = .ok (.iload_n 3, 1) := by decide +kernel
theorem dX6_readsProgram_93 : decode cX6_readsProgram 93 = .ok (.ifCond .eq (-68), 3) := by decide +kernel
theorem dX6_readsProgram_96 : decode cX6_readsProgram 96 = .ok (.aload_n 0, 1) := by decide +kernel
theorem dX6_readsProgram_97 : decode cX6_readsProgram 97 = .ok (.bipush 59, 2) := by decide +kernel
theorem dX6_readsProgram_99 : decode cX6_readsProgram 99 = .ok (.invokevirtual 147, 3) := by decide +kernel
theorem dX6_readsProgram_102 : decode cX6_readsProgram 102 = .ok (.aload_n 0, 1) := by decide +kernel
theorem dX6_readsProgram_103 : decode cX6_readsProgram 103 = .ok (.getfield 128, 3) := by decide +kernel
theorem dX6_readsProgram_106 : decode cX6_readsProgram 106 = .ok (.ifCond .ne 7, 3) := by decide +kernel
theorem dX6_readsProgram_109 : decode cX6_readsProgram 109 = .ok (.iconst 1, 1) := by decide +kernel
theorem dX6_readsProgram_110 : decode cX6_readsProgram 110 = .ok (.goto 4, 3) := by decide +kernel
theorem dX6_readsProgram_113 : decode cX6_readsProgram 113 = .ok (.iconst 0, 1) := by decide +kernel
theorem dX6_readsProgram_114 : decode cX6_readsProgram 114 = .ok (.istore_n 3, 1) := by decide +kernel
theorem dX6_readsProgram_115 : decode cX6_readsProgram 115 = .ok (.goto (-90), 3) := by decide +kernel
theorem dX6_readsProgram_118 : decode cX6_readsProgram 118 = .ok (.aload_n 0, 1) := by decide +kernel
theorem dX6_readsProgram_119 : decode cX6_readsProgram 119 = .ok (.getfield 128, 3) := by decide +kernel
theorem dX6_readsProgram_122 : decode cX6_readsProgram 122 = .ok (.ifCond .eq 10, 3) := by decide +kernel
theorem dX6_readsProgram_125 : decode cX6_readsProgram 125 = .ok (.aload_n 0, 1) := by decide +kernel
theorem dX6_readsProgram_126 : decode cX6_readsProgram 126 = .ok (.getfield 132, 3) := by decide +kernel
theorem dX6_readsProgram_129 : decode cX6_readsProgram 129 = .ok (.goto 5, 3) := by decide +kernel
theorem dX6_readsProgram_132 : decode cX6_readsProgram 132 = .ok (.bipush (-5), 2) := by decide +kernel
theorem dX6_readsProgram_134 : decode cX6_readsProgram 134 = .ok (.ireturn, 1) := by decide +kernel
set_option maxRecDepth 20000 in
theorem ggX6_perform_X6_readsProgram : GoodIn wsX6_perform wsX6_readsProgram := goodIn_r _ [11, 12, 13, 1, 2, 14, 15, 16, 17, 10, 18, 19, 20, 21, 22, 23, 24, 25, 26, 27, 28, 29, 30, 31, 32, 33, 34, 35, 36, 37, 38, 39, 40, 41, 42, 43, 44, 45, 46, 3, 47, 48, 49, 50, 51, 52, 53, 54, 55, 56, 57, 58, 59, 60, 61, 62, 63, 64, 65, 66, 67, 68, 69, 70, 71, 72, 73, 74, 75, 76, 77, 78, 79, 80, 81, 82, 83, 84, 85, 86, 87, 88, 89, 90, 91, 92, 93, 94, 95, 96, 97, 98, 99, 100, 101, 102, 103, 104, 105, 106, 107, 108, 109, 110, 111, 112, 113, 114, 115, 116, 117, 118, 119, 120, 121, 122, 123, 124, 125, 126, 127, 128, 129, 130, 131, 146, 147, 148, 149, 150, 151, 152, 153, 154, 155, 156, 157, 158, 159, 160, 161, 162, 163] (by decide +kernel) (by decide +kernel)
set_option maxRecDepth 20000 in
theorem gX6_perform_X6_readsProgram : GoodIn wsX6_perform (wsV RX6 169 RX6 yX6_readsProgram wsX6_readsProgram) := goodIn_app (goodIn_of _ (by decide +kernel)) ggX6_perform_X6_readsProgram
set_option maxRecDepth 20000 in
theorem ggX6_perform_X6_putAside : GoodIn wsX6_perform wsX6_putAside := goodIn_r _ [135, 4, 3, 146, 147, 148, 149, 150, 151, 152, 153, 154, 155, 156, 157, 158, 159, 160, 161, 162, 163] (by decide +kernel) (by decide +kernel)
set_option maxRecDepth 20000 in
theorem gX6_perform_X6_putAside : GoodIn wsX6_perform (wsV RX6 173 RX6 yX6_putAside wsX6_putAside) := goodIn_app (goodIn_of _ (by decide +kernel)) ggX6_perform_X6_putAside
set_option maxRecDepth 20000 in
theorem ggX6_perform_X6_record : GoodIn wsX6_perform wsX6_record := goodIn_r _ [139, 140, 141, 3, 146, 147, 148, 149, 150, 151, 152, 153, 154, 155, 156, 157, 158, 159, 160, 161, 162, 163] (by decide +kernel) (by decide +kernel)
set_option maxRecDepth 20000 in
theorem gX6_perform_X6_record : GoodIn wsX6_perform (wsV RX6 110 RX6 yX6_record wsX6_record) := goodIn_app (goodIn_of _ (by decide +kernel)) ggX6_perform_X6_record
set_option maxRecDepth 20000 in
theorem ggX6_perform_X6_putBack : GoodIn wsX6_perform wsX6_putBack := goodIn_r _ [145, 3, 4, 146, 147, 148, 149, 150, 151, 152, 153, 154, 155, 156, 157, 158, 159, 160, 161, 162, 163] (by decide +kernel) (by decide +kernel)
set_option maxRecDepth 20000 in
theorem gX6_perform_X6_putBack : GoodIn wsX6_perform (wsV RX6 179 RX6 yX6_putBack wsX6_putBack) := goodIn_app (goodIn_of _ (by decide +kernel)) ggX6_perform_X6_putBack
theorem dX6_perform_0 : decode cX6_perform 0 = .ok (.aload_n 0, 1) := by decide +kernel
theorem dX6_perform_1 : decode cX6_perform 1 = .ok (.iconst 0, 1) := by decide +kernel
theorem dX6_perform_2 : decode cX6_perform 2 = .ok (.invokevirtual 169, 3) := by decide +kernel
theorem dX6_perform_5 : decode cX6_perform 5 = .ok (.istore_n 1, 1) := by decide +kernel
theorem dX6_perform_6 : decode cX6_perform 6 = .ok (.iload_n 1, 1) := by decide +kernel
theorem dX6_perform_7 : decode cX6_perform 7 = .ok (.bipush (-5), 2) := by decide +kernel
theorem dX6_perform_9 : decode cX6_perform 9 = .ok (.if_icmp .eq 8, 3) := by decide +kernel
theorem dX6_perform_12 : decode cX6_perform 12 = .ok (.bipush (-100), 2) := by decide +kernel
theorem dX6_perform_14 : decode cX6_perform 14 = .ok (.iload_n 1, 1) := by decide +kernel
theorem dX6_perform_15 : decode cX6_perform 15 = .ok (.isub, 1) := by decide +kernel
theorem dX6_perform_16 : decode cX6_perform 16 = .ok (.ireturn, 1) := by decide +kernel
theorem dX6_perform_17 : decode cX6_perform 17 = .ok (.aload_n 0, 1) := by decide +kernel
theorem dX6_perform_18 : decode cX6_perform 18 = .ok (.invokevirtual 173, 3) := by decide +kernel
theorem dX6_perform_21 : decode cX6_perform 21 = .ok (.aload_n 0, 1) := by decide +kernel
theorem dX6_perform_22 : decode cX6_perform 22 = .ok (.iconst 1, 1) := by decide +kernel
theorem dX6_perform_23 : decode cX6_perform 23 = .ok (.invokevirtual 169, 3) := by decide +kernel
theorem dX6_perform_26 : decode cX6_perform 26 = .ok (.istore_n 1, 1) := by decide +kernel
theorem dX6_perform_27 : decode cX6_perform 27 = .ok (.aload_n 0, 1) := by decide +kernel
theorem dX6_perform_28 : decode cX6_perform 28 = .ok (.getfield 156, 3) := by decide +kernel
theorem dX6_perform_31 : decode cX6_perform 31 = .ok (.istore_n 2, 1) := by decide +kernel
theorem dX6_perform_32 : decode cX6_perform 32 = .ok (.aload_n 0, 1) := by decide +kernel
theorem dX6_perform_33 : decode cX6_perform 33 = .ok (.getfield 159, 3) := by decide +kernel
theorem dX6_perform_36 : decode cX6_perform 36 = .ok (.istore_n 3, 1) := by decide +kernel
theorem dX6_perform_37 : decode cX6_perform 37 = .ok (.iconst 0, 1) := by decide +kernel
theorem dX6_perform_38 : decode cX6_perform 38 = .ok (.istore 4, 2) := by decide +kernel
theorem dX6_perform_40 : decode cX6_perform 40 = .ok (.iload 4, 2) := by decide +kernel
theorem dX6_perform_42 : decode cX6_perform 42 = .ok (.sipush 544, 3) := by decide +kernel
theorem dX6_perform_45 : decode cX6_perform 45 = .ok (.if_icmp .ge 41, 3) := by decide +kernel
theorem dX6_perform_48 : decode cX6_perform 48 = .ok (.aload_n 0, 1) := by decide +kernel
theorem dX6_perform_49 : decode cX6_perform 49 = .ok (.getfield 7, 3) := by decide +kernel
theorem dX6_perform_52 : decode cX6_perform 52 = .ok (.iload 4, 2) := by decide +kernel
theorem dX6_perform_54 : decode cX6_perform 54 = .ok (.iaload, 1) := by decide +kernel
theorem dX6_perform_55 : decode cX6_perform 55 = .ok (.istore 5, 2) := by decide +kernel
theorem dX6_perform_57 : decode cX6_perform 57 = .ok (.aload_n 0, 1) := by decide +kernel
theorem dX6_perform_58 : decode cX6_perform 58 = .ok (.getfield 7, 3) := by decide +kernel
theorem dX6_perform_61 : decode cX6_perform 61 = .ok (.iload 4, 2) := by decide +kernel
theorem dX6_perform_63 : decode cX6_perform 63 = .ok (.aload_n 0, 1) := by decide +kernel
theorem dX6_perform_64 : decode cX6_perform 64 = .ok (.getfield 13, 3) := by decide +kernel
theorem dX6_perform_67 : decode cX6_perform 67 = .ok (.iload 4, 2) := by decide +kernel
theorem dX6_perform_69 : decode cX6_perform 69 = .ok (.iaload, 1) := by decide +kernel
theorem dX6_perform_70 : decode cX6_perform 70 = .ok (.iastore, 1) := by decide +kernel
theorem dX6_perform_71 : decode cX6_perform 71 = .ok (.aload_n 0, 1) := by decide +kernel
theorem dX6_perform_72 : decode cX6_perform 72 = .ok (.getfield 13, 3) := by decide +kernel
theorem dX6_perform_75 : decode cX6_perform 75 = .ok (.iload 4, 2) := by decide +kernel
theorem dX6_perform_77 : decode cX6_perform 77 = .ok (.iload 5, 2) := by decide +kernel
theorem dX6_perform_79 : decode cX6_perform 79 = .ok (.iastore, 1) := by decide +kernel
theorem dX6_perform_80 : decode cX6_perform 80 = .ok (.iinc 4 1, 3) := by decide +kernel
theorem dX6_perform_83 : decode cX6_perform 83 = .ok (.goto (-43), 3) := by decide +kernel
theorem dX6_perform_86 : decode cX6_perform 86 = .ok (.iload_n 3, 1) := by decide +kernel
theorem dX6_perform_87 : decode cX6_perform 87 = .ok (.bipush (-5), 2) := by decide +kernel
theorem dX6_perform_89 : decode cX6_perform 89 = .ok (.if_icmp .eq 17, 3) := by decide +kernel
theorem dX6_perform_92 : decode cX6_perform 92 = .ok (.aload_n 0, 1) := by decide +kernel
theorem dX6_perform_93 : decode cX6_perform 93 = .ok (.iload_n 3, 1) := by decide +kernel
theorem dX6_perform_94 : decode cX6_perform 94 = .ok (.putfield 25, 3) := by decide +kernel
theorem dX6_perform_97 : decode cX6_perform 97 = .ok (.aload_n 0, 1) := by decide +kernel
theorem dX6_perform_98 : decode cX6_perform 98 = .ok (.bipush (-4), 2) := by decide +kernel
theorem dX6_perform_100 : decode cX6_perform 100 = .ok (.putfield 176, 3) := by decide +kernel
theorem dX6_perform_103 : decode cX6_perform 103 = .ok (.bipush (-4), 2) := by decide +kernel
theorem dX6_perform_105 : decode cX6_perform 105 = .ok (.ireturn, 1) := by decide +kernel
theorem dX6_perform_106 : decode cX6_perform 106 = .ok (.aload_n 0, 1) := by decide +kernel
theorem dX6_perform_107 : decode cX6_perform 107 = .ok (.invokevirtual 110, 3) := by decide +kernel
theorem dX6_perform_110 : decode cX6_perform 110 = .ok (.aload_n 0, 1) := by decide +kernel
theorem dX6_perform_111 : decode cX6_perform 111 = .ok (.invokevirtual 179, 3) := by decide +kernel
theorem dX6_perform_114 : decode cX6_perform 114 = .ok (.iload_n 2, 1) := by decide +kernel
theorem dX6_perform_115 : decode cX6_perform 115 = .ok (.ireturn, 1) := by decide +kernel
set_option maxRecDepth 20000 in
theorem ggX6_stopped_X6_in : GoodIn wsX6_stopped wsX6_in := goodIn_r _ [6] (by decide +kernel) (by decide +kernel)
set_option maxRecDepth 20000 in
theorem gX6_stopped_X6_in : GoodIn wsX6_stopped (va_wsS RX6 29 yX6_in wsX6_in) := goodIn_app (goodIn_of _ (by decide +kernel)) ggX6_stopped_X6_in
theorem dX6_stopped_0 : decode cX6_stopped 0 = .ok (.iload_n 1, 1) := by decide +kernel
theorem dX6_stopped_1 : decode cX6_stopped 1 = .ok (.iconst 0, 1) := by decide +kernel
theorem dX6_stopped_2 : decode cX6_stopped 2 = .ok (.iconst 1, 1) := by decide +kernel
theorem dX6_stopped_3 : decode cX6_stopped 3 = .ok (.invokestatic 29, 3) := by decide +kernel
theorem dX6_stopped_6 : decode cX6_stopped 6 = .ok (.ifCond .ne 6, 3) := by decide +kernel
theorem dX6_stopped_9 : decode cX6_stopped 9 = .ok (.bipush (-2), 2) := by decide +kernel
theorem dX6_stopped_11 : decode cX6_stopped 11 = .ok (.ireturn, 1) := by decide +kernel
theorem dX6_stopped_12 : decode cX6_stopped 12 = .ok (.aload_n 0, 1) := by decide +kernel
theorem dX6_stopped_13 : decode cX6_stopped 13 = .ok (.getfield 25, 3) := by decide +kernel
theorem dX6_stopped_16 : decode cX6_stopped 16 = .ok (.bipush (-5), 2) := by decide +kernel
theorem dX6_stopped_18 : decode cX6_stopped 18 = .ok (.if_icmp .ne 8, 3) := by decide +kernel
theorem dX6_stopped_21 : decode cX6_stopped 21 = .ok (.bipush (-5), 2) := by decide +kernel
theorem dX6_stopped_23 : decode cX6_stopped 23 = .ok (.goto 18, 3) := by decide +kernel
theorem dX6_stopped_26 : decode cX6_stopped 26 = .ok (.iload_n 1, 1) := by decide +kernel
theorem dX6_stopped_27 : decode cX6_stopped 27 = .ok (.ifCond .ne 10, 3) := by decide +kernel
theorem dX6_stopped_30 : decode cX6_stopped 30 = .ok (.aload_n 0, 1) := by decide +kernel
theorem dX6_stopped_31 : decode cX6_stopped 31 = .ok (.getfield 25, 3) := by decide +kernel
theorem dX6_stopped_34 : decode cX6_stopped 34 = .ok (.goto 7, 3) := by decide +kernel
theorem dX6_stopped_37 : decode cX6_stopped 37 = .ok (.aload_n 0, 1) := by decide +kernel
theorem dX6_stopped_38 : decode cX6_stopped 38 = .ok (.getfield 176, 3) := by decide +kernel
theorem dX6_stopped_41 : decode cX6_stopped 41 = .ok (.ireturn, 1) := by decide +kernel
set_option maxRecDepth 20000 in
theorem ggX6_lines_X6_linesOf : GoodIn wsX6_lines wsX6_linesOf := goodIn_r _ [5, 6, 7, 8, 9, 10, 11, 12, 13, 14, 15, 16, 17, 18, 19, 20, 21, 22, 23, 24] (by decide +kernel) (by decide +kernel)
set_option maxRecDepth 20000 in
theorem gX6_lines_X6_linesOf : GoodIn wsX6_lines (wsV RX6 96 RX6 yX6_linesOf wsX6_linesOf) := goodIn_app (goodIn_of _ (by decide +kernel)) ggX6_lines_X6_linesOf
theorem dX6_lines_0 : decode cX6_lines 0 = .ok (.aload_n 0, 1) := by decide +kernel
theorem dX6_lines_1 : decode cX6_lines 1 = .ok (.iconst 0, 1) := by decide +kernel
theorem dX6_lines_2 : decode cX6_lines 2 = .ok (.invokevirtual 96, 3) := by decide +kernel
theorem dX6_lines_5 : decode cX6_lines 5 = .ok (.aload_n 0, 1) := by decide +kernel
theorem dX6_lines_6 : decode cX6_lines 6 = .ok (.iconst 1, 1) := by decide +kernel
theorem dX6_lines_7 : decode cX6_lines 7 = .ok (.invokevirtual 96, 3) := by decide +kernel
theorem dX6_lines_10 : decode cX6_lines 10 = .ok (.iadd, 1) := by decide +kernel
theorem dX6_lines_11 : decode cX6_lines 11 = .ok (.aload_n 0, 1) := by decide +kernel
theorem dX6_lines_12 : decode cX6_lines 12 = .ok (.iconst 2, 1) := by decide +kernel
theorem dX6_lines_13 : decode cX6_lines 13 = .ok (.invokevirtual 96, 3) := by decide +kernel
theorem dX6_lines_16 : decode cX6_lines 16 = .ok (.iadd, 1) := by decide +kernel
theorem dX6_lines_17 : decode cX6_lines 17 = .ok (.aload_n 0, 1) := by decide +kernel
theorem dX6_lines_18 : decode cX6_lines 18 = .ok (.iconst 3, 1) := by decide +kernel
theorem dX6_lines_19 : decode cX6_lines 19 = .ok (.invokevirtual 96, 3) := by decide +kernel
theorem dX6_lines_22 : decode cX6_lines 22 = .ok (.iadd, 1) := by decide +kernel
theorem dX6_lines_23 : decode cX6_lines 23 = .ok (.ireturn, 1) := by decide +kernel
theorem dX6_undo_0 : decode cX6_undo 0 = .ok (.aload_n 0, 1) := by decide +kernel
theorem dX6_undo_1 : decode cX6_undo 1 = .ok (.getfield 33, 3) := by decide +kernel
theorem dX6_undo_4 : decode cX6_undo 4 = .ok (.ifCond .ne 6, 3) := by decide +kernel
theorem dX6_undo_7 : decode cX6_undo 7 = .ok (.bipush (-5), 2) := by decide +kernel
theorem dX6_undo_9 : decode cX6_undo 9 = .ok (.ireturn, 1) := by decide +kernel
theorem dX6_undo_10 : decode cX6_undo 10 = .ok (.aload_n 0, 1) := by decide +kernel
theorem dX6_undo_11 : decode cX6_undo 11 = .ok (.dup, 1) := by decide +kernel
theorem dX6_undo_12 : decode cX6_undo 12 = .ok (.getfield 33, 3) := by decide +kernel
theorem dX6_undo_15 : decode cX6_undo 15 = .ok (.iconst 1, 1) := by decide +kernel
theorem dX6_undo_16 : decode cX6_undo 16 = .ok (.isub, 1) := by decide +kernel
theorem dX6_undo_17 : decode cX6_undo 17 = .ok (.putfield 33, 3) := by decide +kernel
theorem dX6_undo_20 : decode cX6_undo 20 = .ok (.iconst 0, 1) := by decide +kernel
theorem dX6_undo_21 : decode cX6_undo 21 = .ok (.istore_n 1, 1) := by decide +kernel
theorem dX6_undo_22 : decode cX6_undo 22 = .ok (.iload_n 1, 1) := by decide +kernel
theorem dX6_undo_23 : decode cX6_undo 23 = .ok (.sipush 544, 3) := by decide +kernel
theorem dX6_undo_26 : decode cX6_undo 26 = .ok (.if_icmp .ge 30, 3) := by decide +kernel
theorem dX6_undo_29 : decode cX6_undo 29 = .ok (.aload_n 0, 1) := by decide +kernel
theorem dX6_undo_30 : decode cX6_undo 30 = .ok (.getfield 7, 3) := by decide +kernel
theorem dX6_undo_33 : decode cX6_undo 33 = .ok (.iload_n 1, 1) := by decide +kernel
theorem dX6_undo_34 : decode cX6_undo 34 = .ok (.aload_n 0, 1) := by decide +kernel
theorem dX6_undo_35 : decode cX6_undo 35 = .ok (.getfield 16, 3) := by decide +kernel
theorem dX6_undo_38 : decode cX6_undo 38 = .ok (.sipush 544, 3) := by decide +kernel
theorem dX6_undo_41 : decode cX6_undo 41 = .ok (.aload_n 0, 1) := by decide +kernel
theorem dX6_undo_42 : decode cX6_undo 42 = .ok (.getfield 33, 3) := by decide +kernel
theorem dX6_undo_45 : decode cX6_undo 45 = .ok (.imul, 1) := by decide +kernel
theorem dX6_undo_46 : decode cX6_undo 46 = .ok (.iload_n 1, 1) := by decide +kernel
theorem dX6_undo_47 : decode cX6_undo 47 = .ok (.iadd, 1) := by decide +kernel
theorem dX6_undo_48 : decode cX6_undo 48 = .ok (.iaload, 1) := by decide +kernel
theorem dX6_undo_49 : decode cX6_undo 49 = .ok (.iastore, 1) := by decide +kernel
theorem dX6_undo_50 : decode cX6_undo 50 = .ok (.iinc 1 1, 3) := by decide +kernel
theorem dX6_undo_53 : decode cX6_undo 53 = .ok (.goto (-31), 3) := by decide +kernel
theorem dX6_undo_56 : decode cX6_undo 56 = .ok (.aload_n 0, 1) := by decide +kernel
theorem dX6_undo_57 : decode cX6_undo 57 = .ok (.getfield 33, 3) := by decide +kernel
theorem dX6_undo_60 : decode cX6_undo 60 = .ok (.ireturn, 1) := by decide +kernel
set_option maxRecDepth 20000 in
theorem ggX6_keep_X6_lines : GoodIn wsX6_keep wsX6_lines := goodIn_r _ [8, 9, 10, 11, 7, 12, 2, 13, 14, 15, 16, 17, 18, 19, 20, 21, 22, 23, 24, 25, 26, 27, 28, 29, 30] (by decide +kernel) (by decide +kernel)
set_option maxRecDepth 20000 in
theorem gX6_keep_X6_lines : GoodIn wsX6_keep (wsV RX6 185 RX6 yX6_lines wsX6_lines) := goodIn_app (goodIn_of _ (by decide +kernel)) ggX6_keep_X6_lines
theorem dX6_keep_0 : decode cX6_keep 0 = .ok (.iconst 0, 1) := by decide +kernel
theorem dX6_keep_1 : decode cX6_keep 1 = .ok (.istore_n 1, 1) := by decide +kernel
theorem dX6_keep_2 : decode cX6_keep 2 = .ok (.iload_n 1, 1) := by decide +kernel
theorem dX6_keep_3 : decode cX6_keep 3 = .ok (.sipush 544, 3) := by decide +kernel
theorem dX6_keep_6 : decode cX6_keep 6 = .ok (.if_icmp .ge 21, 3) := by decide +kernel
theorem dX6_keep_9 : decode cX6_keep 9 = .ok (.aload_n 0, 1) := by decide +kernel
theorem dX6_keep_10 : decode cX6_keep 10 = .ok (.getfield 19, 3) := by decide +kernel
theorem dX6_keep_13 : decode cX6_keep 13 = .ok (.iload_n 1, 1) := by decide +kernel
theorem dX6_keep_14 : decode cX6_keep 14 = .ok (.aload_n 0, 1) := by decide +kernel
theorem dX6_keep_15 : decode cX6_keep 15 = .ok (.getfield 7, 3) := by decide +kernel
theorem dX6_keep_18 : decode cX6_keep 18 = .ok (.iload_n 1, 1) := by decide +kernel
theorem dX6_keep_19 : decode cX6_keep 19 = .ok (.iaload, 1) := by decide +kernel
theorem dX6_keep_20 : decode cX6_keep 20 = .ok (.iastore, 1) := by decide +kernel
theorem dX6_keep_21 : decode cX6_keep 21 = .ok (.iinc 1 1, 3) := by decide +kernel
theorem dX6_keep_24 : decode cX6_keep 24 = .ok (.goto (-22), 3) := by decide +kernel
theorem dX6_keep_27 : decode cX6_keep 27 = .ok (.aload_n 0, 1) := by decide +kernel
theorem dX6_keep_28 : decode cX6_keep 28 = .ok (.iconst 1, 1) := by decide +kernel
theorem dX6_keep_29 : decode cX6_keep 29 = .ok (.putfield 182, 3) := by decide +kernel
theorem dX6_keep_32 : decode cX6_keep 32 = .ok (.aload_n 0, 1) := by decide +kernel
theorem dX6_keep_33 : decode cX6_keep 33 = .ok (.invokevirtual 185, 3) := by decide +kernel
theorem dX6_keep_36 : decode cX6_keep 36 = .ok (.ireturn, 1) := by decide +kernel
set_option maxRecDepth 20000 in
theorem ggX6_restore_X6_record : GoodIn wsX6_restore wsX6_record := goodIn_r _ [8, 9, 10, 2, 19, 20, 21, 22, 23, 24, 25, 26, 27, 28, 29, 30, 31, 32, 33, 34, 35, 36] (by decide +kernel) (by decide +kernel)
set_option maxRecDepth 20000 in
theorem gX6_restore_X6_record : GoodIn wsX6_restore (wsV RX6 110 RX6 yX6_record wsX6_record) := goodIn_app (goodIn_of _ (by decide +kernel)) ggX6_restore_X6_record
set_option maxRecDepth 20000 in
theorem ggX6_restore_X6_lines : GoodIn wsX6_restore wsX6_lines := goodIn_r _ [14, 15, 16, 17, 7, 18, 2, 19, 20, 21, 22, 23, 24, 25, 26, 27, 28, 29, 30, 31, 32, 33, 34, 35, 36] (by decide +kernel) (by decide +kernel)
set_option maxRecDepth 20000 in
theorem gX6_restore_X6_lines : GoodIn wsX6_restore (wsV RX6 185 RX6 yX6_lines wsX6_lines) := goodIn_app (goodIn_of _ (by decide +kernel)) ggX6_restore_X6_lines
theorem dX6_restore_0 : decode cX6_restore 0 = .ok (.aload_n 0, 1) := by decide +kernel
theorem dX6_restore_1 : decode cX6_restore 1 = .ok (.getfield 182, 3) := by decide +kernel
theorem dX6_restore_4 : decode cX6_restore 4 = .ok (.ifCond .ne 6, 3) := by decide +kernel
theorem dX6_restore_7 : decode cX6_restore 7 = .ok (.bipush (-5), 2) := by decide +kernel
theorem dX6_restore_9 : decode cX6_restore 9 = .ok (.ireturn, 1) := by decide +kernel
theorem dX6_restore_10 : decode cX6_restore 10 = .ok (.aload_n 0, 1) := by decide +kernel
theorem dX6_restore_11 : decode cX6_restore 11 = .ok (.invokevirtual 110, 3) := by decide +kernel
theorem dX6_restore_14 : decode cX6_restore 14 = .ok (.iconst 0, 1) := by decide +kernel
theorem dX6_restore_15 : decode cX6_restore 15 = .ok (.istore_n 1, 1) := by decide +kernel
theorem dX6_restore_16 : decode cX6_restore 16 = .ok (.iload_n 1, 1) := by decide +kernel
theorem dX6_restore_17 : decode cX6_restore 17 = .ok (.sipush 544, 3) := by decide +kernel
theorem dX6_restore_20 : decode cX6_restore 20 = .ok (.if_icmp .ge 21, 3) := by decide +kernel
theorem dX6_restore_23 : decode cX6_restore 23 = .ok (.aload_n 0, 1) := by decide +kernel
theorem dX6_restore_24 : decode cX6_restore 24 = .ok (.getfield 7, 3) := by decide +kernel
theorem dX6_restore_27 : decode cX6_restore 27 = .ok (.iload_n 1, 1) := by decide +kernel
theorem dX6_restore_28 : decode cX6_restore 28 = .ok (.aload_n 0, 1) := by decide +kernel
theorem dX6_restore_29 : decode cX6_restore 29 = .ok (.getfield 19, 3) := by decide +kernel
theorem dX6_restore_32 : decode cX6_restore 32 = .ok (.iload_n 1, 1) := by decide +kernel
theorem dX6_restore_33 : decode cX6_restore 33 = .ok (.iaload, 1) := by decide +kernel
theorem dX6_restore_34 : decode cX6_restore 34 = .ok (.iastore, 1) := by decide +kernel
theorem dX6_restore_35 : decode cX6_restore 35 = .ok (.iinc 1 1, 3) := by decide +kernel
theorem dX6_restore_38 : decode cX6_restore 38 = .ok (.goto (-22), 3) := by decide +kernel
theorem dX6_restore_41 : decode cX6_restore 41 = .ok (.aload_n 0, 1) := by decide +kernel
theorem dX6_restore_42 : decode cX6_restore 42 = .ok (.invokevirtual 185, 3) := by decide +kernel
theorem dX6_restore_45 : decode cX6_restore 45 = .ok (.ireturn, 1) := by decide +kernel
theorem dX6_dirtyOf_0 : decode cX6_dirtyOf 0 = .ok (.iconst 0, 1) := by decide +kernel
theorem dX6_dirtyOf_1 : decode cX6_dirtyOf 1 = .ok (.istore_n 2, 1) := by decide +kernel
theorem dX6_dirtyOf_2 : decode cX6_dirtyOf 2 = .ok (.bipush 8, 2) := by decide +kernel
theorem dX6_dirtyOf_4 : decode cX6_dirtyOf 4 = .ok (.iload_n 1, 1) := by decide +kernel
theorem dX6_dirtyOf_5 : decode cX6_dirtyOf 5 = .ok (.imul, 1) := by decide +kernel
theorem dX6_dirtyOf_6 : decode cX6_dirtyOf 6 = .ok (.istore_n 3, 1) := by decide +kernel
theorem dX6_dirtyOf_7 : decode cX6_dirtyOf 7 = .ok (.iload_n 3, 1) := by decide +kernel
theorem dX6_dirtyOf_8 : decode cX6_dirtyOf 8 = .ok (.bipush 8, 2) := by decide +kernel
theorem dX6_dirtyOf_10 : decode cX6_dirtyOf 10 = .ok (.iload_n 1, 1) := by decide +kernel
theorem dX6_dirtyOf_11 : decode cX6_dirtyOf 11 = .ok (.imul, 1) := by decide +kernel
theorem dX6_dirtyOf_12 : decode cX6_dirtyOf 12 = .ok (.bipush 8, 2) := by decide +kernel
theorem dX6_dirtyOf_14 : decode cX6_dirtyOf 14 = .ok (.iadd, 1) := by decide +kernel
theorem dX6_dirtyOf_15 : decode cX6_dirtyOf 15 = .ok (.if_icmp .ge 22, 3) := by decide +kernel
theorem dX6_dirtyOf_18 : decode cX6_dirtyOf 18 = .ok (.iload_n 2, 1) := by decide +kernel
theorem dX6_dirtyOf_19 : decode cX6_dirtyOf 19 = .ok (.aload_n 0, 1) := by decide +kernel
theorem dX6_dirtyOf_20 : decode cX6_dirtyOf 20 = .ok (.getfield 7, 3) := by decide +kernel
theorem dX6_dirtyOf_23 : decode cX6_dirtyOf 23 = .ok (.sipush 320, 3) := by decide +kernel
theorem dX6_dirtyOf_26 : decode cX6_dirtyOf 26 = .ok (.iload_n 3, 1) := by decide +kernel
theorem dX6_dirtyOf_27 : decode cX6_dirtyOf 27 = .ok (.iadd, 1) := by decide +kernel
theorem dX6_dirtyOf_28 : decode cX6_dirtyOf 28 = .ok (.iaload, 1) := by decide +kernel
theorem dX6_dirtyOf_29 : decode cX6_dirtyOf 29 = .ok (.iadd, 1) := by decide +kernel
theorem dX6_dirtyOf_30 : decode cX6_dirtyOf 30 = .ok (.istore_n 2, 1) := by decide +kernel
theorem dX6_dirtyOf_31 : decode cX6_dirtyOf 31 = .ok (.iinc 3 1, 3) := by decide +kernel
theorem dX6_dirtyOf_34 : decode cX6_dirtyOf 34 = .ok (.goto (-27), 3) := by decide +kernel
theorem dX6_dirtyOf_37 : decode cX6_dirtyOf 37 = .ok (.iload_n 2, 1) := by decide +kernel
theorem dX6_dirtyOf_38 : decode cX6_dirtyOf 38 = .ok (.ireturn, 1) := by decide +kernel
set_option maxRecDepth 20000 in
theorem ggX6_core_X6_isCore : GoodIn wsX6_core wsX6_isCore := goodIn_r _ [5, 6, 7, 4, 8] (by decide +kernel) (by decide +kernel)
set_option maxRecDepth 20000 in
theorem gX6_core_X6_isCore : GoodIn wsX6_core (va_wsS RX6 103 yX6_isCore wsX6_isCore) := goodIn_app (goodIn_of _ (by decide +kernel)) ggX6_core_X6_isCore
set_option maxRecDepth 20000 in
theorem ggX6_core_X6_linesOf : GoodIn wsX6_core wsX6_linesOf := goodIn_r _ [12, 1, 32, 33, 34, 35, 36, 37, 38, 39, 40, 41, 42, 43, 44, 45, 46, 47, 48, 49] (by decide +kernel) (by decide +kernel)
set_option maxRecDepth 20000 in
theorem gX6_core_X6_linesOf : GoodIn wsX6_core (wsV RX6 96 RX6 yX6_linesOf wsX6_linesOf) := goodIn_app (goodIn_of _ (by decide +kernel)) ggX6_core_X6_linesOf
set_option maxRecDepth 20000 in
theorem ggX6_core_X6_dirtyOf : GoodIn wsX6_core wsX6_dirtyOf := goodIn_r _ [16, 1, 32, 33, 34, 35, 36, 37, 38, 39, 40, 41, 42, 43, 44, 45, 46, 47, 48, 49] (by decide +kernel) (by decide +kernel)
set_option maxRecDepth 20000 in
theorem gX6_core_X6_dirtyOf : GoodIn wsX6_core (wsV RX6 189 RX6 yX6_dirtyOf wsX6_dirtyOf) := goodIn_app (goodIn_of _ (by decide +kernel)) ggX6_core_X6_dirtyOf
set_option maxRecDepth 20000 in
theorem ggX6_core_X6_countersFrom : GoodIn wsX6_core wsX6_countersFrom := goodIn_r _ [20, 1, 32, 33, 34, 35, 36, 37, 38, 39, 40, 41, 42, 43, 44, 45, 46, 47, 48, 49] (by decide +kernel) (by decide +kernel)
set_option maxRecDepth 20000 in
theorem gX6_core_X6_countersFrom : GoodIn wsX6_core (wsV RX6 72 RX6 yX6_countersFrom wsX6_countersFrom) := goodIn_app (goodIn_of _ (by decide +kernel)) ggX6_core_X6_countersFrom
set_option maxRecDepth 20000 in
theorem ggX6_core_X6_stuckOf : GoodIn wsX6_core wsX6_stuckOf := goodIn_r _ [24, 1, 32, 33, 34, 35, 36, 37, 38, 39, 40, 41, 42, 43, 44, 45, 46, 47, 48, 49] (by decide +kernel) (by decide +kernel)
set_option maxRecDepth 20000 in
theorem gX6_core_X6_stuckOf : GoodIn wsX6_core (wsV RX6 192 RX6 yX6_stuckOf wsX6_stuckOf) := goodIn_app (goodIn_of _ (by decide +kernel)) ggX6_core_X6_stuckOf
set_option maxRecDepth 20000 in
theorem ggX6_core_X6_bits : GoodIn wsX6_core wsX6_bits := goodIn_r _ [28, 1, 32, 33, 34, 35, 36, 37, 38, 39, 40, 41, 42, 43, 44, 45, 46, 47, 48, 49] (by decide +kernel) (by decide +kernel)
set_option maxRecDepth 20000 in
theorem gX6_core_X6_bits : GoodIn wsX6_core (wsV RX6 100 RX6 yX6_bits wsX6_bits) := goodIn_app (goodIn_of _ (by decide +kernel)) ggX6_core_X6_bits
set_option maxRecDepth 20000 in
theorem ggX6_core_X6_told : GoodIn wsX6_core wsX6_told := goodIn_r _ [31] (by decide +kernel) (by decide +kernel)
set_option maxRecDepth 20000 in
theorem gX6_core_X6_told : GoodIn wsX6_core (va_wsS RX6 66 yX6_told wsX6_told) := goodIn_app (goodIn_of _ (by decide +kernel)) ggX6_core_X6_told
theorem dX6_core_0 : decode cX6_core 0 = .ok (.iload_n 1, 1) := by decide +kernel
theorem dX6_core_1 : decode cX6_core 1 = .ok (.invokestatic 103, 3) := by decide +kernel
theorem dX6_core_4 : decode cX6_core 4 = .ok (.ifCond .ne 5, 3) := by decide +kernel
theorem dX6_core_7 : decode cX6_core 7 = .ok (.iconst (-1), 1) := by decide +kernel
theorem dX6_core_8 : decode cX6_core 8 = .ok (.ireturn, 1) := by decide +kernel
theorem dX6_core_9 : decode cX6_core 9 = .ok (.iload_n 2, 1) := by decide +kernel
theorem dX6_core_10 : decode cX6_core 10 = .ok (.tableswitch 102 0 10 #[58, 64, 70, 77, 83, 89, 89, 89, 89, 89, 89], 58) := by decide +kernel
theorem dX6_core_68 : decode cX6_core 68 = .ok (.aload_n 0, 1) := by decide +kernel
theorem dX6_core_69 : decode cX6_core 69 = .ok (.iload_n 1, 1) := by decide +kernel
theorem dX6_core_70 : decode cX6_core 70 = .ok (.invokevirtual 96, 3) := by decide +kernel
theorem dX6_core_73 : decode cX6_core 73 = .ok (.ireturn, 1) := by decide +kernel
theorem dX6_core_74 : decode cX6_core 74 = .ok (.aload_n 0, 1) := by decide +kernel
theorem dX6_core_75 : decode cX6_core 75 = .ok (.iload_n 1, 1) := by decide +kernel
theorem dX6_core_76 : decode cX6_core 76 = .ok (.invokevirtual 189, 3) := by decide +kernel
theorem dX6_core_79 : decode cX6_core 79 = .ok (.ireturn, 1) := by decide +kernel
theorem dX6_core_80 : decode cX6_core 80 = .ok (.aload_n 0, 1) := by decide +kernel
theorem dX6_core_81 : decode cX6_core 81 = .ok (.iload_n 1, 1) := by decide +kernel
theorem dX6_core_82 : decode cX6_core 82 = .ok (.iconst 1, 1) := by decide +kernel
theorem dX6_core_83 : decode cX6_core 83 = .ok (.invokevirtual 72, 3) := by decide +kernel
theorem dX6_core_86 : decode cX6_core 86 = .ok (.ireturn, 1) := by decide +kernel
theorem dX6_core_87 : decode cX6_core 87 = .ok (.aload_n 0, 1) := by decide +kernel
theorem dX6_core_88 : decode cX6_core 88 = .ok (.iload_n 1, 1) := by decide +kernel
theorem dX6_core_89 : decode cX6_core 89 = .ok (.invokevirtual 192, 3) := by decide +kernel
theorem dX6_core_92 : decode cX6_core 92 = .ok (.ireturn, 1) := by decide +kernel
theorem dX6_core_93 : decode cX6_core 93 = .ok (.aload_n 0, 1) := by decide +kernel
theorem dX6_core_94 : decode cX6_core 94 = .ok (.iload_n 1, 1) := by decide +kernel
theorem dX6_core_95 : decode cX6_core 95 = .ok (.invokevirtual 100, 3) := by decide +kernel
theorem dX6_core_98 : decode cX6_core 98 = .ok (.ireturn, 1) := by decide +kernel
theorem dX6_core_99 : decode cX6_core 99 = .ok (.aload_n 0, 1) := by decide +kernel
theorem dX6_core_100 : decode cX6_core 100 = .ok (.getfield 7, 3) := by decide +kernel
theorem dX6_core_103 : decode cX6_core 103 = .ok (.iload_n 1, 1) := by decide +kernel
theorem dX6_core_104 : decode cX6_core 104 = .ok (.iload_n 2, 1) := by decide +kernel
theorem dX6_core_105 : decode cX6_core 105 = .ok (.iconst 5, 1) := by decide +kernel
theorem dX6_core_106 : decode cX6_core 106 = .ok (.isub, 1) := by decide +kernel
theorem dX6_core_107 : decode cX6_core 107 = .ok (.invokestatic 66, 3) := by decide +kernel
theorem dX6_core_110 : decode cX6_core 110 = .ok (.iaload, 1) := by decide +kernel
theorem dX6_core_111 : decode cX6_core 111 = .ok (.ireturn, 1) := by decide +kernel
theorem dX6_core_112 : decode cX6_core 112 = .ok (.bipush (-2), 2) := by decide +kernel
theorem dX6_core_114 : decode cX6_core 114 = .ok (.ireturn, 1) := by decide +kernel
set_option maxRecDepth 20000 in
theorem ggX6_held_X6_isCore : GoodIn wsX6_held wsX6_isCore := goodIn_r _ [5, 6, 7, 4, 8] (by decide +kernel) (by decide +kernel)
set_option maxRecDepth 20000 in
theorem gX6_held_X6_isCore : GoodIn wsX6_held (va_wsS RX6 103 yX6_isCore wsX6_isCore) := goodIn_app (goodIn_of _ (by decide +kernel)) ggX6_held_X6_isCore
set_option maxRecDepth 20000 in
theorem ggX6_held_X6_in : GoodIn wsX6_held wsX6_in := goodIn_r _ [8] (by decide +kernel) (by decide +kernel)
set_option maxRecDepth 20000 in
theorem gX6_held_X6_in : GoodIn wsX6_held (va_wsS RX6 29 yX6_in wsX6_in) := goodIn_app (goodIn_of _ (by decide +kernel)) ggX6_held_X6_in
theorem dX6_held_0 : decode cX6_held 0 = .ok (.iload_n 1, 1) := by decide +kernel
theorem dX6_held_1 : decode cX6_held 1 = .ok (.invokestatic 103, 3) := by decide +kernel
theorem dX6_held_4 : decode cX6_held 4 = .ok (.ifCond .ne 5, 3) := by decide +kernel
theorem dX6_held_7 : decode cX6_held 7 = .ok (.iconst (-1), 1) := by decide +kernel
theorem dX6_held_8 : decode cX6_held 8 = .ok (.ireturn, 1) := by decide +kernel
theorem dX6_held_9 : decode cX6_held 9 = .ok (.iload_n 2, 1) := by decide +kernel
theorem dX6_held_10 : decode cX6_held 10 = .ok (.iconst 0, 1) := by decide +kernel
theorem dX6_held_11 : decode cX6_held 11 = .ok (.bipush 7, 2) := by decide +kernel
theorem dX6_held_13 : decode cX6_held 13 = .ok (.invokestatic 29, 3) := by decide +kernel
theorem dX6_held_16 : decode cX6_held 16 = .ok (.ifCond .eq 12, 3) := by decide +kernel
theorem dX6_held_19 : decode cX6_held 19 = .ok (.iload_n 3, 1) := by decide +kernel
theorem dX6_held_20 : decode cX6_held 20 = .ok (.iconst 0, 1) := by decide +kernel
theorem dX6_held_21 : decode cX6_held 21 = .ok (.iconst 2, 1) := by decide +kernel
theorem dX6_held_22 : decode cX6_held 22 = .ok (.invokestatic 29, 3) := by decide +kernel
theorem dX6_held_25 : decode cX6_held 25 = .ok (.ifCond .ne 6, 3) := by decide +kernel
theorem dX6_held_28 : decode cX6_held 28 = .ok (.bipush (-2), 2) := by decide +kernel
theorem dX6_held_30 : decode cX6_held 30 = .ok (.ireturn, 1) := by decide +kernel
theorem dX6_held_31 : decode cX6_held 31 = .ok (.bipush 8, 2) := by decide +kernel
theorem dX6_held_33 : decode cX6_held 33 = .ok (.iload_n 1, 1) := by decide +kernel
theorem dX6_held_34 : decode cX6_held 34 = .ok (.imul, 1) := by decide +kernel
theorem dX6_held_35 : decode cX6_held 35 = .ok (.iload_n 2, 1) := by decide +kernel
theorem dX6_held_36 : decode cX6_held 36 = .ok (.iadd, 1) := by decide +kernel
theorem dX6_held_37 : decode cX6_held 37 = .ok (.istore 4, 2) := by decide +kernel
theorem dX6_held_39 : decode cX6_held 39 = .ok (.aload_n 0, 1) := by decide +kernel
theorem dX6_held_40 : decode cX6_held 40 = .ok (.getfield 7, 3) := by decide +kernel
theorem dX6_held_43 : decode cX6_held 43 = .ok (.sipush 256, 3) := by decide +kernel
theorem dX6_held_46 : decode cX6_held 46 = .ok (.iload 4, 2) := by decide +kernel
theorem dX6_held_48 : decode cX6_held 48 = .ok (.iadd, 1) := by decide +kernel
theorem dX6_held_49 : decode cX6_held 49 = .ok (.iaload, 1) := by decide +kernel
theorem dX6_held_50 : decode cX6_held 50 = .ok (.bipush (-5), 2) := by decide +kernel
theorem dX6_held_52 : decode cX6_held 52 = .ok (.if_icmp .ne 8, 3) := by decide +kernel
theorem dX6_held_55 : decode cX6_held 55 = .ok (.bipush (-5), 2) := by decide +kernel
theorem dX6_held_57 : decode cX6_held 57 = .ok (.goto 19, 3) := by decide +kernel
theorem dX6_held_60 : decode cX6_held 60 = .ok (.aload_n 0, 1) := by decide +kernel
theorem dX6_held_61 : decode cX6_held 61 = .ok (.getfield 7, 3) := by decide +kernel
theorem dX6_held_64 : decode cX6_held 64 = .ok (.sipush 256, 3) := by decide +kernel
theorem dX6_held_67 : decode cX6_held 67 = .ok (.bipush 32, 2) := by decide +kernel
theorem dX6_held_69 : decode cX6_held 69 = .ok (.iload_n 3, 1) := by decide +kernel
theorem dX6_held_70 : decode cX6_held 70 = .ok (.imul, 1) := by decide +kernel
theorem dX6_held_71 : decode cX6_held 71 = .ok (.iadd, 1) := by decide +kernel
theorem dX6_held_72 : decode cX6_held 72 = .ok (.iload 4, 2) := by decide +kernel
theorem dX6_held_74 : decode cX6_held 74 = .ok (.iadd, 1) := by decide +kernel
theorem dX6_held_75 : decode cX6_held 75 = .ok (.iaload, 1) := by decide +kernel
theorem dX6_held_76 : decode cX6_held 76 = .ok (.ireturn, 1) := by decide +kernel
set_option maxRecDepth 20000 in
theorem ggX6_counter_X6_isCore : GoodIn wsX6_counter wsX6_isCore := goodIn_r _ [5, 6, 7, 4, 8] (by decide +kernel) (by decide +kernel)
set_option maxRecDepth 20000 in
theorem gX6_counter_X6_isCore : GoodIn wsX6_counter (va_wsS RX6 103 yX6_isCore wsX6_isCore) := goodIn_app (goodIn_of _ (by decide +kernel)) ggX6_counter_X6_isCore
set_option maxRecDepth 20000 in
theorem ggX6_counter_X6_in : GoodIn wsX6_counter wsX6_in := goodIn_r _ [8] (by decide +kernel) (by decide +kernel)
set_option maxRecDepth 20000 in
theorem gX6_counter_X6_in : GoodIn wsX6_counter (va_wsS RX6 29 yX6_in wsX6_in) := goodIn_app (goodIn_of _ (by decide +kernel)) ggX6_counter_X6_in
theorem dX6_counter_0 : decode cX6_counter 0 = .ok (.iload_n 1, 1) := by decide +kernel
theorem dX6_counter_1 : decode cX6_counter 1 = .ok (.invokestatic 103, 3) := by decide +kernel
theorem dX6_counter_4 : decode cX6_counter 4 = .ok (.ifCond .eq 31, 3) := by decide +kernel
theorem dX6_counter_7 : decode cX6_counter 7 = .ok (.iload_n 2, 1) := by decide +kernel
theorem dX6_counter_8 : decode cX6_counter 8 = .ok (.iconst 0, 1) := by decide +kernel
theorem dX6_counter_9 : decode cX6_counter 9 = .ok (.bipush 23, 2) := by decide +kernel
theorem dX6_counter_11 : decode cX6_counter 11 = .ok (.invokestatic 29, 3) := by decide +kernel
theorem dX6_counter_14 : decode cX6_counter 14 = .ok (.ifCond .eq 21, 3) := by decide +kernel
theorem dX6_counter_17 : decode cX6_counter 17 = .ok (.aload_n 0, 1) := by decide +kernel
theorem dX6_counter_18 : decode cX6_counter 18 = .ok (.getfield 7, 3) := by decide +kernel
theorem dX6_counter_21 : decode cX6_counter 21 = .ok (.sipush 352, 3) := by decide +kernel
theorem dX6_counter_24 : decode cX6_counter 24 = .ok (.bipush 24, 2) := by decide +kernel
theorem dX6_counter_26 : decode cX6_counter 26 = .ok (.iload_n 1, 1) := by decide +kernel
theorem dX6_counter_27 : decode cX6_counter 27 = .ok (.imul, 1) := by decide +kernel
theorem dX6_counter_28 : decode cX6_counter 28 = .ok (.iadd, 1) := by decide +kernel
theorem dX6_counter_29 : decode cX6_counter 29 = .ok (.iload_n 2, 1) := by decide +kernel
theorem dX6_counter_30 : decode cX6_counter 30 = .ok (.iadd, 1) := by decide +kernel
theorem dX6_counter_31 : decode cX6_counter 31 = .ok (.iaload, 1) := by decide +kernel
theorem dX6_counter_32 : decode cX6_counter 32 = .ok (.goto 4, 3) := by decide +kernel
theorem dX6_counter_35 : decode cX6_counter 35 = .ok (.iconst (-1), 1) := by decide +kernel
theorem dX6_counter_36 : decode cX6_counter 36 = .ok (.ireturn, 1) := by decide +kernel
set_option maxRecDepth 20000 in
theorem ggX6_bit_X6_isCore : GoodIn wsX6_bit wsX6_isCore := goodIn_r _ [5, 6, 7, 4, 8] (by decide +kernel) (by decide +kernel)
set_option maxRecDepth 20000 in
theorem gX6_bit_X6_isCore : GoodIn wsX6_bit (va_wsS RX6 103 yX6_isCore wsX6_isCore) := goodIn_app (goodIn_of _ (by decide +kernel)) ggX6_bit_X6_isCore
set_option maxRecDepth 20000 in
theorem ggX6_bit_X6_in : GoodIn wsX6_bit wsX6_in := goodIn_r _ [8] (by decide +kernel) (by decide +kernel)
set_option maxRecDepth 20000 in
theorem gX6_bit_X6_in : GoodIn wsX6_bit (va_wsS RX6 29 yX6_in wsX6_in) := goodIn_app (goodIn_of _ (by decide +kernel)) ggX6_bit_X6_in
theorem dX6_bit_0 : decode cX6_bit 0 = .ok (.iload_n 1, 1) := by decide +kernel
theorem dX6_bit_1 : decode cX6_bit 1 = .ok (.invokestatic 103, 3) := by decide +kernel
theorem dX6_bit_4 : decode cX6_bit 4 = .ok (.ifCond .eq 31, 3) := by decide +kernel
theorem dX6_bit_7 : decode cX6_bit 7 = .ok (.iload_n 2, 1) := by decide +kernel
theorem dX6_bit_8 : decode cX6_bit 8 = .ok (.iconst 0, 1) := by decide +kernel
theorem dX6_bit_9 : decode cX6_bit 9 = .ok (.bipush 15, 2) := by decide +kernel
theorem dX6_bit_11 : decode cX6_bit 11 = .ok (.invokestatic 29, 3) := by decide +kernel
theorem dX6_bit_14 : decode cX6_bit 14 = .ok (.ifCond .eq 21, 3) := by decide +kernel
theorem dX6_bit_17 : decode cX6_bit 17 = .ok (.aload_n 0, 1) := by decide +kernel
theorem dX6_bit_18 : decode cX6_bit 18 = .ok (.getfield 7, 3) := by decide +kernel
theorem dX6_bit_21 : decode cX6_bit 21 = .ok (.sipush 448, 3) := by decide +kernel
theorem dX6_bit_24 : decode cX6_bit 24 = .ok (.bipush 16, 2) := by decide +kernel
theorem dX6_bit_26 : decode cX6_bit 26 = .ok (.iload_n 1, 1) := by decide +kernel
theorem dX6_bit_27 : decode cX6_bit 27 = .ok (.imul, 1) := by decide +kernel
theorem dX6_bit_28 : decode cX6_bit 28 = .ok (.iadd, 1) := by decide +kernel
theorem dX6_bit_29 : decode cX6_bit 29 = .ok (.iload_n 2, 1) := by decide +kernel
theorem dX6_bit_30 : decode cX6_bit 30 = .ok (.iadd, 1) := by decide +kernel
theorem dX6_bit_31 : decode cX6_bit 31 = .ok (.iaload, 1) := by decide +kernel
theorem dX6_bit_32 : decode cX6_bit 32 = .ok (.goto 4, 3) := by decide +kernel
theorem dX6_bit_35 : decode cX6_bit 35 = .ok (.iconst (-1), 1) := by decide +kernel
theorem dX6_bit_36 : decode cX6_bit 36 = .ok (.ireturn, 1) := by decide +kernel
set_option maxRecDepth 20000 in
theorem ggX6_wouldRead_X6_placeOf : GoodIn wsX6_wouldRead wsX6_placeOf := goodIn_r _ [5] (by decide +kernel) (by decide +kernel)
set_option maxRecDepth 20000 in
theorem gX6_wouldRead_X6_placeOf : GoodIn wsX6_wouldRead (va_wsS RX6 48 yX6_placeOf wsX6_placeOf) := goodIn_app (goodIn_of _ (by decide +kernel)) ggX6_wouldRead_X6_placeOf
set_option maxRecDepth 20000 in
theorem ggX6_wouldRead_X6_mayHave : GoodIn wsX6_wouldRead wsX6_mayHave := goodIn_r _ [9, 1, 10, 11, 12, 4, 13, 14, 15, 16, 17, 18, 19, 20, 25, 26, 27, 28, 29, 30, 31, 32, 33, 34, 35, 36, 37, 38, 39, 40, 41, 42] (by decide +kernel) (by decide +kernel)
set_option maxRecDepth 20000 in
theorem gX6_wouldRead_X6_mayHave : GoodIn wsX6_wouldRead (wsV RX6 78 RX6 yX6_mayHave wsX6_mayHave) := goodIn_app (goodIn_of _ (by decide +kernel)) ggX6_wouldRead_X6_mayHave
set_option maxRecDepth 20000 in
theorem ggX6_wouldRead_X6_holds : GoodIn wsX6_wouldRead wsX6_holds := goodIn_r _ [24, 1, 2, 3, 4, 5, 25, 26, 27, 28, 29, 30, 31, 32, 33, 34, 35, 36, 37, 38, 39, 40, 41, 42] (by decide +kernel) (by decide +kernel)
set_option maxRecDepth 20000 in
theorem gX6_wouldRead_X6_holds : GoodIn wsX6_wouldRead (wsV RX6 81 RX6 yX6_holds wsX6_holds) := goodIn_app (goodIn_of _ (by decide +kernel)) ggX6_wouldRead_X6_holds
theorem dX6_wouldRead_0 : decode cX6_wouldRead 0 = .ok (.aload_n 0, 1) := by decide +kernel
theorem dX6_wouldRead_1 : decode cX6_wouldRead 1 = .ok (.getfield 7, 3) := by decide +kernel
theorem dX6_wouldRead_4 : decode cX6_wouldRead 4 = .ok (.iconst 0, 1) := by decide +kernel
theorem dX6_wouldRead_5 : decode cX6_wouldRead 5 = .ok (.iload_n 1, 1) := by decide +kernel
theorem dX6_wouldRead_6 : decode cX6_wouldRead 6 = .ok (.iadd, 1) := by decide +kernel
theorem dX6_wouldRead_7 : decode cX6_wouldRead 7 = .ok (.iaload, 1) := by decide +kernel
theorem dX6_wouldRead_8 : decode cX6_wouldRead 8 = .ok (.istore_n 2, 1) := by decide +kernel
theorem dX6_wouldRead_9 : decode cX6_wouldRead 9 = .ok (.iconst 0, 1) := by decide +kernel
theorem dX6_wouldRead_10 : decode cX6_wouldRead 10 = .ok (.istore_n 3, 1) := by decide +kernel
theorem dX6_wouldRead_11 : decode cX6_wouldRead 11 = .ok (.iload_n 3, 1) := by decide +kernel
theorem dX6_wouldRead_12 : decode cX6_wouldRead 12 = .ok (.iconst 4, 1) := by decide +kernel
theorem dX6_wouldRead_13 : decode cX6_wouldRead 13 = .ok (.if_icmp .ge 65, 3) := by decide +kernel
theorem dX6_wouldRead_16 : decode cX6_wouldRead 16 = .ok (.iload_n 3, 1) := by decide +kernel
theorem dX6_wouldRead_17 : decode cX6_wouldRead 17 = .ok (.iload_n 1, 1) := by decide +kernel
theorem dX6_wouldRead_18 : decode cX6_wouldRead 18 = .ok (.invokestatic 48, 3) := by decide +kernel
theorem dX6_wouldRead_21 : decode cX6_wouldRead 21 = .ok (.istore 4, 2) := by decide +kernel
theorem dX6_wouldRead_23 : decode cX6_wouldRead 23 = .ok (.aload_n 0, 1) := by decide +kernel
theorem dX6_wouldRead_24 : decode cX6_wouldRead 24 = .ok (.iload_n 3, 1) := by decide +kernel
theorem dX6_wouldRead_25 : decode cX6_wouldRead 25 = .ok (.iload_n 1, 1) := by decide +kernel
theorem dX6_wouldRead_26 : decode cX6_wouldRead 26 = .ok (.invokevirtual 78, 3) := by decide +kernel
theorem dX6_wouldRead_29 : decode cX6_wouldRead 29 = .ok (.ifCond .eq 41, 3) := by decide +kernel
theorem dX6_wouldRead_32 : decode cX6_wouldRead 32 = .ok (.aload_n 0, 1) := by decide +kernel
theorem dX6_wouldRead_33 : decode cX6_wouldRead 33 = .ok (.iload_n 3, 1) := by decide +kernel
theorem dX6_wouldRead_34 : decode cX6_wouldRead 34 = .ok (.iload_n 1, 1) := by decide +kernel
theorem dX6_wouldRead_35 : decode cX6_wouldRead 35 = .ok (.invokevirtual 81, 3) := by decide +kernel
theorem dX6_wouldRead_38 : decode cX6_wouldRead 38 = .ok (.ifCond .eq 32, 3) := by decide +kernel
theorem dX6_wouldRead_41 : decode cX6_wouldRead 41 = .ok (.aload_n 0, 1) := by decide +kernel
theorem dX6_wouldRead_42 : decode cX6_wouldRead 42 = .ok (.getfield 7, 3) := by decide +kernel
theorem dX6_wouldRead_45 : decode cX6_wouldRead 45 = .ok (.sipush 320, 3) := by decide +kernel
theorem dX6_wouldRead_48 : decode cX6_wouldRead 48 = .ok (.iload 4, 2) := by decide +kernel
theorem dX6_wouldRead_50 : decode cX6_wouldRead 50 = .ok (.iadd, 1) := by decide +kernel
theorem dX6_wouldRead_51 : decode cX6_wouldRead 51 = .ok (.iaload, 1) := by decide +kernel
theorem dX6_wouldRead_52 : decode cX6_wouldRead 52 = .ok (.iconst 1, 1) := by decide +kernel
theorem dX6_wouldRead_53 : decode cX6_wouldRead 53 = .ok (.if_icmp .ne 17, 3) := by decide +kernel
theorem dX6_wouldRead_56 : decode cX6_wouldRead 56 = .ok (.aload_n 0, 1) := by decide +kernel
theorem dX6_wouldRead_57 : decode cX6_wouldRead 57 = .ok (.getfield 7, 3) := by decide +kernel
theorem dX6_wouldRead_60 : decode cX6_wouldRead 60 = .ok (.sipush 288, 3) := by decide +kernel
theorem dX6_wouldRead_63 : decode cX6_wouldRead 63 = .ok (.iload 4, 2) := by decide +kernel
theorem dX6_wouldRead_65 : decode cX6_wouldRead 65 = .ok (.iadd, 1) := by decide +kernel
theorem dX6_wouldRead_66 : decode cX6_wouldRead 66 = .ok (.iaload, 1) := by decide +kernel
theorem dX6_wouldRead_67 : decode cX6_wouldRead 67 = .ok (.goto 4, 3) := by decide +kernel
theorem dX6_wouldRead_70 : decode cX6_wouldRead 70 = .ok (.iload_n 2, 1) := by decide +kernel
theorem dX6_wouldRead_71 : decode cX6_wouldRead 71 = .ok (.istore_n 2, 1) := by decide +kernel
theorem dX6_wouldRead_72 : decode cX6_wouldRead 72 = .ok (.iinc 3 1, 3) := by decide +kernel
theorem dX6_wouldRead_75 : decode cX6_wouldRead 75 = .ok (.goto (-64), 3) := by decide +kernel
theorem dX6_wouldRead_78 : decode cX6_wouldRead 78 = .ok (.iload_n 2, 1) := by decide +kernel
theorem dX6_wouldRead_79 : decode cX6_wouldRead 79 = .ok (.ireturn, 1) := by decide +kernel
set_option maxRecDepth 20000 in
theorem ggX6_coresWith_X6_holds : GoodIn wsX6_coresWith wsX6_holds := goodIn_r _ [5, 6, 7, 8, 4, 9, 25, 26, 27, 28, 29, 30, 31, 32, 33, 34, 35, 36, 37, 38, 39, 40, 41, 42] (by decide +kernel) (by decide +kernel)
set_option maxRecDepth 20000 in
theorem gX6_coresWith_X6_holds : GoodIn wsX6_coresWith (wsV RX6 81 RX6 yX6_holds wsX6_holds) := goodIn_app (goodIn_of _ (by decide +kernel)) ggX6_coresWith_X6_holds
set_option maxRecDepth 20000 in
theorem ggX6_coresWith_X6_mayHave : GoodIn wsX6_coresWith wsX6_mayHave := goodIn_r _ [13, 6, 14, 15, 16, 4, 17, 18, 19, 20, 21, 22, 23, 24, 25, 26, 27, 28, 29, 30, 31, 32, 33, 34, 35, 36, 37, 38, 39, 40, 41, 42] (by decide +kernel) (by decide +kernel)
set_option maxRecDepth 20000 in
theorem gX6_coresWith_X6_mayHave : GoodIn wsX6_coresWith (wsV RX6 78 RX6 yX6_mayHave wsX6_mayHave) := goodIn_app (goodIn_of _ (by decide +kernel)) ggX6_coresWith_X6_mayHave
theorem dX6_coresWith_0 : decode cX6_coresWith 0 = .ok (.iconst 0, 1) := by decide +kernel
theorem dX6_coresWith_1 : decode cX6_coresWith 1 = .ok (.istore_n 3, 1) := by decide +kernel
theorem dX6_coresWith_2 : decode cX6_coresWith 2 = .ok (.iconst 0, 1) := by decide +kernel
theorem dX6_coresWith_3 : decode cX6_coresWith 3 = .ok (.istore 4, 2) := by decide +kernel
theorem dX6_coresWith_5 : decode cX6_coresWith 5 = .ok (.iload 4, 2) := by decide +kernel
theorem dX6_coresWith_7 : decode cX6_coresWith 7 = .ok (.iconst 4, 1) := by decide +kernel
theorem dX6_coresWith_8 : decode cX6_coresWith 8 = .ok (.if_icmp .ge 47, 3) := by decide +kernel
theorem dX6_coresWith_11 : decode cX6_coresWith 11 = .ok (.iload_n 3, 1) := by decide +kernel
theorem dX6_coresWith_12 : decode cX6_coresWith 12 = .ok (.iload_n 2, 1) := by decide +kernel
theorem dX6_coresWith_13 : decode cX6_coresWith 13 = .ok (.ifCond .eq 16, 3) := by decide +kernel
theorem dX6_coresWith_16 : decode cX6_coresWith 16 = .ok (.aload_n 0, 1) := by decide +kernel
theorem dX6_coresWith_17 : decode cX6_coresWith 17 = .ok (.iload 4, 2) := by decide +kernel
theorem dX6_coresWith_19 : decode cX6_coresWith 19 = .ok (.iload_n 1, 1) := by decide +kernel
theorem dX6_coresWith_20 : decode cX6_coresWith 20 = .ok (.invokevirtual 81, 3) := by decide +kernel
theorem dX6_coresWith_23 : decode cX6_coresWith 23 = .ok (.ifCond .eq 23, 3) := by decide +kernel
theorem dX6_coresWith_26 : decode cX6_coresWith 26 = .ok (.goto 13, 3) := by decide +kernel
theorem dX6_coresWith_29 : decode cX6_coresWith 29 = .ok (.aload_n 0, 1) := by decide +kernel
theorem dX6_coresWith_30 : decode cX6_coresWith 30 = .ok (.iload 4, 2) := by decide +kernel
theorem dX6_coresWith_32 : decode cX6_coresWith 32 = .ok (.iload_n 1, 1) := by decide +kernel
theorem dX6_coresWith_33 : decode cX6_coresWith 33 = .ok (.invokevirtual 78, 3) := by decide +kernel
theorem dX6_coresWith_36 : decode cX6_coresWith 36 = .ok (.ifCond .eq 10, 3) := by decide +kernel
theorem dX6_coresWith_39 : decode cX6_coresWith 39 = .ok (.iconst 1, 1) := by decide +kernel
theorem dX6_coresWith_40 : decode cX6_coresWith 40 = .ok (.iload 4, 2) := by decide +kernel
theorem dX6_coresWith_42 : decode cX6_coresWith 42 = .ok (.ishl, 1) := by decide +kernel
theorem dX6_coresWith_43 : decode cX6_coresWith 43 = .ok (.goto 4, 3) := by decide +kernel
theorem dX6_coresWith_46 : decode cX6_coresWith 46 = .ok (.iconst 0, 1) := by decide +kernel
theorem dX6_coresWith_47 : decode cX6_coresWith 47 = .ok (.ior, 1) := by decide +kernel
theorem dX6_coresWith_48 : decode cX6_coresWith 48 = .ok (.istore_n 3, 1) := by decide +kernel
theorem dX6_coresWith_49 : decode cX6_coresWith 49 = .ok (.iinc 4 1, 3) := by decide +kernel
theorem dX6_coresWith_52 : decode cX6_coresWith 52 = .ok (.goto (-47), 3) := by decide +kernel
theorem dX6_coresWith_55 : decode cX6_coresWith 55 = .ok (.iload_n 3, 1) := by decide +kernel
theorem dX6_coresWith_56 : decode cX6_coresWith 56 = .ok (.ireturn, 1) := by decide +kernel
set_option maxRecDepth 20000 in
theorem ggX6_line_X6_isLine : GoodIn wsX6_line wsX6_isLine := goodIn_r _ [5, 6, 7, 4, 8] (by decide +kernel) (by decide +kernel)
set_option maxRecDepth 20000 in
theorem gX6_line_X6_isLine : GoodIn wsX6_line (va_wsS RX6 107 yX6_isLine wsX6_isLine) := goodIn_app (goodIn_of _ (by decide +kernel)) ggX6_line_X6_isLine
set_option maxRecDepth 20000 in
theorem ggX6_line_X6_wouldRead : GoodIn wsX6_line wsX6_wouldRead := goodIn_r _ [12, 1, 13, 14, 4, 15, 16, 17, 18, 19, 20, 21, 22, 23, 24, 25, 26, 27, 28, 29, 30, 31, 32, 33, 34, 39, 40, 41, 42, 43, 44, 45, 46, 47, 48, 49, 50, 51, 52, 53, 54, 55, 56] (by decide +kernel) (by decide +kernel)
set_option maxRecDepth 20000 in
theorem gX6_line_X6_wouldRead : GoodIn wsX6_line (wsV RX6 195 RX6 yX6_wouldRead wsX6_wouldRead) := goodIn_app (goodIn_of _ (by decide +kernel)) ggX6_line_X6_wouldRead
set_option maxRecDepth 20000 in
theorem ggX6_line_X6_coresWith : GoodIn wsX6_line wsX6_coresWith := goodIn_r _ [38, 31, 32, 33, 4, 34, 1, 13, 14, 15, 16, 17, 18, 19, 20, 21, 22, 23, 24, 25, 26, 27, 28, 29, 30, 39, 40, 41, 42, 43, 44, 45, 46, 47, 48, 49, 50, 51, 52, 53, 54, 55, 56] (by decide +kernel) (by decide +kernel)
set_option maxRecDepth 20000 in
theorem gX6_line_X6_coresWith : GoodIn wsX6_line (wsV RX6 198 RX6 yX6_coresWith wsX6_coresWith) := goodIn_app (goodIn_of _ (by decide +kernel)) ggX6_line_X6_coresWith
set_option maxRecDepth 20000 in
theorem ggX6_line_X6_counterOf : GoodIn wsX6_line wsX6_counterOf := goodIn_r _ [30] (by decide +kernel) (by decide +kernel)
set_option maxRecDepth 20000 in
theorem gX6_line_X6_counterOf : GoodIn wsX6_line (va_wsS RX6 36 yX6_counterOf wsX6_counterOf) := goodIn_app (goodIn_of _ (by decide +kernel)) ggX6_line_X6_counterOf
theorem dX6_line_0 : decode cX6_line 0 = .ok (.iload_n 1, 1) := by decide +kernel
theorem dX6_line_1 : decode cX6_line 1 = .ok (.invokestatic 107, 3) := by decide +kernel
theorem dX6_line_4 : decode cX6_line 4 = .ok (.ifCond .ne 5, 3) := by decide +kernel
theorem dX6_line_7 : decode cX6_line 7 = .ok (.iconst (-1), 1) := by decide +kernel
theorem dX6_line_8 : decode cX6_line 8 = .ok (.ireturn, 1) := by decide +kernel
theorem dX6_line_9 : decode cX6_line 9 = .ok (.iload_n 2, 1) := by decide +kernel
theorem dX6_line_10 : decode cX6_line 10 = .ok (.tableswitch 77 0 5 #[38, 47, 53, 53, 69, 69], 38) := by decide +kernel
theorem dX6_line_48 : decode cX6_line 48 = .ok (.aload_n 0, 1) := by decide +kernel
theorem dX6_line_49 : decode cX6_line 49 = .ok (.getfield 7, 3) := by decide +kernel
theorem dX6_line_52 : decode cX6_line 52 = .ok (.iconst 0, 1) := by decide +kernel
theorem dX6_line_53 : decode cX6_line 53 = .ok (.iload_n 1, 1) := by decide +kernel
theorem dX6_line_54 : decode cX6_line 54 = .ok (.iadd, 1) := by decide +kernel
theorem dX6_line_55 : decode cX6_line 55 = .ok (.iaload, 1) := by decide +kernel
theorem dX6_line_56 : decode cX6_line 56 = .ok (.ireturn, 1) := by decide +kernel
theorem dX6_line_57 : decode cX6_line 57 = .ok (.aload_n 0, 1) := by decide +kernel
theorem dX6_line_58 : decode cX6_line 58 = .ok (.iload_n 1, 1) := by decide +kernel
theorem dX6_line_59 : decode cX6_line 59 = .ok (.invokevirtual 195, 3) := by decide +kernel
theorem dX6_line_62 : decode cX6_line 62 = .ok (.ireturn, 1) := by decide +kernel
theorem dX6_line_63 : decode cX6_line 63 = .ok (.aload_n 0, 1) := by decide +kernel
theorem dX6_line_64 : decode cX6_line 64 = .ok (.iload_n 1, 1) := by decide +kernel
theorem dX6_line_65 : decode cX6_line 65 = .ok (.iload_n 2, 1) := by decide +kernel
theorem dX6_line_66 : decode cX6_line 66 = .ok (.iconst 2, 1) := by decide +kernel
theorem dX6_line_67 : decode cX6_line 67 = .ok (.if_icmp .ne 7, 3) := by decide +kernel
theorem dX6_line_70 : decode cX6_line 70 = .ok (.iconst 1, 1) := by decide +kernel
theorem dX6_line_71 : decode cX6_line 71 = .ok (.goto 4, 3) := by decide +kernel
theorem dX6_line_74 : decode cX6_line 74 = .ok (.iconst 0, 1) := by decide +kernel
theorem dX6_line_75 : decode cX6_line 75 = .ok (.invokevirtual 198, 3) := by decide +kernel
theorem dX6_line_78 : decode cX6_line 78 = .ok (.ireturn, 1) := by decide +kernel
theorem dX6_line_79 : decode cX6_line 79 = .ok (.iload_n 1, 1) := by decide +kernel
theorem dX6_line_80 : decode cX6_line 80 = .ok (.iload_n 2, 1) := by decide +kernel
theorem dX6_line_81 : decode cX6_line 81 = .ok (.iconst 4, 1) := by decide +kernel
theorem dX6_line_82 : decode cX6_line 82 = .ok (.isub, 1) := by decide +kernel
theorem dX6_line_83 : decode cX6_line 83 = .ok (.invokestatic 36, 3) := by decide +kernel
theorem dX6_line_86 : decode cX6_line 86 = .ok (.ireturn, 1) := by decide +kernel
theorem dX6_line_87 : decode cX6_line 87 = .ok (.bipush (-2), 2) := by decide +kernel
theorem dX6_line_89 : decode cX6_line 89 = .ok (.ireturn, 1) := by decide +kernel
set_option maxRecDepth 20000 in
theorem ggX6_reason_X6_isCore : GoodIn wsX6_reason wsX6_isCore := goodIn_r _ [4, 5, 6, 3, 7] (by decide +kernel) (by decide +kernel)
set_option maxRecDepth 20000 in
theorem gX6_reason_X6_isCore : GoodIn wsX6_reason (va_wsS RX6 103 yX6_isCore wsX6_isCore) := goodIn_app (goodIn_of _ (by decide +kernel)) ggX6_reason_X6_isCore
set_option maxRecDepth 20000 in
theorem ggX6_reason_X6_isLine : GoodIn wsX6_reason wsX6_isLine := goodIn_r _ [10, 5, 6, 3, 7] (by decide +kernel) (by decide +kernel)
set_option maxRecDepth 20000 in
theorem gX6_reason_X6_isLine : GoodIn wsX6_reason (va_wsS RX6 107 yX6_isLine wsX6_isLine) := goodIn_app (goodIn_of _ (by decide +kernel)) ggX6_reason_X6_isLine
set_option maxRecDepth 20000 in
theorem ggX6_reason_X6_mayHave : GoodIn wsX6_reason wsX6_mayHave := goodIn_r _ [14, 15, 16, 17, 18, 3, 19, 20, 21, 22, 23, 24, 25, 26, 34, 35, 36, 37, 38, 39, 40, 41, 42, 43, 44, 45, 46, 47, 48, 49, 50, 51] (by decide +kernel) (by decide +kernel)
set_option maxRecDepth 20000 in
theorem gX6_reason_X6_mayHave : GoodIn wsX6_reason (wsV RX6 78 RX6 yX6_mayHave wsX6_mayHave) := goodIn_app (goodIn_of _ (by decide +kernel)) ggX6_reason_X6_mayHave
set_option maxRecDepth 20000 in
theorem ggX6_reason_X6_holds : GoodIn wsX6_reason wsX6_holds := goodIn_r _ [30, 15, 31, 32, 3, 33, 34, 35, 36, 37, 38, 39, 40, 41, 42, 43, 44, 45, 46, 47, 48, 49, 50, 51] (by decide +kernel) (by decide +kernel)
set_option maxRecDepth 20000 in
theorem gX6_reason_X6_holds : GoodIn wsX6_reason (wsV RX6 81 RX6 yX6_holds wsX6_holds) := goodIn_app (goodIn_of _ (by decide +kernel)) ggX6_reason_X6_holds
set_option maxRecDepth 20000 in
theorem ggX6_reason_X6_isBit : GoodIn wsX6_reason wsX6_isBit := goodIn_r _ [19, 15, 34, 35, 36, 37, 38, 39, 40, 41, 42, 43, 44, 45, 46, 47, 48, 49, 50, 51] (by decide +kernel) (by decide +kernel)
set_option maxRecDepth 20000 in
theorem gX6_reason_X6_isBit : GoodIn wsX6_reason (wsV RX6 44 RX6 yX6_isBit wsX6_isBit) := goodIn_app (goodIn_of _ (by decide +kernel)) ggX6_reason_X6_isBit
theorem dX6_reason_0 : decode cX6_reason 0 = .ok (.iload_n 1, 1) := by decide +kernel
theorem dX6_reason_1 : decode cX6_reason 1 = .ok (.invokestatic 103, 3) := by decide +kernel
theorem dX6_reason_4 : decode cX6_reason 4 = .ok (.ifCond .eq 10, 3) := by decide +kernel
theorem dX6_reason_7 : decode cX6_reason 7 = .ok (.iload_n 2, 1) := by decide +kernel
theorem dX6_reason_8 : decode cX6_reason 8 = .ok (.invokestatic 107, 3) := by decide +kernel
theorem dX6_reason_11 : decode cX6_reason 11 = .ok (.ifCond .ne 5, 3) := by decide +kernel
theorem dX6_reason_14 : decode cX6_reason 14 = .ok (.iconst (-1), 1) := by decide +kernel
theorem dX6_reason_15 : decode cX6_reason 15 = .ok (.ireturn, 1) := by decide +kernel
theorem dX6_reason_16 : decode cX6_reason 16 = .ok (.aload_n 0, 1) := by decide +kernel
theorem dX6_reason_17 : decode cX6_reason 17 = .ok (.iload_n 1, 1) := by decide +kernel
theorem dX6_reason_18 : decode cX6_reason 18 = .ok (.iload_n 2, 1) := by decide +kernel
theorem dX6_reason_19 : decode cX6_reason 19 = .ok (.invokevirtual 78, 3) := by decide +kernel
theorem dX6_reason_22 : decode cX6_reason 22 = .ok (.ifCond .eq 18, 3) := by decide +kernel
theorem dX6_reason_25 : decode cX6_reason 25 = .ok (.aload_n 0, 1) := by decide +kernel
theorem dX6_reason_26 : decode cX6_reason 26 = .ok (.iload_n 1, 1) := by decide +kernel
theorem dX6_reason_27 : decode cX6_reason 27 = .ok (.iload_n 2, 1) := by decide +kernel
theorem dX6_reason_28 : decode cX6_reason 28 = .ok (.invokevirtual 81, 3) := by decide +kernel
theorem dX6_reason_31 : decode cX6_reason 31 = .ok (.ifCond .eq 7, 3) := by decide +kernel
theorem dX6_reason_34 : decode cX6_reason 34 = .ok (.iconst 0, 1) := by decide +kernel
theorem dX6_reason_35 : decode cX6_reason 35 = .ok (.goto 4, 3) := by decide +kernel
theorem dX6_reason_38 : decode cX6_reason 38 = .ok (.iconst 1, 1) := by decide +kernel
theorem dX6_reason_39 : decode cX6_reason 39 = .ok (.ireturn, 1) := by decide +kernel
theorem dX6_reason_40 : decode cX6_reason 40 = .ok (.aload_n 0, 1) := by decide +kernel
theorem dX6_reason_41 : decode cX6_reason 41 = .ok (.iload_n 1, 1) := by decide +kernel
theorem dX6_reason_42 : decode cX6_reason 42 = .ok (.iload_n 2, 1) := by decide +kernel
theorem dX6_reason_43 : decode cX6_reason 43 = .ok (.invokevirtual 44, 3) := by decide +kernel
theorem dX6_reason_46 : decode cX6_reason 46 = .ok (.ifCond .eq 7, 3) := by decide +kernel
theorem dX6_reason_49 : decode cX6_reason 49 = .ok (.iconst 3, 1) := by decide +kernel
theorem dX6_reason_50 : decode cX6_reason 50 = .ok (.goto 4, 3) := by decide +kernel
theorem dX6_reason_53 : decode cX6_reason 53 = .ok (.iconst 2, 1) := by decide +kernel
theorem dX6_reason_54 : decode cX6_reason 54 = .ok (.ireturn, 1) := by decide +kernel
set_option maxRecDepth 20000 in
theorem ggX6_sumOf_X6_told : GoodIn wsX6_sumOf wsX6_told := goodIn_r _ [5] (by decide +kernel) (by decide +kernel)
set_option maxRecDepth 20000 in
theorem gX6_sumOf_X6_told : GoodIn wsX6_sumOf (va_wsS RX6 66 yX6_told wsX6_told) := goodIn_app (goodIn_of _ (by decide +kernel)) ggX6_sumOf_X6_told
theorem dX6_sumOf_0 : decode cX6_sumOf 0 = .ok (.iconst 0, 1) := by decide +kernel
theorem dX6_sumOf_1 : decode cX6_sumOf 1 = .ok (.istore_n 2, 1) := by decide +kernel
theorem dX6_sumOf_2 : decode cX6_sumOf 2 = .ok (.iconst 0, 1) := by decide +kernel
theorem dX6_sumOf_3 : decode cX6_sumOf 3 = .ok (.istore_n 3, 1) := by decide +kernel
theorem dX6_sumOf_4 : decode cX6_sumOf 4 = .ok (.iload_n 3, 1) := by decide +kernel
theorem dX6_sumOf_5 : decode cX6_sumOf 5 = .ok (.iconst 4, 1) := by decide +kernel
theorem dX6_sumOf_6 : decode cX6_sumOf 6 = .ok (.if_icmp .ge 22, 3) := by decide +kernel
theorem dX6_sumOf_9 : decode cX6_sumOf 9 = .ok (.iload_n 2, 1) := by decide +kernel
theorem dX6_sumOf_10 : decode cX6_sumOf 10 = .ok (.aload_n 0, 1) := by decide +kernel
theorem dX6_sumOf_11 : decode cX6_sumOf 11 = .ok (.getfield 7, 3) := by decide +kernel
theorem dX6_sumOf_14 : decode cX6_sumOf 14 = .ok (.iload_n 3, 1) := by decide +kernel
theorem dX6_sumOf_15 : decode cX6_sumOf 15 = .ok (.iload_n 1, 1) := by decide +kernel
theorem dX6_sumOf_16 : decode cX6_sumOf 16 = .ok (.invokestatic 66, 3) := by decide +kernel
theorem dX6_sumOf_19 : decode cX6_sumOf 19 = .ok (.iaload, 1) := by decide +kernel
theorem dX6_sumOf_20 : decode cX6_sumOf 20 = .ok (.iadd, 1) := by decide +kernel
theorem dX6_sumOf_21 : decode cX6_sumOf 21 = .ok (.istore_n 2, 1) := by decide +kernel
theorem dX6_sumOf_22 : decode cX6_sumOf 22 = .ok (.iinc 3 1, 3) := by decide +kernel
theorem dX6_sumOf_25 : decode cX6_sumOf 25 = .ok (.goto (-21), 3) := by decide +kernel
theorem dX6_sumOf_28 : decode cX6_sumOf 28 = .ok (.iload_n 2, 1) := by decide +kernel
theorem dX6_sumOf_29 : decode cX6_sumOf 29 = .ok (.ireturn, 1) := by decide +kernel
set_option maxRecDepth 20000 in
theorem ggX6_cost_X6_isCore : GoodIn wsX6_cost wsX6_isCore := goodIn_r _ [5, 6, 7, 4, 8] (by decide +kernel) (by decide +kernel)
set_option maxRecDepth 20000 in
theorem gX6_cost_X6_isCore : GoodIn wsX6_cost (va_wsS RX6 103 yX6_isCore wsX6_isCore) := goodIn_app (goodIn_of _ (by decide +kernel)) ggX6_cost_X6_isCore
set_option maxRecDepth 20000 in
theorem ggX6_cost_X6_isLine : GoodIn wsX6_cost wsX6_isLine := goodIn_r _ [11, 6, 7, 4, 8] (by decide +kernel) (by decide +kernel)
set_option maxRecDepth 20000 in
theorem gX6_cost_X6_isLine : GoodIn wsX6_cost (va_wsS RX6 107 yX6_isLine wsX6_isLine) := goodIn_app (goodIn_of _ (by decide +kernel)) ggX6_cost_X6_isLine
set_option maxRecDepth 20000 in
theorem ggX6_cost_X6_in : GoodIn wsX6_cost wsX6_in := goodIn_r _ [8] (by decide +kernel) (by decide +kernel)
set_option maxRecDepth 20000 in
theorem gX6_cost_X6_in : GoodIn wsX6_cost (va_wsS RX6 29 yX6_in wsX6_in) := goodIn_app (goodIn_of _ (by decide +kernel)) ggX6_cost_X6_in
set_option maxRecDepth 20000 in
theorem ggX6_cost_X6_putAside : GoodIn wsX6_cost wsX6_putAside := goodIn_r _ [15, 16, 1, 98, 99, 100, 101, 102, 103, 104, 105, 106, 107, 108, 109, 110, 111, 112, 113, 114, 115] (by decide +kernel) (by decide +kernel)
set_option maxRecDepth 20000 in
theorem gX6_cost_X6_putAside : GoodIn wsX6_cost (wsV RX6 173 RX6 yX6_putAside wsX6_putAside) := goodIn_app (goodIn_of _ (by decide +kernel)) ggX6_cost_X6_putAside
set_option maxRecDepth 20000 in
theorem ggX6_cost_X6_sumOf : GoodIn wsX6_cost wsX6_sumOf := goodIn_r _ [20, 1, 21, 22, 4, 23, 98, 99, 100, 101, 102, 103, 104, 105, 106, 107, 108, 109, 110, 111, 112, 113, 114, 115] (by decide +kernel) (by decide +kernel)
set_option maxRecDepth 20000 in
theorem gX6_cost_X6_sumOf : GoodIn wsX6_cost (wsV RX6 202 RX6 yX6_sumOf wsX6_sumOf) := goodIn_app (goodIn_of _ (by decide +kernel)) ggX6_cost_X6_sumOf
set_option maxRecDepth 20000 in
theorem ggX6_cost_X6_writes : GoodIn wsX6_cost wsX6_writes := goodIn_r _ [27, 1, 28, 29, 4, 30, 31, 32, 33, 34, 35, 36, 37, 38, 39, 40, 41, 42, 43, 44, 45, 46, 47, 48, 49, 50, 51, 52, 53, 54, 55, 56, 57, 21, 22, 23, 58, 59, 60, 61, 62, 63, 64, 65, 66, 67, 68, 69, 70, 71, 72, 73, 74, 75, 76, 77, 78, 79, 80, 81, 82, 83, 84, 85, 86, 87, 88, 89, 98, 99, 100, 101, 102, 103, 104, 105, 106, 107, 108, 109, 110, 111, 112, 113, 114, 115] (by decide +kernel) (by decide +kernel)
set_option maxRecDepth 20000 in
theorem gX6_cost_X6_writes : GoodIn wsX6_cost (wsV RX6 116 RX6 yX6_writes wsX6_writes) := goodIn_app (goodIn_of _ (by decide +kernel)) ggX6_cost_X6_writes
set_option maxRecDepth 20000 in
theorem ggX6_cost_X6_reads : GoodIn wsX6_cost wsX6_reads := goodIn_r _ [93, 1, 31, 32, 33, 4, 34, 28, 29, 30, 21, 22, 23, 35, 36, 37, 38, 39, 40, 41, 42, 43, 44, 45, 46, 47, 48, 49, 50, 51, 52, 53, 54, 55, 56, 57, 58, 59, 60, 61, 62, 63, 64, 65, 66, 67, 68, 69, 70, 71, 72, 73, 74, 75, 76, 77, 78, 79, 80, 81, 82, 83, 84, 85, 86, 87, 88, 89, 98, 99, 100, 101, 102, 103, 104, 105, 106, 107, 108, 109, 110, 111, 112, 113, 114, 115] (by decide +kernel) (by decide +kernel)
set_option maxRecDepth 20000 in
theorem gX6_cost_X6_reads : GoodIn wsX6_cost (wsV RX6 113 RX6 yX6_reads wsX6_reads) := goodIn_app (goodIn_of _ (by decide +kernel)) ggX6_cost_X6_reads
set_option maxRecDepth 20000 in
theorem ggX6_cost_X6_putBack : GoodIn wsX6_cost wsX6_putBack := goodIn_r _ [97, 1, 16, 98, 99, 100, 101, 102, 103, 104, 105, 106, 107, 108, 109, 110, 111, 112, 113, 114, 115] (by decide +kernel) (by decide +kernel)
set_option maxRecDepth 20000 in
theorem gX6_cost_X6_putBack : GoodIn wsX6_cost (wsV RX6 179 RX6 yX6_putBack wsX6_putBack) := goodIn_app (goodIn_of _ (by decide +kernel)) ggX6_cost_X6_putBack
theorem dX6_cost_0 : decode cX6_cost 0 = .ok (.iload_n 1, 1) := by decide +kernel
theorem dX6_cost_1 : decode cX6_cost 1 = .ok (.invokestatic 103, 3) := by decide +kernel
theorem dX6_cost_4 : decode cX6_cost 4 = .ok (.ifCond .eq 10, 3) := by decide +kernel
theorem dX6_cost_7 : decode cX6_cost 7 = .ok (.iload_n 2, 1) := by decide +kernel
theorem dX6_cost_8 : decode cX6_cost 8 = .ok (.invokestatic 107, 3) := by decide +kernel
theorem dX6_cost_11 : decode cX6_cost 11 = .ok (.ifCond .ne 5, 3) := by decide +kernel
theorem dX6_cost_14 : decode cX6_cost 14 = .ok (.iconst (-1), 1) := by decide +kernel
theorem dX6_cost_15 : decode cX6_cost 15 = .ok (.ireturn, 1) := by decide +kernel
theorem dX6_cost_16 : decode cX6_cost 16 = .ok (.iload 4, 2) := by decide +kernel
theorem dX6_cost_18 : decode cX6_cost 18 = .ok (.iconst 0, 1) := by decide +kernel
theorem dX6_cost_19 : decode cX6_cost 19 = .ok (.iconst 3, 1) := by decide +kernel
theorem dX6_cost_20 : decode cX6_cost 20 = .ok (.invokestatic 29, 3) := by decide +kernel
theorem dX6_cost_23 : decode cX6_cost 23 = .ok (.ifCond .ne 6, 3) := by decide +kernel
theorem dX6_cost_26 : decode cX6_cost 26 = .ok (.bipush (-2), 2) := by decide +kernel
theorem dX6_cost_28 : decode cX6_cost 28 = .ok (.ireturn, 1) := by decide +kernel
theorem dX6_cost_29 : decode cX6_cost 29 = .ok (.aload_n 0, 1) := by decide +kernel
theorem dX6_cost_30 : decode cX6_cost 30 = .ok (.invokevirtual 173, 3) := by decide +kernel
theorem dX6_cost_33 : decode cX6_cost 33 = .ok (.iload 4, 2) := by decide +kernel
theorem dX6_cost_35 : decode cX6_cost 35 = .ok (.iconst 2, 1) := by decide +kernel
theorem dX6_cost_36 : decode cX6_cost 36 = .ok (.if_icmp .ne 14, 3) := by decide +kernel
theorem dX6_cost_39 : decode cX6_cost 39 = .ok (.aload_n 0, 1) := by decide +kernel
theorem dX6_cost_40 : decode cX6_cost 40 = .ok (.getfield 7, 3) := by decide +kernel
theorem dX6_cost_43 : decode cX6_cost 43 = .ok (.sipush 538, 3) := by decide +kernel
theorem dX6_cost_46 : decode cX6_cost 46 = .ok (.iaload, 1) := by decide +kernel
theorem dX6_cost_47 : decode cX6_cost 47 = .ok (.goto 21, 3) := by decide +kernel
theorem dX6_cost_50 : decode cX6_cost 50 = .ok (.aload_n 0, 1) := by decide +kernel
theorem dX6_cost_51 : decode cX6_cost 51 = .ok (.iload 4, 2) := by decide +kernel
theorem dX6_cost_53 : decode cX6_cost 53 = .ok (.iconst 3, 1) := by decide +kernel
theorem dX6_cost_54 : decode cX6_cost 54 = .ok (.if_icmp .ne 7, 3) := by decide +kernel
theorem dX6_cost_57 : decode cX6_cost 57 = .ok (.iconst 5, 1) := by decide +kernel
theorem dX6_cost_58 : decode cX6_cost 58 = .ok (.goto 7, 3) := by decide +kernel
theorem dX6_cost_61 : decode cX6_cost 61 = .ok (.iconst 2, 1) := by decide +kernel
theorem dX6_cost_62 : decode cX6_cost 62 = .ok (.iload 4, 2) := by decide +kernel
theorem dX6_cost_64 : decode cX6_cost 64 = .ok (.iadd, 1) := by decide +kernel
theorem dX6_cost_65 : decode cX6_cost 65 = .ok (.invokevirtual 202, 3) := by decide +kernel
theorem dX6_cost_68 : decode cX6_cost 68 = .ok (.istore 5, 2) := by decide +kernel
theorem dX6_cost_70 : decode cX6_cost 70 = .ok (.iload_n 3, 1) := by decide +kernel
theorem dX6_cost_71 : decode cX6_cost 71 = .ok (.ifCond .eq 13, 3) := by decide +kernel
theorem dX6_cost_74 : decode cX6_cost 74 = .ok (.aload_n 0, 1) := by decide +kernel
theorem dX6_cost_75 : decode cX6_cost 75 = .ok (.iload_n 1, 1) := by decide +kernel
theorem dX6_cost_76 : decode cX6_cost 76 = .ok (.iload_n 2, 1) := by decide +kernel
theorem dX6_cost_77 : decode cX6_cost 77 = .ok (.iconst 0, 1) := by decide +kernel
theorem dX6_cost_78 : decode cX6_cost 78 = .ok (.invokevirtual 116, 3) := by decide +kernel
theorem dX6_cost_81 : decode cX6_cost 81 = .ok (.goto 9, 3) := by decide +kernel
theorem dX6_cost_84 : decode cX6_cost 84 = .ok (.aload_n 0, 1) := by decide +kernel
theorem dX6_cost_85 : decode cX6_cost 85 = .ok (.iload_n 1, 1) := by decide +kernel
theorem dX6_cost_86 : decode cX6_cost 86 = .ok (.iload_n 2, 1) := by decide +kernel
theorem dX6_cost_87 : decode cX6_cost 87 = .ok (.invokevirtual 113, 3) := by decide +kernel
theorem dX6_cost_90 : decode cX6_cost 90 = .ok (.istore 6, 2) := by decide +kernel
theorem dX6_cost_92 : decode cX6_cost 92 = .ok (.iload 4, 2) := by decide +kernel
theorem dX6_cost_94 : decode cX6_cost 94 = .ok (.iconst 2, 1) := by decide +kernel
theorem dX6_cost_95 : decode cX6_cost 95 = .ok (.if_icmp .ne 14, 3) := by decide +kernel
theorem dX6_cost_98 : decode cX6_cost 98 = .ok (.aload_n 0, 1) := by decide +kernel
theorem dX6_cost_99 : decode cX6_cost 99 = .ok (.getfield 7, 3) := by decide +kernel
theorem dX6_cost_102 : decode cX6_cost 102 = .ok (.sipush 538, 3) := by decide +kernel
theorem dX6_cost_105 : decode cX6_cost 105 = .ok (.iaload, 1) := by decide +kernel
theorem dX6_cost_106 : decode cX6_cost 106 = .ok (.goto 21, 3) := by decide +kernel
theorem dX6_cost_109 : decode cX6_cost 109 = .ok (.aload_n 0, 1) := by decide +kernel
theorem dX6_cost_110 : decode cX6_cost 110 = .ok (.iload 4, 2) := by decide +kernel
theorem dX6_cost_112 : decode cX6_cost 112 = .ok (.iconst 3, 1) := by decide +kernel
theorem dX6_cost_113 : decode cX6_cost 113 = .ok (.if_icmp .ne 7, 3) := by decide +kernel
theorem dX6_cost_116 : decode cX6_cost 116 = .ok (.iconst 5, 1) := by decide +kernel
theorem dX6_cost_117 : decode cX6_cost 117 = .ok (.goto 7, 3) := by decide +kernel
theorem dX6_cost_120 : decode cX6_cost 120 = .ok (.iconst 2, 1) := by decide +kernel
theorem dX6_cost_121 : decode cX6_cost 121 = .ok (.iload 4, 2) := by decide +kernel
theorem dX6_cost_123 : decode cX6_cost 123 = .ok (.iadd, 1) := by decide +kernel
theorem dX6_cost_124 : decode cX6_cost 124 = .ok (.invokevirtual 202, 3) := by decide +kernel
theorem dX6_cost_127 : decode cX6_cost 127 = .ok (.istore 7, 2) := by decide +kernel
theorem dX6_cost_129 : decode cX6_cost 129 = .ok (.aload_n 0, 1) := by decide +kernel
theorem dX6_cost_130 : decode cX6_cost 130 = .ok (.invokevirtual 179, 3) := by decide +kernel
theorem dX6_cost_133 : decode cX6_cost 133 = .ok (.iload 7, 2) := by decide +kernel
theorem dX6_cost_135 : decode cX6_cost 135 = .ok (.iload 5, 2) := by decide +kernel
theorem dX6_cost_137 : decode cX6_cost 137 = .ok (.isub, 1) := by decide +kernel
theorem dX6_cost_138 : decode cX6_cost 138 = .ok (.ireturn, 1) := by decide +kernel
set_option maxRecDepth 20000 in
theorem ggX6_vain_X6_isCore : GoodIn wsX6_vain wsX6_isCore := goodIn_r _ [4, 5, 6, 3, 7] (by decide +kernel) (by decide +kernel)
set_option maxRecDepth 20000 in
theorem gX6_vain_X6_isCore : GoodIn wsX6_vain (va_wsS RX6 103 yX6_isCore wsX6_isCore) := goodIn_app (goodIn_of _ (by decide +kernel)) ggX6_vain_X6_isCore
set_option maxRecDepth 20000 in
theorem ggX6_vain_X6_mayHave : GoodIn wsX6_vain wsX6_mayHave := goodIn_r _ [11, 12, 13, 14, 15, 3, 16, 17, 18, 19, 20, 21, 22, 23, 31, 32, 33, 34, 35, 36, 37, 38, 39, 40, 41, 42, 43, 44, 45, 46, 47, 48] (by decide +kernel) (by decide +kernel)
set_option maxRecDepth 20000 in
theorem gX6_vain_X6_mayHave : GoodIn wsX6_vain (wsV RX6 78 RX6 yX6_mayHave wsX6_mayHave) := goodIn_app (goodIn_of _ (by decide +kernel)) ggX6_vain_X6_mayHave
set_option maxRecDepth 20000 in
theorem ggX6_vain_X6_holds : GoodIn wsX6_vain wsX6_holds := goodIn_r _ [27, 12, 28, 29, 3, 30, 31, 32, 33, 34, 35, 36, 37, 38, 39, 40, 41, 42, 43, 44, 45, 46, 47, 48] (by decide +kernel) (by decide +kernel)
set_option maxRecDepth 20000 in
theorem gX6_vain_X6_holds : GoodIn wsX6_vain (wsV RX6 81 RX6 yX6_holds wsX6_holds) := goodIn_app (goodIn_of _ (by decide +kernel)) ggX6_vain_X6_holds
theorem dX6_vain_0 : decode cX6_vain 0 = .ok (.iload_n 1, 1) := by decide +kernel
theorem dX6_vain_1 : decode cX6_vain 1 = .ok (.invokestatic 103, 3) := by decide +kernel
theorem dX6_vain_4 : decode cX6_vain 4 = .ok (.ifCond .ne 5, 3) := by decide +kernel
theorem dX6_vain_7 : decode cX6_vain 7 = .ok (.iconst (-1), 1) := by decide +kernel
theorem dX6_vain_8 : decode cX6_vain 8 = .ok (.ireturn, 1) := by decide +kernel
theorem dX6_vain_9 : decode cX6_vain 9 = .ok (.iconst 0, 1) := by decide +kernel
theorem dX6_vain_10 : decode cX6_vain 10 = .ok (.istore_n 2, 1) := by decide +kernel
theorem dX6_vain_11 : decode cX6_vain 11 = .ok (.iconst 0, 1) := by decide +kernel
theorem dX6_vain_12 : decode cX6_vain 12 = .ok (.istore_n 3, 1) := by decide +kernel
theorem dX6_vain_13 : decode cX6_vain 13 = .ok (.iload_n 3, 1) := by decide +kernel
theorem dX6_vain_14 : decode cX6_vain 14 = .ok (.sipush 256, 3) := by decide +kernel
theorem dX6_vain_17 : decode cX6_vain 17 = .ok (.if_icmp .ge 35, 3) := by decide +kernel
theorem dX6_vain_20 : decode cX6_vain 20 = .ok (.iload_n 2, 1) := by decide +kernel
theorem dX6_vain_21 : decode cX6_vain 21 = .ok (.aload_n 0, 1) := by decide +kernel
theorem dX6_vain_22 : decode cX6_vain 22 = .ok (.iload_n 1, 1) := by decide +kernel
theorem dX6_vain_23 : decode cX6_vain 23 = .ok (.iload_n 3, 1) := by decide +kernel
theorem dX6_vain_24 : decode cX6_vain 24 = .ok (.invokevirtual 78, 3) := by decide +kernel
theorem dX6_vain_27 : decode cX6_vain 27 = .ok (.ifCond .eq 16, 3) := by decide +kernel
theorem dX6_vain_30 : decode cX6_vain 30 = .ok (.aload_n 0, 1) := by decide +kernel
theorem dX6_vain_31 : decode cX6_vain 31 = .ok (.iload_n 1, 1) := by decide +kernel
theorem dX6_vain_32 : decode cX6_vain 32 = .ok (.iload_n 3, 1) := by decide +kernel
theorem dX6_vain_33 : decode cX6_vain 33 = .ok (.invokevirtual 81, 3) := by decide +kernel
theorem dX6_vain_36 : decode cX6_vain 36 = .ok (.ifCond .ne 7, 3) := by decide +kernel
theorem dX6_vain_39 : decode cX6_vain 39 = .ok (.iconst 1, 1) := by decide +kernel
theorem dX6_vain_40 : decode cX6_vain 40 = .ok (.goto 4, 3) := by decide +kernel
theorem dX6_vain_43 : decode cX6_vain 43 = .ok (.iconst 0, 1) := by decide +kernel
theorem dX6_vain_44 : decode cX6_vain 44 = .ok (.iadd, 1) := by decide +kernel
theorem dX6_vain_45 : decode cX6_vain 45 = .ok (.istore_n 2, 1) := by decide +kernel
theorem dX6_vain_46 : decode cX6_vain 46 = .ok (.iinc 3 1, 3) := by decide +kernel
theorem dX6_vain_49 : decode cX6_vain 49 = .ok (.goto (-36), 3) := by decide +kernel
theorem dX6_vain_52 : decode cX6_vain 52 = .ok (.iload_n 2, 1) := by decide +kernel
theorem dX6_vain_53 : decode cX6_vain 53 = .ok (.ireturn, 1) := by decide +kernel
set_option maxRecDepth 20000 in
theorem ggX6_worst_X6_told : GoodIn wsX6_worst wsX6_told := goodIn_r _ [5] (by decide +kernel) (by decide +kernel)
set_option maxRecDepth 20000 in
theorem gX6_worst_X6_told : GoodIn wsX6_worst (va_wsS RX6 66 yX6_told wsX6_told) := goodIn_app (goodIn_of _ (by decide +kernel)) ggX6_worst_X6_told
theorem dX6_worst_0 : decode cX6_worst 0 = .ok (.bipush (-5), 2) := by decide +kernel
theorem dX6_worst_2 : decode cX6_worst 2 = .ok (.istore_n 1, 1) := by decide +kernel
theorem dX6_worst_3 : decode cX6_worst 3 = .ok (.iconst 0, 1) := by decide +kernel
theorem dX6_worst_4 : decode cX6_worst 4 = .ok (.istore_n 2, 1) := by decide +kernel
theorem dX6_worst_5 : decode cX6_worst 5 = .ok (.iconst 0, 1) := by decide +kernel
theorem dX6_worst_6 : decode cX6_worst 6 = .ok (.istore_n 3, 1) := by decide +kernel
theorem dX6_worst_7 : decode cX6_worst 7 = .ok (.iload_n 3, 1) := by decide +kernel
theorem dX6_worst_8 : decode cX6_worst 8 = .ok (.iconst 4, 1) := by decide +kernel
theorem dX6_worst_9 : decode cX6_worst 9 = .ok (.if_icmp .ge 46, 3) := by decide +kernel
theorem dX6_worst_12 : decode cX6_worst 12 = .ok (.aload_n 0, 1) := by decide +kernel
theorem dX6_worst_13 : decode cX6_worst 13 = .ok (.getfield 7, 3) := by decide +kernel
theorem dX6_worst_16 : decode cX6_worst 16 = .ok (.iload_n 3, 1) := by decide +kernel
theorem dX6_worst_17 : decode cX6_worst 17 = .ok (.iconst 3, 1) := by decide +kernel
theorem dX6_worst_18 : decode cX6_worst 18 = .ok (.invokestatic 66, 3) := by decide +kernel
theorem dX6_worst_21 : decode cX6_worst 21 = .ok (.iaload, 1) := by decide +kernel
theorem dX6_worst_22 : decode cX6_worst 22 = .ok (.istore 4, 2) := by decide +kernel
theorem dX6_worst_24 : decode cX6_worst 24 = .ok (.iload 4, 2) := by decide +kernel
theorem dX6_worst_26 : decode cX6_worst 26 = .ok (.iload_n 2, 1) := by decide +kernel
theorem dX6_worst_27 : decode cX6_worst 27 = .ok (.if_icmp .le 7, 3) := by decide +kernel
theorem dX6_worst_30 : decode cX6_worst 30 = .ok (.iload_n 3, 1) := by decide +kernel
theorem dX6_worst_31 : decode cX6_worst 31 = .ok (.goto 4, 3) := by decide +kernel
theorem dX6_worst_34 : decode cX6_worst 34 = .ok (.iload_n 1, 1) := by decide +kernel
theorem dX6_worst_35 : decode cX6_worst 35 = .ok (.istore_n 1, 1) := by decide +kernel
theorem dX6_worst_36 : decode cX6_worst 36 = .ok (.iload 4, 2) := by decide +kernel
theorem dX6_worst_38 : decode cX6_worst 38 = .ok (.iload_n 2, 1) := by decide +kernel
theorem dX6_worst_39 : decode cX6_worst 39 = .ok (.if_icmp .le 8, 3) := by decide +kernel
theorem dX6_worst_42 : decode cX6_worst 42 = .ok (.iload 4, 2) := by decide +kernel
theorem dX6_worst_44 : decode cX6_worst 44 = .ok (.goto 4, 3) := by decide +kernel
theorem dX6_worst_47 : decode cX6_worst 47 = .ok (.iload_n 2, 1) := by decide +kernel
theorem dX6_worst_48 : decode cX6_worst 48 = .ok (.istore_n 2, 1) := by decide +kernel
theorem dX6_worst_49 : decode cX6_worst 49 = .ok (.iinc 3 1, 3) := by decide +kernel
theorem dX6_worst_52 : decode cX6_worst 52 = .ok (.goto (-45), 3) := by decide +kernel
theorem dX6_worst_55 : decode cX6_worst 55 = .ok (.iload_n 1, 1) := by decide +kernel
theorem dX6_worst_56 : decode cX6_worst 56 = .ok (.ireturn, 1) := by decide +kernel
set_option maxRecDepth 20000 in
theorem ggX6_count_X6_lines : GoodIn wsX6_count wsX6_lines := goodIn_r _ [8, 9, 10, 11, 7, 12, 1, 24, 25, 26, 27, 28, 29, 30, 31, 32, 33, 34, 35, 36, 37, 38, 39, 40, 41] (by decide +kernel) (by decide +kernel)
set_option maxRecDepth 20000 in
theorem gX6_count_X6_lines : GoodIn wsX6_count (wsV RX6 185 RX6 yX6_lines wsX6_lines) := goodIn_app (goodIn_of _ (by decide +kernel)) ggX6_count_X6_lines
set_option maxRecDepth 20000 in
theorem ggX6_count_X6_dirtyOf : GoodIn wsX6_count wsX6_dirtyOf := goodIn_r _ [16, 1, 24, 25, 26, 27, 28, 29, 30, 31, 32, 33, 34, 35, 36, 37, 38, 39, 40, 41] (by decide +kernel) (by decide +kernel)
set_option maxRecDepth 20000 in
theorem gX6_count_X6_dirtyOf : GoodIn wsX6_count (wsV RX6 189 RX6 yX6_dirtyOf wsX6_dirtyOf) := goodIn_app (goodIn_of _ (by decide +kernel)) ggX6_count_X6_dirtyOf
set_option maxRecDepth 20000 in
theorem ggX6_count_X6_sumOf : GoodIn wsX6_count wsX6_sumOf := goodIn_r _ [20, 1, 21, 22, 7, 23, 24, 25, 26, 27, 28, 29, 30, 31, 32, 33, 34, 35, 36, 37, 38, 39, 40, 41] (by decide +kernel) (by decide +kernel)
set_option maxRecDepth 20000 in
theorem gX6_count_X6_sumOf : GoodIn wsX6_count (wsV RX6 202 RX6 yX6_sumOf wsX6_sumOf) := goodIn_app (goodIn_of _ (by decide +kernel)) ggX6_count_X6_sumOf
theorem dX6_count_0 : decode cX6_count 0 = .ok (.iload_n 1, 1) := by decide +kernel
theorem dX6_count_1 : decode cX6_count 1 = .ok (.tableswitch 163 0 13 #[71, 76, 100, 100, 100, 106, 115, 121, 121, 130, 139, 139, 153, 158], 71) := by decide +kernel
theorem dX6_count_72 : decode cX6_count 72 = .ok (.aload_n 0, 1) := by decide +kernel
theorem dX6_count_73 : decode cX6_count 73 = .ok (.invokevirtual 185, 3) := by decide +kernel
theorem dX6_count_76 : decode cX6_count 76 = .ok (.ireturn, 1) := by decide +kernel
theorem dX6_count_77 : decode cX6_count 77 = .ok (.aload_n 0, 1) := by decide +kernel
theorem dX6_count_78 : decode cX6_count 78 = .ok (.iconst 0, 1) := by decide +kernel
theorem dX6_count_79 : decode cX6_count 79 = .ok (.invokevirtual 189, 3) := by decide +kernel
theorem dX6_count_82 : decode cX6_count 82 = .ok (.aload_n 0, 1) := by decide +kernel
theorem dX6_count_83 : decode cX6_count 83 = .ok (.iconst 1, 1) := by decide +kernel
theorem dX6_count_84 : decode cX6_count 84 = .ok (.invokevirtual 189, 3) := by decide +kernel
theorem dX6_count_87 : decode cX6_count 87 = .ok (.iadd, 1) := by decide +kernel
theorem dX6_count_88 : decode cX6_count 88 = .ok (.aload_n 0, 1) := by decide +kernel
theorem dX6_count_89 : decode cX6_count 89 = .ok (.iconst 2, 1) := by decide +kernel
theorem dX6_count_90 : decode cX6_count 90 = .ok (.invokevirtual 189, 3) := by decide +kernel
theorem dX6_count_93 : decode cX6_count 93 = .ok (.iadd, 1) := by decide +kernel
theorem dX6_count_94 : decode cX6_count 94 = .ok (.aload_n 0, 1) := by decide +kernel
theorem dX6_count_95 : decode cX6_count 95 = .ok (.iconst 3, 1) := by decide +kernel
theorem dX6_count_96 : decode cX6_count 96 = .ok (.invokevirtual 189, 3) := by decide +kernel
theorem dX6_count_99 : decode cX6_count 99 = .ok (.iadd, 1) := by decide +kernel
theorem dX6_count_100 : decode cX6_count 100 = .ok (.ireturn, 1) := by decide +kernel
theorem dX6_count_101 : decode cX6_count 101 = .ok (.aload_n 0, 1) := by decide +kernel
theorem dX6_count_102 : decode cX6_count 102 = .ok (.iload_n 1, 1) := by decide +kernel
theorem dX6_count_103 : decode cX6_count 103 = .ok (.invokevirtual 202, 3) := by decide +kernel
theorem dX6_count_106 : decode cX6_count 106 = .ok (.ireturn, 1) := by decide +kernel
theorem dX6_count_107 : decode cX6_count 107 = .ok (.aload_n 0, 1) := by decide +kernel
theorem dX6_count_108 : decode cX6_count 108 = .ok (.getfield 7, 3) := by decide +kernel
theorem dX6_count_111 : decode cX6_count 111 = .ok (.sipush 538, 3) := by decide +kernel
theorem dX6_count_114 : decode cX6_count 114 = .ok (.iaload, 1) := by decide +kernel
theorem dX6_count_115 : decode cX6_count 115 = .ok (.ireturn, 1) := by decide +kernel
theorem dX6_count_116 : decode cX6_count 116 = .ok (.aload_n 0, 1) := by decide +kernel
theorem dX6_count_117 : decode cX6_count 117 = .ok (.iconst 5, 1) := by decide +kernel
theorem dX6_count_118 : decode cX6_count 118 = .ok (.invokevirtual 202, 3) := by decide +kernel
theorem dX6_count_121 : decode cX6_count 121 = .ok (.ireturn, 1) := by decide +kernel
theorem dX6_count_122 : decode cX6_count 122 = .ok (.aload_n 0, 1) := by decide +kernel
theorem dX6_count_123 : decode cX6_count 123 = .ok (.iload_n 1, 1) := by decide +kernel
theorem dX6_count_124 : decode cX6_count 124 = .ok (.bipush 7, 2) := by decide +kernel
theorem dX6_count_126 : decode cX6_count 126 = .ok (.isub, 1) := by decide +kernel
theorem dX6_count_127 : decode cX6_count 127 = .ok (.invokevirtual 202, 3) := by decide +kernel
theorem dX6_count_130 : decode cX6_count 130 = .ok (.ireturn, 1) := by decide +kernel
theorem dX6_count_131 : decode cX6_count 131 = .ok (.aload_n 0, 1) := by decide +kernel
theorem dX6_count_132 : decode cX6_count 132 = .ok (.getfield 7, 3) := by decide +kernel
theorem dX6_count_135 : decode cX6_count 135 = .ok (.sipush 539, 3) := by decide +kernel
theorem dX6_count_138 : decode cX6_count 138 = .ok (.iaload, 1) := by decide +kernel
theorem dX6_count_139 : decode cX6_count 139 = .ok (.ireturn, 1) := by decide +kernel
theorem dX6_count_140 : decode cX6_count 140 = .ok (.aload_n 0, 1) := by decide +kernel
theorem dX6_count_141 : decode cX6_count 141 = .ok (.getfield 7, 3) := by decide +kernel
theorem dX6_count_144 : decode cX6_count 144 = .ok (.sipush 536, 3) := by decide +kernel
theorem dX6_count_147 : decode cX6_count 147 = .ok (.iload_n 1, 1) := by decide +kernel
theorem dX6_count_148 : decode cX6_count 148 = .ok (.iadd, 1) := by decide +kernel
theorem dX6_count_149 : decode cX6_count 149 = .ok (.bipush 10, 2) := by decide +kernel
theorem dX6_count_151 : decode cX6_count 151 = .ok (.isub, 1) := by decide +kernel
theorem dX6_count_152 : decode cX6_count 152 = .ok (.iaload, 1) := by decide +kernel
theorem dX6_count_153 : decode cX6_count 153 = .ok (.ireturn, 1) := by decide +kernel
theorem dX6_count_154 : decode cX6_count 154 = .ok (.aload_n 0, 1) := by decide +kernel
theorem dX6_count_155 : decode cX6_count 155 = .ok (.getfield 33, 3) := by decide +kernel
theorem dX6_count_158 : decode cX6_count 158 = .ok (.ireturn, 1) := by decide +kernel
theorem dX6_count_159 : decode cX6_count 159 = .ok (.aload_n 0, 1) := by decide +kernel
theorem dX6_count_160 : decode cX6_count 160 = .ok (.getfield 125, 3) := by decide +kernel
theorem dX6_count_163 : decode cX6_count 163 = .ok (.ireturn, 1) := by decide +kernel
theorem dX6_count_164 : decode cX6_count 164 = .ok (.bipush (-2), 2) := by decide +kernel
theorem dX6_count_166 : decode cX6_count 166 = .ok (.ireturn, 1) := by decide +kernel
end
section
section VD
variable {p : Program} {l : Launch} {e : Env} {R : Room} {s : State} {m : MethodId} {args : Array Value} {below : List Frame} {meth : Method} {c : Code} {E : ET} {nL : Nat} {A : Nat → Prop} {Q : State → Prop} {cc : ByteArray} {own : String} {Ts : List Cond} {ws ws' : va_W} {lv lv' : List Value} {pc : Nat} {st rest : List Value}
theorem li_take : ∀ (lv : List Value) (b n : Nat) (q : Nat × Value), q ∈ li b (lv.take n) → q ∈ li b lv
  | [], b, n, q, h => by simpa using h
  | v :: t, b, 0, q, h => by simp [li] at h
  | v :: t, b, n + 1, q, h => by
    simp only [List.take_succ_cons, li, List.mem_cons] at h ⊢
    rcases h with h | h
    · exact Or.inl h
    · exact Or.inr (li_take t (b + 1) n q h)
theorem v_fewer (n : Nat) (h : lv.take n = lv') (k : V p l e R s m args below meth c E nL A Q ws lv' pc st) : V p l e R s m args below meth c E nL A Q ws lv pc st :=
  fun H locs ls hP hD hS hl => k H locs ls hP hD hS ⟨hl.1, hl.2.1, fun q hq => hl.2.2 q (li_take lv 0 n q (by rw [h]; exact hq))⟩
theorem wEq_set {w : va_W} (q1 : Nat) (a : Nat) {ca : ClassId} {n : Nat} {f g : Nat → Int32} (h : ∀ j, j < n → f j = g j) : wEq (w.set q1 (a, .inl (ca, n, .inl f))) (w.set q1 (a, .inl (ca, n, .inl g))) := by
  unfold wEq
  rw [List.map_set, List.map_set]
  simp only [cell_congr h]
theorem v_copyAll (hX : Xc p s m args meth c E nL A cc own Ts) {index : Nat} (hlink : Cond.methodLink own index arraycopyName ∈ Ts) (hnat : Cond.native arraycopyName ∈ Ts) (hstat : Cond.static arraycopyName ∈ Ts) (hini : Cond.initialized "java/lang/System" ∈ Ts) (q0 q1 t0 : Nat) {a a0 : Nat} {ca : ClassId} {n : Nat} {f g : Nat → Int32} {ty : FieldType} (ha0 : ws[q0]? = some (a0, .inl (ca, n, .inl f))) (ha1 : ws[q1]? = some (a, .inl (ca, n, .inl g))) (ht : (tysE E)[t0]? = some (ca, ty)) (hprim : refKind ty = false)
    {x : Int32} (hx : x = nI n) (hn : n < 2 ^ 31) (hfit : ∀ i, fits ty (.int (f i)) = true)
    (hframes : 1 ≤ R.frames) (hlocals : (st.map fun v => v.category).sum + (nativeFrameWords "java/lang/System" "arraycopy" 5 + 11) ≤ R.locals) (hd : decode cc pc = .ok (.invokestatic index, 3))
    (hw : ws.set q1 (a, .inl (ca, n, .inl f)) = ws')
    (kk : V p l e R s m args below meth c E nL A Q ws' lv (pc + 3) st) : V p l e R s m args below meth c E nL A Q ws lv pc (.int x :: .int 0 :: .ref a :: .int 0 :: .ref a0 :: st) := by
  subst hx
  refine v_copy hX hlink hnat hstat hini q0 q1 t0 ha0 ha1 ht hprim (sp := 0) (dp := 0) (by decide) (by decide) (nI_pos hn) ?_ ?_ (fun i _ => hfit _) hframes hlocals hd rfl (v_weq ?_ kk)
  · rw [nI_clamp hn]; show 0 + n ≤ n; omega
  · rw [nI_clamp hn]; show 0 + n ≤ n; omega
  · rw [← hw]
    refine wEq_set q1 a (fun j hj => ?_)
    rw [nI_clamp hn]
    show va_cpy f g 0 0 n j = f j
    rw [pk_cpy_in (Nat.zero_le j) (by omega)]
    simp
end VD
theorem isLtI {b : Bool} : (bI b = 1) ↔ b = true := by cases b <;> decide
def wZ (E : ET) (a : Nat → Nat) (v : Nat × (Nat → Bool)) : va_W := [(a 0, .inl (E.2 1, v.1, .inl (fun j => bI (v.2 j))))]
theorem wZ_fst (E : ET) (a : Nat → Nat) (v w : Nat × (Nat → Bool)) : (wZ E a v).map Prod.fst = (wZ E a w).map Prod.fst := rfl
end
section
section VE
variable {p : Program} {l : Launch} {e : Env} {R : Room} {s : State} {m : MethodId} {args : Array Value} {below : List Frame} {meth : Method} {c : Code} {E : ET} {nL : Nat} {A : Nat → Prop} {Q : State → Prop} {cc : ByteArray} {own : String} {Ts : List Cond} {ws ws' : va_W} {lv : List Value} {pc : Nat} {st rest : List Value}
variable {y : MethodName} {bytes : ByteArray} {maxL n index : Nat} {ret : Option FieldType} {wsy : List Cond} {rm : Room} {x1 x2 x1' : va_W} {As : List Value} {b : Nat} {C : String}
theorem perm2 (p1 x p2 y p3 : va_W) : (p1 ++ (x ++ (p2 ++ (y ++ p3)))).Perm ([] ++ ((x ++ y) ++ (p1 ++ (p2 ++ p3)))) := by
  refine (List.perm_append_comm_assoc p1 x _).trans ?_
  rw [List.nil_append, List.append_assoc]
  refine List.Perm.append_left x ?_
  refine (List.perm_append_comm_assoc p1 p2 _).trans ?_
  refine (List.Perm.append_left p2 (List.perm_append_comm_assoc p1 y p3)).trans ?_
  refine (List.perm_append_comm_assoc p2 y _).trans ?_
  exact List.Perm.append_left y (List.perm_append_comm_assoc p2 p1 p3)
theorem perm2s (p1 x p2 y p3 : va_W) : (p1 ++ (y ++ (p2 ++ (x ++ p3)))).Perm ([] ++ ((x ++ y) ++ (p1 ++ (p2 ++ p3)))) := by
  refine (perm2 p1 y p2 x p3).trans ?_
  rw [List.nil_append, List.nil_append]
  exact List.Perm.append_right _ List.perm_append_comm
/-- a call whose world is two parts of ours, the first of them changes -/
theorem v_callVv2 (hX : Xc p s m args meth c E nL A cc own Ts) (hM : ∀ sz, Met l y wsy rm (mPc E (.ref b :: As) sz (x1 ++ x2)) (mQv E (x1 ++ x2) (x1' ++ x2) sz) 0 0 (va_A (x1 ++ x2) sz)) (cw : CallW R s args own C index y bytes maxL ret wsy rm 0 0 n)
    (p1 p2 p3 : va_W) (hs : ws = p1 ++ (x1 ++ (p2 ++ (x2 ++ p3)))) (hs' : p1 ++ (x1' ++ (p2 ++ (x2 ++ p3))) = ws') (ha : x1'.map Prod.fst = x1.map Prod.fst) {ci q0 : Nat} {k : vw_C} {fs : List Value} (hc : vwCl[ci]? = some k) (hkC : k.1 = C) (he : (x1 ++ x2)[q0]? = some (b, .inr (ci, fs)))
    (hn : As.length = n) (hst : st = As.reverse ++ .ref b :: rest) (hcat : (rest.map fun v => v.category).sum ≤ 8) (hd : decode cc pc = .ok (.invokevirtual index, 3)) (kk : V p l e R s m args below meth c E nL A Q ws' lv (pc + 3) rest) : V p l e R s m args below meth c E nL A Q ws lv pc st := by
  subst hs
  refine v_perm (perm2 p1 x1 p2 x2 p3) ?_
  refine v_callVv hX hM cw [] (p1 ++ (p2 ++ p3)) rfl rfl (by rw [List.map_append, List.map_append, ha]) hc hkC he hn hst hcat hd ?_
  refine v_perm (perm2 p1 x1' p2 x2 p3).symm ?_
  rw [hs']
  exact kk
theorem v_callVv2s (hX : Xc p s m args meth c E nL A cc own Ts) (hM : ∀ sz, Met l y wsy rm (mPc E (.ref b :: As) sz (x1 ++ x2)) (mQv E (x1 ++ x2) (x1' ++ x2) sz) 0 0 (va_A (x1 ++ x2) sz)) (cw : CallW R s args own C index y bytes maxL ret wsy rm 0 0 n)
    (p1 p2 p3 : va_W) (hs : ws = p1 ++ (x2 ++ (p2 ++ (x1 ++ p3)))) (hs' : p1 ++ (x2 ++ (p2 ++ (x1' ++ p3))) = ws') (ha : x1'.map Prod.fst = x1.map Prod.fst) {ci q0 : Nat} {k : vw_C} {fs : List Value} (hc : vwCl[ci]? = some k) (hkC : k.1 = C) (he : (x1 ++ x2)[q0]? = some (b, .inr (ci, fs)))
    (hn : As.length = n) (hst : st = As.reverse ++ .ref b :: rest) (hcat : (rest.map fun v => v.category).sum ≤ 8) (hd : decode cc pc = .ok (.invokevirtual index, 3)) (kk : V p l e R s m args below meth c E nL A Q ws' lv (pc + 3) rest) : V p l e R s m args below meth c E nL A Q ws lv pc st := by
  subst hs
  refine v_perm (perm2s p1 x1 p2 x2 p3) ?_
  refine v_callVv hX hM cw [] (p1 ++ (p2 ++ p3)) rfl rfl (by rw [List.map_append, List.map_append, ha]) hc hkC he hn hst hcat hd ?_
  refine v_perm (perm2s p1 x1' p2 x2 p3).symm ?_
  rw [hs']
  exact kk
end VE
end
section
/-! ===== what the methods do, in words: static ones, filters ===== -/
def cntF (t : Nat → Bool) : Nat → Int32 → Int32 := fun i x => if t i = true then x + 1 else x
def cntT (t : Nat → Bool) (n : Nat) : Int32 := it (cntF t) n 0
def S_within (x lo hi : Int32) : Bool := !decide (x < lo) && !decide (hi < x)
def F_raise (v : FV) (k : Nat) (lim : Int32) : FV := if v.2.1 k = true then v else if v.1 k < lim then F_setC v k (v.1 k + 1) else F_setS v k true
def F_lower (v : FV) (k : Nat) : FV := if v.2.1 k = true then v else if v.1 k ≤ 0 then v else F_setC v k (v.1 k - 1)
def F_add (v : FV) (n : Nat) (lim : Int32) : FV := F_raise (F_raise (F_setB v (n / 16) true) (n % 24) lim) ((7 * n + 5) % 24) lim
def F_remove (v : FV) (n : Nat) : FV := F_lower (F_lower v (n % 24)) ((7 * n + 5) % 24)
def F_may (v : FV) (n : Nat) : Bool := v.2.2 (n / 16) && (!decide (v.1 (n % 24) ≤ 0) && !decide (v.1 ((7 * n + 5) % 24) ≤ 0))
def F_aboveF (v : FV) : Nat → Int32 → Int32 := fun i x => if v.1 i ≤ 0 then x else x + 1
def F_above (v : FV) : Int32 := it (F_aboveF v) 24 0
def F_w1 : Nat → FV → FV := fun i u => F_setS (F_setC u i 0) i false
def F_w2 : Nat → FV → FV := fun i u => F_setB u i false
def F_wipe (v : FV) : FV := it F_w2 16 (it F_w1 24 v)
set_option maxHeartbeats 4000000 in
set_option maxRecDepth 100000 in
theorem c_X1_firstCounter (l : Launch) (E : ET) (sz : Nat) (n : Nat) (hn : n < 256) : Met l yX1_firstCounter wsX1_firstCounter ({ frames := 0, cells := 0, slots := 0, locals := 0 }) (mPc E [.int (nI (n))] sz ([])) (mQi E (nI (n % 24)) ([]) ([]) sz) 0 0 (va_A ([]) sz) := by
  refine v_start (cc := cX1_firstCounter) (maxL := 1) (ret := (some .int)) (by decide) rfl (Nat.le_of_ble_eq_true rfl) rfl ?_
  intro p e s m args below meth c hsz hr hX
  have hX : Xc p s m args meth c E 1 (va_A ([]) sz) cX1_firstCounter RX1 wsX1_firstCounter := hX
  refine v_iload_n hX dX1_firstCounter_0 rfl ?_
  refine v_bipush (x := (24 : Int32)) hX dX1_firstCounter_1 (by decide) ?_
  refine v_irem (z := nI ((n) % 24)) hX dX1_firstCounter_3 (by decide) (rem_c (n) 24 (by omega) (by decide) (by decide)) ?_
  exact v_iret hX hr hsz dX1_firstCounter_4 rfl rfl (by (first | rfl | (simp only [if_true, if_false, reduceIte, Bool.false_eq_true, reduceCtorEq, decide_true, decide_false, Bool.and_true, Bool.and_false, Bool.true_and, Bool.false_and, not_true_eq_false, not_false_eq_true, Bool.not_true, Bool.not_false, eq_self]; done) | (simp only [if_true, if_false, reduceIte, Bool.false_eq_true, reduceCtorEq, decide_true, decide_false, Bool.and_true, Bool.and_false, Bool.true_and, Bool.false_and, not_true_eq_false, not_false_eq_true, Bool.not_true, Bool.not_false, eq_self]; rfl))) rfl
set_option maxHeartbeats 4000000 in
set_option maxRecDepth 100000 in
theorem c_X1_secondCounter (l : Launch) (E : ET) (sz : Nat) (n : Nat) (hn : n < 256) : Met l yX1_secondCounter wsX1_secondCounter ({ frames := 0, cells := 0, slots := 0, locals := 0 }) (mPc E [.int (nI (n))] sz ([])) (mQi E (nI ((7 * n + 5) % 24)) ([]) ([]) sz) 0 0 (va_A ([]) sz) := by
  refine v_start (cc := cX1_secondCounter) (maxL := 1) (ret := (some .int)) (by decide) rfl (Nat.le_of_ble_eq_true rfl) rfl ?_
  intro p e s m args below meth c hsz hr hX
  have hX : Xc p s m args meth c E 1 (va_A ([]) sz) cX1_secondCounter RX1 wsX1_secondCounter := hX
  refine v_bipush (x := (7 : Int32)) hX dX1_secondCounter_0 (by decide) ?_
  refine v_iload_n hX dX1_secondCounter_2 rfl ?_
  refine v_imul (z := nI (7 * n)) hX dX1_secondCounter_3 (pk_mul 7 n) ?_
  refine v_iconst (x := (5 : Int32)) hX dX1_secondCounter_4 (by decide) ?_
  refine v_iadd (z := nI (7 * n + 5)) hX dX1_secondCounter_5 (nI_add (7 * n) 5) ?_
  refine v_bipush (x := (24 : Int32)) hX dX1_secondCounter_6 (by decide) ?_
  refine v_irem (z := nI ((7 * n + 5) % 24)) hX dX1_secondCounter_8 (by decide) (rem_c (7 * n + 5) 24 (by omega) (by decide) (by decide)) ?_
  exact v_iret hX hr hsz dX1_secondCounter_9 rfl rfl rfl rfl
set_option maxHeartbeats 4000000 in
set_option maxRecDepth 100000 in
theorem c_X0_placeOf (l : Launch) (E : ET) (sz : Nat) (n : Nat) (hn : n < 256) : Met l yX0_placeOf wsX0_placeOf ({ frames := 0, cells := 0, slots := 0, locals := 0 }) (mPc E [.int (nI (n))] sz ([])) (mQi E (nI (n % 8)) ([]) ([]) sz) 0 0 (va_A ([]) sz) := by
  refine v_start (cc := cX0_placeOf) (maxL := 1) (ret := (some .int)) (by decide) rfl (Nat.le_of_ble_eq_true rfl) rfl ?_
  intro p e s m args below meth c hsz hr hX
  have hX : Xc p s m args meth c E 1 (va_A ([]) sz) cX0_placeOf RX0 wsX0_placeOf := hX
  refine v_iload_n hX dX0_placeOf_0 rfl ?_
  refine v_bipush (x := (8 : Int32)) hX dX0_placeOf_1 (by decide) ?_
  refine v_irem (z := nI ((n) % 8)) hX dX0_placeOf_3 (by decide) (rem_c (n) 8 (by omega) (by decide) (by decide)) ?_
  exact v_iret hX hr hsz dX0_placeOf_4 rfl rfl (by (first | rfl | (simp only [if_true, if_false, reduceIte, Bool.false_eq_true, reduceCtorEq, decide_true, decide_false, Bool.and_true, Bool.and_false, Bool.true_and, Bool.false_and, not_true_eq_false, not_false_eq_true, Bool.not_true, Bool.not_false, eq_self]; done) | (simp only [if_true, if_false, reduceIte, Bool.false_eq_true, reduceCtorEq, decide_true, decide_false, Bool.and_true, Bool.and_false, Bool.true_and, Bool.false_and, not_true_eq_false, not_false_eq_true, Bool.not_true, Bool.not_false, eq_self]; rfl))) rfl
set_option maxHeartbeats 4000000 in
set_option maxRecDepth 100000 in
theorem c_X5_isWithin (l : Launch) (E : ET) (sz : Nat) (x : Int32) (lo : Int32) (hi : Int32) : Met l yX5_isWithin wsX5_isWithin ({ frames := 0, cells := 0, slots := 0, locals := 0 }) (mPc E [.int (x), .int (lo), .int (hi)] sz ([])) (mQi E (bI (S_within x lo hi)) ([]) ([]) sz) 0 0 (va_A ([]) sz) := by
  refine v_start (cc := cX5_isWithin) (maxL := 3) (ret := (some .boolean)) (by decide) rfl (Nat.le_of_ble_eq_true rfl) rfl ?_
  intro p e s m args below meth c hsz hr hX
  have hX : Xc p s m args meth c E 3 (va_A ([]) sz) cX5_isWithin RX5 wsX5_isWithin := hX
  refine v_iload_n hX dX5_isWithin_0 rfl ?_
  refine v_iload_n hX dX5_isWithin_1 rfl ?_
  refine v_icmp_lt (tgt := 14) hX dX5_isWithin_2 (by decide) (fun c1 => ?_) (fun c1 => ?_)
  · refine v_iconst (x := (0 : Int32)) hX dX5_isWithin_14 (by decide) ?_
    exact v_zret hX hr hsz dX5_isWithin_15 rfl rfl (bI_narrow (false)) (congrArg bI (by (first | rfl | (simp only [S_within, c1, if_true, if_false, reduceIte, Bool.false_eq_true, reduceCtorEq, decide_true, decide_false, Bool.and_true, Bool.and_false, Bool.true_and, Bool.false_and, not_true_eq_false, not_false_eq_true, Bool.not_true, Bool.not_false, eq_self]; done) | (simp only [S_within, c1, if_true, if_false, reduceIte, Bool.false_eq_true, reduceCtorEq, decide_true, decide_false, Bool.and_true, Bool.and_false, Bool.true_and, Bool.false_and, not_true_eq_false, not_false_eq_true, Bool.not_true, Bool.not_false, eq_self]; rfl)) : false = S_within x lo hi)) rfl
  · refine v_iload_n hX dX5_isWithin_5 rfl ?_
    refine v_iload_n hX dX5_isWithin_6 rfl ?_
    refine v_icmp_gt (tgt := 14) hX dX5_isWithin_7 (by decide) (fun c2 => ?_) (fun c2 => ?_)
    · refine v_iconst (x := (0 : Int32)) hX dX5_isWithin_14 (by decide) ?_
      exact v_zret hX hr hsz dX5_isWithin_15 rfl rfl (bI_narrow (false)) (congrArg bI (by (first | rfl | (simp only [S_within, c1, c2, if_true, if_false, reduceIte, Bool.false_eq_true, reduceCtorEq, decide_true, decide_false, Bool.and_true, Bool.and_false, Bool.true_and, Bool.false_and, not_true_eq_false, not_false_eq_true, Bool.not_true, Bool.not_false, eq_self]; done) | (simp only [S_within, c1, c2, if_true, if_false, reduceIte, Bool.false_eq_true, reduceCtorEq, decide_true, decide_false, Bool.and_true, Bool.and_false, Bool.true_and, Bool.false_and, not_true_eq_false, not_false_eq_true, Bool.not_true, Bool.not_false, eq_self]; rfl)) : false = S_within x lo hi)) rfl
    · refine v_iconst (x := (1 : Int32)) hX dX5_isWithin_10 (by decide) ?_
      refine v_goto (tgt := 15) hX dX5_isWithin_11 (by decide) ?_
      exact v_zret hX hr hsz dX5_isWithin_15 rfl rfl (bI_narrow (true)) (congrArg bI (by (first | rfl | (simp only [S_within, c1, c2, if_true, if_false, reduceIte, Bool.false_eq_true, reduceCtorEq, decide_true, decide_false, Bool.and_true, Bool.and_false, Bool.true_and, Bool.false_and, not_true_eq_false, not_false_eq_true, Bool.not_true, Bool.not_false, eq_self]; done) | (simp only [S_within, c1, c2, if_true, if_false, reduceIte, Bool.false_eq_true, reduceCtorEq, decide_true, decide_false, Bool.and_true, Bool.and_false, Bool.true_and, Bool.false_and, not_true_eq_false, not_false_eq_true, Bool.not_true, Bool.not_false, eq_self]; rfl)) : true = S_within x lo hi)) rfl
set_option maxHeartbeats 4000000 in
set_option maxRecDepth 100000 in
theorem c_X5_isCore (l : Launch) (E : ET) (sz : Nat) (x : Int32) : Met l yX5_isCore wsX5_isCore ({ frames := 1, cells := 0, slots := 0, locals := 22 }) (mPc E [.int (x)] sz ([])) (mQi E (bI (S_within x (0 : Int32) (3 : Int32))) ([]) ([]) sz) 0 0 (va_A ([]) sz) := by
  refine v_start (cc := cX5_isCore) (maxL := 1) (ret := (some .boolean)) (by decide) rfl (Nat.le_of_ble_eq_true rfl) rfl ?_
  intro p e s m args below meth c hsz hr hX
  have hX : Xc p s m args meth c E 1 (va_A ([]) sz) cX5_isCore RX5 wsX5_isCore := hX
  refine v_iload_n hX dX5_isCore_0 rfl ?_
  refine v_iconst (x := (0 : Int32)) hX dX5_isCore_1 (by decide) ?_
  refine v_iconst (x := (3 : Int32)) hX dX5_isCore_2 (by decide) ?_
  refine v_callSi (r := bI (S_within x (0 : Int32) (3 : Int32))) (rest := []) (ws' := []) hX (fun sz => c_X5_isWithin l E sz x (0 : Int32) (3 : Int32)) (va_cwS 3 hX.2.2.2.2.1 gX5_isCore_X5_isWithin rfl rfl rfl (by decide +kernel) ⟨Nat.le_of_ble_eq_true rfl, Nat.le_of_ble_eq_true rfl⟩) ([]) ([]) (rfl) rfl (rfl) rfl rfl (Nat.le_of_ble_eq_true rfl) dX5_isCore_3 ?_
  exact v_zret hX hr hsz dX5_isCore_6 rfl rfl (bI_narrow (S_within x (0 : Int32) (3 : Int32))) rfl rfl
set_option maxHeartbeats 4000000 in
set_option maxRecDepth 100000 in
theorem c_X5_isLine (l : Launch) (E : ET) (sz : Nat) (x : Int32) : Met l yX5_isLine wsX5_isLine ({ frames := 1, cells := 0, slots := 0, locals := 22 }) (mPc E [.int (x)] sz ([])) (mQi E (bI (S_within x (0 : Int32) (255 : Int32))) ([]) ([]) sz) 0 0 (va_A ([]) sz) := by
  refine v_start (cc := cX5_isLine) (maxL := 1) (ret := (some .boolean)) (by decide) rfl (Nat.le_of_ble_eq_true rfl) rfl ?_
  intro p e s m args below meth c hsz hr hX
  have hX : Xc p s m args meth c E 1 (va_A ([]) sz) cX5_isLine RX5 wsX5_isLine := hX
  refine v_iload_n hX dX5_isLine_0 rfl ?_
  refine v_iconst (x := (0 : Int32)) hX dX5_isLine_1 (by decide) ?_
  refine v_sipush (x := (255 : Int32)) hX dX5_isLine_2 (by decide) ?_
  refine v_callSi (r := bI (S_within x (0 : Int32) (255 : Int32))) (rest := []) (ws' := []) hX (fun sz => c_X5_isWithin l E sz x (0 : Int32) (255 : Int32)) (va_cwS 3 hX.2.2.2.2.1 gX5_isLine_X5_isWithin rfl rfl rfl (by decide +kernel) ⟨Nat.le_of_ble_eq_true rfl, Nat.le_of_ble_eq_true rfl⟩) ([]) ([]) (rfl) rfl (rfl) rfl rfl (Nat.le_of_ble_eq_true rfl) dX5_isLine_5 ?_
  exact v_zret hX hr hsz dX5_isLine_8 rfl rfl (bI_narrow (S_within x (0 : Int32) (255 : Int32))) rfl rfl
set_option maxHeartbeats 4000000 in
set_option maxRecDepth 100000 in
theorem c_X1_raise (l : Launch) (E : ET) (a : Nat → Nat) (sz : Nat) (v : FV) (k : Nat) (hk : k < 24) (lim : Int32) : Met l yX1_raise wsX1_raise ({ frames := 0, cells := 0, slots := 0, locals := 0 }) (mPc E [.ref (a 0), .int (nI (k)), .int (lim)] sz (wF E a v)) (mQv E (wF E a v) (wF E a (F_raise v k lim)) sz) 0 0 (va_A (wF E a v) sz) := by
  refine v_start (cc := cX1_raise) (maxL := 3) (ret := none) (by decide) rfl (Nat.le_of_ble_eq_true rfl) rfl ?_
  intro p e s m args below meth c hsz hr hX
  have hX : Xc p s m args meth c E 3 (va_A (wF E a v) sz) cX1_raise RX1 wsX1_raise := hX
  have in_X1 : ∀ w ∈ u_ws RX1 TX1 3, w ∈ wsX1_raise := by decide +kernel
  have fl_15 : Cond.fieldLink RX1 15 RX1 "stuck" "[Z" ∈ wsX1_raise := by decide +kernel
  have fl_9 : Cond.fieldLink RX1 9 RX1 "counters" "[I" ∈ wsX1_raise := by decide +kernel
  refine v_aload_n hX dX1_raise_0 rfl ?_
  refine v_get (C := RX1) (T := TX1) (N := 3) (ci := 1) (v := .ref (a 2)) hX in_X1 0 rfl rfl 1 (by decide) fl_15 rfl rfl dX1_raise_1 ?_
  refine v_iload_n hX dX1_raise_4 rfl ?_
  refine v_zald (z := bI (v.2.1 (k))) hX 2 rfl (vp_in_nI (by omega : k < 24) (by omega)) (by simp only [nI_clamp (show k < 2 ^ 31 by omega)]) dX1_raise_5 ?_
  refine v_if_eq (tgt := 10) hX dX1_raise_6 (by decide) (fun c1 => ?_) (fun c1 => ?_)
  · replace c1 := bI_0.mp c1
    refine v_aload_n hX dX1_raise_10 rfl ?_
    refine v_get (C := RX1) (T := TX1) (N := 3) (ci := 1) (v := .ref (a 1)) hX in_X1 0 rfl rfl 0 (by decide) fl_9 rfl rfl dX1_raise_11 ?_
    refine v_iload_n hX dX1_raise_14 rfl ?_
    refine v_iald (z := v.1 (k)) hX 1 rfl (vp_in_nI (by omega : k < 24) (by omega)) (by simp only [nI_clamp (show k < 2 ^ 31 by omega)]) dX1_raise_15 ?_
    refine v_iload_n hX dX1_raise_16 rfl ?_
    refine v_icmp_lt (tgt := 30) hX dX1_raise_17 (by decide) (fun c2 => ?_) (fun c2 => ?_)
    · refine v_aload_n hX dX1_raise_30 rfl ?_
      refine v_get (C := RX1) (T := TX1) (N := 3) (ci := 1) (v := .ref (a 1)) hX in_X1 0 rfl rfl 0 (by decide) fl_9 rfl rfl dX1_raise_31 ?_
      refine v_iload_n hX dX1_raise_34 rfl ?_
      refine v_dup2 hX dX1_raise_35 rfl rfl ?_
      refine v_iald (z := v.1 (k)) hX 1 rfl (vp_in_nI (by omega : k < 24) (by omega)) (by simp only [nI_clamp (show k < 2 ^ 31 by omega)]) dX1_raise_36 ?_
      refine v_iconst (x := (1 : Int32)) hX dX1_raise_37 (by decide) ?_
      refine v_iadd (z := (v.1 (k) + (1 : Int32))) hX dX1_raise_38 (rfl) ?_
      obtain ⟨v3, hv3⟩ : ∃ z_ : FV, z_ = F_setC v (k) ((v.1 (k) + (1 : Int32))) := ⟨_, rfl⟩
      refine v_iast (ws' := wF E a v3) hX 1 rfl (vp_in_nI (by omega : k < 24) (by omega)) (by rw [hv3]; exact sF_C E a v (k := k) (by omega) _) dX1_raise_39 ?_
      exact v_vret hX hr hsz dX1_raise_40 rfl rfl (by (subst hv3; first | rfl | (simp only [F_raise, c1, c2, if_true, if_false, reduceIte, Bool.false_eq_true, reduceCtorEq, decide_true, decide_false, Bool.and_true, Bool.and_false, Bool.true_and, Bool.false_and, not_true_eq_false, not_false_eq_true, Bool.not_true, Bool.not_false, eq_self]; done) | (simp only [F_raise, c1, c2, if_true, if_false, reduceIte, Bool.false_eq_true, reduceCtorEq, decide_true, decide_false, Bool.and_true, Bool.and_false, Bool.true_and, Bool.false_and, not_true_eq_false, not_false_eq_true, Bool.not_true, Bool.not_false, eq_self]; rfl)))
    · refine v_aload_n hX dX1_raise_20 rfl ?_
      refine v_get (C := RX1) (T := TX1) (N := 3) (ci := 1) (v := .ref (a 2)) hX in_X1 0 rfl rfl 1 (by decide) fl_15 rfl rfl dX1_raise_21 ?_
      refine v_iload_n hX dX1_raise_24 rfl ?_
      refine v_iconst (x := (1 : Int32)) hX dX1_raise_25 (by decide) ?_
      obtain ⟨v4, hv4⟩ : ∃ z_ : FV, z_ = F_setS v (k) (true) := ⟨_, rfl⟩
      refine v_zast (ws' := wF E a v4) hX 2 rfl (vp_in_nI (by omega : k < 24) (by omega)) (by rw [hv4]; exact sF_S E a v (k := k) (by omega) (true)) dX1_raise_26 ?_
      refine v_goto (tgt := 40) hX dX1_raise_27 (by decide) ?_
      exact v_vret hX hr hsz dX1_raise_40 rfl rfl (by (subst hv4; first | rfl | (simp only [F_raise, c1, c2, if_true, if_false, reduceIte, Bool.false_eq_true, reduceCtorEq, decide_true, decide_false, Bool.and_true, Bool.and_false, Bool.true_and, Bool.false_and, not_true_eq_false, not_false_eq_true, Bool.not_true, Bool.not_false, eq_self]; done) | (simp only [F_raise, c1, c2, if_true, if_false, reduceIte, Bool.false_eq_true, reduceCtorEq, decide_true, decide_false, Bool.and_true, Bool.and_false, Bool.true_and, Bool.false_and, not_true_eq_false, not_false_eq_true, Bool.not_true, Bool.not_false, eq_self]; rfl)))
  · replace c1 := bI_n0.mp c1
    exact v_vret hX hr hsz dX1_raise_9 rfl rfl (by (first | rfl | (simp only [F_raise, c1, if_true, if_false, reduceIte, Bool.false_eq_true, reduceCtorEq, decide_true, decide_false, Bool.and_true, Bool.and_false, Bool.true_and, Bool.false_and, not_true_eq_false, not_false_eq_true, Bool.not_true, Bool.not_false, eq_self]; done) | (simp only [F_raise, c1, if_true, if_false, reduceIte, Bool.false_eq_true, reduceCtorEq, decide_true, decide_false, Bool.and_true, Bool.and_false, Bool.true_and, Bool.false_and, not_true_eq_false, not_false_eq_true, Bool.not_true, Bool.not_false, eq_self]; rfl)))
set_option maxHeartbeats 4000000 in
set_option maxRecDepth 100000 in
theorem c_X1_lower (l : Launch) (E : ET) (a : Nat → Nat) (sz : Nat) (v : FV) (k : Nat) (hk : k < 24) : Met l yX1_lower wsX1_lower ({ frames := 0, cells := 0, slots := 0, locals := 0 }) (mPc E [.ref (a 0), .int (nI (k))] sz (wF E a v)) (mQv E (wF E a v) (wF E a (F_lower v k)) sz) 0 0 (va_A (wF E a v) sz) := by
  refine v_start (cc := cX1_lower) (maxL := 2) (ret := none) (by decide) rfl (Nat.le_of_ble_eq_true rfl) rfl ?_
  intro p e s m args below meth c hsz hr hX
  have hX : Xc p s m args meth c E 2 (va_A (wF E a v) sz) cX1_lower RX1 wsX1_lower := hX
  have in_X1 : ∀ w ∈ u_ws RX1 TX1 3, w ∈ wsX1_lower := by decide +kernel
  have fl_15 : Cond.fieldLink RX1 15 RX1 "stuck" "[Z" ∈ wsX1_lower := by decide +kernel
  have fl_9 : Cond.fieldLink RX1 9 RX1 "counters" "[I" ∈ wsX1_lower := by decide +kernel
  refine v_aload_n hX dX1_lower_0 rfl ?_
  refine v_get (C := RX1) (T := TX1) (N := 3) (ci := 1) (v := .ref (a 2)) hX in_X1 0 rfl rfl 1 (by decide) fl_15 rfl rfl dX1_lower_1 ?_
  refine v_iload_n hX dX1_lower_4 rfl ?_
  refine v_zald (z := bI (v.2.1 (k))) hX 2 rfl (vp_in_nI (by omega : k < 24) (by omega)) (by simp only [nI_clamp (show k < 2 ^ 31 by omega)]) dX1_lower_5 ?_
  refine v_if_ne (tgt := 28) hX dX1_lower_6 (by decide) (fun c1 => ?_) (fun c1 => ?_)
  · replace c1 := bI_n0.mp c1
    exact v_vret hX hr hsz dX1_lower_28 rfl rfl (by (first | rfl | (simp only [F_lower, c1, if_true, if_false, reduceIte, Bool.false_eq_true, reduceCtorEq, decide_true, decide_false, Bool.and_true, Bool.and_false, Bool.true_and, Bool.false_and, not_true_eq_false, not_false_eq_true, Bool.not_true, Bool.not_false, eq_self]; done) | (simp only [F_lower, c1, if_true, if_false, reduceIte, Bool.false_eq_true, reduceCtorEq, decide_true, decide_false, Bool.and_true, Bool.and_false, Bool.true_and, Bool.false_and, not_true_eq_false, not_false_eq_true, Bool.not_true, Bool.not_false, eq_self]; rfl)))
  · replace c1 := bI_0.mp c1
    refine v_aload_n hX dX1_lower_9 rfl ?_
    refine v_get (C := RX1) (T := TX1) (N := 3) (ci := 1) (v := .ref (a 1)) hX in_X1 0 rfl rfl 0 (by decide) fl_9 rfl rfl dX1_lower_10 ?_
    refine v_iload_n hX dX1_lower_13 rfl ?_
    refine v_iald (z := v.1 (k)) hX 1 rfl (vp_in_nI (by omega : k < 24) (by omega)) (by simp only [nI_clamp (show k < 2 ^ 31 by omega)]) dX1_lower_14 ?_
    refine v_if_le (tgt := 28) hX dX1_lower_15 (by decide) (fun c2 => ?_) (fun c2 => ?_)
    · exact v_vret hX hr hsz dX1_lower_28 rfl rfl (by (first | rfl | (simp only [F_lower, c1, c2, if_true, if_false, reduceIte, Bool.false_eq_true, reduceCtorEq, decide_true, decide_false, Bool.and_true, Bool.and_false, Bool.true_and, Bool.false_and, not_true_eq_false, not_false_eq_true, Bool.not_true, Bool.not_false, eq_self]; done) | (simp only [F_lower, c1, c2, if_true, if_false, reduceIte, Bool.false_eq_true, reduceCtorEq, decide_true, decide_false, Bool.and_true, Bool.and_false, Bool.true_and, Bool.false_and, not_true_eq_false, not_false_eq_true, Bool.not_true, Bool.not_false, eq_self]; rfl)))
    · refine v_aload_n hX dX1_lower_18 rfl ?_
      refine v_get (C := RX1) (T := TX1) (N := 3) (ci := 1) (v := .ref (a 1)) hX in_X1 0 rfl rfl 0 (by decide) fl_9 rfl rfl dX1_lower_19 ?_
      refine v_iload_n hX dX1_lower_22 rfl ?_
      refine v_dup2 hX dX1_lower_23 rfl rfl ?_
      refine v_iald (z := v.1 (k)) hX 1 rfl (vp_in_nI (by omega : k < 24) (by omega)) (by simp only [nI_clamp (show k < 2 ^ 31 by omega)]) dX1_lower_24 ?_
      refine v_iconst (x := (1 : Int32)) hX dX1_lower_25 (by decide) ?_
      refine v_isub (z := (v.1 (k) - (1 : Int32))) hX dX1_lower_26 (rfl) ?_
      obtain ⟨v3, hv3⟩ : ∃ z_ : FV, z_ = F_setC v (k) ((v.1 (k) - (1 : Int32))) := ⟨_, rfl⟩
      refine v_iast (ws' := wF E a v3) hX 1 rfl (vp_in_nI (by omega : k < 24) (by omega)) (by rw [hv3]; exact sF_C E a v (k := k) (by omega) _) dX1_lower_27 ?_
      exact v_vret hX hr hsz dX1_lower_28 rfl rfl (by (subst hv3; first | rfl | (simp only [F_lower, c1, c2, if_true, if_false, reduceIte, Bool.false_eq_true, reduceCtorEq, decide_true, decide_false, Bool.and_true, Bool.and_false, Bool.true_and, Bool.false_and, not_true_eq_false, not_false_eq_true, Bool.not_true, Bool.not_false, eq_self]; done) | (simp only [F_lower, c1, c2, if_true, if_false, reduceIte, Bool.false_eq_true, reduceCtorEq, decide_true, decide_false, Bool.and_true, Bool.and_false, Bool.true_and, Bool.false_and, not_true_eq_false, not_false_eq_true, Bool.not_true, Bool.not_false, eq_self]; rfl)))
set_option maxHeartbeats 4000000 in
set_option maxRecDepth 100000 in
theorem c_X1_add (l : Launch) (E : ET) (a : Nat → Nat) (sz : Nat) (v : FV) (n : Nat) (hn : n < 256) (lim : Int32) : Met l yX1_add wsX1_add ({ frames := 1, cells := 0, slots := 0, locals := 22 }) (mPc E [.ref (a 0), .int (nI (n)), .int (lim)] sz (wF E a v)) (mQv E (wF E a v) (wF E a (F_add v n lim)) sz) 0 0 (va_A (wF E a v) sz) := by
  refine v_start (cc := cX1_add) (maxL := 3) (ret := none) (by decide) rfl (Nat.le_of_ble_eq_true rfl) rfl ?_
  intro p e s m args below meth c hsz hr hX
  have hX : Xc p s m args meth c E 3 (va_A (wF E a v) sz) cX1_add RX1 wsX1_add := hX
  have in_X1 : ∀ w ∈ u_ws RX1 TX1 3, w ∈ wsX1_add := by decide +kernel
  have fl_19 : Cond.fieldLink RX1 19 RX1 "bits" "[Z" ∈ wsX1_add := by decide +kernel
  refine v_aload_n hX dX1_add_0 rfl ?_
  refine v_get (C := RX1) (T := TX1) (N := 3) (ci := 1) (v := .ref (a 3)) hX in_X1 0 rfl rfl 2 (by decide) fl_19 rfl rfl dX1_add_1 ?_
  refine v_iload_n hX dX1_add_4 rfl ?_
  refine v_bipush (x := (16 : Int32)) hX dX1_add_5 (by decide) ?_
  refine v_idiv (z := nI ((n) / 16)) hX dX1_add_7 (by decide) (div_c (n) 16 (by omega) (by decide) (by decide)) ?_
  refine v_iconst (x := (1 : Int32)) hX dX1_add_8 (by decide) ?_
  obtain ⟨v1, hv1⟩ : ∃ z_ : FV, z_ = F_setB v ((n) / 16) (true) := ⟨_, rfl⟩
  refine v_zast (ws' := wF E a v1) hX 3 rfl (vp_in_nI (by omega : (n) / 16 < 16) (by omega)) (by rw [hv1]; exact sF_B E a v (k := (n) / 16) (by omega) (true)) dX1_add_9 ?_
  refine v_aload_n hX dX1_add_10 rfl ?_
  refine v_iload_n hX dX1_add_11 rfl ?_
  refine v_callSi (r := nI (n % 24)) (rest := [.ref (a 0)]) (ws' := wF E a v1) hX (fun sz => c_X1_firstCounter l E sz n (by first | omega | exact Nat.le_of_ble_eq_true rfl)) (va_cwS 1 hX.2.2.2.2.1 gX1_add_X1_firstCounter rfl rfl rfl (by decide +kernel) ⟨Nat.le_of_ble_eq_true rfl, Nat.le_of_ble_eq_true rfl⟩) ([]) (wF E a v1) (rfl) rfl (rfl) rfl rfl (Nat.le_of_ble_eq_true rfl) dX1_add_12 ?_
  refine v_iload_n hX dX1_add_15 rfl ?_
  obtain ⟨v2, hv2⟩ : ∃ z_ : FV, z_ = F_raise v1 (n % 24) lim := ⟨_, rfl⟩
  refine v_callVv (rest := []) (ws' := wF E a v2) hX (fun sz => c_X1_raise l E a sz v1 (n % 24) (by first | omega | exact Nat.le_of_ble_eq_true rfl) lim) (cwV 2 hX.2.2.2.2.1 gX1_add_X1_raise rfl rfl rfl (by decide +kernel) ⟨Nat.le_of_ble_eq_true rfl, Nat.le_of_ble_eq_true rfl⟩) ([]) ([]) ((List.append_nil _).symm) (by rw [hv2]; exact List.append_nil _) (wF_fst E a _ _) (ci := 1) (q0 := 0) rfl rfl rfl rfl rfl (Nat.le_of_ble_eq_true rfl) dX1_add_16 ?_
  refine v_aload_n hX dX1_add_19 rfl ?_
  refine v_iload_n hX dX1_add_20 rfl ?_
  refine v_callSi (r := nI ((7 * n + 5) % 24)) (rest := [.ref (a 0)]) (ws' := wF E a v2) hX (fun sz => c_X1_secondCounter l E sz n (by first | omega | exact Nat.le_of_ble_eq_true rfl)) (va_cwS 1 hX.2.2.2.2.1 gX1_add_X1_secondCounter rfl rfl rfl (by decide +kernel) ⟨Nat.le_of_ble_eq_true rfl, Nat.le_of_ble_eq_true rfl⟩) ([]) (wF E a v2) (rfl) rfl (rfl) rfl rfl (Nat.le_of_ble_eq_true rfl) dX1_add_21 ?_
  refine v_iload_n hX dX1_add_24 rfl ?_
  obtain ⟨v3, hv3⟩ : ∃ z_ : FV, z_ = F_raise v2 ((7 * n + 5) % 24) lim := ⟨_, rfl⟩
  refine v_callVv (rest := []) (ws' := wF E a v3) hX (fun sz => c_X1_raise l E a sz v2 ((7 * n + 5) % 24) (by first | omega | exact Nat.le_of_ble_eq_true rfl) lim) (cwV 2 hX.2.2.2.2.1 gX1_add_X1_raise rfl rfl rfl (by decide +kernel) ⟨Nat.le_of_ble_eq_true rfl, Nat.le_of_ble_eq_true rfl⟩) ([]) ([]) ((List.append_nil _).symm) (by rw [hv3]; exact List.append_nil _) (wF_fst E a _ _) (ci := 1) (q0 := 0) rfl rfl rfl rfl rfl (Nat.le_of_ble_eq_true rfl) dX1_add_25 ?_
  exact v_vret hX hr hsz dX1_add_28 rfl rfl (by (subst hv3; subst hv2; subst hv1; first | rfl | (simp only [F_add, if_true, if_false, reduceIte, Bool.false_eq_true, reduceCtorEq, decide_true, decide_false, Bool.and_true, Bool.and_false, Bool.true_and, Bool.false_and, not_true_eq_false, not_false_eq_true, Bool.not_true, Bool.not_false, eq_self]; done) | (simp only [F_add, if_true, if_false, reduceIte, Bool.false_eq_true, reduceCtorEq, decide_true, decide_false, Bool.and_true, Bool.and_false, Bool.true_and, Bool.false_and, not_true_eq_false, not_false_eq_true, Bool.not_true, Bool.not_false, eq_self]; rfl)))
set_option maxHeartbeats 4000000 in
set_option maxRecDepth 100000 in
theorem c_X1_remove (l : Launch) (E : ET) (a : Nat → Nat) (sz : Nat) (v : FV) (n : Nat) (hn : n < 256) : Met l yX1_remove wsX1_remove ({ frames := 1, cells := 0, slots := 0, locals := 21 }) (mPc E [.ref (a 0), .int (nI (n))] sz (wF E a v)) (mQv E (wF E a v) (wF E a (F_remove v n)) sz) 0 0 (va_A (wF E a v) sz) := by
  refine v_start (cc := cX1_remove) (maxL := 2) (ret := none) (by decide) rfl (Nat.le_of_ble_eq_true rfl) rfl ?_
  intro p e s m args below meth c hsz hr hX
  have hX : Xc p s m args meth c E 2 (va_A (wF E a v) sz) cX1_remove RX1 wsX1_remove := hX
  refine v_aload_n hX dX1_remove_0 rfl ?_
  refine v_iload_n hX dX1_remove_1 rfl ?_
  refine v_callSi (r := nI (n % 24)) (rest := [.ref (a 0)]) (ws' := wF E a v) hX (fun sz => c_X1_firstCounter l E sz n (by first | omega | exact Nat.le_of_ble_eq_true rfl)) (va_cwS 1 hX.2.2.2.2.1 gX1_remove_X1_firstCounter rfl rfl rfl (by decide +kernel) ⟨Nat.le_of_ble_eq_true rfl, Nat.le_of_ble_eq_true rfl⟩) ([]) (wF E a v) (rfl) rfl (rfl) rfl rfl (Nat.le_of_ble_eq_true rfl) dX1_remove_2 ?_
  obtain ⟨v1, hv1⟩ : ∃ z_ : FV, z_ = F_lower v (n % 24) := ⟨_, rfl⟩
  refine v_callVv (rest := []) (ws' := wF E a v1) hX (fun sz => c_X1_lower l E a sz v (n % 24) (by first | omega | exact Nat.le_of_ble_eq_true rfl)) (cwV 1 hX.2.2.2.2.1 gX1_remove_X1_lower rfl rfl rfl (by decide +kernel) ⟨Nat.le_of_ble_eq_true rfl, Nat.le_of_ble_eq_true rfl⟩) ([]) ([]) ((List.append_nil _).symm) (by rw [hv1]; exact List.append_nil _) (wF_fst E a _ _) (ci := 1) (q0 := 0) rfl rfl rfl rfl rfl (Nat.le_of_ble_eq_true rfl) dX1_remove_5 ?_
  refine v_aload_n hX dX1_remove_8 rfl ?_
  refine v_iload_n hX dX1_remove_9 rfl ?_
  refine v_callSi (r := nI ((7 * n + 5) % 24)) (rest := [.ref (a 0)]) (ws' := wF E a v1) hX (fun sz => c_X1_secondCounter l E sz n (by first | omega | exact Nat.le_of_ble_eq_true rfl)) (va_cwS 1 hX.2.2.2.2.1 gX1_remove_X1_secondCounter rfl rfl rfl (by decide +kernel) ⟨Nat.le_of_ble_eq_true rfl, Nat.le_of_ble_eq_true rfl⟩) ([]) (wF E a v1) (rfl) rfl (rfl) rfl rfl (Nat.le_of_ble_eq_true rfl) dX1_remove_10 ?_
  obtain ⟨v2, hv2⟩ : ∃ z_ : FV, z_ = F_lower v1 ((7 * n + 5) % 24) := ⟨_, rfl⟩
  refine v_callVv (rest := []) (ws' := wF E a v2) hX (fun sz => c_X1_lower l E a sz v1 ((7 * n + 5) % 24) (by first | omega | exact Nat.le_of_ble_eq_true rfl)) (cwV 1 hX.2.2.2.2.1 gX1_remove_X1_lower rfl rfl rfl (by decide +kernel) ⟨Nat.le_of_ble_eq_true rfl, Nat.le_of_ble_eq_true rfl⟩) ([]) ([]) ((List.append_nil _).symm) (by rw [hv2]; exact List.append_nil _) (wF_fst E a _ _) (ci := 1) (q0 := 0) rfl rfl rfl rfl rfl (Nat.le_of_ble_eq_true rfl) dX1_remove_13 ?_
  exact v_vret hX hr hsz dX1_remove_16 rfl rfl (by (subst hv2; subst hv1; first | rfl | (simp only [F_remove, if_true, if_false, reduceIte, Bool.false_eq_true, reduceCtorEq, decide_true, decide_false, Bool.and_true, Bool.and_false, Bool.true_and, Bool.false_and, not_true_eq_false, not_false_eq_true, Bool.not_true, Bool.not_false, eq_self]; done) | (simp only [F_remove, if_true, if_false, reduceIte, Bool.false_eq_true, reduceCtorEq, decide_true, decide_false, Bool.and_true, Bool.and_false, Bool.true_and, Bool.false_and, not_true_eq_false, not_false_eq_true, Bool.not_true, Bool.not_false, eq_self]; rfl)))
set_option maxHeartbeats 4000000 in
set_option maxRecDepth 100000 in
theorem c_X1_hasBitOf (l : Launch) (E : ET) (a : Nat → Nat) (sz : Nat) (v : FV) (n : Nat) (hn : n < 256) : Met l yX1_hasBitOf wsX1_hasBitOf ({ frames := 0, cells := 0, slots := 0, locals := 0 }) (mPc E [.ref (a 0), .int (nI (n))] sz (wF E a v)) (mQi E (bI (v.2.2 (n / 16))) (wF E a v) (wF E a v) sz) 0 0 (va_A (wF E a v) sz) := by
  refine v_start (cc := cX1_hasBitOf) (maxL := 2) (ret := (some .boolean)) (by decide) rfl (Nat.le_of_ble_eq_true rfl) rfl ?_
  intro p e s m args below meth c hsz hr hX
  have hX : Xc p s m args meth c E 2 (va_A (wF E a v) sz) cX1_hasBitOf RX1 wsX1_hasBitOf := hX
  have in_X1 : ∀ w ∈ u_ws RX1 TX1 3, w ∈ wsX1_hasBitOf := by decide +kernel
  have fl_19 : Cond.fieldLink RX1 19 RX1 "bits" "[Z" ∈ wsX1_hasBitOf := by decide +kernel
  refine v_aload_n hX dX1_hasBitOf_0 rfl ?_
  refine v_get (C := RX1) (T := TX1) (N := 3) (ci := 1) (v := .ref (a 3)) hX in_X1 0 rfl rfl 2 (by decide) fl_19 rfl rfl dX1_hasBitOf_1 ?_
  refine v_iload_n hX dX1_hasBitOf_4 rfl ?_
  refine v_bipush (x := (16 : Int32)) hX dX1_hasBitOf_5 (by decide) ?_
  refine v_idiv (z := nI ((n) / 16)) hX dX1_hasBitOf_7 (by decide) (div_c (n) 16 (by omega) (by decide) (by decide)) ?_
  refine v_zald (z := bI (v.2.2 ((n) / 16))) hX 3 rfl (vp_in_nI (by omega : (n) / 16 < 16) (by omega)) (by simp only [nI_clamp (show (n) / 16 < 2 ^ 31 by omega)]) dX1_hasBitOf_8 ?_
  exact v_zret hX hr hsz dX1_hasBitOf_9 rfl rfl (bI_narrow (v.2.2 ((n) / 16))) (congrArg bI (by (first | rfl | (simp only [if_true, if_false, reduceIte, Bool.false_eq_true, reduceCtorEq, decide_true, decide_false, Bool.and_true, Bool.and_false, Bool.true_and, Bool.false_and, not_true_eq_false, not_false_eq_true, Bool.not_true, Bool.not_false, eq_self]; done) | (simp only [if_true, if_false, reduceIte, Bool.false_eq_true, reduceCtorEq, decide_true, decide_false, Bool.and_true, Bool.and_false, Bool.true_and, Bool.false_and, not_true_eq_false, not_false_eq_true, Bool.not_true, Bool.not_false, eq_self]; rfl)) : v.2.2 ((n) / 16) = v.2.2 (n / 16))) rfl
set_option maxHeartbeats 4000000 in
set_option maxRecDepth 100000 in
theorem c_X1_mayHave (l : Launch) (E : ET) (a : Nat → Nat) (sz : Nat) (v : FV) (n : Nat) (hn : n < 256) : Met l yX1_mayHave wsX1_mayHave ({ frames := 1, cells := 0, slots := 0, locals := 21 }) (mPc E [.ref (a 0), .int (nI (n))] sz (wF E a v)) (mQi E (bI (F_may v n)) (wF E a v) (wF E a v) sz) 0 0 (va_A (wF E a v) sz) := by
  refine v_start (cc := cX1_mayHave) (maxL := 2) (ret := (some .boolean)) (by decide) rfl (Nat.le_of_ble_eq_true rfl) rfl ?_
  intro p e s m args below meth c hsz hr hX
  have hX : Xc p s m args meth c E 2 (va_A (wF E a v) sz) cX1_mayHave RX1 wsX1_mayHave := hX
  have in_X1 : ∀ w ∈ u_ws RX1 TX1 3, w ∈ wsX1_mayHave := by decide +kernel
  have fl_9 : Cond.fieldLink RX1 9 RX1 "counters" "[I" ∈ wsX1_mayHave := by decide +kernel
  refine v_aload_n hX dX1_mayHave_0 rfl ?_
  refine v_iload_n hX dX1_mayHave_1 rfl ?_
  refine v_callVi (r := bI (v.2.2 (n / 16))) (rest := []) (ws' := wF E a v) hX (fun sz => c_X1_hasBitOf l E a sz v n (by first | omega | exact Nat.le_of_ble_eq_true rfl)) (cwV 1 hX.2.2.2.2.1 gX1_mayHave_X1_hasBitOf rfl rfl rfl (by decide +kernel) ⟨Nat.le_of_ble_eq_true rfl, Nat.le_of_ble_eq_true rfl⟩) ([]) ([]) ((List.append_nil _).symm) ((List.append_nil _).symm).symm (wF_fst E a _ _) (ci := 1) (q0 := 0) rfl rfl rfl rfl rfl (Nat.le_of_ble_eq_true rfl) dX1_mayHave_2 ?_
  refine v_if_eq (tgt := 36) hX dX1_mayHave_5 (by decide) (fun c1 => ?_) (fun c1 => ?_)
  · replace c1 := bI_0.mp c1
    refine v_iconst (x := (0 : Int32)) hX dX1_mayHave_36 (by decide) ?_
    exact v_zret hX hr hsz dX1_mayHave_37 rfl rfl (bI_narrow (false)) (congrArg bI (by (first | rfl | (simp only [F_may, c1, if_true, if_false, reduceIte, Bool.false_eq_true, reduceCtorEq, decide_true, decide_false, Bool.and_true, Bool.and_false, Bool.true_and, Bool.false_and, not_true_eq_false, not_false_eq_true, Bool.not_true, Bool.not_false, eq_self]; done) | (simp only [F_may, c1, if_true, if_false, reduceIte, Bool.false_eq_true, reduceCtorEq, decide_true, decide_false, Bool.and_true, Bool.and_false, Bool.true_and, Bool.false_and, not_true_eq_false, not_false_eq_true, Bool.not_true, Bool.not_false, eq_self]; rfl)) : false = F_may v n)) rfl
  · replace c1 := bI_n0.mp c1
    refine v_aload_n hX dX1_mayHave_8 rfl ?_
    refine v_get (C := RX1) (T := TX1) (N := 3) (ci := 1) (v := .ref (a 1)) hX in_X1 0 rfl rfl 0 (by decide) fl_9 rfl rfl dX1_mayHave_9 ?_
    refine v_iload_n hX dX1_mayHave_12 rfl ?_
    refine v_callSi (r := nI (n % 24)) (rest := [.ref (a 1)]) (ws' := wF E a v) hX (fun sz => c_X1_firstCounter l E sz n (by first | omega | exact Nat.le_of_ble_eq_true rfl)) (va_cwS 1 hX.2.2.2.2.1 gX1_mayHave_X1_firstCounter rfl rfl rfl (by decide +kernel) ⟨Nat.le_of_ble_eq_true rfl, Nat.le_of_ble_eq_true rfl⟩) ([]) (wF E a v) (rfl) rfl (rfl) rfl rfl (Nat.le_of_ble_eq_true rfl) dX1_mayHave_13 ?_
    refine v_iald (z := v.1 (n % 24)) hX 1 rfl (vp_in_nI (by omega : n % 24 < 24) (by omega)) (by simp only [nI_clamp (show n % 24 < 2 ^ 31 by omega)]) dX1_mayHave_16 ?_
    refine v_if_le (tgt := 36) hX dX1_mayHave_17 (by decide) (fun c2 => ?_) (fun c2 => ?_)
    · refine v_iconst (x := (0 : Int32)) hX dX1_mayHave_36 (by decide) ?_
      exact v_zret hX hr hsz dX1_mayHave_37 rfl rfl (bI_narrow (false)) (congrArg bI (by (first | rfl | (simp only [F_may, c1, c2, if_true, if_false, reduceIte, Bool.false_eq_true, reduceCtorEq, decide_true, decide_false, Bool.and_true, Bool.and_false, Bool.true_and, Bool.false_and, not_true_eq_false, not_false_eq_true, Bool.not_true, Bool.not_false, eq_self]; done) | (simp only [F_may, c1, c2, if_true, if_false, reduceIte, Bool.false_eq_true, reduceCtorEq, decide_true, decide_false, Bool.and_true, Bool.and_false, Bool.true_and, Bool.false_and, not_true_eq_false, not_false_eq_true, Bool.not_true, Bool.not_false, eq_self]; rfl)) : false = F_may v n)) rfl
    · refine v_aload_n hX dX1_mayHave_20 rfl ?_
      refine v_get (C := RX1) (T := TX1) (N := 3) (ci := 1) (v := .ref (a 1)) hX in_X1 0 rfl rfl 0 (by decide) fl_9 rfl rfl dX1_mayHave_21 ?_
      refine v_iload_n hX dX1_mayHave_24 rfl ?_
      refine v_callSi (r := nI ((7 * n + 5) % 24)) (rest := [.ref (a 1)]) (ws' := wF E a v) hX (fun sz => c_X1_secondCounter l E sz n (by first | omega | exact Nat.le_of_ble_eq_true rfl)) (va_cwS 1 hX.2.2.2.2.1 gX1_mayHave_X1_secondCounter rfl rfl rfl (by decide +kernel) ⟨Nat.le_of_ble_eq_true rfl, Nat.le_of_ble_eq_true rfl⟩) ([]) (wF E a v) (rfl) rfl (rfl) rfl rfl (Nat.le_of_ble_eq_true rfl) dX1_mayHave_25 ?_
      refine v_iald (z := v.1 ((7 * n + 5) % 24)) hX 1 rfl (vp_in_nI (by omega : (7 * n + 5) % 24 < 24) (by omega)) (by simp only [nI_clamp (show (7 * n + 5) % 24 < 2 ^ 31 by omega)]) dX1_mayHave_28 ?_
      refine v_if_le (tgt := 36) hX dX1_mayHave_29 (by decide) (fun c3 => ?_) (fun c3 => ?_)
      · refine v_iconst (x := (0 : Int32)) hX dX1_mayHave_36 (by decide) ?_
        exact v_zret hX hr hsz dX1_mayHave_37 rfl rfl (bI_narrow (false)) (congrArg bI (by (first | rfl | (simp only [F_may, c1, c2, c3, if_true, if_false, reduceIte, Bool.false_eq_true, reduceCtorEq, decide_true, decide_false, Bool.and_true, Bool.and_false, Bool.true_and, Bool.false_and, not_true_eq_false, not_false_eq_true, Bool.not_true, Bool.not_false, eq_self]; done) | (simp only [F_may, c1, c2, c3, if_true, if_false, reduceIte, Bool.false_eq_true, reduceCtorEq, decide_true, decide_false, Bool.and_true, Bool.and_false, Bool.true_and, Bool.false_and, not_true_eq_false, not_false_eq_true, Bool.not_true, Bool.not_false, eq_self]; rfl)) : false = F_may v n)) rfl
      · refine v_iconst (x := (1 : Int32)) hX dX1_mayHave_32 (by decide) ?_
        refine v_goto (tgt := 37) hX dX1_mayHave_33 (by decide) ?_
        exact v_zret hX hr hsz dX1_mayHave_37 rfl rfl (bI_narrow (true)) (congrArg bI (by (first | rfl | (simp only [F_may, c1, c2, c3, if_true, if_false, reduceIte, Bool.false_eq_true, reduceCtorEq, decide_true, decide_false, Bool.and_true, Bool.and_false, Bool.true_and, Bool.false_and, not_true_eq_false, not_false_eq_true, Bool.not_true, Bool.not_false, eq_self]; done) | (simp only [F_may, c1, c2, c3, if_true, if_false, reduceIte, Bool.false_eq_true, reduceCtorEq, decide_true, decide_false, Bool.and_true, Bool.and_false, Bool.true_and, Bool.false_and, not_true_eq_false, not_false_eq_true, Bool.not_true, Bool.not_false, eq_self]; rfl)) : true = F_may v n)) rfl
set_option maxHeartbeats 4000000 in
set_option maxRecDepth 100000 in
theorem c_X1_countersAboveZero (l : Launch) (E : ET) (a : Nat → Nat) (sz : Nat) (v : FV) : Met l yX1_countersAboveZero wsX1_countersAboveZero ({ frames := 0, cells := 0, slots := 0, locals := 0 }) (mPc E [.ref (a 0)] sz (wF E a v)) (mQi E (F_above v) (wF E a v) (wF E a v) sz) 0 0 (va_A (wF E a v) sz) := by
  refine v_start (cc := cX1_countersAboveZero) (maxL := 3) (ret := (some .int)) (by decide) rfl (Nat.le_of_ble_eq_true rfl) rfl ?_
  intro p e s m args below meth c hsz hr hX
  have hX : Xc p s m args meth c E 3 (va_A (wF E a v) sz) cX1_countersAboveZero RX1 wsX1_countersAboveZero := hX
  have in_X1 : ∀ w ∈ u_ws RX1 TX1 3, w ∈ wsX1_countersAboveZero := by decide +kernel
  have fl_9 : Cond.fieldLink RX1 9 RX1 "counters" "[I" ∈ wsX1_countersAboveZero := by decide +kernel
  refine v_iconst (x := (0 : Int32)) hX dX1_countersAboveZero_0 (by decide) ?_
  refine v_istore_n (lv' := [.ref (a 0), .int ((0 : Int32))]) hX dX1_countersAboveZero_1 (Nat.le_of_ble_eq_true rfl) (Nat.le_of_ble_eq_true rfl) rfl rfl ?_
  refine v_iconst (x := (0 : Int32)) hX dX1_countersAboveZero_2 (by decide) ?_
  refine v_istore_n (lv' := [.ref (a 0), .int ((0 : Int32)), .int ((0 : Int32))]) hX dX1_countersAboveZero_3 (Nat.le_of_ble_eq_true rfl) (Nat.le_of_ble_eq_true rfl) rfl rfl ?_
  have loop_4 : ∀ (n i : Nat), i + n = 24 → V p l e ({ frames := 0, cells := 0, slots := 0, locals := 0 } : Room) s m args below meth c E 3 (va_A (wF E a v) sz) (MQ below (mQi E (F_above v) (wF E a v) (wF E a v) sz) args s 0 0 (va_A (wF E a v) sz)) (wF E a v) [.ref (a 0), .int (it (F_aboveF v) i 0), .int (nI (i))] 4 [] := by
    intro n
    induction n with
    | zero =>
      intro i  hin 
      have hi0 : i = 24 := by omega
      subst hi0
      refine v_iload_n hX dX1_countersAboveZero_4 rfl ?_
      refine v_bipush (x := (24 : Int32)) hX dX1_countersAboveZero_5 (by decide) ?_
      refine v_icmp_ge (tgt := 28) hX dX1_countersAboveZero_7 (by decide) (fun c1 => ?_) (fun c1 => ?_)
      · replace c1 := (nI_leI (a := 24) (b := 24) (by omega) (by omega)).mp c1
        refine v_iload_n hX dX1_countersAboveZero_28 rfl ?_
        exact v_iret hX hr hsz dX1_countersAboveZero_29 rfl rfl (by (first | rfl | (simp only [F_above, F_aboveF, c1, if_true, if_false, reduceIte, Bool.false_eq_true, reduceCtorEq, decide_true, decide_false, Bool.and_true, Bool.and_false, Bool.true_and, Bool.false_and, not_true_eq_false, not_false_eq_true, Bool.not_true, Bool.not_false, eq_self]; done) | (simp only [F_above, F_aboveF, c1, if_true, if_false, reduceIte, Bool.false_eq_true, reduceCtorEq, decide_true, decide_false, Bool.and_true, Bool.and_false, Bool.true_and, Bool.false_and, not_true_eq_false, not_false_eq_true, Bool.not_true, Bool.not_false, eq_self]; rfl))) rfl
      · replace c1 := (not_congr (nI_leI (a := 24) (b := 24) (by omega) (by omega))).mp c1
        exfalso; omega
    | succ n ih =>
      intro i  hin 
      refine v_iload_n hX dX1_countersAboveZero_4 rfl ?_
      refine v_bipush (x := (24 : Int32)) hX dX1_countersAboveZero_5 (by decide) ?_
      refine v_icmp_ge (tgt := 28) hX dX1_countersAboveZero_7 (by decide) (fun c2 => ?_) (fun c2 => ?_)
      · replace c2 := (nI_leI (a := 24) (b := i) (by omega) (by omega)).mp c2
        exfalso; omega
      · replace c2 := (not_congr (nI_leI (a := 24) (b := i) (by omega) (by omega))).mp c2
        refine v_aload_n hX dX1_countersAboveZero_10 rfl ?_
        refine v_get (C := RX1) (T := TX1) (N := 3) (ci := 1) (v := .ref (a 1)) hX in_X1 0 rfl rfl 0 (by decide) fl_9 rfl rfl dX1_countersAboveZero_11 ?_
        refine v_iload_n hX dX1_countersAboveZero_14 rfl ?_
        refine v_iald (z := v.1 (i)) hX 1 rfl (vp_in_nI (by omega : i < 24) (by omega)) (by simp only [nI_clamp (show i < 2 ^ 31 by omega)]) dX1_countersAboveZero_15 ?_
        refine v_if_le (tgt := 22) hX dX1_countersAboveZero_16 (by decide) (fun c3 => ?_) (fun c3 => ?_)
        · refine v_iinc (y := nI (i + 1)) (lv' := [.ref (a 0), .int (it (F_aboveF v) i 0), .int (nI (i + 1))]) hX dX1_countersAboveZero_22 rfl (nI_inc _) (Nat.le_of_ble_eq_true rfl) (Nat.le_of_ble_eq_true rfl) rfl rfl ?_
          refine v_goto (tgt := 4) hX dX1_countersAboveZero_25 (by decide) ?_
          have e4 : it (F_aboveF v) i 0 = it (F_aboveF v) (i + 1) 0 := by first | rfl | (simp only [F_above, F_aboveF, c2, c3, it, if_true, if_false, reduceIte, Bool.false_eq_true, Bool.and_true, Bool.and_false, Bool.true_and, Bool.false_and, not_true_eq_false, not_false_eq_true, eq_self, ne_eq, reduceCtorEq, decide_true, decide_false, Bool.not_true, Bool.not_false]; done) | (simp only [F_above, F_aboveF, c2, c3, it, if_true, if_false, reduceIte, Bool.false_eq_true, Bool.and_true, Bool.and_false, Bool.true_and, Bool.false_and, not_true_eq_false, not_false_eq_true, eq_self, ne_eq, reduceCtorEq, decide_true, decide_false, Bool.not_true, Bool.not_false]; rfl)
          rw [e4]
          exact ih (i + 1)  (by omega) 
        · refine v_iinc (y := (it (F_aboveF v) i 0 + 1)) (lv' := [.ref (a 0), .int ((it (F_aboveF v) i 0 + 1)), .int (nI (i))]) hX dX1_countersAboveZero_19 rfl (rfl) (Nat.le_of_ble_eq_true rfl) (Nat.le_of_ble_eq_true rfl) rfl rfl ?_
          refine v_iinc (y := nI (i + 1)) (lv' := [.ref (a 0), .int ((it (F_aboveF v) i 0 + 1)), .int (nI (i + 1))]) hX dX1_countersAboveZero_22 rfl (nI_inc _) (Nat.le_of_ble_eq_true rfl) (Nat.le_of_ble_eq_true rfl) rfl rfl ?_
          refine v_goto (tgt := 4) hX dX1_countersAboveZero_25 (by decide) ?_
          have e5 : (it (F_aboveF v) i 0 + 1) = it (F_aboveF v) (i + 1) 0 := by first | rfl | (simp only [F_above, F_aboveF, c2, c3, it, if_true, if_false, reduceIte, Bool.false_eq_true, Bool.and_true, Bool.and_false, Bool.true_and, Bool.false_and, not_true_eq_false, not_false_eq_true, eq_self, ne_eq, reduceCtorEq, decide_true, decide_false, Bool.not_true, Bool.not_false]; done) | (simp only [F_above, F_aboveF, c2, c3, it, if_true, if_false, reduceIte, Bool.false_eq_true, Bool.and_true, Bool.and_false, Bool.true_and, Bool.false_and, not_true_eq_false, not_false_eq_true, eq_self, ne_eq, reduceCtorEq, decide_true, decide_false, Bool.not_true, Bool.not_false]; rfl)
          rw [e5]
          exact ih (i + 1)  (by omega) 
  exact loop_4 24 0  (by omega) 
set_option maxHeartbeats 4000000 in
set_option maxRecDepth 100000 in
theorem c_X1_wipe (l : Launch) (E : ET) (a : Nat → Nat) (sz : Nat) (v : FV) : Met l yX1_wipe wsX1_wipe ({ frames := 0, cells := 0, slots := 0, locals := 0 }) (mPc E [.ref (a 0)] sz (wF E a v)) (mQv E (wF E a v) (wF E a (F_wipe v)) sz) 0 0 (va_A (wF E a v) sz) := by
  refine v_start (cc := cX1_wipe) (maxL := 2) (ret := none) (by decide) rfl (Nat.le_of_ble_eq_true rfl) rfl ?_
  intro p e s m args below meth c hsz hr hX
  have hX : Xc p s m args meth c E 2 (va_A (wF E a v) sz) cX1_wipe RX1 wsX1_wipe := hX
  have in_X1 : ∀ w ∈ u_ws RX1 TX1 3, w ∈ wsX1_wipe := by decide +kernel
  have fl_19 : Cond.fieldLink RX1 19 RX1 "bits" "[Z" ∈ wsX1_wipe := by decide +kernel
  have fl_9 : Cond.fieldLink RX1 9 RX1 "counters" "[I" ∈ wsX1_wipe := by decide +kernel
  have fl_15 : Cond.fieldLink RX1 15 RX1 "stuck" "[Z" ∈ wsX1_wipe := by decide +kernel
  refine v_iconst (x := (0 : Int32)) hX dX1_wipe_0 (by decide) ?_
  refine v_istore_n (lv' := [.ref (a 0), .int ((0 : Int32))]) hX dX1_wipe_1 (Nat.le_of_ble_eq_true rfl) (Nat.le_of_ble_eq_true rfl) rfl rfl ?_
  have loop_2 : ∀ (n i : Nat), i + n = 24 → V p l e ({ frames := 0, cells := 0, slots := 0, locals := 0 } : Room) s m args below meth c E 2 (va_A (wF E a v) sz) (MQ below (mQv E (wF E a v) (wF E a (F_wipe v)) sz) args s 0 0 (va_A (wF E a v) sz)) (wF E a (it F_w1 i v)) [.ref (a 0), .int (nI (i))] 2 [] := by
    intro n
    induction n with
    | zero =>
      intro i  hin 
      have hi0 : i = 24 := by omega
      subst hi0
      refine v_iload_n hX dX1_wipe_2 rfl ?_
      refine v_bipush (x := (24 : Int32)) hX dX1_wipe_3 (by decide) ?_
      refine v_icmp_ge (tgt := 28) hX dX1_wipe_5 (by decide) (fun c1 => ?_) (fun c1 => ?_)
      · replace c1 := (nI_leI (a := 24) (b := 24) (by omega) (by omega)).mp c1
        refine v_iconst (x := (0 : Int32)) hX dX1_wipe_28 (by decide) ?_
        refine v_istore_n (lv' := [.ref (a 0), .int ((0 : Int32))]) hX dX1_wipe_29 (Nat.le_of_ble_eq_true rfl) (Nat.le_of_ble_eq_true rfl) rfl rfl ?_
        have loop_30 : ∀ (n i : Nat), i + n = 16 → V p l e ({ frames := 0, cells := 0, slots := 0, locals := 0 } : Room) s m args below meth c E 2 (va_A (wF E a v) sz) (MQ below (mQv E (wF E a v) (wF E a (F_wipe v)) sz) args s 0 0 (va_A (wF E a v) sz)) (wF E a (it F_w2 i (it F_w1 24 v))) [.ref (a 0), .int (nI (i))] 30 [] := by
          intro n
          induction n with
          | zero =>
            intro i  hin 
            have hi0 : i = 16 := by omega
            subst hi0
            refine v_iload_n hX dX1_wipe_30 rfl ?_
            refine v_bipush (x := (16 : Int32)) hX dX1_wipe_31 (by decide) ?_
            refine v_icmp_ge (tgt := 49) hX dX1_wipe_33 (by decide) (fun c2 => ?_) (fun c2 => ?_)
            · replace c2 := (nI_leI (a := 16) (b := 16) (by omega) (by omega)).mp c2
              exact v_vret hX hr hsz dX1_wipe_49 rfl rfl (by (first | rfl | (simp only [F_wipe, F_w1, F_w2, c1, c2, if_true, if_false, reduceIte, Bool.false_eq_true, reduceCtorEq, decide_true, decide_false, Bool.and_true, Bool.and_false, Bool.true_and, Bool.false_and, not_true_eq_false, not_false_eq_true, Bool.not_true, Bool.not_false, eq_self]; done) | (simp only [F_wipe, F_w1, F_w2, c1, c2, if_true, if_false, reduceIte, Bool.false_eq_true, reduceCtorEq, decide_true, decide_false, Bool.and_true, Bool.and_false, Bool.true_and, Bool.false_and, not_true_eq_false, not_false_eq_true, Bool.not_true, Bool.not_false, eq_self]; rfl)))
            · replace c2 := (not_congr (nI_leI (a := 16) (b := 16) (by omega) (by omega))).mp c2
              exfalso; omega
          | succ n ih =>
            intro i  hin 
            refine v_iload_n hX dX1_wipe_30 rfl ?_
            refine v_bipush (x := (16 : Int32)) hX dX1_wipe_31 (by decide) ?_
            refine v_icmp_ge (tgt := 49) hX dX1_wipe_33 (by decide) (fun c3 => ?_) (fun c3 => ?_)
            · replace c3 := (nI_leI (a := 16) (b := i) (by omega) (by omega)).mp c3
              exfalso; omega
            · replace c3 := (not_congr (nI_leI (a := 16) (b := i) (by omega) (by omega))).mp c3
              refine v_aload_n hX dX1_wipe_36 rfl ?_
              refine v_get (C := RX1) (T := TX1) (N := 3) (ci := 1) (v := .ref (a 3)) hX in_X1 0 rfl rfl 2 (by decide) fl_19 rfl rfl dX1_wipe_37 ?_
              refine v_iload_n hX dX1_wipe_40 rfl ?_
              refine v_iconst (x := (0 : Int32)) hX dX1_wipe_41 (by decide) ?_
              obtain ⟨v4, hv4⟩ : ∃ z_ : FV, z_ = F_setB (it F_w2 i (it F_w1 24 v)) (i) (false) := ⟨_, rfl⟩
              refine v_zast (ws' := wF E a v4) hX 3 rfl (vp_in_nI (by omega : i < 16) (by omega)) (by rw [hv4]; exact sF_B E a (it F_w2 i (it F_w1 24 v)) (k := i) (by omega) (false)) dX1_wipe_42 ?_
              refine v_iinc (y := nI (i + 1)) (lv' := [.ref (a 0), .int (nI (i + 1))]) hX dX1_wipe_43 rfl (nI_inc _) (Nat.le_of_ble_eq_true rfl) (Nat.le_of_ble_eq_true rfl) rfl rfl ?_
              refine v_goto (tgt := 30) hX dX1_wipe_46 (by decide) ?_
              have e5 : v4 = it F_w2 (i + 1) (it F_w1 24 v) := by subst hv4; first | rfl | (simp only [F_wipe, F_w1, F_w2, c1, c3, it, if_true, if_false, reduceIte, Bool.false_eq_true, Bool.and_true, Bool.and_false, Bool.true_and, Bool.false_and, not_true_eq_false, not_false_eq_true, eq_self, ne_eq, reduceCtorEq, decide_true, decide_false, Bool.not_true, Bool.not_false]; done) | (simp only [F_wipe, F_w1, F_w2, c1, c3, it, if_true, if_false, reduceIte, Bool.false_eq_true, Bool.and_true, Bool.and_false, Bool.true_and, Bool.false_and, not_true_eq_false, not_false_eq_true, eq_self, ne_eq, reduceCtorEq, decide_true, decide_false, Bool.not_true, Bool.not_false]; rfl)
              rw [e5]
              exact ih (i + 1)  (by omega) 
        exact loop_30 16 0  (by omega) 
      · replace c1 := (not_congr (nI_leI (a := 24) (b := 24) (by omega) (by omega))).mp c1
        exfalso; omega
    | succ n ih =>
      intro i  hin 
      refine v_iload_n hX dX1_wipe_2 rfl ?_
      refine v_bipush (x := (24 : Int32)) hX dX1_wipe_3 (by decide) ?_
      refine v_icmp_ge (tgt := 28) hX dX1_wipe_5 (by decide) (fun c6 => ?_) (fun c6 => ?_)
      · replace c6 := (nI_leI (a := 24) (b := i) (by omega) (by omega)).mp c6
        exfalso; omega
      · replace c6 := (not_congr (nI_leI (a := 24) (b := i) (by omega) (by omega))).mp c6
        refine v_aload_n hX dX1_wipe_8 rfl ?_
        refine v_get (C := RX1) (T := TX1) (N := 3) (ci := 1) (v := .ref (a 1)) hX in_X1 0 rfl rfl 0 (by decide) fl_9 rfl rfl dX1_wipe_9 ?_
        refine v_iload_n hX dX1_wipe_12 rfl ?_
        refine v_iconst (x := (0 : Int32)) hX dX1_wipe_13 (by decide) ?_
        obtain ⟨v7, hv7⟩ : ∃ z_ : FV, z_ = F_setC (it F_w1 i v) (i) ((0 : Int32)) := ⟨_, rfl⟩
        refine v_iast (ws' := wF E a v7) hX 1 rfl (vp_in_nI (by omega : i < 24) (by omega)) (by rw [hv7]; exact sF_C E a (it F_w1 i v) (k := i) (by omega) _) dX1_wipe_14 ?_
        refine v_aload_n hX dX1_wipe_15 rfl ?_
        refine v_get (C := RX1) (T := TX1) (N := 3) (ci := 1) (v := .ref (a 2)) hX in_X1 0 rfl rfl 1 (by decide) fl_15 rfl rfl dX1_wipe_16 ?_
        refine v_iload_n hX dX1_wipe_19 rfl ?_
        refine v_iconst (x := (0 : Int32)) hX dX1_wipe_20 (by decide) ?_
        obtain ⟨v8, hv8⟩ : ∃ z_ : FV, z_ = F_setS v7 (i) (false) := ⟨_, rfl⟩
        refine v_zast (ws' := wF E a v8) hX 2 rfl (vp_in_nI (by omega : i < 24) (by omega)) (by rw [hv8]; exact sF_S E a v7 (k := i) (by omega) (false)) dX1_wipe_21 ?_
        refine v_iinc (y := nI (i + 1)) (lv' := [.ref (a 0), .int (nI (i + 1))]) hX dX1_wipe_22 rfl (nI_inc _) (Nat.le_of_ble_eq_true rfl) (Nat.le_of_ble_eq_true rfl) rfl rfl ?_
        refine v_goto (tgt := 2) hX dX1_wipe_25 (by decide) ?_
        have e9 : v8 = it F_w1 (i + 1) v := by subst hv8; subst hv7; first | rfl | (simp only [F_wipe, F_w1, F_w2, c6, it, if_true, if_false, reduceIte, Bool.false_eq_true, Bool.and_true, Bool.and_false, Bool.true_and, Bool.false_and, not_true_eq_false, not_false_eq_true, eq_self, ne_eq, reduceCtorEq, decide_true, decide_false, Bool.not_true, Bool.not_false]; done) | (simp only [F_wipe, F_w1, F_w2, c6, it, if_true, if_false, reduceIte, Bool.false_eq_true, Bool.and_true, Bool.and_false, Bool.true_and, Bool.false_and, not_true_eq_false, not_false_eq_true, eq_self, ne_eq, reduceCtorEq, decide_true, decide_false, Bool.not_true, Bool.not_false]; rfl)
        rw [e9]
        exact ih (i + 1)  (by omega) 
  exact loop_2 24 0  (by omega) 
set_option maxHeartbeats 4000000 in
set_option maxRecDepth 100000 in
theorem c_X5_howManyAreTrue (l : Launch) (E : ET) (a : Nat → Nat) (sz : Nat) (v : Nat × (Nat → Bool)) (hb : v.1 < 2147483648) : Met l yX5_howManyAreTrue wsX5_howManyAreTrue ({ frames := 0, cells := 0, slots := 0, locals := 0 }) (mPc E [.ref (a 0)] sz (wZ E a v)) (mQi E (cntT v.2 v.1) (wZ E a v) (wZ E a v) sz) 0 0 (va_A (wZ E a v) sz) := by
  refine v_start (cc := cX5_howManyAreTrue) (maxL := 6) (ret := (some .int)) (by decide) rfl (Nat.le_of_ble_eq_true rfl) rfl ?_
  intro p e s m args below meth c hsz hr hX
  have hX : Xc p s m args meth c E 6 (va_A (wZ E a v) sz) cX5_howManyAreTrue RX5 wsX5_howManyAreTrue := hX
  refine v_iconst (x := (0 : Int32)) hX dX5_howManyAreTrue_0 (by decide) ?_
  refine v_istore_n (lv' := [.ref (a 0), .int ((0 : Int32))]) hX dX5_howManyAreTrue_1 (Nat.le_of_ble_eq_true rfl) (Nat.le_of_ble_eq_true rfl) rfl rfl ?_
  refine v_aload_n hX dX5_howManyAreTrue_2 rfl ?_
  refine v_astore_n (lv' := [.ref (a 0), .int ((0 : Int32)), .ref (a 0)]) hX dX5_howManyAreTrue_3 (Nat.le_of_ble_eq_true rfl) (Nat.le_of_ble_eq_true rfl) rfl rfl ?_
  refine v_aload_n hX dX5_howManyAreTrue_4 rfl ?_
  refine v_alen (t0 := 1) (z := nI (v.1)) hX 0 rfl rfl rfl dX5_howManyAreTrue_5 ?_
  refine v_istore_n (lv' := [.ref (a 0), .int ((0 : Int32)), .ref (a 0), .int (nI (v.1))]) hX dX5_howManyAreTrue_6 (Nat.le_of_ble_eq_true rfl) (Nat.le_of_ble_eq_true rfl) rfl rfl ?_
  refine v_iconst (x := (0 : Int32)) hX dX5_howManyAreTrue_7 (by decide) ?_
  refine v_istore (lv' := [.ref (a 0), .int ((0 : Int32)), .ref (a 0), .int (nI (v.1)), .int ((0 : Int32))]) hX dX5_howManyAreTrue_8 (Nat.le_of_ble_eq_true rfl) (Nat.le_of_ble_eq_true rfl) rfl rfl ?_
  have loop_10 : ∀ (n i : Nat), i + n = v.1 → V p l e ({ frames := 0, cells := 0, slots := 0, locals := 0 } : Room) s m args below meth c E 6 (va_A (wZ E a v) sz) (MQ below (mQi E (cntT v.2 v.1) (wZ E a v) (wZ E a v) sz) args s 0 0 (va_A (wZ E a v) sz)) (wZ E a v) [.ref (a 0), .int (it (cntF v.2) i 0), .ref (a 0), .int (nI (v.1)), .int (nI (i))] 10 [] := by
    intro n
    induction n with
    | zero =>
      intro i  hin 
      have hi0 : i = v.1 := by omega
      subst hi0
      refine v_iload hX dX5_howManyAreTrue_10 rfl ?_
      refine v_iload_n hX dX5_howManyAreTrue_12 rfl ?_
      refine v_icmp_ge (tgt := 36) hX dX5_howManyAreTrue_13 (by decide) (fun c1 => ?_) (fun c1 => ?_)
      · replace c1 := (nI_leI (a := v.1) (b := v.1) (by omega) (by omega)).mp c1
        refine v_iload_n hX dX5_howManyAreTrue_36 rfl ?_
        exact v_iret hX hr hsz dX5_howManyAreTrue_37 rfl rfl (by (first | rfl | (simp only [cntT, cntF, c1, if_true, if_false, reduceIte, Bool.false_eq_true, reduceCtorEq, decide_true, decide_false, Bool.and_true, Bool.and_false, Bool.true_and, Bool.false_and, not_true_eq_false, not_false_eq_true, Bool.not_true, Bool.not_false, eq_self]; done) | (simp only [cntT, cntF, c1, if_true, if_false, reduceIte, Bool.false_eq_true, reduceCtorEq, decide_true, decide_false, Bool.and_true, Bool.and_false, Bool.true_and, Bool.false_and, not_true_eq_false, not_false_eq_true, Bool.not_true, Bool.not_false, eq_self]; rfl))) rfl
      · replace c1 := (not_congr (nI_leI (a := v.1) (b := v.1) (by omega) (by omega))).mp c1
        exfalso; omega
    | succ n ih =>
      intro i  hin 
      refine v_iload hX dX5_howManyAreTrue_10 rfl ?_
      refine v_iload_n hX dX5_howManyAreTrue_12 rfl ?_
      refine v_icmp_ge (tgt := 36) hX dX5_howManyAreTrue_13 (by decide) (fun c2 => ?_) (fun c2 => ?_)
      · replace c2 := (nI_leI (a := v.1) (b := i) (by omega) (by omega)).mp c2
        exfalso; omega
      · replace c2 := (not_congr (nI_leI (a := v.1) (b := i) (by omega) (by omega))).mp c2
        refine v_aload_n hX dX5_howManyAreTrue_16 rfl ?_
        refine v_iload hX dX5_howManyAreTrue_17 rfl ?_
        refine v_zald (z := bI (v.2 (i))) hX 0 rfl (vp_in_nI (by omega : i < v.1) (by omega)) (by simp only [nI_clamp (show i < 2 ^ 31 by omega)]) dX5_howManyAreTrue_19 ?_
        refine v_istore (lv' := [.ref (a 0), .int (it (cntF v.2) i 0), .ref (a 0), .int (nI (v.1)), .int (nI (i)), .int (bI (v.2 (i)))]) hX dX5_howManyAreTrue_20 (Nat.le_of_ble_eq_true rfl) (Nat.le_of_ble_eq_true rfl) rfl rfl ?_
        refine v_iload hX dX5_howManyAreTrue_22 rfl ?_
        refine v_if_eq (tgt := 30) hX dX5_howManyAreTrue_24 (by decide) (fun c3 => ?_) (fun c3 => ?_)
        · replace c3 := bI_0.mp c3
          refine v_iinc (y := nI (i + 1)) (lv' := [.ref (a 0), .int (it (cntF v.2) i 0), .ref (a 0), .int (nI (v.1)), .int (nI (i + 1)), .int (bI (v.2 (i)))]) hX dX5_howManyAreTrue_30 rfl (nI_inc _) (Nat.le_of_ble_eq_true rfl) (Nat.le_of_ble_eq_true rfl) rfl rfl ?_
          refine v_goto (tgt := 10) hX dX5_howManyAreTrue_33 (by decide) ?_
          have e4 : it (cntF v.2) i 0 = it (cntF v.2) (i + 1) 0 := by first | rfl | (simp only [cntT, cntF, c2, c3, it, if_true, if_false, reduceIte, Bool.false_eq_true, Bool.and_true, Bool.and_false, Bool.true_and, Bool.false_and, not_true_eq_false, not_false_eq_true, eq_self, ne_eq, reduceCtorEq, decide_true, decide_false, Bool.not_true, Bool.not_false]; done) | (simp only [cntT, cntF, c2, c3, it, if_true, if_false, reduceIte, Bool.false_eq_true, Bool.and_true, Bool.and_false, Bool.true_and, Bool.false_and, not_true_eq_false, not_false_eq_true, eq_self, ne_eq, reduceCtorEq, decide_true, decide_false, Bool.not_true, Bool.not_false]; rfl)
          rw [e4]
          exact v_fewer 5 rfl (ih (i + 1)  (by omega) )
        · replace c3 := bI_n0.mp c3
          refine v_iinc (y := (it (cntF v.2) i 0 + 1)) (lv' := [.ref (a 0), .int ((it (cntF v.2) i 0 + 1)), .ref (a 0), .int (nI (v.1)), .int (nI (i)), .int (bI (v.2 (i)))]) hX dX5_howManyAreTrue_27 rfl (rfl) (Nat.le_of_ble_eq_true rfl) (Nat.le_of_ble_eq_true rfl) rfl rfl ?_
          refine v_iinc (y := nI (i + 1)) (lv' := [.ref (a 0), .int ((it (cntF v.2) i 0 + 1)), .ref (a 0), .int (nI (v.1)), .int (nI (i + 1)), .int (bI (v.2 (i)))]) hX dX5_howManyAreTrue_30 rfl (nI_inc _) (Nat.le_of_ble_eq_true rfl) (Nat.le_of_ble_eq_true rfl) rfl rfl ?_
          refine v_goto (tgt := 10) hX dX5_howManyAreTrue_33 (by decide) ?_
          have e5 : (it (cntF v.2) i 0 + 1) = it (cntF v.2) (i + 1) 0 := by first | rfl | (simp only [cntT, cntF, c2, c3, it, if_true, if_false, reduceIte, Bool.false_eq_true, Bool.and_true, Bool.and_false, Bool.true_and, Bool.false_and, not_true_eq_false, not_false_eq_true, eq_self, ne_eq, reduceCtorEq, decide_true, decide_false, Bool.not_true, Bool.not_false]; done) | (simp only [cntT, cntF, c2, c3, it, if_true, if_false, reduceIte, Bool.false_eq_true, Bool.and_true, Bool.and_false, Bool.true_and, Bool.false_and, not_true_eq_false, not_false_eq_true, eq_self, ne_eq, reduceCtorEq, decide_true, decide_false, Bool.not_true, Bool.not_false]; rfl)
          rw [e5]
          exact v_fewer 5 rfl (ih (i + 1)  (by omega) )
  exact loop_10 v.1 0  (by omega) 
set_option maxHeartbeats 4000000 in
set_option maxRecDepth 100000 in
theorem c_X1_stuckCounters (l : Launch) (E : ET) (a : Nat → Nat) (sz : Nat) (v : FV) : Met l yX1_stuckCounters wsX1_stuckCounters ({ frames := 1, cells := 0, slots := 0, locals := 25 }) (mPc E [.ref (a 0)] sz (wF E a v)) (mQi E (cntT v.2.1 24) (wF E a v) (wF E a v) sz) 0 0 (va_A (wF E a v) sz) := by
  refine v_start (cc := cX1_stuckCounters) (maxL := 1) (ret := (some .int)) (by decide) rfl (Nat.le_of_ble_eq_true rfl) rfl ?_
  intro p e s m args below meth c hsz hr hX
  have hX : Xc p s m args meth c E 1 (va_A (wF E a v) sz) cX1_stuckCounters RX1 wsX1_stuckCounters := hX
  have in_X1 : ∀ w ∈ u_ws RX1 TX1 3, w ∈ wsX1_stuckCounters := by decide +kernel
  have fl_15 : Cond.fieldLink RX1 15 RX1 "stuck" "[Z" ∈ wsX1_stuckCounters := by decide +kernel
  have wd_Cond_static_yX5_howManyAreTrue : Cond.static yX5_howManyAreTrue ∈ wsX1_stuckCounters := by decide +kernel
  have wd_Cond_initialized_RX5 : Cond.initialized RX5 ∈ wsX1_stuckCounters := by decide +kernel
  refine v_aload_n hX dX1_stuckCounters_0 rfl ?_
  refine v_get (C := RX1) (T := TX1) (N := 3) (ci := 1) (v := .ref (a 2)) hX in_X1 0 rfl rfl 1 (by decide) fl_15 rfl rfl dX1_stuckCounters_1 ?_
  refine v_callSNi (r := cntT (24, v.2.1).2 (24, v.2.1).1) (rest := []) (ws' := wF E a v) hX (fun sz => c_X5_howManyAreTrue l E (fun _ => a 2) sz (24, v.2.1) (by first | omega | exact Nat.le_of_ble_eq_true rfl)) ⟨va_cnB (host := "SnoopFilter") 1 hX.2.2.2.2.1 gX1_stuckCounters_X5_howManyAreTrue_n41 rfl rfl rfl (hX.2.2.2.2.2.2.2.2 _ (by simp [nsts])) (hX.2.2.2.2.1 _ wd_Cond_initialized_RX5) (by decide +kernel) ⟨Nat.le_of_ble_eq_true rfl, Nat.le_of_ble_eq_true rfl⟩, hX.2.2.2.2.1 _ wd_Cond_static_yX5_howManyAreTrue, trivial⟩ ((wF E a v).take 2) ((wF E a v).drop 3) (rfl) (rfl).symm (rfl) rfl rfl (Nat.le_of_ble_eq_true rfl) dX1_stuckCounters_4 ?_
  exact v_iret hX hr hsz dX1_stuckCounters_7 rfl rfl (by (first | rfl | (simp only [if_true, if_false, reduceIte, Bool.false_eq_true, reduceCtorEq, decide_true, decide_false, Bool.and_true, Bool.and_false, Bool.true_and, Bool.false_and, not_true_eq_false, not_false_eq_true, Bool.not_true, Bool.not_false, eq_self]; done) | (simp only [if_true, if_false, reduceIte, Bool.false_eq_true, reduceCtorEq, decide_true, decide_false, Bool.and_true, Bool.and_false, Bool.true_and, Bool.false_and, not_true_eq_false, not_false_eq_true, Bool.not_true, Bool.not_false, eq_self]; rfl))) rfl
set_option maxHeartbeats 4000000 in
set_option maxRecDepth 100000 in
theorem c_X1_bitsThatAreOne (l : Launch) (E : ET) (a : Nat → Nat) (sz : Nat) (v : FV) : Met l yX1_bitsThatAreOne wsX1_bitsThatAreOne ({ frames := 1, cells := 0, slots := 0, locals := 25 }) (mPc E [.ref (a 0)] sz (wF E a v)) (mQi E (cntT v.2.2 16) (wF E a v) (wF E a v) sz) 0 0 (va_A (wF E a v) sz) := by
  refine v_start (cc := cX1_bitsThatAreOne) (maxL := 1) (ret := (some .int)) (by decide) rfl (Nat.le_of_ble_eq_true rfl) rfl ?_
  intro p e s m args below meth c hsz hr hX
  have hX : Xc p s m args meth c E 1 (va_A (wF E a v) sz) cX1_bitsThatAreOne RX1 wsX1_bitsThatAreOne := hX
  have in_X1 : ∀ w ∈ u_ws RX1 TX1 3, w ∈ wsX1_bitsThatAreOne := by decide +kernel
  have fl_19 : Cond.fieldLink RX1 19 RX1 "bits" "[Z" ∈ wsX1_bitsThatAreOne := by decide +kernel
  have wd_Cond_static_yX5_howManyAreTrue : Cond.static yX5_howManyAreTrue ∈ wsX1_bitsThatAreOne := by decide +kernel
  have wd_Cond_initialized_RX5 : Cond.initialized RX5 ∈ wsX1_bitsThatAreOne := by decide +kernel
  refine v_aload_n hX dX1_bitsThatAreOne_0 rfl ?_
  refine v_get (C := RX1) (T := TX1) (N := 3) (ci := 1) (v := .ref (a 3)) hX in_X1 0 rfl rfl 2 (by decide) fl_19 rfl rfl dX1_bitsThatAreOne_1 ?_
  refine v_callSNi (r := cntT (16, v.2.2).2 (16, v.2.2).1) (rest := []) (ws' := wF E a v) hX (fun sz => c_X5_howManyAreTrue l E (fun _ => a 3) sz (16, v.2.2) (by first | omega | exact Nat.le_of_ble_eq_true rfl)) ⟨va_cnB (host := "SnoopFilter") 1 hX.2.2.2.2.1 gX1_bitsThatAreOne_X5_howManyAreTrue_n41 rfl rfl rfl (hX.2.2.2.2.2.2.2.2 _ (by simp [nsts])) (hX.2.2.2.2.1 _ wd_Cond_initialized_RX5) (by decide +kernel) ⟨Nat.le_of_ble_eq_true rfl, Nat.le_of_ble_eq_true rfl⟩, hX.2.2.2.2.1 _ wd_Cond_static_yX5_howManyAreTrue, trivial⟩ ((wF E a v).take 3) ((wF E a v).drop 4) (rfl) (rfl).symm (rfl) rfl rfl (Nat.le_of_ble_eq_true rfl) dX1_bitsThatAreOne_4 ?_
  exact v_iret hX hr hsz dX1_bitsThatAreOne_7 rfl rfl (by (first | rfl | (simp only [if_true, if_false, reduceIte, Bool.false_eq_true, reduceCtorEq, decide_true, decide_false, Bool.and_true, Bool.and_false, Bool.true_and, Bool.false_and, not_true_eq_false, not_false_eq_true, Bool.not_true, Bool.not_false, eq_self]; done) | (simp only [if_true, if_false, reduceIte, Bool.false_eq_true, reduceCtorEq, decide_true, decide_false, Bool.and_true, Bool.and_false, Bool.true_and, Bool.false_and, not_true_eq_false, not_false_eq_true, Bool.not_true, Bool.not_false, eq_self]; rfl))) rfl
set_option maxHeartbeats 4000000 in
set_option maxRecDepth 100000 in
theorem c_X1_copyFrom (l : Launch) (E : ET) (a b : Nat → Nat) (sz : Nat) (v u : FV) : Met l yX1_copyFrom wsX1_copyFrom ({ frames := 1, cells := 0, slots := 0, locals := 18 }) (mPc E [.ref (a 0), .ref (b 0)] sz (wF E a v ++ wF E b u)) (mQv E (wF E a v ++ wF E b u) (wF E a u ++ wF E b u) sz) 0 0 (va_A (wF E a v ++ wF E b u) sz) := by
  refine v_start (cc := cX1_copyFrom) (maxL := 2) (ret := none) (by decide) rfl (Nat.le_of_ble_eq_true rfl) rfl ?_
  intro p e s m args below meth c hsz hr hX
  have hX : Xc p s m args meth c E 2 (va_A (wF E a v ++ wF E b u) sz) cX1_copyFrom RX1 wsX1_copyFrom := hX
  have in_X1 : ∀ w ∈ u_ws RX1 TX1 3, w ∈ wsX1_copyFrom := by decide +kernel
  have fl_9 : Cond.fieldLink RX1 9 RX1 "counters" "[I" ∈ wsX1_copyFrom := by decide +kernel
  have wd_Cond_methodLink_RX1_45_arraycopyName : Cond.methodLink RX1 45 arraycopyName ∈ wsX1_copyFrom := by decide +kernel
  have wd_Cond_native_arraycopyName : Cond.native arraycopyName ∈ wsX1_copyFrom := by decide +kernel
  have wd_Cond_static_arraycopyName : Cond.static arraycopyName ∈ wsX1_copyFrom := by decide +kernel
  have wd_Cond_initialized_java_lang_System_ : Cond.initialized "java/lang/System" ∈ wsX1_copyFrom := by decide +kernel
  have fl_15 : Cond.fieldLink RX1 15 RX1 "stuck" "[Z" ∈ wsX1_copyFrom := by decide +kernel
  have fl_19 : Cond.fieldLink RX1 19 RX1 "bits" "[Z" ∈ wsX1_copyFrom := by decide +kernel
  refine v_aload_n hX dX1_copyFrom_0 rfl ?_
  refine v_get (C := RX1) (T := TX1) (N := 3) (ci := 1) (v := .ref (b 1)) hX in_X1 4 rfl rfl 0 (by decide) fl_9 rfl rfl dX1_copyFrom_1 ?_
  refine v_iconst (x := (0 : Int32)) hX dX1_copyFrom_4 (by decide) ?_
  refine v_aload_n hX dX1_copyFrom_5 rfl ?_
  refine v_get (C := RX1) (T := TX1) (N := 3) (ci := 1) (v := .ref (a 1)) hX in_X1 0 rfl rfl 0 (by decide) fl_9 rfl rfl dX1_copyFrom_6 ?_
  refine v_iconst (x := (0 : Int32)) hX dX1_copyFrom_9 (by decide) ?_
  refine v_bipush (x := (24 : Int32)) hX dX1_copyFrom_10 (by decide) ?_
  obtain ⟨v1, hv1⟩ : ∃ z_ : FV, z_ = (u.1, v.2.1, v.2.2) := ⟨_, rfl⟩
  refine v_copyAll (ws' := wF E a v1 ++ wF E b u) (ty := .int) hX wd_Cond_methodLink_RX1_45_arraycopyName wd_Cond_native_arraycopyName wd_Cond_static_arraycopyName wd_Cond_initialized_java_lang_System_ 5 1 0 rfl rfl rfl rfl (n := 24) rfl (by decide) (fun _ => rfl) (Nat.le_of_ble_eq_true rfl) (Nat.le_of_ble_eq_true rfl) dX1_copyFrom_12 (by rw [hv1]; rfl) ?_
  refine v_aload_n hX dX1_copyFrom_15 rfl ?_
  refine v_get (C := RX1) (T := TX1) (N := 3) (ci := 1) (v := .ref (b 2)) hX in_X1 4 rfl rfl 1 (by decide) fl_15 rfl rfl dX1_copyFrom_16 ?_
  refine v_iconst (x := (0 : Int32)) hX dX1_copyFrom_19 (by decide) ?_
  refine v_aload_n hX dX1_copyFrom_20 rfl ?_
  refine v_get (C := RX1) (T := TX1) (N := 3) (ci := 1) (v := .ref (a 2)) hX in_X1 0 rfl rfl 1 (by decide) fl_15 rfl rfl dX1_copyFrom_21 ?_
  refine v_iconst (x := (0 : Int32)) hX dX1_copyFrom_24 (by decide) ?_
  refine v_bipush (x := (24 : Int32)) hX dX1_copyFrom_25 (by decide) ?_
  obtain ⟨v2, hv2⟩ : ∃ z_ : FV, z_ = (v1.1, u.2.1, v1.2.2) := ⟨_, rfl⟩
  refine v_copyAll (ws' := wF E a v2 ++ wF E b u) (ty := .boolean) hX wd_Cond_methodLink_RX1_45_arraycopyName wd_Cond_native_arraycopyName wd_Cond_static_arraycopyName wd_Cond_initialized_java_lang_System_ 6 2 1 rfl rfl rfl rfl (n := 24) rfl (by decide) (fun _ => bI_fits _) (Nat.le_of_ble_eq_true rfl) (Nat.le_of_ble_eq_true rfl) dX1_copyFrom_27 (by rw [hv2]; rfl) ?_
  refine v_aload_n hX dX1_copyFrom_30 rfl ?_
  refine v_get (C := RX1) (T := TX1) (N := 3) (ci := 1) (v := .ref (b 3)) hX in_X1 4 rfl rfl 2 (by decide) fl_19 rfl rfl dX1_copyFrom_31 ?_
  refine v_iconst (x := (0 : Int32)) hX dX1_copyFrom_34 (by decide) ?_
  refine v_aload_n hX dX1_copyFrom_35 rfl ?_
  refine v_get (C := RX1) (T := TX1) (N := 3) (ci := 1) (v := .ref (a 3)) hX in_X1 0 rfl rfl 2 (by decide) fl_19 rfl rfl dX1_copyFrom_36 ?_
  refine v_iconst (x := (0 : Int32)) hX dX1_copyFrom_39 (by decide) ?_
  refine v_bipush (x := (16 : Int32)) hX dX1_copyFrom_40 (by decide) ?_
  obtain ⟨v3, hv3⟩ : ∃ z_ : FV, z_ = (v2.1, v2.2.1, u.2.2) := ⟨_, rfl⟩
  refine v_copyAll (ws' := wF E a v3 ++ wF E b u) (ty := .boolean) hX wd_Cond_methodLink_RX1_45_arraycopyName wd_Cond_native_arraycopyName wd_Cond_static_arraycopyName wd_Cond_initialized_java_lang_System_ 7 3 1 rfl rfl rfl rfl (n := 16) rfl (by decide) (fun _ => bI_fits _) (Nat.le_of_ble_eq_true rfl) (Nat.le_of_ble_eq_true rfl) dX1_copyFrom_42 (by rw [hv3]; rfl) ?_
  exact v_vret hX hr hsz dX1_copyFrom_45 rfl rfl (by (subst hv3; subst hv2; subst hv1; first | rfl | (simp only [if_true, if_false, reduceIte, Bool.false_eq_true, reduceCtorEq, decide_true, decide_false, Bool.and_true, Bool.and_false, Bool.true_and, Bool.false_and, not_true_eq_false, not_false_eq_true, Bool.not_true, Bool.not_false, eq_self]; done) | (simp only [if_true, if_false, reduceIte, Bool.false_eq_true, reduceCtorEq, decide_true, decide_false, Bool.and_true, Bool.and_false, Bool.true_and, Bool.false_and, not_true_eq_false, not_false_eq_true, Bool.not_true, Bool.not_false, eq_self]; rfl)))
end
section
/-! ===== what the methods do, in words: cores ===== -/
def K_holds (v : KV) (n : Fin 256) : Bool := decide (v.1 (n.val % 8) = some n)
def K_hd (v : KV) (n : Fin 256) : Bool := K_holds v n && v.2.2.1 (n.val % 8)
def K_fill (v : KV) (n : Fin 256) (x : Int32) (b : Bool) : KV := K_setD (K_setV (K_setL v (n.val % 8) (some n)) (n.val % 8) x) (n.val % 8) b
def K_empty (v : KV) (p : Nat) : KV := K_setD (K_setL v p none) p false
def K_release (v : KV) (n : Fin 256) : KV := K_empty (K_setF v (F_remove v.2.2.2.2 n.val)) (n.val % 8)
def K_may (v : KV) (n : Fin 256) : Bool := F_may v.2.2.2.2 n.val
def K_tick (v : KV) (t : Nat) : KV := K_setT v t (v.2.2.2.1 t + 1)
def K_reach (v : KV) (n : Fin 256) : KV := if K_may v n = true then (if K_holds (K_tick v 2) n = true then K_tick v 2 else K_tick (K_tick v 2) 3) else K_tick v 4
def K_heldF (v : KV) : Nat → Int32 → Int32 := fun i x => if v.1 i = none then x else x + 1
def K_held (v : KV) : Int32 := it (K_heldF v) 8 0
def K_dirties (v : KV) : Int32 := cntT v.2.2.1 8
def K_nothing (v : KV) : Bool := decide (K_held v = 0) && (decide (F_above v.2.2.2.2 = 0) && decide (cntT v.2.2.2.2.2.2 16 = 0))
set_option maxHeartbeats 4000000 in
set_option maxRecDepth 100000 in
theorem c_X0_holds (l : Launch) (E : ET) (a : Nat → Nat) (sz : Nat) (v : KV) (n : Fin 256) : Met l yX0_holds wsX0_holds ({ frames := 1, cells := 0, slots := 0, locals := 20 }) (mPc E [.ref (a 0), .int (nI (n).val)] sz (wK E a v)) (mQi E (bI (K_holds v n)) (wK E a v) (wK E a v) sz) 0 0 (va_A (wK E a v) sz) := by
  refine v_start (cc := cX0_holds) (maxL := 2) (ret := (some .boolean)) (by decide) rfl (Nat.le_of_ble_eq_true rfl) rfl ?_
  intro p e s m args below meth c hsz hr hX
  have hX : Xc p s m args meth c E 2 (va_A (wK E a v) sz) cX0_holds RX0 wsX0_holds := hX
  have in_X0 : ∀ w ∈ u_ws RX0 TX0 5, w ∈ wsX0_holds := by decide +kernel
  have fl_9 : Cond.fieldLink RX0 9 RX0 "lines" "[I" ∈ wsX0_holds := by decide +kernel
  have hlt_n := n.isLt
  refine v_aload_n hX dX0_holds_0 rfl ?_
  refine v_get (C := RX0) (T := TX0) (N := 5) (ci := 0) (v := .ref (a 1)) hX in_X0 0 rfl rfl 0 (by decide) fl_9 rfl rfl dX0_holds_1 ?_
  refine v_iload_n hX dX0_holds_4 rfl ?_
  refine v_callSi (r := nI (((n).val) % 8)) (rest := [.ref (a 1)]) (ws' := wK E a v) hX (fun sz => c_X0_placeOf l E sz ((n).val) (by first | omega | exact Nat.le_of_ble_eq_true rfl)) (va_cwS 1 hX.2.2.2.2.1 gX0_holds_X0_placeOf rfl rfl rfl (by decide +kernel) ⟨Nat.le_of_ble_eq_true rfl, Nat.le_of_ble_eq_true rfl⟩) ([]) (wK E a v) (rfl) rfl (rfl) rfl rfl (Nat.le_of_ble_eq_true rfl) dX0_holds_5 ?_
  refine v_iald (z := encL (v.1 (((n).val) % 8))) hX 1 rfl (vp_in_nI (by omega : ((n).val) % 8 < 8) (by omega)) (by simp only [nI_clamp (show ((n).val) % 8 < 2 ^ 31 by omega)]) dX0_holds_8 ?_
  refine v_iload_n hX dX0_holds_9 rfl ?_
  refine v_icmp_ne (tgt := 17) hX dX0_holds_10 (by decide) (fun c1 => ?_) (fun c1 => ?_)
  · replace c1 := (not_congr encL_eq).mp c1
    refine v_iconst (x := (0 : Int32)) hX dX0_holds_17 (by decide) ?_
    exact v_zret hX hr hsz dX0_holds_18 rfl rfl (bI_narrow (false)) (congrArg bI (by (first | rfl | (simp only [K_holds, c1, if_true, if_false, reduceIte, Bool.false_eq_true, reduceCtorEq, decide_true, decide_false, Bool.and_true, Bool.and_false, Bool.true_and, Bool.false_and, not_true_eq_false, not_false_eq_true, Bool.not_true, Bool.not_false, eq_self]; done) | (simp only [K_holds, c1, if_true, if_false, reduceIte, Bool.false_eq_true, reduceCtorEq, decide_true, decide_false, Bool.and_true, Bool.and_false, Bool.true_and, Bool.false_and, not_true_eq_false, not_false_eq_true, Bool.not_true, Bool.not_false, eq_self]; rfl)) : false = K_holds v n)) rfl
  · replace c1 := encL_eq.mp c1
    refine v_iconst (x := (1 : Int32)) hX dX0_holds_13 (by decide) ?_
    refine v_goto (tgt := 18) hX dX0_holds_14 (by decide) ?_
    exact v_zret hX hr hsz dX0_holds_18 rfl rfl (bI_narrow (true)) (congrArg bI (by (first | rfl | (simp only [K_holds, c1, if_true, if_false, reduceIte, Bool.false_eq_true, reduceCtorEq, decide_true, decide_false, Bool.and_true, Bool.and_false, Bool.true_and, Bool.false_and, not_true_eq_false, not_false_eq_true, Bool.not_true, Bool.not_false, eq_self]; done) | (simp only [K_holds, c1, if_true, if_false, reduceIte, Bool.false_eq_true, reduceCtorEq, decide_true, decide_false, Bool.and_true, Bool.and_false, Bool.true_and, Bool.false_and, not_true_eq_false, not_false_eq_true, Bool.not_true, Bool.not_false, eq_self]; rfl)) : true = K_holds v n)) rfl
set_option maxHeartbeats 4000000 in
set_option maxRecDepth 100000 in
theorem c_X0_holdsDirty (l : Launch) (E : ET) (a : Nat → Nat) (sz : Nat) (v : KV) (n : Fin 256) : Met l yX0_holdsDirty wsX0_holdsDirty ({ frames := 2, cells := 0, slots := 0, locals := 41 }) (mPc E [.ref (a 0), .int (nI (n).val)] sz (wK E a v)) (mQi E (bI (K_hd v n)) (wK E a v) (wK E a v) sz) 0 0 (va_A (wK E a v) sz) := by
  refine v_start (cc := cX0_holdsDirty) (maxL := 2) (ret := (some .boolean)) (by decide) rfl (Nat.le_of_ble_eq_true rfl) rfl ?_
  intro p e s m args below meth c hsz hr hX
  have hX : Xc p s m args meth c E 2 (va_A (wK E a v) sz) cX0_holdsDirty RX0 wsX0_holdsDirty := hX
  have in_X0 : ∀ w ∈ u_ws RX0 TX0 5, w ∈ wsX0_holdsDirty := by decide +kernel
  have fl_18 : Cond.fieldLink RX0 18 RX0 "dirty" "[Z" ∈ wsX0_holdsDirty := by decide +kernel
  have hlt_n := n.isLt
  refine v_aload_n hX dX0_holdsDirty_0 rfl ?_
  refine v_iload_n hX dX0_holdsDirty_1 rfl ?_
  refine v_callVi (r := bI (K_holds v n)) (rest := []) (ws' := wK E a v) hX (fun sz => c_X0_holds l E a sz v n) (cwV 1 hX.2.2.2.2.1 gX0_holdsDirty_X0_holds rfl rfl rfl (by decide +kernel) ⟨Nat.le_of_ble_eq_true rfl, Nat.le_of_ble_eq_true rfl⟩) ([]) ([]) ((List.append_nil _).symm) ((List.append_nil _).symm).symm (wK_fst E a _ _) (ci := 0) (q0 := 0) rfl rfl rfl rfl rfl (Nat.le_of_ble_eq_true rfl) dX0_holdsDirty_2 ?_
  refine v_if_eq (tgt := 24) hX dX0_holdsDirty_5 (by decide) (fun c1 => ?_) (fun c1 => ?_)
  · replace c1 := bI_0.mp c1
    refine v_iconst (x := (0 : Int32)) hX dX0_holdsDirty_24 (by decide) ?_
    exact v_zret hX hr hsz dX0_holdsDirty_25 rfl rfl (bI_narrow (false)) (congrArg bI (by (first | rfl | (simp only [K_hd, c1, if_true, if_false, reduceIte, Bool.false_eq_true, reduceCtorEq, decide_true, decide_false, Bool.and_true, Bool.and_false, Bool.true_and, Bool.false_and, not_true_eq_false, not_false_eq_true, Bool.not_true, Bool.not_false, eq_self]; done) | (simp only [K_hd, c1, if_true, if_false, reduceIte, Bool.false_eq_true, reduceCtorEq, decide_true, decide_false, Bool.and_true, Bool.and_false, Bool.true_and, Bool.false_and, not_true_eq_false, not_false_eq_true, Bool.not_true, Bool.not_false, eq_self]; rfl)) : false = K_hd v n)) rfl
  · replace c1 := bI_n0.mp c1
    refine v_aload_n hX dX0_holdsDirty_8 rfl ?_
    refine v_get (C := RX0) (T := TX0) (N := 5) (ci := 0) (v := .ref (a 3)) hX in_X0 0 rfl rfl 2 (by decide) fl_18 rfl rfl dX0_holdsDirty_9 ?_
    refine v_iload_n hX dX0_holdsDirty_12 rfl ?_
    refine v_callSi (r := nI (((n).val) % 8)) (rest := [.ref (a 3)]) (ws' := wK E a v) hX (fun sz => c_X0_placeOf l E sz ((n).val) (by first | omega | exact Nat.le_of_ble_eq_true rfl)) (va_cwS 1 hX.2.2.2.2.1 gX0_holdsDirty_X0_placeOf rfl rfl rfl (by decide +kernel) ⟨Nat.le_of_ble_eq_true rfl, Nat.le_of_ble_eq_true rfl⟩) ([]) (wK E a v) (rfl) rfl (rfl) rfl rfl (Nat.le_of_ble_eq_true rfl) dX0_holdsDirty_13 ?_
    refine v_zald (z := bI (v.2.2.1 (((n).val) % 8))) hX 3 rfl (vp_in_nI (by omega : ((n).val) % 8 < 8) (by omega)) (by simp only [nI_clamp (show ((n).val) % 8 < 2 ^ 31 by omega)]) dX0_holdsDirty_16 ?_
    refine v_if_eq (tgt := 24) hX dX0_holdsDirty_17 (by decide) (fun c2 => ?_) (fun c2 => ?_)
    · replace c2 := bI_0.mp c2
      refine v_iconst (x := (0 : Int32)) hX dX0_holdsDirty_24 (by decide) ?_
      exact v_zret hX hr hsz dX0_holdsDirty_25 rfl rfl (bI_narrow (false)) (congrArg bI (by (first | rfl | (simp only [K_hd, c1, c2, if_true, if_false, reduceIte, Bool.false_eq_true, reduceCtorEq, decide_true, decide_false, Bool.and_true, Bool.and_false, Bool.true_and, Bool.false_and, not_true_eq_false, not_false_eq_true, Bool.not_true, Bool.not_false, eq_self]; done) | (simp only [K_hd, c1, c2, if_true, if_false, reduceIte, Bool.false_eq_true, reduceCtorEq, decide_true, decide_false, Bool.and_true, Bool.and_false, Bool.true_and, Bool.false_and, not_true_eq_false, not_false_eq_true, Bool.not_true, Bool.not_false, eq_self]; rfl)) : false = K_hd v n)) rfl
    · replace c2 := bI_n0.mp c2
      refine v_iconst (x := (1 : Int32)) hX dX0_holdsDirty_20 (by decide) ?_
      refine v_goto (tgt := 25) hX dX0_holdsDirty_21 (by decide) ?_
      exact v_zret hX hr hsz dX0_holdsDirty_25 rfl rfl (bI_narrow (true)) (congrArg bI (by (first | rfl | (simp only [K_hd, c1, c2, if_true, if_false, reduceIte, Bool.false_eq_true, reduceCtorEq, decide_true, decide_false, Bool.and_true, Bool.and_false, Bool.true_and, Bool.false_and, not_true_eq_false, not_false_eq_true, Bool.not_true, Bool.not_false, eq_self]; done) | (simp only [K_hd, c1, c2, if_true, if_false, reduceIte, Bool.false_eq_true, reduceCtorEq, decide_true, decide_false, Bool.and_true, Bool.and_false, Bool.true_and, Bool.false_and, not_true_eq_false, not_false_eq_true, Bool.not_true, Bool.not_false, eq_self]; rfl)) : true = K_hd v n)) rfl
set_option maxHeartbeats 4000000 in
set_option maxRecDepth 100000 in
theorem c_X0_fill (l : Launch) (E : ET) (a : Nat → Nat) (sz : Nat) (v : KV) (n : Fin 256) (x : Int32) (b : Bool) : Met l yX0_fill wsX0_fill ({ frames := 1, cells := 0, slots := 0, locals := 20 }) (mPc E [.ref (a 0), .int (nI (n).val), .int (x), .int (bI (b))] sz (wK E a v)) (mQv E (wK E a v) (wK E a (K_fill v n x b)) sz) 0 0 (va_A (wK E a v) sz) := by
  refine v_start (cc := cX0_fill) (maxL := 5) (ret := none) (by decide) rfl (Nat.le_of_ble_eq_true rfl) rfl ?_
  intro p e s m args below meth c hsz hr hX
  have hX : Xc p s m args meth c E 5 (va_A (wK E a v) sz) cX0_fill RX0 wsX0_fill := hX
  have in_X0 : ∀ w ∈ u_ws RX0 TX0 5, w ∈ wsX0_fill := by decide +kernel
  have fl_9 : Cond.fieldLink RX0 9 RX0 "lines" "[I" ∈ wsX0_fill := by decide +kernel
  have fl_15 : Cond.fieldLink RX0 15 RX0 "values" "[I" ∈ wsX0_fill := by decide +kernel
  have fl_18 : Cond.fieldLink RX0 18 RX0 "dirty" "[Z" ∈ wsX0_fill := by decide +kernel
  have hlt_n := n.isLt
  refine v_iload_n hX dX0_fill_0 rfl ?_
  refine v_callSi (r := nI (((n).val) % 8)) (rest := []) (ws' := wK E a v) hX (fun sz => c_X0_placeOf l E sz ((n).val) (by first | omega | exact Nat.le_of_ble_eq_true rfl)) (va_cwS 1 hX.2.2.2.2.1 gX0_fill_X0_placeOf rfl rfl rfl (by decide +kernel) ⟨Nat.le_of_ble_eq_true rfl, Nat.le_of_ble_eq_true rfl⟩) ([]) (wK E a v) (rfl) rfl (rfl) rfl rfl (Nat.le_of_ble_eq_true rfl) dX0_fill_1 ?_
  refine v_istore (lv' := [.ref (a 0), .int (nI (n).val), .int (x), .int (bI (b)), .int (nI (((n).val) % 8))]) hX dX0_fill_4 (Nat.le_of_ble_eq_true rfl) (Nat.le_of_ble_eq_true rfl) rfl rfl ?_
  refine v_aload_n hX dX0_fill_6 rfl ?_
  refine v_get (C := RX0) (T := TX0) (N := 5) (ci := 0) (v := .ref (a 1)) hX in_X0 0 rfl rfl 0 (by decide) fl_9 rfl rfl dX0_fill_7 ?_
  refine v_iload hX dX0_fill_10 rfl ?_
  refine v_iload_n hX dX0_fill_12 rfl ?_
  obtain ⟨v1, hv1⟩ : ∃ z_ : KV, z_ = K_setL v (((n).val) % 8) (some n) := ⟨_, rfl⟩
  refine v_iast (ws' := wK E a v1) hX 1 rfl (vp_in_nI (by omega : ((n).val) % 8 < 8) (by omega)) (by rw [hv1]; exact sK_L E a v (k := ((n).val) % 8) (by omega) (some n)) dX0_fill_13 ?_
  refine v_aload_n hX dX0_fill_14 rfl ?_
  refine v_get (C := RX0) (T := TX0) (N := 5) (ci := 0) (v := .ref (a 2)) hX in_X0 0 rfl rfl 1 (by decide) fl_15 rfl rfl dX0_fill_15 ?_
  refine v_iload hX dX0_fill_18 rfl ?_
  refine v_iload_n hX dX0_fill_20 rfl ?_
  obtain ⟨v2, hv2⟩ : ∃ z_ : KV, z_ = K_setV v1 (((n).val) % 8) (x) := ⟨_, rfl⟩
  refine v_iast (ws' := wK E a v2) hX 2 rfl (vp_in_nI (by omega : ((n).val) % 8 < 8) (by omega)) (by rw [hv2]; exact sK_V E a v1 (k := ((n).val) % 8) (by omega) _) dX0_fill_21 ?_
  refine v_aload_n hX dX0_fill_22 rfl ?_
  refine v_get (C := RX0) (T := TX0) (N := 5) (ci := 0) (v := .ref (a 3)) hX in_X0 0 rfl rfl 2 (by decide) fl_18 rfl rfl dX0_fill_23 ?_
  refine v_iload hX dX0_fill_26 rfl ?_
  refine v_iload_n hX dX0_fill_28 rfl ?_
  obtain ⟨v3, hv3⟩ : ∃ z_ : KV, z_ = K_setD v2 (((n).val) % 8) (b) := ⟨_, rfl⟩
  refine v_zast (ws' := wK E a v3) hX 3 rfl (vp_in_nI (by omega : ((n).val) % 8 < 8) (by omega)) (by rw [hv3]; exact sK_D E a v2 (k := ((n).val) % 8) (by omega) (b)) dX0_fill_29 ?_
  exact v_vret hX hr hsz dX0_fill_30 rfl rfl (by (subst hv3; subst hv2; subst hv1; first | rfl | (simp only [K_fill, if_true, if_false, reduceIte, Bool.false_eq_true, reduceCtorEq, decide_true, decide_false, Bool.and_true, Bool.and_false, Bool.true_and, Bool.false_and, not_true_eq_false, not_false_eq_true, Bool.not_true, Bool.not_false, eq_self]; done) | (simp only [K_fill, if_true, if_false, reduceIte, Bool.false_eq_true, reduceCtorEq, decide_true, decide_false, Bool.and_true, Bool.and_false, Bool.true_and, Bool.false_and, not_true_eq_false, not_false_eq_true, Bool.not_true, Bool.not_false, eq_self]; rfl)))
set_option maxHeartbeats 4000000 in
set_option maxRecDepth 100000 in
theorem c_X0_empty (l : Launch) (E : ET) (a : Nat → Nat) (sz : Nat) (v : KV) (pl : Nat) (hpl : pl < 8) : Met l yX0_empty wsX0_empty ({ frames := 0, cells := 0, slots := 0, locals := 0 }) (mPc E [.ref (a 0), .int (nI (pl))] sz (wK E a v)) (mQv E (wK E a v) (wK E a (K_empty v pl)) sz) 0 0 (va_A (wK E a v) sz) := by
  refine v_start (cc := cX0_empty) (maxL := 2) (ret := none) (by decide) rfl (Nat.le_of_ble_eq_true rfl) rfl ?_
  intro p e s m args below meth c hsz hr hX
  have hX : Xc p s m args meth c E 2 (va_A (wK E a v) sz) cX0_empty RX0 wsX0_empty := hX
  have in_X0 : ∀ w ∈ u_ws RX0 TX0 5, w ∈ wsX0_empty := by decide +kernel
  have fl_9 : Cond.fieldLink RX0 9 RX0 "lines" "[I" ∈ wsX0_empty := by decide +kernel
  have fl_18 : Cond.fieldLink RX0 18 RX0 "dirty" "[Z" ∈ wsX0_empty := by decide +kernel
  refine v_aload_n hX dX0_empty_0 rfl ?_
  refine v_get (C := RX0) (T := TX0) (N := 5) (ci := 0) (v := .ref (a 1)) hX in_X0 0 rfl rfl 0 (by decide) fl_9 rfl rfl dX0_empty_1 ?_
  refine v_iload_n hX dX0_empty_4 rfl ?_
  refine v_iconst (x := (-1 : Int32)) hX dX0_empty_5 (by decide) ?_
  obtain ⟨v1, hv1⟩ : ∃ z_ : KV, z_ = K_setL v (pl) (none) := ⟨_, rfl⟩
  refine v_iast (ws' := wK E a v1) hX 1 rfl (vp_in_nI (by omega : pl < 8) (by omega)) (by rw [hv1]; exact sK_L E a v (k := pl) (by omega) (none)) dX0_empty_6 ?_
  refine v_aload_n hX dX0_empty_7 rfl ?_
  refine v_get (C := RX0) (T := TX0) (N := 5) (ci := 0) (v := .ref (a 3)) hX in_X0 0 rfl rfl 2 (by decide) fl_18 rfl rfl dX0_empty_8 ?_
  refine v_iload_n hX dX0_empty_11 rfl ?_
  refine v_iconst (x := (0 : Int32)) hX dX0_empty_12 (by decide) ?_
  obtain ⟨v2, hv2⟩ : ∃ z_ : KV, z_ = K_setD v1 (pl) (false) := ⟨_, rfl⟩
  refine v_zast (ws' := wK E a v2) hX 3 rfl (vp_in_nI (by omega : pl < 8) (by omega)) (by rw [hv2]; exact sK_D E a v1 (k := pl) (by omega) (false)) dX0_empty_13 ?_
  exact v_vret hX hr hsz dX0_empty_14 rfl rfl (by (subst hv2; subst hv1; first | rfl | (simp only [K_empty, if_true, if_false, reduceIte, Bool.false_eq_true, reduceCtorEq, decide_true, decide_false, Bool.and_true, Bool.and_false, Bool.true_and, Bool.false_and, not_true_eq_false, not_false_eq_true, Bool.not_true, Bool.not_false, eq_self]; done) | (simp only [K_empty, if_true, if_false, reduceIte, Bool.false_eq_true, reduceCtorEq, decide_true, decide_false, Bool.and_true, Bool.and_false, Bool.true_and, Bool.false_and, not_true_eq_false, not_false_eq_true, Bool.not_true, Bool.not_false, eq_self]; rfl)))
set_option maxHeartbeats 4000000 in
set_option maxRecDepth 100000 in
theorem c_X0_release (l : Launch) (E : ET) (a : Nat → Nat) (sz : Nat) (v : KV) (n : Fin 256) : Met l yX0_release wsX0_release ({ frames := 2, cells := 0, slots := 0, locals := 42 }) (mPc E [.ref (a 0), .int (nI (n).val)] sz (wK E a v)) (mQv E (wK E a v) (wK E a (K_release v n)) sz) 0 0 (va_A (wK E a v) sz) := by
  refine v_start (cc := cX0_release) (maxL := 2) (ret := none) (by decide) rfl (Nat.le_of_ble_eq_true rfl) rfl ?_
  intro p e s m args below meth c hsz hr hX
  have hX : Xc p s m args meth c E 2 (va_A (wK E a v) sz) cX0_release RX0 wsX0_release := hX
  have in_X0 : ∀ w ∈ u_ws RX0 TX0 5, w ∈ wsX0_release := by decide +kernel
  have fl_28 : Cond.fieldLink RX0 28 RX0 "filter" "LSnoopFilter$Filter;" ∈ wsX0_release := by decide +kernel
  have hlt_n := n.isLt
  refine v_aload_n hX dX0_release_0 rfl ?_
  refine v_get (C := RX0) (T := TX0) (N := 5) (ci := 0) (v := .ref (a 5)) hX in_X0 0 rfl rfl 4 (by decide) fl_28 rfl rfl dX0_release_1 ?_
  refine v_iload_n hX dX0_release_4 rfl ?_
  obtain ⟨v1, hv1⟩ : ∃ z_ : KV, z_ = K_setF v (F_remove v.2.2.2.2 ((n).val)) := ⟨_, rfl⟩
  refine v_callVv (rest := []) (ws' := wK E a v1) hX (fun sz => c_X1_remove l E (fA a) sz v.2.2.2.2 ((n).val) (by first | omega | exact Nat.le_of_ble_eq_true rfl)) (cwV 1 hX.2.2.2.2.1 gX0_release_X1_remove rfl rfl rfl (by decide +kernel) ⟨Nat.le_of_ble_eq_true rfl, Nat.le_of_ble_eq_true rfl⟩) (w5 E a v) ([]) (rfl) (by rw [hv1]; exact rfl) (wF_fst E (fA a) _ _) (ci := 1) (q0 := 0) rfl rfl rfl rfl rfl (Nat.le_of_ble_eq_true rfl) dX0_release_5 ?_
  refine v_aload_n hX dX0_release_8 rfl ?_
  refine v_iload_n hX dX0_release_9 rfl ?_
  refine v_callSi (r := nI (((n).val) % 8)) (rest := [.ref (a 0)]) (ws' := wK E a v1) hX (fun sz => c_X0_placeOf l E sz ((n).val) (by first | omega | exact Nat.le_of_ble_eq_true rfl)) (va_cwS 1 hX.2.2.2.2.1 gX0_release_X0_placeOf rfl rfl rfl (by decide +kernel) ⟨Nat.le_of_ble_eq_true rfl, Nat.le_of_ble_eq_true rfl⟩) ([]) (wK E a v1) (rfl) rfl (rfl) rfl rfl (Nat.le_of_ble_eq_true rfl) dX0_release_10 ?_
  obtain ⟨v2, hv2⟩ : ∃ z_ : KV, z_ = K_empty v1 (((n).val) % 8) := ⟨_, rfl⟩
  refine v_callVv (rest := []) (ws' := wK E a v2) hX (fun sz => c_X0_empty l E a sz v1 (((n).val) % 8) (by first | omega | exact Nat.le_of_ble_eq_true rfl)) (cwV 1 hX.2.2.2.2.1 gX0_release_X0_empty rfl rfl rfl (by decide +kernel) ⟨Nat.le_of_ble_eq_true rfl, Nat.le_of_ble_eq_true rfl⟩) ([]) ([]) ((List.append_nil _).symm) (by rw [hv2]; exact List.append_nil _) (wK_fst E a _ _) (ci := 0) (q0 := 0) rfl rfl rfl rfl rfl (Nat.le_of_ble_eq_true rfl) dX0_release_13 ?_
  exact v_vret hX hr hsz dX0_release_16 rfl rfl (by (subst hv2; subst hv1; first | rfl | (simp only [K_release, if_true, if_false, reduceIte, Bool.false_eq_true, reduceCtorEq, decide_true, decide_false, Bool.and_true, Bool.and_false, Bool.true_and, Bool.false_and, not_true_eq_false, not_false_eq_true, Bool.not_true, Bool.not_false, eq_self]; done) | (simp only [K_release, if_true, if_false, reduceIte, Bool.false_eq_true, reduceCtorEq, decide_true, decide_false, Bool.and_true, Bool.and_false, Bool.true_and, Bool.false_and, not_true_eq_false, not_false_eq_true, Bool.not_true, Bool.not_false, eq_self]; rfl)))
set_option maxHeartbeats 4000000 in
set_option maxRecDepth 100000 in
theorem c_X0_isReachedBySnoop (l : Launch) (E : ET) (a : Nat → Nat) (sz : Nat) (v : KV) (n : Fin 256) : Met l yX0_isReachedBySnoop wsX0_isReachedBySnoop ({ frames := 2, cells := 0, slots := 0, locals := 42 }) (mPc E [.ref (a 0), .int (nI (n).val)] sz (wK E a v)) (mQi E (bI (K_may v n)) (wK E a v) (wK E a (K_reach v n)) sz) 0 0 (va_A (wK E a v) sz) := by
  refine v_start (cc := cX0_isReachedBySnoop) (maxL := 2) (ret := (some .boolean)) (by decide) rfl (Nat.le_of_ble_eq_true rfl) rfl ?_
  intro p e s m args below meth c hsz hr hX
  have hX : Xc p s m args meth c E 2 (va_A (wK E a v) sz) cX0_isReachedBySnoop RX0 wsX0_isReachedBySnoop := hX
  have in_X0 : ∀ w ∈ u_ws RX0 TX0 5, w ∈ wsX0_isReachedBySnoop := by decide +kernel
  have fl_28 : Cond.fieldLink RX0 28 RX0 "filter" "LSnoopFilter$Filter;" ∈ wsX0_isReachedBySnoop := by decide +kernel
  have fl_22 : Cond.fieldLink RX0 22 RX0 "tallies" "[I" ∈ wsX0_isReachedBySnoop := by decide +kernel
  have hlt_n := n.isLt
  refine v_aload_n hX dX0_isReachedBySnoop_0 rfl ?_
  refine v_get (C := RX0) (T := TX0) (N := 5) (ci := 0) (v := .ref (a 5)) hX in_X0 0 rfl rfl 4 (by decide) fl_28 rfl rfl dX0_isReachedBySnoop_1 ?_
  refine v_iload_n hX dX0_isReachedBySnoop_4 rfl ?_
  refine v_callVi (r := bI (F_may v.2.2.2.2 ((n).val))) (rest := []) (ws' := wK E a v) hX (fun sz => c_X1_mayHave l E (fA a) sz v.2.2.2.2 ((n).val) (by first | omega | exact Nat.le_of_ble_eq_true rfl)) (cwV 1 hX.2.2.2.2.1 gX0_isReachedBySnoop_X1_mayHave rfl rfl rfl (by decide +kernel) ⟨Nat.le_of_ble_eq_true rfl, Nat.le_of_ble_eq_true rfl⟩) (w5 E a v) ([]) (rfl) (rfl).symm (wF_fst E (fA a) _ _) (ci := 1) (q0 := 0) rfl rfl rfl rfl rfl (Nat.le_of_ble_eq_true rfl) dX0_isReachedBySnoop_5 ?_
  refine v_if_ne (tgt := 23) hX dX0_isReachedBySnoop_8 (by decide) (fun c1 => ?_) (fun c1 => ?_)
  · replace c1 := bI_n0.mp c1
    refine v_aload_n hX dX0_isReachedBySnoop_23 rfl ?_
    refine v_get (C := RX0) (T := TX0) (N := 5) (ci := 0) (v := .ref (a 4)) hX in_X0 0 rfl rfl 3 (by decide) fl_22 rfl rfl dX0_isReachedBySnoop_24 ?_
    refine v_iconst (x := (2 : Int32)) hX dX0_isReachedBySnoop_27 (by decide) ?_
    refine v_dup2 hX dX0_isReachedBySnoop_28 rfl rfl ?_
    refine v_iald (z := v.2.2.2.1 (2)) hX 4 rfl (vp_in_nI (by omega : 2 < 6) (by omega)) rfl dX0_isReachedBySnoop_29 ?_
    refine v_iconst (x := (1 : Int32)) hX dX0_isReachedBySnoop_30 (by decide) ?_
    refine v_iadd (z := (v.2.2.2.1 (2) + (1 : Int32))) hX dX0_isReachedBySnoop_31 (rfl) ?_
    obtain ⟨v2, hv2⟩ : ∃ z_ : KV, z_ = K_setT v (2) ((v.2.2.2.1 (2) + (1 : Int32))) := ⟨_, rfl⟩
    refine v_iast (ws' := wK E a v2) hX 4 rfl (vp_in_nI (by omega : 2 < 6) (by omega)) (by rw [hv2]; exact sK_T E a v (k := 2) (by omega) _) dX0_isReachedBySnoop_32 ?_
    refine v_aload_n hX dX0_isReachedBySnoop_33 rfl ?_
    refine v_iload_n hX dX0_isReachedBySnoop_34 rfl ?_
    refine v_callVi (r := bI (K_holds v2 n)) (rest := []) (ws' := wK E a v2) hX (fun sz => c_X0_holds l E a sz v2 n) (cwV 1 hX.2.2.2.2.1 gX0_isReachedBySnoop_X0_holds rfl rfl rfl (by decide +kernel) ⟨Nat.le_of_ble_eq_true rfl, Nat.le_of_ble_eq_true rfl⟩) ([]) ([]) ((List.append_nil _).symm) ((List.append_nil _).symm).symm (wK_fst E a _ _) (ci := 0) (q0 := 0) rfl rfl rfl rfl rfl (Nat.le_of_ble_eq_true rfl) dX0_isReachedBySnoop_35 ?_
    refine v_if_ne (tgt := 51) hX dX0_isReachedBySnoop_38 (by decide) (fun c3 => ?_) (fun c3 => ?_)
    · replace c3 := bI_n0.mp c3
      refine v_iconst (x := (1 : Int32)) hX dX0_isReachedBySnoop_51 (by decide) ?_
      exact v_zret hX hr hsz dX0_isReachedBySnoop_52 rfl rfl (bI_narrow (true)) (congrArg bI (by (subst hv2; first | rfl | (simp only [K_reach, K_may, K_tick, c1, c3, if_true, if_false, reduceIte, Bool.false_eq_true, reduceCtorEq, decide_true, decide_false, Bool.and_true, Bool.and_false, Bool.true_and, Bool.false_and, not_true_eq_false, not_false_eq_true, Bool.not_true, Bool.not_false, eq_self]; done) | (simp only [K_reach, K_may, K_tick, c1, c3, if_true, if_false, reduceIte, Bool.false_eq_true, reduceCtorEq, decide_true, decide_false, Bool.and_true, Bool.and_false, Bool.true_and, Bool.false_and, not_true_eq_false, not_false_eq_true, Bool.not_true, Bool.not_false, eq_self]; rfl)) : true = K_may v n)) (by (subst hv2; first | rfl | (simp only [K_reach, K_may, K_tick, c1, c3, if_true, if_false, reduceIte, Bool.false_eq_true, reduceCtorEq, decide_true, decide_false, Bool.and_true, Bool.and_false, Bool.true_and, Bool.false_and, not_true_eq_false, not_false_eq_true, Bool.not_true, Bool.not_false, eq_self]; done) | (simp only [K_reach, K_may, K_tick, c1, c3, if_true, if_false, reduceIte, Bool.false_eq_true, reduceCtorEq, decide_true, decide_false, Bool.and_true, Bool.and_false, Bool.true_and, Bool.false_and, not_true_eq_false, not_false_eq_true, Bool.not_true, Bool.not_false, eq_self]; rfl)))
    · replace c3 := bI_0.mp c3
      refine v_aload_n hX dX0_isReachedBySnoop_41 rfl ?_
      refine v_get (C := RX0) (T := TX0) (N := 5) (ci := 0) (v := .ref (a 4)) hX in_X0 0 rfl rfl 3 (by decide) fl_22 rfl rfl dX0_isReachedBySnoop_42 ?_
      refine v_iconst (x := (3 : Int32)) hX dX0_isReachedBySnoop_45 (by decide) ?_
      refine v_dup2 hX dX0_isReachedBySnoop_46 rfl rfl ?_
      refine v_iald (z := v2.2.2.2.1 (3)) hX 4 rfl (vp_in_nI (by omega : 3 < 6) (by omega)) rfl dX0_isReachedBySnoop_47 ?_
      refine v_iconst (x := (1 : Int32)) hX dX0_isReachedBySnoop_48 (by decide) ?_
      refine v_iadd (z := (v2.2.2.2.1 (3) + (1 : Int32))) hX dX0_isReachedBySnoop_49 (rfl) ?_
      obtain ⟨v4, hv4⟩ : ∃ z_ : KV, z_ = K_setT v2 (3) ((v2.2.2.2.1 (3) + (1 : Int32))) := ⟨_, rfl⟩
      refine v_iast (ws' := wK E a v4) hX 4 rfl (vp_in_nI (by omega : 3 < 6) (by omega)) (by rw [hv4]; exact sK_T E a v2 (k := 3) (by omega) _) dX0_isReachedBySnoop_50 ?_
      refine v_iconst (x := (1 : Int32)) hX dX0_isReachedBySnoop_51 (by decide) ?_
      exact v_zret hX hr hsz dX0_isReachedBySnoop_52 rfl rfl (bI_narrow (true)) (congrArg bI (by (subst hv4; subst hv2; first | rfl | (simp only [K_reach, K_may, K_tick, c1, c3, if_true, if_false, reduceIte, Bool.false_eq_true, reduceCtorEq, decide_true, decide_false, Bool.and_true, Bool.and_false, Bool.true_and, Bool.false_and, not_true_eq_false, not_false_eq_true, Bool.not_true, Bool.not_false, eq_self]; done) | (simp only [K_reach, K_may, K_tick, c1, c3, if_true, if_false, reduceIte, Bool.false_eq_true, reduceCtorEq, decide_true, decide_false, Bool.and_true, Bool.and_false, Bool.true_and, Bool.false_and, not_true_eq_false, not_false_eq_true, Bool.not_true, Bool.not_false, eq_self]; rfl)) : true = K_may v n)) (by (subst hv4; subst hv2; first | rfl | (simp only [K_reach, K_may, K_tick, c1, c3, if_true, if_false, reduceIte, Bool.false_eq_true, reduceCtorEq, decide_true, decide_false, Bool.and_true, Bool.and_false, Bool.true_and, Bool.false_and, not_true_eq_false, not_false_eq_true, Bool.not_true, Bool.not_false, eq_self]; done) | (simp only [K_reach, K_may, K_tick, c1, c3, if_true, if_false, reduceIte, Bool.false_eq_true, reduceCtorEq, decide_true, decide_false, Bool.and_true, Bool.and_false, Bool.true_and, Bool.false_and, not_true_eq_false, not_false_eq_true, Bool.not_true, Bool.not_false, eq_self]; rfl)))
  · replace c1 := bI_0.mp c1
    refine v_aload_n hX dX0_isReachedBySnoop_11 rfl ?_
    refine v_get (C := RX0) (T := TX0) (N := 5) (ci := 0) (v := .ref (a 4)) hX in_X0 0 rfl rfl 3 (by decide) fl_22 rfl rfl dX0_isReachedBySnoop_12 ?_
    refine v_iconst (x := (4 : Int32)) hX dX0_isReachedBySnoop_15 (by decide) ?_
    refine v_dup2 hX dX0_isReachedBySnoop_16 rfl rfl ?_
    refine v_iald (z := v.2.2.2.1 (4)) hX 4 rfl (vp_in_nI (by omega : 4 < 6) (by omega)) rfl dX0_isReachedBySnoop_17 ?_
    refine v_iconst (x := (1 : Int32)) hX dX0_isReachedBySnoop_18 (by decide) ?_
    refine v_iadd (z := (v.2.2.2.1 (4) + (1 : Int32))) hX dX0_isReachedBySnoop_19 (rfl) ?_
    obtain ⟨v5, hv5⟩ : ∃ z_ : KV, z_ = K_setT v (4) ((v.2.2.2.1 (4) + (1 : Int32))) := ⟨_, rfl⟩
    refine v_iast (ws' := wK E a v5) hX 4 rfl (vp_in_nI (by omega : 4 < 6) (by omega)) (by rw [hv5]; exact sK_T E a v (k := 4) (by omega) _) dX0_isReachedBySnoop_20 ?_
    refine v_iconst (x := (0 : Int32)) hX dX0_isReachedBySnoop_21 (by decide) ?_
    exact v_zret hX hr hsz dX0_isReachedBySnoop_22 rfl rfl (bI_narrow (false)) (congrArg bI (by (subst hv5; first | rfl | (simp only [K_reach, K_may, K_tick, c1, if_true, if_false, reduceIte, Bool.false_eq_true, reduceCtorEq, decide_true, decide_false, Bool.and_true, Bool.and_false, Bool.true_and, Bool.false_and, not_true_eq_false, not_false_eq_true, Bool.not_true, Bool.not_false, eq_self]; done) | (simp only [K_reach, K_may, K_tick, c1, if_true, if_false, reduceIte, Bool.false_eq_true, reduceCtorEq, decide_true, decide_false, Bool.and_true, Bool.and_false, Bool.true_and, Bool.false_and, not_true_eq_false, not_false_eq_true, Bool.not_true, Bool.not_false, eq_self]; rfl)) : false = K_may v n)) (by (subst hv5; first | rfl | (simp only [K_reach, K_may, K_tick, c1, if_true, if_false, reduceIte, Bool.false_eq_true, reduceCtorEq, decide_true, decide_false, Bool.and_true, Bool.and_false, Bool.true_and, Bool.false_and, not_true_eq_false, not_false_eq_true, Bool.not_true, Bool.not_false, eq_self]; done) | (simp only [K_reach, K_may, K_tick, c1, if_true, if_false, reduceIte, Bool.false_eq_true, reduceCtorEq, decide_true, decide_false, Bool.and_true, Bool.and_false, Bool.true_and, Bool.false_and, not_true_eq_false, not_false_eq_true, Bool.not_true, Bool.not_false, eq_self]; rfl)))
set_option maxHeartbeats 4000000 in
set_option maxRecDepth 100000 in
theorem c_X0_heldLines (l : Launch) (E : ET) (a : Nat → Nat) (sz : Nat) (v : KV) : Met l yX0_heldLines wsX0_heldLines ({ frames := 0, cells := 0, slots := 0, locals := 0 }) (mPc E [.ref (a 0)] sz (wK E a v)) (mQi E (K_held v) (wK E a v) (wK E a v) sz) 0 0 (va_A (wK E a v) sz) := by
  refine v_start (cc := cX0_heldLines) (maxL := 3) (ret := (some .int)) (by decide) rfl (Nat.le_of_ble_eq_true rfl) rfl ?_
  intro p e s m args below meth c hsz hr hX
  have hX : Xc p s m args meth c E 3 (va_A (wK E a v) sz) cX0_heldLines RX0 wsX0_heldLines := hX
  have in_X0 : ∀ w ∈ u_ws RX0 TX0 5, w ∈ wsX0_heldLines := by decide +kernel
  have fl_9 : Cond.fieldLink RX0 9 RX0 "lines" "[I" ∈ wsX0_heldLines := by decide +kernel
  refine v_iconst (x := (0 : Int32)) hX dX0_heldLines_0 (by decide) ?_
  refine v_istore_n (lv' := [.ref (a 0), .int ((0 : Int32))]) hX dX0_heldLines_1 (Nat.le_of_ble_eq_true rfl) (Nat.le_of_ble_eq_true rfl) rfl rfl ?_
  refine v_iconst (x := (0 : Int32)) hX dX0_heldLines_2 (by decide) ?_
  refine v_istore_n (lv' := [.ref (a 0), .int ((0 : Int32)), .int ((0 : Int32))]) hX dX0_heldLines_3 (Nat.le_of_ble_eq_true rfl) (Nat.le_of_ble_eq_true rfl) rfl rfl ?_
  have loop_4 : ∀ (n i : Nat), i + n = 8 → V p l e ({ frames := 0, cells := 0, slots := 0, locals := 0 } : Room) s m args below meth c E 3 (va_A (wK E a v) sz) (MQ below (mQi E (K_held v) (wK E a v) (wK E a v) sz) args s 0 0 (va_A (wK E a v) sz)) (wK E a v) [.ref (a 0), .int (it (K_heldF v) i 0), .int (nI (i))] 4 [] := by
    intro n
    induction n with
    | zero =>
      intro i  hin 
      have hi0 : i = 8 := by omega
      subst hi0
      refine v_iload_n hX dX0_heldLines_4 rfl ?_
      refine v_bipush (x := (8 : Int32)) hX dX0_heldLines_5 (by decide) ?_
      refine v_icmp_ge (tgt := 29) hX dX0_heldLines_7 (by decide) (fun c1 => ?_) (fun c1 => ?_)
      · replace c1 := (nI_leI (a := 8) (b := 8) (by omega) (by omega)).mp c1
        refine v_iload_n hX dX0_heldLines_29 rfl ?_
        exact v_iret hX hr hsz dX0_heldLines_30 rfl rfl (by (first | rfl | (simp only [K_held, K_heldF, c1, if_true, if_false, reduceIte, Bool.false_eq_true, reduceCtorEq, decide_true, decide_false, Bool.and_true, Bool.and_false, Bool.true_and, Bool.false_and, not_true_eq_false, not_false_eq_true, Bool.not_true, Bool.not_false, eq_self]; done) | (simp only [K_held, K_heldF, c1, if_true, if_false, reduceIte, Bool.false_eq_true, reduceCtorEq, decide_true, decide_false, Bool.and_true, Bool.and_false, Bool.true_and, Bool.false_and, not_true_eq_false, not_false_eq_true, Bool.not_true, Bool.not_false, eq_self]; rfl))) rfl
      · replace c1 := (not_congr (nI_leI (a := 8) (b := 8) (by omega) (by omega))).mp c1
        exfalso; omega
    | succ n ih =>
      intro i  hin 
      refine v_iload_n hX dX0_heldLines_4 rfl ?_
      refine v_bipush (x := (8 : Int32)) hX dX0_heldLines_5 (by decide) ?_
      refine v_icmp_ge (tgt := 29) hX dX0_heldLines_7 (by decide) (fun c2 => ?_) (fun c2 => ?_)
      · replace c2 := (nI_leI (a := 8) (b := i) (by omega) (by omega)).mp c2
        exfalso; omega
      · replace c2 := (not_congr (nI_leI (a := 8) (b := i) (by omega) (by omega))).mp c2
        refine v_aload_n hX dX0_heldLines_10 rfl ?_
        refine v_get (C := RX0) (T := TX0) (N := 5) (ci := 0) (v := .ref (a 1)) hX in_X0 0 rfl rfl 0 (by decide) fl_9 rfl rfl dX0_heldLines_11 ?_
        refine v_iload_n hX dX0_heldLines_14 rfl ?_
        refine v_iald (z := encL (v.1 (i))) hX 1 rfl (vp_in_nI (by omega : i < 8) (by omega)) (by simp only [nI_clamp (show i < 2 ^ 31 by omega)]) dX0_heldLines_15 ?_
        refine v_iconst (x := (-1 : Int32)) hX dX0_heldLines_16 (by decide) ?_
        refine v_icmp_eq (tgt := 23) hX dX0_heldLines_17 (by decide) (fun c3 => ?_) (fun c3 => ?_)
        · replace c3 := encL_m1.mp c3
          refine v_iinc (y := nI (i + 1)) (lv' := [.ref (a 0), .int (it (K_heldF v) i 0), .int (nI (i + 1))]) hX dX0_heldLines_23 rfl (nI_inc _) (Nat.le_of_ble_eq_true rfl) (Nat.le_of_ble_eq_true rfl) rfl rfl ?_
          refine v_goto (tgt := 4) hX dX0_heldLines_26 (by decide) ?_
          have e4 : it (K_heldF v) i 0 = it (K_heldF v) (i + 1) 0 := by first | rfl | (simp only [K_held, K_heldF, c2, c3, it, if_true, if_false, reduceIte, Bool.false_eq_true, Bool.and_true, Bool.and_false, Bool.true_and, Bool.false_and, not_true_eq_false, not_false_eq_true, eq_self, ne_eq, reduceCtorEq, decide_true, decide_false, Bool.not_true, Bool.not_false]; done) | (simp only [K_held, K_heldF, c2, c3, it, if_true, if_false, reduceIte, Bool.false_eq_true, Bool.and_true, Bool.and_false, Bool.true_and, Bool.false_and, not_true_eq_false, not_false_eq_true, eq_self, ne_eq, reduceCtorEq, decide_true, decide_false, Bool.not_true, Bool.not_false]; rfl)
          rw [e4]
          exact ih (i + 1)  (by omega) 
        · obtain ⟨n5, c3⟩ := encL_ex c3
          have hn5 := n5.isLt
          try rw [show encL (v.1 (i)) = nI (n5).val from by rw [c3]; rfl]
          refine v_iinc (y := (it (K_heldF v) i 0 + 1)) (lv' := [.ref (a 0), .int ((it (K_heldF v) i 0 + 1)), .int (nI (i))]) hX dX0_heldLines_20 rfl (rfl) (Nat.le_of_ble_eq_true rfl) (Nat.le_of_ble_eq_true rfl) rfl rfl ?_
          refine v_iinc (y := nI (i + 1)) (lv' := [.ref (a 0), .int ((it (K_heldF v) i 0 + 1)), .int (nI (i + 1))]) hX dX0_heldLines_23 rfl (nI_inc _) (Nat.le_of_ble_eq_true rfl) (Nat.le_of_ble_eq_true rfl) rfl rfl ?_
          refine v_goto (tgt := 4) hX dX0_heldLines_26 (by decide) ?_
          have e6 : (it (K_heldF v) i 0 + 1) = it (K_heldF v) (i + 1) 0 := by first | rfl | (simp only [K_held, K_heldF, c2, c3, it, if_true, if_false, reduceIte, Bool.false_eq_true, Bool.and_true, Bool.and_false, Bool.true_and, Bool.false_and, not_true_eq_false, not_false_eq_true, eq_self, ne_eq, reduceCtorEq, decide_true, decide_false, Bool.not_true, Bool.not_false]; done) | (simp only [K_held, K_heldF, c2, c3, it, if_true, if_false, reduceIte, Bool.false_eq_true, Bool.and_true, Bool.and_false, Bool.true_and, Bool.false_and, not_true_eq_false, not_false_eq_true, eq_self, ne_eq, reduceCtorEq, decide_true, decide_false, Bool.not_true, Bool.not_false]; rfl)
          rw [e6]
          exact ih (i + 1)  (by omega) 
  exact loop_4 8 0  (by omega) 
set_option maxHeartbeats 4000000 in
set_option maxRecDepth 100000 in
theorem c_X0_dirtyLines (l : Launch) (E : ET) (a : Nat → Nat) (sz : Nat) (v : KV) : Met l yX0_dirtyLines wsX0_dirtyLines ({ frames := 1, cells := 0, slots := 0, locals := 25 }) (mPc E [.ref (a 0)] sz (wK E a v)) (mQi E (K_dirties v) (wK E a v) (wK E a v) sz) 0 0 (va_A (wK E a v) sz) := by
  refine v_start (cc := cX0_dirtyLines) (maxL := 1) (ret := (some .int)) (by decide) rfl (Nat.le_of_ble_eq_true rfl) rfl ?_
  intro p e s m args below meth c hsz hr hX
  have hX : Xc p s m args meth c E 1 (va_A (wK E a v) sz) cX0_dirtyLines RX0 wsX0_dirtyLines := hX
  have in_X0 : ∀ w ∈ u_ws RX0 TX0 5, w ∈ wsX0_dirtyLines := by decide +kernel
  have fl_18 : Cond.fieldLink RX0 18 RX0 "dirty" "[Z" ∈ wsX0_dirtyLines := by decide +kernel
  have wd_Cond_static_yX5_howManyAreTrue : Cond.static yX5_howManyAreTrue ∈ wsX0_dirtyLines := by decide +kernel
  have wd_Cond_initialized_RX5 : Cond.initialized RX5 ∈ wsX0_dirtyLines := by decide +kernel
  refine v_aload_n hX dX0_dirtyLines_0 rfl ?_
  refine v_get (C := RX0) (T := TX0) (N := 5) (ci := 0) (v := .ref (a 3)) hX in_X0 0 rfl rfl 2 (by decide) fl_18 rfl rfl dX0_dirtyLines_1 ?_
  refine v_callSNi (r := cntT (8, v.2.2.1).2 (8, v.2.2.1).1) (rest := []) (ws' := wK E a v) hX (fun sz => c_X5_howManyAreTrue l E (fun _ => a 3) sz (8, v.2.2.1) (by first | omega | exact Nat.le_of_ble_eq_true rfl)) ⟨va_cnB (host := "SnoopFilter") 1 hX.2.2.2.2.1 gX0_dirtyLines_X5_howManyAreTrue_n50 rfl rfl rfl (hX.2.2.2.2.2.2.2.2 _ (by simp [nsts])) (hX.2.2.2.2.1 _ wd_Cond_initialized_RX5) (by decide +kernel) ⟨Nat.le_of_ble_eq_true rfl, Nat.le_of_ble_eq_true rfl⟩, hX.2.2.2.2.1 _ wd_Cond_static_yX5_howManyAreTrue, trivial⟩ ((wK E a v).take 3) ((wK E a v).drop 4) (rfl) (rfl).symm (rfl) rfl rfl (Nat.le_of_ble_eq_true rfl) dX0_dirtyLines_4 ?_
  exact v_iret hX hr hsz dX0_dirtyLines_7 rfl rfl (by (first | rfl | (simp only [K_dirties, if_true, if_false, reduceIte, Bool.false_eq_true, reduceCtorEq, decide_true, decide_false, Bool.and_true, Bool.and_false, Bool.true_and, Bool.false_and, not_true_eq_false, not_false_eq_true, Bool.not_true, Bool.not_false, eq_self]; done) | (simp only [K_dirties, if_true, if_false, reduceIte, Bool.false_eq_true, reduceCtorEq, decide_true, decide_false, Bool.and_true, Bool.and_false, Bool.true_and, Bool.false_and, not_true_eq_false, not_false_eq_true, Bool.not_true, Bool.not_false, eq_self]; rfl))) rfl
set_option maxHeartbeats 4000000 in
set_option maxRecDepth 100000 in
theorem c_X0_hasNothingToForget (l : Launch) (E : ET) (a : Nat → Nat) (sz : Nat) (v : KV) : Met l yX0_hasNothingToForget wsX0_hasNothingToForget ({ frames := 2, cells := 0, slots := 0, locals := 45 }) (mPc E [.ref (a 0)] sz (wK E a v)) (mQi E (bI (K_nothing v)) (wK E a v) (wK E a v) sz) 0 0 (va_A (wK E a v) sz) := by
  refine v_start (cc := cX0_hasNothingToForget) (maxL := 1) (ret := (some .boolean)) (by decide) rfl (Nat.le_of_ble_eq_true rfl) rfl ?_
  intro p e s m args below meth c hsz hr hX
  have hX : Xc p s m args meth c E 1 (va_A (wK E a v) sz) cX0_hasNothingToForget RX0 wsX0_hasNothingToForget := hX
  have in_X0 : ∀ w ∈ u_ws RX0 TX0 5, w ∈ wsX0_hasNothingToForget := by decide +kernel
  have fl_28 : Cond.fieldLink RX0 28 RX0 "filter" "LSnoopFilter$Filter;" ∈ wsX0_hasNothingToForget := by decide +kernel
  refine v_aload_n hX dX0_hasNothingToForget_0 rfl ?_
  refine v_callVi (r := K_held v) (rest := []) (ws' := wK E a v) hX (fun sz => c_X0_heldLines l E a sz v ) (cwV 0 hX.2.2.2.2.1 gX0_hasNothingToForget_X0_heldLines rfl rfl rfl (by decide +kernel) ⟨Nat.le_of_ble_eq_true rfl, Nat.le_of_ble_eq_true rfl⟩) ([]) ([]) ((List.append_nil _).symm) ((List.append_nil _).symm).symm (wK_fst E a _ _) (ci := 0) (q0 := 0) rfl rfl rfl rfl rfl (Nat.le_of_ble_eq_true rfl) dX0_hasNothingToForget_1 ?_
  refine v_if_ne (tgt := 31) hX dX0_hasNothingToForget_4 (by decide) (fun c1 => ?_) (fun c1 => ?_)
  · refine v_iconst (x := (0 : Int32)) hX dX0_hasNothingToForget_31 (by decide) ?_
    exact v_zret hX hr hsz dX0_hasNothingToForget_32 rfl rfl (bI_narrow (false)) (congrArg bI (by (first | rfl | (simp only [K_nothing, c1, if_true, if_false, reduceIte, Bool.false_eq_true, reduceCtorEq, decide_true, decide_false, Bool.and_true, Bool.and_false, Bool.true_and, Bool.false_and, not_true_eq_false, not_false_eq_true, Bool.not_true, Bool.not_false, eq_self]; done) | (simp only [K_nothing, c1, if_true, if_false, reduceIte, Bool.false_eq_true, reduceCtorEq, decide_true, decide_false, Bool.and_true, Bool.and_false, Bool.true_and, Bool.false_and, not_true_eq_false, not_false_eq_true, Bool.not_true, Bool.not_false, eq_self]; rfl)) : false = K_nothing v)) rfl
  · refine v_aload_n hX dX0_hasNothingToForget_7 rfl ?_
    refine v_get (C := RX0) (T := TX0) (N := 5) (ci := 0) (v := .ref (a 5)) hX in_X0 0 rfl rfl 4 (by decide) fl_28 rfl rfl dX0_hasNothingToForget_8 ?_
    refine v_callVi (r := F_above v.2.2.2.2) (rest := []) (ws' := wK E a v) hX (fun sz => c_X1_countersAboveZero l E (fA a) sz v.2.2.2.2 ) (cwV 0 hX.2.2.2.2.1 gX0_hasNothingToForget_X1_countersAboveZero rfl rfl rfl (by decide +kernel) ⟨Nat.le_of_ble_eq_true rfl, Nat.le_of_ble_eq_true rfl⟩) (w5 E a v) ([]) (rfl) (rfl).symm (wF_fst E (fA a) _ _) (ci := 1) (q0 := 0) rfl rfl rfl rfl rfl (Nat.le_of_ble_eq_true rfl) dX0_hasNothingToForget_11 ?_
    refine v_if_ne (tgt := 31) hX dX0_hasNothingToForget_14 (by decide) (fun c2 => ?_) (fun c2 => ?_)
    · refine v_iconst (x := (0 : Int32)) hX dX0_hasNothingToForget_31 (by decide) ?_
      exact v_zret hX hr hsz dX0_hasNothingToForget_32 rfl rfl (bI_narrow (false)) (congrArg bI (by (first | rfl | (simp only [K_nothing, c1, c2, if_true, if_false, reduceIte, Bool.false_eq_true, reduceCtorEq, decide_true, decide_false, Bool.and_true, Bool.and_false, Bool.true_and, Bool.false_and, not_true_eq_false, not_false_eq_true, Bool.not_true, Bool.not_false, eq_self]; done) | (simp only [K_nothing, c1, c2, if_true, if_false, reduceIte, Bool.false_eq_true, reduceCtorEq, decide_true, decide_false, Bool.and_true, Bool.and_false, Bool.true_and, Bool.false_and, not_true_eq_false, not_false_eq_true, Bool.not_true, Bool.not_false, eq_self]; rfl)) : false = K_nothing v)) rfl
    · refine v_aload_n hX dX0_hasNothingToForget_17 rfl ?_
      refine v_get (C := RX0) (T := TX0) (N := 5) (ci := 0) (v := .ref (a 5)) hX in_X0 0 rfl rfl 4 (by decide) fl_28 rfl rfl dX0_hasNothingToForget_18 ?_
      refine v_callVi (r := cntT v.2.2.2.2.2.2 16) (rest := []) (ws' := wK E a v) hX (fun sz => c_X1_bitsThatAreOne l E (fA a) sz v.2.2.2.2 ) (cwV 0 hX.2.2.2.2.1 gX0_hasNothingToForget_X1_bitsThatAreOne rfl rfl rfl (by decide +kernel) ⟨Nat.le_of_ble_eq_true rfl, Nat.le_of_ble_eq_true rfl⟩) (w5 E a v) ([]) (rfl) (rfl).symm (wF_fst E (fA a) _ _) (ci := 1) (q0 := 0) rfl rfl rfl rfl rfl (Nat.le_of_ble_eq_true rfl) dX0_hasNothingToForget_21 ?_
      refine v_if_ne (tgt := 31) hX dX0_hasNothingToForget_24 (by decide) (fun c3 => ?_) (fun c3 => ?_)
      · refine v_iconst (x := (0 : Int32)) hX dX0_hasNothingToForget_31 (by decide) ?_
        exact v_zret hX hr hsz dX0_hasNothingToForget_32 rfl rfl (bI_narrow (false)) (congrArg bI (by (first | rfl | (simp only [K_nothing, c1, c2, c3, if_true, if_false, reduceIte, Bool.false_eq_true, reduceCtorEq, decide_true, decide_false, Bool.and_true, Bool.and_false, Bool.true_and, Bool.false_and, not_true_eq_false, not_false_eq_true, Bool.not_true, Bool.not_false, eq_self]; done) | (simp only [K_nothing, c1, c2, c3, if_true, if_false, reduceIte, Bool.false_eq_true, reduceCtorEq, decide_true, decide_false, Bool.and_true, Bool.and_false, Bool.true_and, Bool.false_and, not_true_eq_false, not_false_eq_true, Bool.not_true, Bool.not_false, eq_self]; rfl)) : false = K_nothing v)) rfl
      · refine v_iconst (x := (1 : Int32)) hX dX0_hasNothingToForget_27 (by decide) ?_
        refine v_goto (tgt := 32) hX dX0_hasNothingToForget_28 (by decide) ?_
        exact v_zret hX hr hsz dX0_hasNothingToForget_32 rfl rfl (bI_narrow (true)) (congrArg bI (by (first | rfl | (simp only [K_nothing, c1, c2, c3, if_true, if_false, reduceIte, Bool.false_eq_true, reduceCtorEq, decide_true, decide_false, Bool.and_true, Bool.and_false, Bool.true_and, Bool.false_and, not_true_eq_false, not_false_eq_true, Bool.not_true, Bool.not_false, eq_self]; done) | (simp only [K_nothing, c1, c2, c3, if_true, if_false, reduceIte, Bool.false_eq_true, reduceCtorEq, decide_true, decide_false, Bool.and_true, Bool.and_false, Bool.true_and, Bool.false_and, not_true_eq_false, not_false_eq_true, Bool.not_true, Bool.not_false, eq_self]; rfl)) : true = K_nothing v)) rfl
set_option maxHeartbeats 4000000 in
set_option maxRecDepth 100000 in
theorem c_X0_copyFrom (l : Launch) (E : ET) (a b : Nat → Nat) (sz : Nat) (v u : KV) : Met l yX0_copyFrom wsX0_copyFrom ({ frames := 2, cells := 0, slots := 0, locals := 39 }) (mPc E [.ref (a 0), .ref (b 0)] sz (wK E a v ++ wK E b u)) (mQv E (wK E a v ++ wK E b u) (wK E a u ++ wK E b u) sz) 0 0 (va_A (wK E a v ++ wK E b u) sz) := by
  refine v_start (cc := cX0_copyFrom) (maxL := 2) (ret := none) (by decide) rfl (Nat.le_of_ble_eq_true rfl) rfl ?_
  intro p e s m args below meth c hsz hr hX
  have hX : Xc p s m args meth c E 2 (va_A (wK E a v ++ wK E b u) sz) cX0_copyFrom RX0 wsX0_copyFrom := hX
  have in_X0 : ∀ w ∈ u_ws RX0 TX0 5, w ∈ wsX0_copyFrom := by decide +kernel
  have fl_9 : Cond.fieldLink RX0 9 RX0 "lines" "[I" ∈ wsX0_copyFrom := by decide +kernel
  have wd_Cond_methodLink_RX0_64_arraycopyName : Cond.methodLink RX0 64 arraycopyName ∈ wsX0_copyFrom := by decide +kernel
  have wd_Cond_native_arraycopyName : Cond.native arraycopyName ∈ wsX0_copyFrom := by decide +kernel
  have wd_Cond_static_arraycopyName : Cond.static arraycopyName ∈ wsX0_copyFrom := by decide +kernel
  have wd_Cond_initialized_java_lang_System_ : Cond.initialized "java/lang/System" ∈ wsX0_copyFrom := by decide +kernel
  have fl_15 : Cond.fieldLink RX0 15 RX0 "values" "[I" ∈ wsX0_copyFrom := by decide +kernel
  have fl_18 : Cond.fieldLink RX0 18 RX0 "dirty" "[Z" ∈ wsX0_copyFrom := by decide +kernel
  have fl_22 : Cond.fieldLink RX0 22 RX0 "tallies" "[I" ∈ wsX0_copyFrom := by decide +kernel
  have fl_28 : Cond.fieldLink RX0 28 RX0 "filter" "LSnoopFilter$Filter;" ∈ wsX0_copyFrom := by decide +kernel
  refine v_aload_n hX dX0_copyFrom_0 rfl ?_
  refine v_get (C := RX0) (T := TX0) (N := 5) (ci := 0) (v := .ref (b 1)) hX in_X0 9 rfl rfl 0 (by decide) fl_9 rfl rfl dX0_copyFrom_1 ?_
  refine v_iconst (x := (0 : Int32)) hX dX0_copyFrom_4 (by decide) ?_
  refine v_aload_n hX dX0_copyFrom_5 rfl ?_
  refine v_get (C := RX0) (T := TX0) (N := 5) (ci := 0) (v := .ref (a 1)) hX in_X0 0 rfl rfl 0 (by decide) fl_9 rfl rfl dX0_copyFrom_6 ?_
  refine v_iconst (x := (0 : Int32)) hX dX0_copyFrom_9 (by decide) ?_
  refine v_bipush (x := (8 : Int32)) hX dX0_copyFrom_10 (by decide) ?_
  obtain ⟨v1, hv1⟩ : ∃ z_ : KV, z_ = (u.1, v.2.1, v.2.2.1, v.2.2.2.1, v.2.2.2.2) := ⟨_, rfl⟩
  refine v_copyAll (ws' := wK E a v1 ++ wK E b u) (ty := .int) hX wd_Cond_methodLink_RX0_64_arraycopyName wd_Cond_native_arraycopyName wd_Cond_static_arraycopyName wd_Cond_initialized_java_lang_System_ 10 1 0 rfl rfl rfl rfl (n := 8) rfl (by decide) (fun _ => rfl) (Nat.le_of_ble_eq_true rfl) (Nat.le_of_ble_eq_true rfl) dX0_copyFrom_12 (by rw [hv1]; rfl) ?_
  refine v_aload_n hX dX0_copyFrom_15 rfl ?_
  refine v_get (C := RX0) (T := TX0) (N := 5) (ci := 0) (v := .ref (b 2)) hX in_X0 9 rfl rfl 1 (by decide) fl_15 rfl rfl dX0_copyFrom_16 ?_
  refine v_iconst (x := (0 : Int32)) hX dX0_copyFrom_19 (by decide) ?_
  refine v_aload_n hX dX0_copyFrom_20 rfl ?_
  refine v_get (C := RX0) (T := TX0) (N := 5) (ci := 0) (v := .ref (a 2)) hX in_X0 0 rfl rfl 1 (by decide) fl_15 rfl rfl dX0_copyFrom_21 ?_
  refine v_iconst (x := (0 : Int32)) hX dX0_copyFrom_24 (by decide) ?_
  refine v_bipush (x := (8 : Int32)) hX dX0_copyFrom_25 (by decide) ?_
  obtain ⟨v2, hv2⟩ : ∃ z_ : KV, z_ = (v1.1, u.2.1, v1.2.2.1, v1.2.2.2.1, v1.2.2.2.2) := ⟨_, rfl⟩
  refine v_copyAll (ws' := wK E a v2 ++ wK E b u) (ty := .int) hX wd_Cond_methodLink_RX0_64_arraycopyName wd_Cond_native_arraycopyName wd_Cond_static_arraycopyName wd_Cond_initialized_java_lang_System_ 11 2 0 rfl rfl rfl rfl (n := 8) rfl (by decide) (fun _ => rfl) (Nat.le_of_ble_eq_true rfl) (Nat.le_of_ble_eq_true rfl) dX0_copyFrom_27 (by rw [hv2]; rfl) ?_
  refine v_aload_n hX dX0_copyFrom_30 rfl ?_
  refine v_get (C := RX0) (T := TX0) (N := 5) (ci := 0) (v := .ref (b 3)) hX in_X0 9 rfl rfl 2 (by decide) fl_18 rfl rfl dX0_copyFrom_31 ?_
  refine v_iconst (x := (0 : Int32)) hX dX0_copyFrom_34 (by decide) ?_
  refine v_aload_n hX dX0_copyFrom_35 rfl ?_
  refine v_get (C := RX0) (T := TX0) (N := 5) (ci := 0) (v := .ref (a 3)) hX in_X0 0 rfl rfl 2 (by decide) fl_18 rfl rfl dX0_copyFrom_36 ?_
  refine v_iconst (x := (0 : Int32)) hX dX0_copyFrom_39 (by decide) ?_
  refine v_bipush (x := (8 : Int32)) hX dX0_copyFrom_40 (by decide) ?_
  obtain ⟨v3, hv3⟩ : ∃ z_ : KV, z_ = (v2.1, v2.2.1, u.2.2.1, v2.2.2.2.1, v2.2.2.2.2) := ⟨_, rfl⟩
  refine v_copyAll (ws' := wK E a v3 ++ wK E b u) (ty := .boolean) hX wd_Cond_methodLink_RX0_64_arraycopyName wd_Cond_native_arraycopyName wd_Cond_static_arraycopyName wd_Cond_initialized_java_lang_System_ 12 3 1 rfl rfl rfl rfl (n := 8) rfl (by decide) (fun _ => bI_fits _) (Nat.le_of_ble_eq_true rfl) (Nat.le_of_ble_eq_true rfl) dX0_copyFrom_42 (by rw [hv3]; rfl) ?_
  refine v_aload_n hX dX0_copyFrom_45 rfl ?_
  refine v_get (C := RX0) (T := TX0) (N := 5) (ci := 0) (v := .ref (b 4)) hX in_X0 9 rfl rfl 3 (by decide) fl_22 rfl rfl dX0_copyFrom_46 ?_
  refine v_iconst (x := (0 : Int32)) hX dX0_copyFrom_49 (by decide) ?_
  refine v_aload_n hX dX0_copyFrom_50 rfl ?_
  refine v_get (C := RX0) (T := TX0) (N := 5) (ci := 0) (v := .ref (a 4)) hX in_X0 0 rfl rfl 3 (by decide) fl_22 rfl rfl dX0_copyFrom_51 ?_
  refine v_iconst (x := (0 : Int32)) hX dX0_copyFrom_54 (by decide) ?_
  refine v_bipush (x := (6 : Int32)) hX dX0_copyFrom_55 (by decide) ?_
  obtain ⟨v4, hv4⟩ : ∃ z_ : KV, z_ = (v3.1, v3.2.1, v3.2.2.1, u.2.2.2.1, v3.2.2.2.2) := ⟨_, rfl⟩
  refine v_copyAll (ws' := wK E a v4 ++ wK E b u) (ty := .int) hX wd_Cond_methodLink_RX0_64_arraycopyName wd_Cond_native_arraycopyName wd_Cond_static_arraycopyName wd_Cond_initialized_java_lang_System_ 13 4 0 rfl rfl rfl rfl (n := 6) rfl (by decide) (fun _ => rfl) (Nat.le_of_ble_eq_true rfl) (Nat.le_of_ble_eq_true rfl) dX0_copyFrom_57 (by rw [hv4]; rfl) ?_
  refine v_aload_n hX dX0_copyFrom_60 rfl ?_
  refine v_get (C := RX0) (T := TX0) (N := 5) (ci := 0) (v := .ref (a 5)) hX in_X0 0 rfl rfl 4 (by decide) fl_28 rfl rfl dX0_copyFrom_61 ?_
  refine v_aload_n hX dX0_copyFrom_64 rfl ?_
  refine v_get (C := RX0) (T := TX0) (N := 5) (ci := 0) (v := .ref (b 5)) hX in_X0 9 rfl rfl 4 (by decide) fl_28 rfl rfl dX0_copyFrom_65 ?_
  obtain ⟨v5, hv5⟩ : ∃ z_ : KV, z_ = (v4.1, v4.2.1, v4.2.2.1, v4.2.2.2.1, u.2.2.2.2) := ⟨_, rfl⟩
  refine v_callVv2 (rest := []) (ws' := wK E a v5 ++ wK E b u) hX (fun sz => c_X1_copyFrom l E (fA a) (fA b) sz v4.2.2.2.2 u.2.2.2.2) (cwV 1 hX.2.2.2.2.1 gX0_copyFrom_X1_copyFrom rfl rfl rfl (by decide +kernel) ⟨Nat.le_of_ble_eq_true rfl, Nat.le_of_ble_eq_true rfl⟩) (w5 E a v4) (w5 E b u) [] rfl (by rw [hv5]; rfl) (wF_fst E (fA a) _ _) (ci := 1) (q0 := 0) rfl rfl rfl rfl rfl (Nat.le_of_ble_eq_true rfl) dX0_copyFrom_68 ?_
  exact v_vret hX hr hsz dX0_copyFrom_71 rfl rfl (by (subst hv5; subst hv4; subst hv3; subst hv2; subst hv1; first | rfl | (simp only [if_true, if_false, reduceIte, Bool.false_eq_true, reduceCtorEq, decide_true, decide_false, Bool.and_true, Bool.and_false, Bool.true_and, Bool.false_and, not_true_eq_false, not_false_eq_true, Bool.not_true, Bool.not_false, eq_self]; done) | (simp only [if_true, if_false, reduceIte, Bool.false_eq_true, reduceCtorEq, decide_true, decide_false, Bool.and_true, Bool.and_false, Bool.true_and, Bool.false_and, not_true_eq_false, not_false_eq_true, Bool.not_true, Bool.not_false, eq_self]; rfl)))
end
