section
theorem jwide0 : True := by
  have h := @Cond.arrayOver_specA
  trivial
end
section
-- ===== PART A: goes FIRST, ahead of the names: the tables' words, and 'selects' of the private methods out of them =====
/-- a private method of a class that the tables say can be made, by its rows of tables_1 -/
def lw_okq (q : MethodName × Nat) : Prop := (q.1.cls ≠ "java/lang/invoke/MethodHandle" ∧ q.1.cls ≠ "java/lang/invoke/VarHandle") ∧ Cond.instantiable q.1.cls q.2 ∈ tables_1 ∧ Cond.privateMethod q.1 ∈ tables_1 ∧ Cond.instanceMethod q.1 ∈ tables_1
theorem lw_p0 : lw_okq (⟨"ExchangeRows$Seed", "begin", "()V"⟩, 2) := ⟨⟨by decide +kernel, by decide +kernel⟩, List.mem_of_getElem? (i := 26) (by decide +kernel), List.mem_of_getElem? (i := 39) (by decide +kernel), List.mem_of_getElem? (i := 40) (by decide +kernel)⟩
theorem lw_p1 : lw_okq (⟨"ExchangeRows", "refuse", "(I)I"⟩, 15) := ⟨⟨by decide +kernel, by decide +kernel⟩, List.mem_of_getElem? (i := 16) (by decide +kernel), List.mem_of_getElem? (i := 240) (by decide +kernel), List.mem_of_getElem? (i := 241) (by decide +kernel)⟩
theorem lw_p2 : lw_okq (⟨"ExchangeRows$Row", "grow", "()V"⟩, 7) := ⟨⟨by decide +kernel, by decide +kernel⟩, List.mem_of_getElem? (i := 145) (by decide +kernel), List.mem_of_getElem? (i := 249) (by decide +kernel), List.mem_of_getElem? (i := 250) (by decide +kernel)⟩
theorem lw_p3 : lw_okq (⟨"ExchangeRows$Row", "extend", "(I)Z"⟩, 7) := ⟨⟨by decide +kernel, by decide +kernel⟩, List.mem_of_getElem? (i := 145) (by decide +kernel), List.mem_of_getElem? (i := 262) (by decide +kernel), List.mem_of_getElem? (i := 263) (by decide +kernel)⟩
theorem lw_p4 : lw_okq (⟨"ExchangeRows", "isRow", "(I)Z"⟩, 15) := ⟨⟨by decide +kernel, by decide +kernel⟩, List.mem_of_getElem? (i := 16) (by decide +kernel), List.mem_of_getElem? (i := 284) (by decide +kernel), List.mem_of_getElem? (i := 285) (by decide +kernel)⟩
theorem lw_p5 : lw_okq (⟨"ExchangeRows", "refuseFar", "(I)I"⟩, 15) := ⟨⟨by decide +kernel, by decide +kernel⟩, List.mem_of_getElem? (i := 16) (by decide +kernel), List.mem_of_getElem? (i := 313) (by decide +kernel), List.mem_of_getElem? (i := 314) (by decide +kernel)⟩
theorem lw_p6 : lw_okq (⟨"ExchangeRows", "refuseFarthest", "(I)J"⟩, 15) := ⟨⟨by decide +kernel, by decide +kernel⟩, List.mem_of_getElem? (i := 16) (by decide +kernel), List.mem_of_getElem? (i := 324) (by decide +kernel), List.mem_of_getElem? (i := 325) (by decide +kernel)⟩
theorem lw_p7 : lw_okq (⟨"ExchangeRows$Row", "isPlain", "(II)Z"⟩, 7) := ⟨⟨by decide +kernel, by decide +kernel⟩, List.mem_of_getElem? (i := 145) (by decide +kernel), List.mem_of_getElem? (i := 333) (by decide +kernel), List.mem_of_getElem? (i := 334) (by decide +kernel)⟩
theorem lw_p8 : lw_okq (⟨"ExchangeRows$Row", "keepOfFour", "(JJJJLExchangeRows$Fraction;)V"⟩, 7) := ⟨⟨by decide +kernel, by decide +kernel⟩, List.mem_of_getElem? (i := 145) (by decide +kernel), List.mem_of_getElem? (i := 347) (by decide +kernel), List.mem_of_getElem? (i := 348) (by decide +kernel)⟩
theorem lw_p9 : lw_okq (⟨"ExchangeRows$Seed", "setB", "(III)V"⟩, 2) := ⟨⟨by decide +kernel, by decide +kernel⟩, List.mem_of_getElem? (i := 26) (by decide +kernel), List.mem_of_getElem? (i := 410) (by decide +kernel), List.mem_of_getElem? (i := 411) (by decide +kernel)⟩
theorem lw_p10 : lw_okq (⟨"ExchangeRows$Exchanger", "multiply", "(LExchangeRows$Seed;IILExchangeRows$Fraction;)Z"⟩, 2) := ⟨⟨by decide +kernel, by decide +kernel⟩, List.mem_of_getElem? (i := 54) (by decide +kernel), List.mem_of_getElem? (i := 466) (by decide +kernel), List.mem_of_getElem? (i := 467) (by decide +kernel)⟩
theorem lw_p11 : lw_okq (⟨"ExchangeRows$Past", "dropOldest", "()V"⟩, 2) := ⟨⟨by decide +kernel, by decide +kernel⟩, List.mem_of_getElem? (i := 126) (by decide +kernel), List.mem_of_getElem? (i := 506) (by decide +kernel), List.mem_of_getElem? (i := 507) (by decide +kernel)⟩
theorem lw_p12 : lw_okq (⟨"ExchangeRows$Text", "behind", "(I)I"⟩, 2) := ⟨⟨by decide +kernel, by decide +kernel⟩, List.mem_of_getElem? (i := 112) (by decide +kernel), List.mem_of_getElem? (i := 519) (by decide +kernel), List.mem_of_getElem? (i := 520) (by decide +kernel)⟩
theorem lw_p13 : lw_okq (⟨"ExchangeRows$Text", "letterAt", "(I)I"⟩, 2) := ⟨⟨by decide +kernel, by decide +kernel⟩, List.mem_of_getElem? (i := 112) (by decide +kernel), List.mem_of_getElem? (i := 523) (by decide +kernel), List.mem_of_getElem? (i := 524) (by decide +kernel)⟩
theorem lw_p14 : lw_okq (⟨"ExchangeRows$Text", "digitsOf", "(I)I"⟩, 2) := ⟨⟨by decide +kernel, by decide +kernel⟩, List.mem_of_getElem? (i := 112) (by decide +kernel), List.mem_of_getElem? (i := 527) (by decide +kernel), List.mem_of_getElem? (i := 528) (by decide +kernel)⟩
theorem lw_p15 : lw_okq (⟨"ExchangeRows$Text", "digitAt", "(I)I"⟩, 2) := ⟨⟨by decide +kernel, by decide +kernel⟩, List.mem_of_getElem? (i := 112) (by decide +kernel), List.mem_of_getElem? (i := 531) (by decide +kernel), List.mem_of_getElem? (i := 532) (by decide +kernel)⟩
def lw_privs_1 : List (MethodName × Nat) := [(⟨"ExchangeRows$Seed", "begin", "()V"⟩, 2), (⟨"ExchangeRows", "refuse", "(I)I"⟩, 15), (⟨"ExchangeRows$Row", "grow", "()V"⟩, 7), (⟨"ExchangeRows$Row", "extend", "(I)Z"⟩, 7), (⟨"ExchangeRows", "isRow", "(I)Z"⟩, 15), (⟨"ExchangeRows", "refuseFar", "(I)I"⟩, 15), (⟨"ExchangeRows", "refuseFarthest", "(I)J"⟩, 15), (⟨"ExchangeRows$Row", "isPlain", "(II)Z"⟩, 7), (⟨"ExchangeRows$Row", "keepOfFour", "(JJJJLExchangeRows$Fraction;)V"⟩, 7), (⟨"ExchangeRows$Seed", "setB", "(III)V"⟩, 2), (⟨"ExchangeRows$Exchanger", "multiply", "(LExchangeRows$Seed;IILExchangeRows$Fraction;)Z"⟩, 2), (⟨"ExchangeRows$Past", "dropOldest", "()V"⟩, 2), (⟨"ExchangeRows$Text", "behind", "(I)I"⟩, 2), (⟨"ExchangeRows$Text", "letterAt", "(I)I"⟩, 2), (⟨"ExchangeRows$Text", "digitsOf", "(I)I"⟩, 2), (⟨"ExchangeRows$Text", "digitAt", "(I)I"⟩, 2)]
theorem lw_r1 : ∀ q ∈ lw_privs_1, lw_okq q := List.forall_mem_cons.mpr ⟨lw_p0, List.forall_mem_cons.mpr ⟨lw_p1, List.forall_mem_cons.mpr ⟨lw_p2, List.forall_mem_cons.mpr ⟨lw_p3, List.forall_mem_cons.mpr ⟨lw_p4, List.forall_mem_cons.mpr ⟨lw_p5, List.forall_mem_cons.mpr ⟨lw_p6, List.forall_mem_cons.mpr ⟨lw_p7, List.forall_mem_cons.mpr ⟨lw_p8, List.forall_mem_cons.mpr ⟨lw_p9, List.forall_mem_cons.mpr ⟨lw_p10, List.forall_mem_cons.mpr ⟨lw_p11, List.forall_mem_cons.mpr ⟨lw_p12, List.forall_mem_cons.mpr ⟨lw_p13, List.forall_mem_cons.mpr ⟨lw_p14, List.forall_mem_cons.mpr ⟨lw_p15, fun _ h => absurd h List.not_mem_nil⟩⟩⟩⟩⟩⟩⟩⟩⟩⟩⟩⟩⟩⟩⟩⟩
theorem lw_p16 : lw_okq (⟨"ExchangeRows$Text", "done", "(ILExchangeRows$Seed;LExchangeRows$Exchanger;)Z"⟩, 2) := ⟨⟨by decide +kernel, by decide +kernel⟩, List.mem_of_getElem? (i := 112) (by decide +kernel), List.mem_of_getElem? (i := 539) (by decide +kernel), List.mem_of_getElem? (i := 540) (by decide +kernel)⟩
theorem lw_p17 : lw_okq (⟨"ExchangeRows$Seed", "swap", "(II)V"⟩, 2) := ⟨⟨by decide +kernel, by decide +kernel⟩, List.mem_of_getElem? (i := 26) (by decide +kernel), List.mem_of_getElem? (i := 550) (by decide +kernel), List.mem_of_getElem? (i := 551) (by decide +kernel)⟩
theorem lw_p18 : lw_okq (⟨"ExchangeRows$Seed", "changeSquare", "(III)V"⟩, 2) := ⟨⟨by decide +kernel, by decide +kernel⟩, List.mem_of_getElem? (i := 26) (by decide +kernel), List.mem_of_getElem? (i := 554) (by decide +kernel), List.mem_of_getElem? (i := 555) (by decide +kernel)⟩
theorem lw_p19 : lw_okq (⟨"ExchangeRows$Text", "numberAt", "(I)I"⟩, 2) := ⟨⟨by decide +kernel, by decide +kernel⟩, List.mem_of_getElem? (i := 112) (by decide +kernel), List.mem_of_getElem? (i := 558) (by decide +kernel), List.mem_of_getElem? (i := 559) (by decide +kernel)⟩
theorem lw_p20 : lw_okq (⟨"ExchangeRows$Seed", "often", "(II)I"⟩, 2) := ⟨⟨by decide +kernel, by decide +kernel⟩, List.mem_of_getElem? (i := 26) (by decide +kernel), List.mem_of_getElem? (i := 607) (by decide +kernel), List.mem_of_getElem? (i := 608) (by decide +kernel)⟩
theorem lw_p21 : lw_okq (⟨"ExchangeRows$Search", "isKnown", "(LExchangeRows$Seed;)Z"⟩, 5) := ⟨⟨by decide +kernel, by decide +kernel⟩, List.mem_of_getElem? (i := 86) (by decide +kernel), List.mem_of_getElem? (i := 621) (by decide +kernel), List.mem_of_getElem? (i := 622) (by decide +kernel)⟩
theorem lw_p22 : lw_okq (⟨"ExchangeRows$Search", "isFirst", "(II)Z"⟩, 5) := ⟨⟨by decide +kernel, by decide +kernel⟩, List.mem_of_getElem? (i := 86) (by decide +kernel), List.mem_of_getElem? (i := 633) (by decide +kernel), List.mem_of_getElem? (i := 634) (by decide +kernel)⟩
theorem lw_p23 : lw_okq (⟨"ExchangeRows", "drawn", "(II)I"⟩, 15) := ⟨⟨by decide +kernel, by decide +kernel⟩, List.mem_of_getElem? (i := 16) (by decide +kernel), List.mem_of_getElem? (i := 675) (by decide +kernel), List.mem_of_getElem? (i := 676) (by decide +kernel)⟩
theorem lw_p24 : lw_okq (⟨"ExchangeRows", "isList", "(I)Z"⟩, 15) := ⟨⟨by decide +kernel, by decide +kernel⟩, List.mem_of_getElem? (i := 16) (by decide +kernel), List.mem_of_getElem? (i := 687) (by decide +kernel), List.mem_of_getElem? (i := 688) (by decide +kernel)⟩
theorem lw_p25 : lw_okq (⟨"ExchangeRowsModel", "empties", "(I)V"⟩, 32) := ⟨⟨by decide +kernel, by decide +kernel⟩, List.mem_of_getElem? (i := 789) (by decide +kernel), List.mem_of_getElem? (i := 797) (by decide +kernel), List.mem_of_getElem? (i := 798) (by decide +kernel)⟩
theorem lw_p26 : lw_okq (⟨"ExchangeRowsModel", "tells", "([JI)V"⟩, 32) := ⟨⟨by decide +kernel, by decide +kernel⟩, List.mem_of_getElem? (i := 789) (by decide +kernel), List.mem_of_getElem? (i := 801) (by decide +kernel), List.mem_of_getElem? (i := 802) (by decide +kernel)⟩
theorem lw_p27 : lw_okq (⟨"ExchangeRowsModel", "begun", "([J)V"⟩, 32) := ⟨⟨by decide +kernel, by decide +kernel⟩, List.mem_of_getElem? (i := 789) (by decide +kernel), List.mem_of_getElem? (i := 805) (by decide +kernel), List.mem_of_getElem? (i := 806) (by decide +kernel)⟩
theorem lw_p28 : lw_okq (⟨"ExchangeRowsModel", "refuses", "(I)I"⟩, 32) := ⟨⟨by decide +kernel, by decide +kernel⟩, List.mem_of_getElem? (i := 789) (by decide +kernel), List.mem_of_getElem? (i := 916) (by decide +kernel), List.mem_of_getElem? (i := 917) (by decide +kernel)⟩
theorem lw_p29 : lw_okq (⟨"ExchangeRowsModel", "isRow", "(I)Z"⟩, 32) := ⟨⟨by decide +kernel, by decide +kernel⟩, List.mem_of_getElem? (i := 789) (by decide +kernel), List.mem_of_getElem? (i := 924) (by decide +kernel), List.mem_of_getElem? (i := 925) (by decide +kernel)⟩
theorem lw_p30 : lw_okq (⟨"ExchangeRowsModel", "law", "(I)I"⟩, 32) := ⟨⟨by decide +kernel, by decide +kernel⟩, List.mem_of_getElem? (i := 789) (by decide +kernel), List.mem_of_getElem? (i := 928) (by decide +kernel), List.mem_of_getElem? (i := 929) (by decide +kernel)⟩
theorem lw_p31 : lw_okq (⟨"ExchangeRowsModel", "terms", "(I)V"⟩, 32) := ⟨⟨by decide +kernel, by decide +kernel⟩, List.mem_of_getElem? (i := 789) (by decide +kernel), List.mem_of_getElem? (i := 939) (by decide +kernel), List.mem_of_getElem? (i := 940) (by decide +kernel)⟩
def lw_privs_2 : List (MethodName × Nat) := [(⟨"ExchangeRows$Text", "done", "(ILExchangeRows$Seed;LExchangeRows$Exchanger;)Z"⟩, 2), (⟨"ExchangeRows$Seed", "swap", "(II)V"⟩, 2), (⟨"ExchangeRows$Seed", "changeSquare", "(III)V"⟩, 2), (⟨"ExchangeRows$Text", "numberAt", "(I)I"⟩, 2), (⟨"ExchangeRows$Seed", "often", "(II)I"⟩, 2), (⟨"ExchangeRows$Search", "isKnown", "(LExchangeRows$Seed;)Z"⟩, 5), (⟨"ExchangeRows$Search", "isFirst", "(II)Z"⟩, 5), (⟨"ExchangeRows", "drawn", "(II)I"⟩, 15), (⟨"ExchangeRows", "isList", "(I)Z"⟩, 15), (⟨"ExchangeRowsModel", "empties", "(I)V"⟩, 32), (⟨"ExchangeRowsModel", "tells", "([JI)V"⟩, 32), (⟨"ExchangeRowsModel", "begun", "([J)V"⟩, 32), (⟨"ExchangeRowsModel", "refuses", "(I)I"⟩, 32), (⟨"ExchangeRowsModel", "isRow", "(I)Z"⟩, 32), (⟨"ExchangeRowsModel", "law", "(I)I"⟩, 32), (⟨"ExchangeRowsModel", "terms", "(I)V"⟩, 32)]
theorem lw_r2 : ∀ q ∈ lw_privs_2, lw_okq q := List.forall_mem_cons.mpr ⟨lw_p16, List.forall_mem_cons.mpr ⟨lw_p17, List.forall_mem_cons.mpr ⟨lw_p18, List.forall_mem_cons.mpr ⟨lw_p19, List.forall_mem_cons.mpr ⟨lw_p20, List.forall_mem_cons.mpr ⟨lw_p21, List.forall_mem_cons.mpr ⟨lw_p22, List.forall_mem_cons.mpr ⟨lw_p23, List.forall_mem_cons.mpr ⟨lw_p24, List.forall_mem_cons.mpr ⟨lw_p25, List.forall_mem_cons.mpr ⟨lw_p26, List.forall_mem_cons.mpr ⟨lw_p27, List.forall_mem_cons.mpr ⟨lw_p28, List.forall_mem_cons.mpr ⟨lw_p29, List.forall_mem_cons.mpr ⟨lw_p30, List.forall_mem_cons.mpr ⟨lw_p31, fun _ h => absurd h List.not_mem_nil⟩⟩⟩⟩⟩⟩⟩⟩⟩⟩⟩⟩⟩⟩⟩⟩
theorem lw_p32 : lw_okq (⟨"ExchangeRowsModel", "figure", "(I)I"⟩, 32) := ⟨⟨by decide +kernel, by decide +kernel⟩, List.mem_of_getElem? (i := 789) (by decide +kernel), List.mem_of_getElem? (i := 943) (by decide +kernel), List.mem_of_getElem? (i := 944) (by decide +kernel)⟩
theorem lw_p33 : lw_okq (⟨"ExchangeRowsModel", "firstBelow", "()I"⟩, 32) := ⟨⟨by decide +kernel, by decide +kernel⟩, List.mem_of_getElem? (i := 789) (by decide +kernel), List.mem_of_getElem? (i := 955) (by decide +kernel), List.mem_of_getElem? (i := 956) (by decide +kernel)⟩
theorem lw_p34 : lw_okq (⟨"ExchangeRowsModel", "far", "(I)I"⟩, 32) := ⟨⟨by decide +kernel, by decide +kernel⟩, List.mem_of_getElem? (i := 789) (by decide +kernel), List.mem_of_getElem? (i := 963) (by decide +kernel), List.mem_of_getElem? (i := 964) (by decide +kernel)⟩
theorem lw_p35 : lw_okq (⟨"ExchangeRowsModel", "farther", "(I)J"⟩, 32) := ⟨⟨by decide +kernel, by decide +kernel⟩, List.mem_of_getElem? (i := 789) (by decide +kernel), List.mem_of_getElem? (i := 972) (by decide +kernel), List.mem_of_getElem? (i := 973) (by decide +kernel)⟩
theorem lw_p36 : lw_okq (⟨"ExchangeRowsModel", "keeps", "(II)Z"⟩, 32) := ⟨⟨by decide +kernel, by decide +kernel⟩, List.mem_of_getElem? (i := 789) (by decide +kernel), List.mem_of_getElem? (i := 977) (by decide +kernel), List.mem_of_getElem? (i := 978) (by decide +kernel)⟩
theorem lw_p37 : lw_okq (⟨"ExchangeRowsModel", "areKept", "(II)Z"⟩, 32) := ⟨⟨by decide +kernel, by decide +kernel⟩, List.mem_of_getElem? (i := 789) (by decide +kernel), List.mem_of_getElem? (i := 981) (by decide +kernel), List.mem_of_getElem? (i := 982) (by decide +kernel)⟩
theorem lw_p38 : lw_okq (⟨"ExchangeRowsModel", "isLetter", "(I)Z"⟩, 32) := ⟨⟨by decide +kernel, by decide +kernel⟩, List.mem_of_getElem? (i := 789) (by decide +kernel), List.mem_of_getElem? (i := 1013) (by decide +kernel), List.mem_of_getElem? (i := 1014) (by decide +kernel)⟩
theorem lw_p39 : lw_okq (⟨"ExchangeRowsModel", "puts", "([JIII)V"⟩, 32) := ⟨⟨by decide +kernel, by decide +kernel⟩, List.mem_of_getElem? (i := 789) (by decide +kernel), List.mem_of_getElem? (i := 1023) (by decide +kernel), List.mem_of_getElem? (i := 1024) (by decide +kernel)⟩
theorem lw_p40 : lw_okq (⟨"ExchangeRowsModel", "exchanges", "([JI)Z"⟩, 32) := ⟨⟨by decide +kernel, by decide +kernel⟩, List.mem_of_getElem? (i := 789) (by decide +kernel), List.mem_of_getElem? (i := 1050) (by decide +kernel), List.mem_of_getElem? (i := 1051) (by decide +kernel)⟩
theorem lw_p41 : lw_okq (⟨"ExchangeRowsModel", "multiplies", "([JIJ)Z"⟩, 32) := ⟨⟨by decide +kernel, by decide +kernel⟩, List.mem_of_getElem? (i := 789) (by decide +kernel), List.mem_of_getElem? (i := 1054) (by decide +kernel), List.mem_of_getElem? (i := 1055) (by decide +kernel)⟩
theorem lw_p42 : lw_okq (⟨"ExchangeRowsModel", "isSmall", "(JJ)Z"⟩, 32) := ⟨⟨by decide +kernel, by decide +kernel⟩, List.mem_of_getElem? (i := 789) (by decide +kernel), List.mem_of_getElem? (i := 1058) (by decide +kernel), List.mem_of_getElem? (i := 1059) (by decide +kernel)⟩
theorem lw_p43 : lw_okq (⟨"ExchangeRowsModel", "isTable", "([JI)Z"⟩, 32) := ⟨⟨by decide +kernel, by decide +kernel⟩, List.mem_of_getElem? (i := 789) (by decide +kernel), List.mem_of_getElem? (i := 1063) (by decide +kernel), List.mem_of_getElem? (i := 1064) (by decide +kernel)⟩
theorem lw_p44 : lw_okq (⟨"ExchangeRowsModel", "degrees", "([JI)V"⟩, 32) := ⟨⟨by decide +kernel, by decide +kernel⟩, List.mem_of_getElem? (i := 789) (by decide +kernel), List.mem_of_getElem? (i := 1073) (by decide +kernel), List.mem_of_getElem? (i := 1074) (by decide +kernel)⟩
theorem lw_p45 : lw_okq (⟨"ExchangeRowsModel", "comes", "([J)V"⟩, 32) := ⟨⟨by decide +kernel, by decide +kernel⟩, List.mem_of_getElem? (i := 789) (by decide +kernel), List.mem_of_getElem? (i := 1077) (by decide +kernel), List.mem_of_getElem? (i := 1078) (by decide +kernel)⟩
theorem lw_p46 : lw_okq (⟨"ExchangeRowsModel", "finds", "(I)V"⟩, 32) := ⟨⟨by decide +kernel, by decide +kernel⟩, List.mem_of_getElem? (i := 789) (by decide +kernel), List.mem_of_getElem? (i := 1111) (by decide +kernel), List.mem_of_getElem? (i := 1112) (by decide +kernel)⟩
theorem lw_p47 : lw_okq (⟨"ExchangeRowsModel", "stands", "(IJJ)Z"⟩, 32) := ⟨⟨by decide +kernel, by decide +kernel⟩, List.mem_of_getElem? (i := 789) (by decide +kernel), List.mem_of_getElem? (i := 1118) (by decide +kernel), List.mem_of_getElem? (i := 1119) (by decide +kernel)⟩
def lw_privs_3 : List (MethodName × Nat) := [(⟨"ExchangeRowsModel", "figure", "(I)I"⟩, 32), (⟨"ExchangeRowsModel", "firstBelow", "()I"⟩, 32), (⟨"ExchangeRowsModel", "far", "(I)I"⟩, 32), (⟨"ExchangeRowsModel", "farther", "(I)J"⟩, 32), (⟨"ExchangeRowsModel", "keeps", "(II)Z"⟩, 32), (⟨"ExchangeRowsModel", "areKept", "(II)Z"⟩, 32), (⟨"ExchangeRowsModel", "isLetter", "(I)Z"⟩, 32), (⟨"ExchangeRowsModel", "puts", "([JIII)V"⟩, 32), (⟨"ExchangeRowsModel", "exchanges", "([JI)Z"⟩, 32), (⟨"ExchangeRowsModel", "multiplies", "([JIJ)Z"⟩, 32), (⟨"ExchangeRowsModel", "isSmall", "(JJ)Z"⟩, 32), (⟨"ExchangeRowsModel", "isTable", "([JI)Z"⟩, 32), (⟨"ExchangeRowsModel", "degrees", "([JI)V"⟩, 32), (⟨"ExchangeRowsModel", "comes", "([J)V"⟩, 32), (⟨"ExchangeRowsModel", "finds", "(I)V"⟩, 32), (⟨"ExchangeRowsModel", "stands", "(IJJ)Z"⟩, 32)]
theorem lw_r3 : ∀ q ∈ lw_privs_3, lw_okq q := List.forall_mem_cons.mpr ⟨lw_p32, List.forall_mem_cons.mpr ⟨lw_p33, List.forall_mem_cons.mpr ⟨lw_p34, List.forall_mem_cons.mpr ⟨lw_p35, List.forall_mem_cons.mpr ⟨lw_p36, List.forall_mem_cons.mpr ⟨lw_p37, List.forall_mem_cons.mpr ⟨lw_p38, List.forall_mem_cons.mpr ⟨lw_p39, List.forall_mem_cons.mpr ⟨lw_p40, List.forall_mem_cons.mpr ⟨lw_p41, List.forall_mem_cons.mpr ⟨lw_p42, List.forall_mem_cons.mpr ⟨lw_p43, List.forall_mem_cons.mpr ⟨lw_p44, List.forall_mem_cons.mpr ⟨lw_p45, List.forall_mem_cons.mpr ⟨lw_p46, List.forall_mem_cons.mpr ⟨lw_p47, fun _ h => absurd h List.not_mem_nil⟩⟩⟩⟩⟩⟩⟩⟩⟩⟩⟩⟩⟩⟩⟩⟩
theorem lw_p48 : lw_okq (⟨"ExchangeRowsModel", "hasValue", "(IJJ)Z"⟩, 32) := ⟨⟨by decide +kernel, by decide +kernel⟩, List.mem_of_getElem? (i := 789) (by decide +kernel), List.mem_of_getElem? (i := 1129) (by decide +kernel), List.mem_of_getElem? (i := 1130) (by decide +kernel)⟩
theorem lw_p49 : lw_okq (⟨"ExchangeRowsModel", "draws", "(I)I"⟩, 32) := ⟨⟨by decide +kernel, by decide +kernel⟩, List.mem_of_getElem? (i := 789) (by decide +kernel), List.mem_of_getElem? (i := 1137) (by decide +kernel), List.mem_of_getElem? (i := 1138) (by decide +kernel)⟩
theorem lw_p50 : lw_okq (⟨"ExchangeRowsModel", "hasStatement", "()Z"⟩, 32) := ⟨⟨by decide +kernel, by decide +kernel⟩, List.mem_of_getElem? (i := 789) (by decide +kernel), List.mem_of_getElem? (i := 1152) (by decide +kernel), List.mem_of_getElem? (i := 1153) (by decide +kernel)⟩
theorem lw_p51 : lw_okq (⟨"ExchangeRowsModel", "here", "()I"⟩, 32) := ⟨⟨by decide +kernel, by decide +kernel⟩, List.mem_of_getElem? (i := 789) (by decide +kernel), List.mem_of_getElem? (i := 1156) (by decide +kernel), List.mem_of_getElem? (i := 1157) (by decide +kernel)⟩
theorem lw_p52 : lw_okq (⟨"ExchangeRowsModel", "takes", "(I)Z"⟩, 32) := ⟨⟨by decide +kernel, by decide +kernel⟩, List.mem_of_getElem? (i := 789) (by decide +kernel), List.mem_of_getElem? (i := 1163) (by decide +kernel), List.mem_of_getElem? (i := 1164) (by decide +kernel)⟩
theorem lw_p53 : lw_okq (⟨"ExchangeRowsModel", "hasFigure", "(I)Z"⟩, 32) := ⟨⟨by decide +kernel, by decide +kernel⟩, List.mem_of_getElem? (i := 789) (by decide +kernel), List.mem_of_getElem? (i := 1167) (by decide +kernel), List.mem_of_getElem? (i := 1168) (by decide +kernel)⟩
theorem lw_p54 : lw_okq (⟨"ExchangeRowsModel", "isDone", "(I)Z"⟩, 32) := ⟨⟨by decide +kernel, by decide +kernel⟩, List.mem_of_getElem? (i := 789) (by decide +kernel), List.mem_of_getElem? (i := 1173) (by decide +kernel), List.mem_of_getElem? (i := 1174) (by decide +kernel)⟩
theorem lw_p55 : lw_okq (⟨"ExchangeRowsModel", "areSmall", "(I)Z"⟩, 32) := ⟨⟨by decide +kernel, by decide +kernel⟩, List.mem_of_getElem? (i := 789) (by decide +kernel), List.mem_of_getElem? (i := 1191) (by decide +kernel), List.mem_of_getElem? (i := 1192) (by decide +kernel)⟩
theorem lw_p56 : lw_okq (⟨"ExchangeRowsModel", "isMade", "(III)Z"⟩, 32) := ⟨⟨by decide +kernel, by decide +kernel⟩, List.mem_of_getElem? (i := 789) (by decide +kernel), List.mem_of_getElem? (i := 1197) (by decide +kernel), List.mem_of_getElem? (i := 1198) (by decide +kernel)⟩
def lw_privs_4 : List (MethodName × Nat) := [(⟨"ExchangeRowsModel", "hasValue", "(IJJ)Z"⟩, 32), (⟨"ExchangeRowsModel", "draws", "(I)I"⟩, 32), (⟨"ExchangeRowsModel", "hasStatement", "()Z"⟩, 32), (⟨"ExchangeRowsModel", "here", "()I"⟩, 32), (⟨"ExchangeRowsModel", "takes", "(I)Z"⟩, 32), (⟨"ExchangeRowsModel", "hasFigure", "(I)Z"⟩, 32), (⟨"ExchangeRowsModel", "isDone", "(I)Z"⟩, 32), (⟨"ExchangeRowsModel", "areSmall", "(I)Z"⟩, 32), (⟨"ExchangeRowsModel", "isMade", "(III)Z"⟩, 32)]
theorem lw_r4 : ∀ q ∈ lw_privs_4, lw_okq q := List.forall_mem_cons.mpr ⟨lw_p48, List.forall_mem_cons.mpr ⟨lw_p49, List.forall_mem_cons.mpr ⟨lw_p50, List.forall_mem_cons.mpr ⟨lw_p51, List.forall_mem_cons.mpr ⟨lw_p52, List.forall_mem_cons.mpr ⟨lw_p53, List.forall_mem_cons.mpr ⟨lw_p54, List.forall_mem_cons.mpr ⟨lw_p55, List.forall_mem_cons.mpr ⟨lw_p56, fun _ h => absurd h List.not_mem_nil⟩⟩⟩⟩⟩⟩⟩⟩⟩
def lw_privs : List (MethodName × Nat) := lw_privs_1 ++ (lw_privs_2 ++ (lw_privs_3 ++ (lw_privs_4)))
def lw_tbl : List Cond := k2_sels lw_privs ++ tables_1
theorem lw_privs_ok : ∀ q ∈ lw_privs, lw_okq q := by
  show ∀ q ∈ lw_privs_1 ++ (lw_privs_2 ++ (lw_privs_3 ++ (lw_privs_4))), lw_okq q
  exact List.forall_mem_append.mpr ⟨lw_r1, List.forall_mem_append.mpr ⟨lw_r2, List.forall_mem_append.mpr ⟨lw_r3, lw_r4⟩⟩⟩
/-! ===== BEGIN words of one list among another's, by their places ===== -/
theorem goodIn_r {big : List Cond} (ws : List Cond) (ps : List Nat) (hp : ws = ps.filterMap (fun i => big[i]?)) (h : ws.all goodWord = true) : GoodIn big ws := by
  intro w hw
  have h1 := List.all_eq_true.mp h w hw
  rw [hp] at hw
  obtain ⟨i, -, hi⟩ := List.mem_filterMap.mp hw
  have hm : w ∈ big := by first | exact List.mem_of_getElem? hi | exact List.getElem?_mem hi
  exact ⟨hm, good_of_word h1⟩
theorem goodIn_app {big a b : List Cond} (ha : GoodIn big a) (hb : GoodIn big b) : GoodIn big (a ++ b) := fun w h => (List.mem_append.mp h).elim (ha w) (hb w)
theorem goodIn_ca {big a b : List Cond} {c : Cond} (ha : GoodIn big (c :: a)) (hb : GoodIn big b) : GoodIn big (c :: (a ++ b)) := fun w h => (List.mem_cons.mp h).elim (fun e => ha w (List.mem_cons.mpr (Or.inl e))) (fun h => (List.mem_append.mp h).elim (fun h => ha w (List.mem_cons.mpr (Or.inr h))) (hb w))
theorem goodIn_sub {big ws : List Cond} (hm : ∀ w ∈ ws, w ∈ big) (h : ws.all goodWord = true) : GoodIn big ws := fun w hw => ⟨hm w hw, good_of_word (List.all_eq_true.mp h w hw)⟩
/-! ===== END ===== -/
/-! ===== BEGIN printed: names, fields, word lists, decode rows ===== -/
def RX0 : String := "ExchangeRows$Exchanger"
def TX0 : u_T := fun k => match k with
  | 0 => ("ExchangeRows$Exchanger", "up", "LExchangeRows$Fraction;", true)
  | _ => ("ExchangeRows$Exchanger", "down", "LExchangeRows$Fraction;", true)
def tyX0 : Nat → FieldType := fun k => match k with
  | 0 => .object "ExchangeRows$Fraction"
  | _ => .object "ExchangeRows$Fraction"
abbrev wsX00 : List Cond := u_ws RX0 TX0 2
theorem nmX0 : ∀ a, a < 2 → ∀ b, b < 2 → a ≠ b → (TX0 a).2.1 ≠ (TX0 b).2.1 := by decide +kernel
theorem tyX0_ok : ∀ k, k < 2 → parseFieldDescriptor (TX0 k).2.2.1 = some (tyX0 k) := by decide +kernel
abbrev cX0_init : ByteArray := prog_2_method_1_code
def yX0_init : MethodName := ⟨RX0, "<init>", "()V"⟩
abbrev cX0_make : ByteArray := prog_2_method_2_code
def yX0_make : MethodName := ⟨RX0, "make", "(LExchangeRows$Seed;I)Z"⟩
abbrev cX0_multiply : ByteArray := prog_2_method_3_code
def yX0_multiply : MethodName := ⟨RX0, "multiply", "(LExchangeRows$Seed;IILExchangeRows$Fraction;)Z"⟩
def RX1 : String := "ExchangeRows$Fraction"
def TX1 : u_T := fun k => match k with
  | 0 => ("ExchangeRows$Fraction", "above", "J", false)
  | _ => ("ExchangeRows$Fraction", "under", "J", false)
def tyX1 : Nat → FieldType := fun k => match k with
  | 0 => .long
  | _ => .long
abbrev wsX10 : List Cond := u_ws RX1 TX1 2
theorem nmX1 : ∀ a, a < 2 → ∀ b, b < 2 → a ≠ b → (TX1 a).2.1 ≠ (TX1 b).2.1 := by decide +kernel
theorem tyX1_ok : ∀ k, k < 2 → parseFieldDescriptor (TX1 k).2.2.1 = some (tyX1 k) := by decide +kernel
abbrev cX1_init : ByteArray := prog_3_method_1_code
def yX1_init : MethodName := ⟨RX1, "<init>", "()V"⟩
abbrev cX1_set : ByteArray := prog_3_method_2_code
def yX1_set : MethodName := ⟨RX1, "set", "(JJ)Z"⟩
abbrev cX1_same : ByteArray := prog_3_method_3_code
def yX1_same : MethodName := ⟨RX1, "same", "(LExchangeRows$Fraction;)Z"⟩
def RX2 : String := "ExchangeRows$Law"
def TX2 : u_T := fun k => match k with
  | _ => ("", "", "", false)
def tyX2 : Nat → FieldType := fun k => match k with
  | _ => .int
abbrev wsX20 : List Cond := u_ws RX2 TX2 0
theorem nmX2 : ∀ a, a < 0 → ∀ b, b < 0 → a ≠ b → (TX2 a).2.1 ≠ (TX2 b).2.1 := by decide +kernel
theorem tyX2_ok : ∀ k, k < 0 → parseFieldDescriptor (TX2 k).2.2.1 = some (tyX2 k) := by decide +kernel
abbrev cX2_orderOf : ByteArray := prog_4_method_2_code
def yX2_orderOf : MethodName := ⟨RX2, "orderOf", "(I)I"⟩
abbrev cX2_product : ByteArray := prog_4_method_3_code
def yX2_product : MethodName := ⟨RX2, "product", "(II[II)J"⟩
abbrev cX2_divisor : ByteArray := prog_4_method_4_code
def yX2_divisor : MethodName := ⟨RX2, "divisor", "(I[II)J"⟩
abbrev cX2_back : ByteArray := prog_4_method_5_code
def yX2_back : MethodName := ⟨RX2, "back", "([III)J"⟩
def RX3 : String := "ExchangeRows$Past"
def TX3 : u_T := fun k => match k with
  | 0 => ("ExchangeRows$Past", "many", "I", false)
  | _ => ("ExchangeRows$Past", "seeds", "[LExchangeRows$Seed;", true)
def tyX3 : Nat → FieldType := fun k => match k with
  | 0 => .int
  | _ => .array (.object "ExchangeRows$Seed")
abbrev wsX30 : List Cond := u_ws RX3 TX3 2
theorem nmX3 : ∀ a, a < 2 → ∀ b, b < 2 → a ≠ b → (TX3 a).2.1 ≠ (TX3 b).2.1 := by decide +kernel
theorem tyX3_ok : ∀ k, k < 2 → parseFieldDescriptor (TX3 k).2.2.1 = some (tyX3 k) := by decide +kernel
abbrev cX3_init : ByteArray := prog_5_method_1_code
def yX3_init : MethodName := ⟨RX3, "<init>", "()V"⟩
abbrev cX3_keep : ByteArray := prog_5_method_2_code
def yX3_keep : MethodName := ⟨RX3, "keep", "(LExchangeRows$Seed;)V"⟩
abbrev cX3_dropOldest : ByteArray := prog_5_method_3_code
def yX3_dropOldest : MethodName := ⟨RX3, "dropOldest", "()V"⟩
abbrev cX3_takeBack : ByteArray := prog_5_method_4_code
def yX3_takeBack : MethodName := ⟨RX3, "takeBack", "(LExchangeRows$Seed;)Z"⟩
abbrev cX3_forget : ByteArray := prog_5_method_5_code
def yX3_forget : MethodName := ⟨RX3, "forget", "()V"⟩
def RX4 : String := "ExchangeRows$Row"
def TX4 : u_T := fun k => match k with
  | 0 => ("ExchangeRows$Row", "law", "I", false)
  | 1 => ("ExchangeRows$Row", "figure", "I", false)
  | 2 => ("ExchangeRows$Row", "length", "I", false)
  | 3 => ("ExchangeRows$Row", "why", "I", false)
  | 4 => ("ExchangeRows$Row", "left", "I", false)
  | 5 => ("ExchangeRows$Row", "starts", "[I", true)
  | _ => ("ExchangeRows$Row", "terms", "[I", true)
def tyX4 : Nat → FieldType := fun k => match k with
  | 0 => .int
  | 1 => .int
  | 2 => .int
  | 3 => .int
  | 4 => .int
  | 5 => .array .int
  | _ => .array .int
abbrev wsX40 : List Cond := u_ws RX4 TX4 7
theorem nmX4 : ∀ a, a < 7 → ∀ b, b < 7 → a ≠ b → (TX4 a).2.1 ≠ (TX4 b).2.1 := by decide +kernel
theorem tyX4_ok : ∀ k, k < 7 → parseFieldDescriptor (TX4 k).2.2.1 = some (tyX4 k) := by decide +kernel
abbrev cX4_init : ByteArray := prog_6_method_1_code
def yX4_init : MethodName := ⟨RX4, "<init>", "()V"⟩
abbrev cX4_found : ByteArray := prog_6_method_2_code
def yX4_found : MethodName := ⟨RX4, "found", "(II)V"⟩
abbrev cX4_become : ByteArray := prog_6_method_3_code
def yX4_become : MethodName := ⟨RX4, "become", "(LExchangeRows$Row;)V"⟩
abbrev cX4_order : ByteArray := prog_6_method_4_code
def yX4_order : MethodName := ⟨RX4, "order", "()I"⟩
abbrev cX4_tellStart : ByteArray := prog_6_method_5_code
def yX4_tellStart : MethodName := ⟨RX4, "tellStart", "(II)I"⟩
abbrev cX4_grow : ByteArray := prog_6_method_6_code
def yX4_grow : MethodName := ⟨RX4, "grow", "()V"⟩
abbrev cX4_extend : ByteArray := prog_6_method_7_code
def yX4_extend : MethodName := ⟨RX4, "extend", "(I)Z"⟩
abbrev cX4_reaches : ByteArray := prog_6_method_8_code
def yX4_reaches : MethodName := ⟨RX4, "reaches", "(I)Z"⟩
abbrev cX4_termAt : ByteArray := prog_6_method_9_code
def yX4_termAt : MethodName := ⟨RX4, "termAt", "(I)I"⟩
abbrev cX4_firstBelowOne : ByteArray := prog_6_method_10_code
def yX4_firstBelowOne : MethodName := ⟨RX4, "firstBelowOne", "()I"⟩
abbrev cX4_firstCommon : ByteArray := prog_6_method_11_code
def yX4_firstCommon : MethodName := ⟨RX4, "firstCommon", "()I"⟩
abbrev cX4_firstMultiple : ByteArray := prog_6_method_12_code
def yX4_firstMultiple : MethodName := ⟨RX4, "firstMultiple", "(I)I"⟩
abbrev cX4_firstUnlike : ByteArray := prog_6_method_13_code
def yX4_firstUnlike : MethodName := ⟨RX4, "firstUnlike", "(LExchangeRows$Row;)I"⟩
abbrev cX4_keep : ByteArray := prog_6_method_14_code
def yX4_keep : MethodName := ⟨RX4, "keep", "(ILExchangeRows$Fraction;)Z"⟩
abbrev cX4_keepOfFour : ByteArray := prog_6_method_15_code
def yX4_keepOfFour : MethodName := ⟨RX4, "keepOfFour", "(JJJJLExchangeRows$Fraction;)V"⟩
abbrev cX4_isPlain : ByteArray := prog_6_method_16_code
def yX4_isPlain : MethodName := ⟨RX4, "isPlain", "(II)Z"⟩
def RX5 : String := "ExchangeRows$Search"
def TX5 : u_T := fun k => match k with
  | 0 => ("ExchangeRows$Search", "many", "I", false)
  | 1 => ("ExchangeRows$Search", "found", "[LExchangeRows$Seed;", true)
  | 2 => ("ExchangeRows$Search", "from", "[I", true)
  | 3 => ("ExchangeRows$Search", "by", "[I", true)
  | _ => ("ExchangeRows$Search", "depth", "[I", true)
def tyX5 : Nat → FieldType := fun k => match k with
  | 0 => .int
  | 1 => .array (.object "ExchangeRows$Seed")
  | 2 => .array .int
  | 3 => .array .int
  | _ => .array .int
abbrev wsX50 : List Cond := u_ws RX5 TX5 5
theorem nmX5 : ∀ a, a < 5 → ∀ b, b < 5 → a ≠ b → (TX5 a).2.1 ≠ (TX5 b).2.1 := by decide +kernel
theorem tyX5_ok : ∀ k, k < 5 → parseFieldDescriptor (TX5 k).2.2.1 = some (tyX5 k) := by decide +kernel
abbrev cX5_init : ByteArray := prog_7_method_1_code
def yX5_init : MethodName := ⟨RX5, "<init>", "()V"⟩
abbrev cX5_explore : ByteArray := prog_7_method_2_code
def yX5_explore : MethodName := ⟨RX5, "explore", "(LExchangeRows$Seed;ILExchangeRows$Exchanger;)V"⟩
abbrev cX5_isKnown : ByteArray := prog_7_method_3_code
def yX5_isKnown : MethodName := ⟨RX5, "isKnown", "(LExchangeRows$Seed;)Z"⟩
abbrev cX5_unlikeValues : ByteArray := prog_7_method_4_code
def yX5_unlikeValues : MethodName := ⟨RX5, "unlikeValues", "()I"⟩
abbrev cX5_isFirst : ByteArray := prog_7_method_5_code
def yX5_isFirst : MethodName := ⟨RX5, "isFirst", "(II)Z"⟩
abbrev cX5_greatestDegree : ByteArray := prog_7_method_6_code
def yX5_greatestDegree : MethodName := ⟨RX5, "greatestDegree", "()I"⟩
abbrev cX5_notWhole : ByteArray := prog_7_method_7_code
def yX5_notWhole : MethodName := ⟨RX5, "notWhole", "()I"⟩
abbrev cX5_firstWith : ByteArray := prog_7_method_8_code
def yX5_firstWith : MethodName := ⟨RX5, "firstWith", "(JJ)I"⟩
abbrev cX5_stepsTo : ByteArray := prog_7_method_9_code
def yX5_stepsTo : MethodName := ⟨RX5, "stepsTo", "(I)I"⟩
abbrev cX5_letterTo : ByteArray := prog_7_method_10_code
def yX5_letterTo : MethodName := ⟨RX5, "letterTo", "(II)I"⟩
def RX6 : String := "ExchangeRows$Seed"
def TX6 : u_T := fun k => match k with
  | 0 => ("ExchangeRows$Seed", "size", "I", false)
  | _ => ("ExchangeRows$Seed", "cells", "[I", true)
def tyX6 : Nat → FieldType := fun k => match k with
  | 0 => .int
  | _ => .array .int
abbrev wsX60 : List Cond := u_ws RX6 TX6 2
theorem nmX6 : ∀ a, a < 2 → ∀ b, b < 2 → a ≠ b → (TX6 a).2.1 ≠ (TX6 b).2.1 := by decide +kernel
theorem tyX6_ok : ∀ k, k < 2 → parseFieldDescriptor (TX6 k).2.2.1 = some (tyX6 k) := by decide +kernel
abbrev cX6_init : ByteArray := prog_8_method_1_code
def yX6_init : MethodName := ⟨RX6, "<init>", "()V"⟩
abbrev cX6_clear : ByteArray := prog_8_method_2_code
def yX6_clear : MethodName := ⟨RX6, "clear", "(I)Z"⟩
abbrev cX6_begin : ByteArray := prog_8_method_3_code
def yX6_begin : MethodName := ⟨RX6, "begin", "()V"⟩
abbrev cX6_become : ByteArray := prog_8_method_4_code
def yX6_become : MethodName := ⟨RX6, "become", "(LExchangeRows$Seed;)V"⟩
abbrev cX6_has : ByteArray := prog_8_method_5_code
def yX6_has : MethodName := ⟨RX6, "has", "(I)Z"⟩
abbrev cX6_above : ByteArray := prog_8_method_6_code
def yX6_above : MethodName := ⟨RX6, "above", "(I)I"⟩
abbrev cX6_under : ByteArray := prog_8_method_7_code
def yX6_under : MethodName := ⟨RX6, "under", "(I)I"⟩
abbrev cX6_first : ByteArray := prog_8_method_8_code
def yX6_first : MethodName := ⟨RX6, "first", "(I)I"⟩
abbrev cX6_b : ByteArray := prog_8_method_9_code
def yX6_b : MethodName := ⟨RX6, "b", "(II)I"⟩
abbrev cX6_d : ByteArray := prog_8_method_10_code
def yX6_d : MethodName := ⟨RX6, "d", "(II)I"⟩
abbrev cX6_setB : ByteArray := prog_8_method_11_code
def yX6_setB : MethodName := ⟨RX6, "setB", "(III)V"⟩
abbrev cX6_setValue : ByteArray := prog_8_method_12_code
def yX6_setValue : MethodName := ⟨RX6, "setValue", "(ILExchangeRows$Fraction;)V"⟩
abbrev cX6_tellEntry : ByteArray := prog_8_method_13_code
def yX6_tellEntry : MethodName := ⟨RX6, "tellEntry", "(III)Z"⟩
abbrev cX6_tellFirst : ByteArray := prog_8_method_14_code
def yX6_tellFirst : MethodName := ⟨RX6, "tellFirst", "(II)Z"⟩
abbrev cX6_changePlaces : ByteArray := prog_8_method_15_code
def yX6_changePlaces : MethodName := ⟨RX6, "changePlaces", "(II)Z"⟩
abbrev cX6_changeSquare : ByteArray := prog_8_method_16_code
def yX6_changeSquare : MethodName := ⟨RX6, "changeSquare", "(III)V"⟩
abbrev cX6_swap : ByteArray := prog_8_method_17_code
def yX6_swap : MethodName := ⟨RX6, "swap", "(II)V"⟩
abbrev cX6_exchangedB : ByteArray := prog_8_method_18_code
def yX6_exchangedB : MethodName := ⟨RX6, "exchangedB", "(III)I"⟩
abbrev cX6_staysSmall : ByteArray := prog_8_method_19_code
def yX6_staysSmall : MethodName := ⟨RX6, "staysSmall", "(I)Z"⟩
abbrev cX6_exchangeTable : ByteArray := prog_8_method_20_code
def yX6_exchangeTable : MethodName := ⟨RX6, "exchangeTable", "(I)V"⟩
abbrev cX6_exchangeDegrees : ByteArray := prog_8_method_21_code
def yX6_exchangeDegrees : MethodName := ⟨RX6, "exchangeDegrees", "(I)V"⟩
abbrev cX6_isWhole : ByteArray := prog_8_method_22_code
def yX6_isWhole : MethodName := ⟨RX6, "isWhole", "(I)Z"⟩
abbrev cX6_without : ByteArray := prog_8_method_23_code
def yX6_without : MethodName := ⟨RX6, "without", "(I)I"⟩
abbrev cX6_sameValues : ByteArray := prog_8_method_24_code
def yX6_sameValues : MethodName := ⟨RX6, "sameValues", "(LExchangeRows$Seed;)Z"⟩
abbrev cX6_often : ByteArray := prog_8_method_25_code
def yX6_often : MethodName := ⟨RX6, "often", "(II)I"⟩
abbrev cX6_alike : ByteArray := prog_8_method_26_code
def yX6_alike : MethodName := ⟨RX6, "alike", "(LExchangeRows$Seed;)Z"⟩
abbrev cX6_greatestDegree : ByteArray := prog_8_method_27_code
def yX6_greatestDegree : MethodName := ⟨RX6, "greatestDegree", "()I"⟩
abbrev cX6_entriesNotZero : ByteArray := prog_8_method_28_code
def yX6_entriesNotZero : MethodName := ⟨RX6, "entriesNotZero", "()I"⟩
def RX7 : String := "ExchangeRows$Tale"
def TX7 : u_T := fun k => match k with
  | 0 => ("ExchangeRows$Tale", "size", "I", false)
  | _ => ("ExchangeRows$Tale", "places", "[I", true)
def tyX7 : Nat → FieldType := fun k => match k with
  | 0 => .int
  | _ => .array .int
abbrev wsX70 : List Cond := u_ws RX7 TX7 2
theorem nmX7 : ∀ a, a < 2 → ∀ b, b < 2 → a ≠ b → (TX7 a).2.1 ≠ (TX7 b).2.1 := by decide +kernel
theorem tyX7_ok : ∀ k, k < 2 → parseFieldDescriptor (TX7 k).2.2.1 = some (tyX7 k) := by decide +kernel
abbrev cX7_init : ByteArray := prog_9_method_1_code
def yX7_init : MethodName := ⟨RX7, "<init>", "()V"⟩
abbrev cX7_isMissing : ByteArray := prog_9_method_2_code
def yX7_isMissing : MethodName := ⟨RX7, "isMissing", "()Z"⟩
abbrev cX7_has : ByteArray := prog_9_method_3_code
def yX7_has : MethodName := ⟨RX7, "has", "(I)Z"⟩
abbrev cX7_clear : ByteArray := prog_9_method_4_code
def yX7_clear : MethodName := ⟨RX7, "clear", "(I)V"⟩
abbrev cX7_tell : ByteArray := prog_9_method_5_code
def yX7_tell : MethodName := ⟨RX7, "tell", "(II)V"⟩
abbrev cX7_at : ByteArray := prog_9_method_6_code
def yX7_at : MethodName := ⟨RX7, "at", "(I)I"⟩
abbrev cX7_inRange : ByteArray := prog_9_method_7_code
def yX7_inRange : MethodName := ⟨RX7, "inRange", "()Z"⟩
abbrev cX7_madeBy : ByteArray := prog_9_method_8_code
def yX7_madeBy : MethodName := ⟨RX7, "madeBy", "(II)Z"⟩
abbrev cX7_firstOtherwise : ByteArray := prog_9_method_9_code
def yX7_firstOtherwise : MethodName := ⟨RX7, "firstOtherwise", "(LExchangeRows$Row;)I"⟩
abbrev cX7_takeFrom : ByteArray := prog_9_method_10_code
def yX7_takeFrom : MethodName := ⟨RX7, "takeFrom", "(LExchangeRows$Row;I)I"⟩
def RX8 : String := "ExchangeRows$Text"
def TX8 : u_T := fun k => match k with
  | 0 => ("ExchangeRows$Text", "size", "I", false)
  | _ => ("ExchangeRows$Text", "letters", "[I", true)
def tyX8 : Nat → FieldType := fun k => match k with
  | 0 => .int
  | _ => .array .int
abbrev wsX80 : List Cond := u_ws RX8 TX8 2
theorem nmX8 : ∀ a, a < 2 → ∀ b, b < 2 → a ≠ b → (TX8 a).2.1 ≠ (TX8 b).2.1 := by decide +kernel
theorem tyX8_ok : ∀ k, k < 2 → parseFieldDescriptor (TX8 k).2.2.1 = some (tyX8 k) := by decide +kernel
abbrev cX8_init : ByteArray := prog_10_method_1_code
def yX8_init : MethodName := ⟨RX8, "<init>", "()V"⟩
abbrev cX8_add : ByteArray := prog_10_method_2_code
def yX8_add : MethodName := ⟨RX8, "add", "(I)Z"⟩
abbrev cX8_forget : ByteArray := prog_10_method_3_code
def yX8_forget : MethodName := ⟨RX8, "forget", "()V"⟩
abbrev cX8_firstMisplaced : ByteArray := prog_10_method_4_code
def yX8_firstMisplaced : MethodName := ⟨RX8, "firstMisplaced", "()I"⟩
abbrev cX8_firstImpossible : ByteArray := prog_10_method_5_code
def yX8_firstImpossible : MethodName := ⟨RX8, "firstImpossible", "(LExchangeRows$Seed;LExchangeRows$Exchanger;)I"⟩
abbrev cX8_statements : ByteArray := prog_10_method_6_code
def yX8_statements : MethodName := ⟨RX8, "statements", "()I"⟩
abbrev cX8_behind : ByteArray := prog_10_method_7_code
def yX8_behind : MethodName := ⟨RX8, "behind", "(I)I"⟩
abbrev cX8_digitsOf : ByteArray := prog_10_method_8_code
def yX8_digitsOf : MethodName := ⟨RX8, "digitsOf", "(I)I"⟩
abbrev cX8_done : ByteArray := prog_10_method_9_code
def yX8_done : MethodName := ⟨RX8, "done", "(ILExchangeRows$Seed;LExchangeRows$Exchanger;)Z"⟩
abbrev cX8_numberAt : ByteArray := prog_10_method_10_code
def yX8_numberAt : MethodName := ⟨RX8, "numberAt", "(I)I"⟩
abbrev cX8_digitAt : ByteArray := prog_10_method_11_code
def yX8_digitAt : MethodName := ⟨RX8, "digitAt", "(I)I"⟩
abbrev cX8_letterAt : ByteArray := prog_10_method_12_code
def yX8_letterAt : MethodName := ⟨RX8, "letterAt", "(I)I"⟩
def RX9 : String := "ExchangeRows"
def TX9 : u_T := fun k => match k with
  | 0 => ("ExchangeRows", "rows", "[LExchangeRows$Row;", true)
  | 1 => ("ExchangeRows", "rowsThere", "I", false)
  | 2 => ("ExchangeRows", "imageRows", "[LExchangeRows$Row;", true)
  | 3 => ("ExchangeRows", "imageRowsThere", "I", false)
  | 4 => ("ExchangeRows", "current", "LExchangeRows$Seed;", true)
  | 5 => ("ExchangeRows", "imageSeed", "LExchangeRows$Seed;", true)
  | 6 => ("ExchangeRows", "trial", "LExchangeRows$Seed;", true)
  | 7 => ("ExchangeRows", "exchanger", "LExchangeRows$Exchanger;", true)
  | 8 => ("ExchangeRows", "search", "LExchangeRows$Search;", true)
  | 9 => ("ExchangeRows", "text", "LExchangeRows$Text;", true)
  | 10 => ("ExchangeRows", "past", "LExchangeRows$Past;", true)
  | 11 => ("ExchangeRows", "tales", "[LExchangeRows$Tale;", true)
  | 12 => ("ExchangeRows", "kept", "LExchangeRows$Fraction;", true)
  | 13 => ("ExchangeRows", "keptFirst", "LExchangeRows$Fraction;", true)
  | _ => ("ExchangeRows", "refusals", "[I", true)
def tyX9 : Nat → FieldType := fun k => match k with
  | 0 => .array (.object "ExchangeRows$Row")
  | 1 => .int
  | 2 => .array (.object "ExchangeRows$Row")
  | 3 => .int
  | 4 => .object "ExchangeRows$Seed"
  | 5 => .object "ExchangeRows$Seed"
  | 6 => .object "ExchangeRows$Seed"
  | 7 => .object "ExchangeRows$Exchanger"
  | 8 => .object "ExchangeRows$Search"
  | 9 => .object "ExchangeRows$Text"
  | 10 => .object "ExchangeRows$Past"
  | 11 => .array (.object "ExchangeRows$Tale")
  | 12 => .object "ExchangeRows$Fraction"
  | 13 => .object "ExchangeRows$Fraction"
  | _ => .array .int
abbrev wsX90 : List Cond := u_ws RX9 TX9 15
theorem nmX9 : ∀ a, a < 15 → ∀ b, b < 15 → a ≠ b → (TX9 a).2.1 ≠ (TX9 b).2.1 := by decide +kernel
theorem tyX9_ok : ∀ k, k < 15 → parseFieldDescriptor (TX9 k).2.2.1 = some (tyX9 k) := by decide +kernel
abbrev cX9_init : ByteArray := prog_1_method_1_code
def yX9_init : MethodName := ⟨RX9, "<init>", "()V"⟩
abbrev cX9_row : ByteArray := prog_1_method_2_code
def yX9_row : MethodName := ⟨RX9, "row", "(II)I"⟩
abbrev cX9_start : ByteArray := prog_1_method_3_code
def yX9_start : MethodName := ⟨RX9, "start", "(III)I"⟩
abbrev cX9_of : ByteArray := prog_1_method_4_code
def yX9_of : MethodName := ⟨RX9, "of", "(II)I"⟩
abbrev cX9_term : ByteArray := prog_1_method_5_code
def yX9_term : MethodName := ⟨RX9, "term", "(II)I"⟩
abbrev cX9_kept : ByteArray := prog_1_method_6_code
def yX9_kept : MethodName := ⟨RX9, "kept", "(III)J"⟩
abbrev cX9_stays : ByteArray := prog_1_method_7_code
def yX9_stays : MethodName := ⟨RX9, "stays", "(I)I"⟩
abbrev cX9_common : ByteArray := prog_1_method_8_code
def yX9_common : MethodName := ⟨RX9, "common", "(I)I"⟩
abbrev cX9_divided : ByteArray := prog_1_method_9_code
def yX9_divided : MethodName := ⟨RX9, "divided", "(II)I"⟩
abbrev cX9_unlike : ByteArray := prog_1_method_10_code
def yX9_unlike : MethodName := ⟨RX9, "unlike", "(II)I"⟩
abbrev cX9_seed : ByteArray := prog_1_method_11_code
def yX9_seed : MethodName := ⟨RX9, "seed", "(I)I"⟩
abbrev cX9_table : ByteArray := prog_1_method_12_code
def yX9_table : MethodName := ⟨RX9, "table", "(III)I"⟩
abbrev cX9_begins : ByteArray := prog_1_method_13_code
def yX9_begins : MethodName := ⟨RX9, "begins", "(II)I"⟩
abbrev cX9_entry : ByteArray := prog_1_method_14_code
def yX9_entry : MethodName := ⟨RX9, "entry", "(II)I"⟩
abbrev cX9_value : ByteArray := prog_1_method_15_code
def yX9_value : MethodName := ⟨RX9, "value", "(II)I"⟩
abbrev cX9_power : ByteArray := prog_1_method_16_code
def yX9_power : MethodName := ⟨RX9, "power", "(II)I"⟩
abbrev cX9_exchange : ByteArray := prog_1_method_17_code
def yX9_exchange : MethodName := ⟨RX9, "exchange", "(I)I"⟩
abbrev cX9_walk : ByteArray := prog_1_method_18_code
def yX9_walk : MethodName := ⟨RX9, "walk", "()I"⟩
abbrev cX9_letter : ByteArray := prog_1_method_19_code
def yX9_letter : MethodName := ⟨RX9, "letter", "(I)I"⟩
abbrev cX9_whole : ByteArray := prog_1_method_20_code
def yX9_whole : MethodName := ⟨RX9, "whole", "(I)I"⟩
abbrev cX9_sinks : ByteArray := prog_1_method_21_code
def yX9_sinks : MethodName := ⟨RX9, "sinks", "(I)I"⟩
abbrev cX9_ring : ByteArray := prog_1_method_22_code
def yX9_ring : MethodName := ⟨RX9, "ring", "(II)I"⟩
abbrev cX9_reached : ByteArray := prog_1_method_23_code
def yX9_reached : MethodName := ⟨RX9, "reached", "(II)I"⟩
abbrev cX9_fewest : ByteArray := prog_1_method_24_code
def yX9_fewest : MethodName := ⟨RX9, "fewest", "(III)I"⟩
abbrev cX9_lots : ByteArray := prog_1_method_25_code
def yX9_lots : MethodName := ⟨RX9, "lots", "(III)I"⟩
abbrev cX9_drawn : ByteArray := prog_1_method_26_code
def yX9_drawn : MethodName := ⟨RX9, "drawn", "(II)I"⟩
abbrev cX9_laws : ByteArray := prog_1_method_27_code
def yX9_laws : MethodName := ⟨RX9, "laws", "(II)I"⟩
abbrev cX9_figures : ByteArray := prog_1_method_28_code
def yX9_figures : MethodName := ⟨RX9, "figures", "(II)I"⟩
abbrev cX9_judge : ByteArray := prog_1_method_29_code
def yX9_judge : MethodName := ⟨RX9, "judge", "(II)I"⟩
abbrev cX9_list : ByteArray := prog_1_method_30_code
def yX9_list : MethodName := ⟨RX9, "list", "(II)I"⟩
abbrev cX9_put : ByteArray := prog_1_method_31_code
def yX9_put : MethodName := ⟨RX9, "put", "(III)I"⟩
abbrev cX9_look : ByteArray := prog_1_method_32_code
def yX9_look : MethodName := ⟨RX9, "look", "(II)J"⟩
abbrev cX9_lays : ByteArray := prog_1_method_33_code
def yX9_lays : MethodName := ⟨RX9, "lays", "(III)I"⟩
abbrev cX9_undo : ByteArray := prog_1_method_34_code
def yX9_undo : MethodName := ⟨RX9, "undo", "()I"⟩
abbrev cX9_image : ByteArray := prog_1_method_35_code
def yX9_image : MethodName := ⟨RX9, "image", "()I"⟩
abbrev cX9_on : ByteArray := prog_1_method_36_code
def yX9_on : MethodName := ⟨RX9, "on", "()I"⟩
abbrev cX9_count : ByteArray := prog_1_method_37_code
def yX9_count : MethodName := ⟨RX9, "count", "(I)I"⟩
abbrev cX9_isRow : ByteArray := prog_1_method_38_code
def yX9_isRow : MethodName := ⟨RX9, "isRow", "(I)Z"⟩
abbrev cX9_isList : ByteArray := prog_1_method_39_code
def yX9_isList : MethodName := ⟨RX9, "isList", "(I)Z"⟩
abbrev cX9_refuse : ByteArray := prog_1_method_40_code
def yX9_refuse : MethodName := ⟨RX9, "refuse", "(I)I"⟩
abbrev cX9_refuseFar : ByteArray := prog_1_method_41_code
def yX9_refuseFar : MethodName := ⟨RX9, "refuseFar", "(I)I"⟩
abbrev cX9_refuseFarthest : ByteArray := prog_1_method_42_code
def yX9_refuseFarthest : MethodName := ⟨RX9, "refuseFarthest", "(I)J"⟩
abbrev cX9_commonDivisor : ByteArray := prog_1_method_43_code
def yX9_commonDivisor : MethodName := ⟨RX9, "commonDivisor", "(JJ)J"⟩
def RX10 : String := "ExchangeRowsModel"
def TX10 : u_T := fun k => match k with
  | 0 => ("ExchangeRowsModel", "seed", "[J", true)
  | 1 => ("ExchangeRowsModel", "rows", "[I", true)
  | 2 => ("ExchangeRowsModel", "refused", "[I", true)
  | 3 => ("ExchangeRowsModel", "a", "[J", true)
  | 4 => ("ExchangeRowsModel", "length", "I", false)
  | 5 => ("ExchangeRowsModel", "why", "I", false)
  | 6 => ("ExchangeRowsModel", "left", "J", false)
  | 7 => ("ExchangeRowsModel", "over", "J", false)
  | 8 => ("ExchangeRowsModel", "keptUp", "J", false)
  | 9 => ("ExchangeRowsModel", "keptDown", "J", false)
  | 10 => ("ExchangeRowsModel", "others", "[J", true)
  | 11 => ("ExchangeRowsModel", "up", "J", false)
  | 12 => ("ExchangeRowsModel", "down", "J", false)
  | 13 => ("ExchangeRowsModel", "table", "[J", true)
  | 14 => ("ExchangeRowsModel", "was", "[[J", true)
  | 15 => ("ExchangeRowsModel", "undoable", "I", false)
  | 16 => ("ExchangeRowsModel", "tried", "[J", true)
  | 17 => ("ExchangeRowsModel", "found", "[[J", true)
  | 18 => ("ExchangeRowsModel", "from", "[I", true)
  | 19 => ("ExchangeRowsModel", "by", "[I", true)
  | 20 => ("ExchangeRowsModel", "away", "[I", true)
  | 21 => ("ExchangeRowsModel", "many", "I", false)
  | 22 => ("ExchangeRowsModel", "z", "I", false)
  | 23 => ("ExchangeRowsModel", "told", "[I", true)
  | 24 => ("ExchangeRowsModel", "fed", "I", false)
  | 25 => ("ExchangeRowsModel", "place", "I", false)
  | 26 => ("ExchangeRowsModel", "numbers", "[I", true)
  | 27 => ("ExchangeRowsModel", "sizes", "[I", true)
  | 28 => ("ExchangeRowsModel", "items", "[[J", true)
  | 29 => ("ExchangeRowsModel", "keptSeed", "[J", true)
  | 30 => ("ExchangeRowsModel", "keptRows", "[I", true)
  | _ => ("ExchangeRowsModel", "isKept", "Z", false)
def tyX10 : Nat → FieldType := fun k => match k with
  | 0 => .array .long
  | 1 => .array .int
  | 2 => .array .int
  | 3 => .array .long
  | 4 => .int
  | 5 => .int
  | 6 => .long
  | 7 => .long
  | 8 => .long
  | 9 => .long
  | 10 => .array .long
  | 11 => .long
  | 12 => .long
  | 13 => .array .long
  | 14 => .array (.array .long)
  | 15 => .int
  | 16 => .array .long
  | 17 => .array (.array .long)
  | 18 => .array .int
  | 19 => .array .int
  | 20 => .array .int
  | 21 => .int
  | 22 => .int
  | 23 => .array .int
  | 24 => .int
  | 25 => .int
  | 26 => .array .int
  | 27 => .array .int
  | 28 => .array (.array .long)
  | 29 => .array .long
  | 30 => .array .int
  | _ => .boolean
abbrev wsX100 : List Cond := u_ws RX10 TX10 32
theorem nmX10 : ∀ a, a < 32 → ∀ b, b < 32 → a ≠ b → (TX10 a).2.1 ≠ (TX10 b).2.1 := by decide +kernel
theorem tyX10_ok : ∀ k, k < 32 → parseFieldDescriptor (TX10 k).2.2.1 = some (tyX10 k) := by decide +kernel
abbrev cX10_init : ByteArray := prog_12_method_1_code
def yX10_init : MethodName := ⟨RX10, "<init>", "()V"⟩
abbrev cX10_in : ByteArray := prog_12_method_2_code
def yX10_in : MethodName := ⟨RX10, "in", "(JJJ)Z"⟩
abbrev cX10_refuses : ByteArray := prog_12_method_3_code
def yX10_refuses : MethodName := ⟨RX10, "refuses", "(I)I"⟩
abbrev cX10_far : ByteArray := prog_12_method_4_code
def yX10_far : MethodName := ⟨RX10, "far", "(I)I"⟩
abbrev cX10_farther : ByteArray := prog_12_method_5_code
def yX10_farther : MethodName := ⟨RX10, "farther", "(I)J"⟩
abbrev cX10_divisor : ByteArray := prog_12_method_6_code
def yX10_divisor : MethodName := ⟨RX10, "divisor", "(JJ)J"⟩
abbrev cX10_isRow : ByteArray := prog_12_method_7_code
def yX10_isRow : MethodName := ⟨RX10, "isRow", "(I)Z"⟩
abbrev cX10_orderOf : ByteArray := prog_12_method_8_code
def yX10_orderOf : MethodName := ⟨RX10, "orderOf", "(I)I"⟩
abbrev cX10_law : ByteArray := prog_12_method_9_code
def yX10_law : MethodName := ⟨RX10, "law", "(I)I"⟩
abbrev cX10_figure : ByteArray := prog_12_method_10_code
def yX10_figure : MethodName := ⟨RX10, "figure", "(I)I"⟩
abbrev cX10_above : ByteArray := prog_12_method_11_code
def yX10_above : MethodName := ⟨RX10, "above", "([JIJI)J"⟩
abbrev cX10_below : ByteArray := prog_12_method_12_code
def yX10_below : MethodName := ⟨RX10, "below", "([JII)J"⟩
abbrev cX10_terms : ByteArray := prog_12_method_13_code
def yX10_terms : MethodName := ⟨RX10, "terms", "(I)V"⟩
abbrev cX10_row : ByteArray := prog_12_method_14_code
def yX10_row : MethodName := ⟨RX10, "row", "(II)I"⟩
abbrev cX10_start : ByteArray := prog_12_method_15_code
def yX10_start : MethodName := ⟨RX10, "start", "(III)I"⟩
abbrev cX10_firstBelow : ByteArray := prog_12_method_16_code
def yX10_firstBelow : MethodName := ⟨RX10, "firstBelow", "()I"⟩
abbrev cX10_of : ByteArray := prog_12_method_17_code
def yX10_of : MethodName := ⟨RX10, "of", "(II)I"⟩
abbrev cX10_term : ByteArray := prog_12_method_18_code
def yX10_term : MethodName := ⟨RX10, "term", "(II)I"⟩
abbrev cX10_areKept : ByteArray := prog_12_method_19_code
def yX10_areKept : MethodName := ⟨RX10, "areKept", "(II)Z"⟩
abbrev cX10_keeps : ByteArray := prog_12_method_20_code
def yX10_keeps : MethodName := ⟨RX10, "keeps", "(II)Z"⟩
abbrev cX10_kept : ByteArray := prog_12_method_21_code
def yX10_kept : MethodName := ⟨RX10, "kept", "(III)J"⟩
abbrev cX10_stays : ByteArray := prog_12_method_22_code
def yX10_stays : MethodName := ⟨RX10, "stays", "(I)I"⟩
abbrev cX10_common : ByteArray := prog_12_method_23_code
def yX10_common : MethodName := ⟨RX10, "common", "(I)I"⟩
abbrev cX10_divided : ByteArray := prog_12_method_24_code
def yX10_divided : MethodName := ⟨RX10, "divided", "(II)I"⟩
abbrev cX10_unlike : ByteArray := prog_12_method_25_code
def yX10_unlike : MethodName := ⟨RX10, "unlike", "(II)I"⟩
abbrev cX10_begun : ByteArray := prog_12_method_26_code
def yX10_begun : MethodName := ⟨RX10, "begun", "([J)V"⟩
abbrev cX10_tells : ByteArray := prog_12_method_27_code
def yX10_tells : MethodName := ⟨RX10, "tells", "([JI)V"⟩
abbrev cX10_empties : ByteArray := prog_12_method_28_code
def yX10_empties : MethodName := ⟨RX10, "empties", "(I)V"⟩
abbrev cX10_copies : ByteArray := prog_12_method_29_code
def yX10_copies : MethodName := ⟨RX10, "copies", "([J[J)V"⟩
abbrev cX10_b : ByteArray := prog_12_method_30_code
def yX10_b : MethodName := ⟨RX10, "b", "([JII)J"⟩
abbrev cX10_isIn : ByteArray := prog_12_method_31_code
def yX10_isIn : MethodName := ⟨RX10, "isIn", "([JI)Z"⟩
abbrev cX10_isLetter : ByteArray := prog_12_method_32_code
def yX10_isLetter : MethodName := ⟨RX10, "isLetter", "(I)Z"⟩
abbrev cX10_seed : ByteArray := prog_12_method_33_code
def yX10_seed : MethodName := ⟨RX10, "seed", "(I)I"⟩
abbrev cX10_puts : ByteArray := prog_12_method_34_code
def yX10_puts : MethodName := ⟨RX10, "puts", "([JIII)V"⟩
abbrev cX10_table : ByteArray := prog_12_method_35_code
def yX10_table : MethodName := ⟨RX10, "table", "(III)I"⟩
abbrev cX10_begins : ByteArray := prog_12_method_36_code
def yX10_begins : MethodName := ⟨RX10, "begins", "(II)I"⟩
abbrev cX10_entry : ByteArray := prog_12_method_37_code
def yX10_entry : MethodName := ⟨RX10, "entry", "(II)I"⟩
abbrev cX10_value : ByteArray := prog_12_method_38_code
def yX10_value : MethodName := ⟨RX10, "value", "(II)I"⟩
abbrev cX10_power : ByteArray := prog_12_method_39_code
def yX10_power : MethodName := ⟨RX10, "power", "(II)I"⟩
abbrev cX10_isSmall : ByteArray := prog_12_method_40_code
def yX10_isSmall : MethodName := ⟨RX10, "isSmall", "(JJ)Z"⟩
abbrev cX10_multiplies : ByteArray := prog_12_method_41_code
def yX10_multiplies : MethodName := ⟨RX10, "multiplies", "([JIJ)Z"⟩
abbrev cX10_positive : ByteArray := prog_12_method_42_code
def yX10_positive : MethodName := ⟨RX10, "positive", "(J)J"⟩
abbrev cX10_isTable : ByteArray := prog_12_method_43_code
def yX10_isTable : MethodName := ⟨RX10, "isTable", "([JI)Z"⟩
abbrev cX10_degrees : ByteArray := prog_12_method_44_code
def yX10_degrees : MethodName := ⟨RX10, "degrees", "([JI)V"⟩
abbrev cX10_exchanges : ByteArray := prog_12_method_45_code
def yX10_exchanges : MethodName := ⟨RX10, "exchanges", "([JI)Z"⟩
abbrev cX10_comes : ByteArray := prog_12_method_46_code
def yX10_comes : MethodName := ⟨RX10, "comes", "([J)V"⟩
abbrev cX10_exchange : ByteArray := prog_12_method_47_code
def yX10_exchange : MethodName := ⟨RX10, "exchange", "(I)I"⟩
abbrev cX10_undo : ByteArray := prog_12_method_48_code
def yX10_undo : MethodName := ⟨RX10, "undo", "()I"⟩
abbrev cX10_powered : ByteArray := prog_12_method_49_code
def yX10_powered : MethodName := ⟨RX10, "powered", "(JJJ)J"⟩
abbrev cX10_isWhole : ByteArray := prog_12_method_50_code
def yX10_isWhole : MethodName := ⟨RX10, "isWhole", "([JI)Z"⟩
abbrev cX10_whole : ByteArray := prog_12_method_51_code
def yX10_whole : MethodName := ⟨RX10, "whole", "(I)I"⟩
abbrev cX10_sinks : ByteArray := prog_12_method_52_code
def yX10_sinks : MethodName := ⟨RX10, "sinks", "(I)I"⟩
abbrev cX10_haveSame : ByteArray := prog_12_method_53_code
def yX10_haveSame : MethodName := ⟨RX10, "haveSame", "([J[J)Z"⟩
abbrev cX10_ring : ByteArray := prog_12_method_54_code
def yX10_ring : MethodName := ⟨RX10, "ring", "(II)I"⟩
abbrev cX10_areAlike : ByteArray := prog_12_method_55_code
def yX10_areAlike : MethodName := ⟨RX10, "areAlike", "([J[J)Z"⟩
abbrev cX10_finds : ByteArray := prog_12_method_56_code
def yX10_finds : MethodName := ⟨RX10, "finds", "(I)V"⟩
abbrev cX10_stands : ByteArray := prog_12_method_57_code
def yX10_stands : MethodName := ⟨RX10, "stands", "(IJJ)Z"⟩
abbrev cX10_greatest : ByteArray := prog_12_method_58_code
def yX10_greatest : MethodName := ⟨RX10, "greatest", "([J)J"⟩
abbrev cX10_reached : ByteArray := prog_12_method_59_code
def yX10_reached : MethodName := ⟨RX10, "reached", "(II)I"⟩
abbrev cX10_hasValue : ByteArray := prog_12_method_60_code
def yX10_hasValue : MethodName := ⟨RX10, "hasValue", "(IJJ)Z"⟩
abbrev cX10_fewest : ByteArray := prog_12_method_61_code
def yX10_fewest : MethodName := ⟨RX10, "fewest", "(III)I"⟩
abbrev cX10_draws : ByteArray := prog_12_method_62_code
def yX10_draws : MethodName := ⟨RX10, "draws", "(I)I"⟩
abbrev cX10_lots : ByteArray := prog_12_method_63_code
def yX10_lots : MethodName := ⟨RX10, "lots", "(III)I"⟩
abbrev cX10_letter : ByteArray := prog_12_method_64_code
def yX10_letter : MethodName := ⟨RX10, "letter", "(I)I"⟩
abbrev cX10_here : ByteArray := prog_12_method_65_code
def yX10_here : MethodName := ⟨RX10, "here", "()I"⟩
abbrev cX10_takes : ByteArray := prog_12_method_66_code
def yX10_takes : MethodName := ⟨RX10, "takes", "(I)Z"⟩
abbrev cX10_hasFigure : ByteArray := prog_12_method_67_code
def yX10_hasFigure : MethodName := ⟨RX10, "hasFigure", "(I)Z"⟩
abbrev cX10_figuresOf : ByteArray := prog_12_method_68_code
def yX10_figuresOf : MethodName := ⟨RX10, "figuresOf", "(I)I"⟩
abbrev cX10_hasStatement : ByteArray := prog_12_method_69_code
def yX10_hasStatement : MethodName := ⟨RX10, "hasStatement", "()Z"⟩
abbrev cX10_changes : ByteArray := prog_12_method_70_code
def yX10_changes : MethodName := ⟨RX10, "changes", "([JII)V"⟩
abbrev cX10_swaps : ByteArray := prog_12_method_71_code
def yX10_swaps : MethodName := ⟨RX10, "swaps", "([JII)V"⟩
abbrev cX10_isDone : ByteArray := prog_12_method_72_code
def yX10_isDone : MethodName := ⟨RX10, "isDone", "(I)Z"⟩
abbrev cX10_walk : ByteArray := prog_12_method_73_code
def yX10_walk : MethodName := ⟨RX10, "walk", "()I"⟩
abbrev cX10_isList : ByteArray := prog_12_method_74_code
def yX10_isList : MethodName := ⟨RX10, "isList", "(I)Z"⟩
abbrev cX10_areSmall : ByteArray := prog_12_method_75_code
def yX10_areSmall : MethodName := ⟨RX10, "areSmall", "(I)Z"⟩
abbrev cX10_isMade : ByteArray := prog_12_method_76_code
def yX10_isMade : MethodName := ⟨RX10, "isMade", "(III)Z"⟩
abbrev cX10_laws : ByteArray := prog_12_method_77_code
def yX10_laws : MethodName := ⟨RX10, "laws", "(II)I"⟩
abbrev cX10_figures : ByteArray := prog_12_method_78_code
def yX10_figures : MethodName := ⟨RX10, "figures", "(II)I"⟩
abbrev cX10_judge : ByteArray := prog_12_method_79_code
def yX10_judge : MethodName := ⟨RX10, "judge", "(II)I"⟩
abbrev cX10_list : ByteArray := prog_12_method_80_code
def yX10_list : MethodName := ⟨RX10, "list", "(II)I"⟩
abbrev cX10_put : ByteArray := prog_12_method_81_code
def yX10_put : MethodName := ⟨RX10, "put", "(III)I"⟩
abbrev cX10_look : ByteArray := prog_12_method_82_code
def yX10_look : MethodName := ⟨RX10, "look", "(II)J"⟩
abbrev cX10_lays : ByteArray := prog_12_method_83_code
def yX10_lays : MethodName := ⟨RX10, "lays", "(III)I"⟩
abbrev cX10_image : ByteArray := prog_12_method_84_code
def yX10_image : MethodName := ⟨RX10, "image", "()I"⟩
abbrev cX10_on : ByteArray := prog_12_method_85_code
def yX10_on : MethodName := ⟨RX10, "on", "()I"⟩
abbrev cX10_count : ByteArray := prog_12_method_86_code
def yX10_count : MethodName := ⟨RX10, "count", "(I)I"⟩
def RJ9 : String := "java/lang/Math"
def TJ9 : u_T := fun k => match k with
  | _ => ("", "", "", false)
def tyJ9 : Nat → FieldType := fun k => match k with
  | _ => .int
abbrev wsJ90 : List Cond := u_ws RJ9 TJ9 0
theorem nmJ9 : ∀ a, a < 0 → ∀ b, b < 0 → a ≠ b → (TJ9 a).2.1 ≠ (TJ9 b).2.1 := by decide +kernel
theorem tyJ9_ok : ∀ k, k < 0 → parseFieldDescriptor (TJ9 k).2.2.1 = some (tyJ9 k) := by decide +kernel
abbrev cJ9_abs_0f7a4 : ByteArray := prog_13_method_59_code
def yJ9_abs_0f7a4 : MethodName := ⟨RJ9, "abs", "(I)I"⟩
abbrev cJ9_abs_067f4 : ByteArray := prog_13_method_61_code
def yJ9_abs_067f4 : MethodName := ⟨RJ9, "abs", "(J)J"⟩
abbrev cJ9_max_7cf53 : ByteArray := prog_13_method_65_code
def yJ9_max_7cf53 : MethodName := ⟨RJ9, "max", "(II)I"⟩
def RJ10 : String := "java/lang/System"
def TJ10 : u_T := fun k => match k with
  | _ => ("", "", "", false)
def tyJ10 : Nat → FieldType := fun k => match k with
  | _ => .int
abbrev wsJ100 : List Cond := u_ws RJ10 TJ10 0
theorem nmJ10 : ∀ a, a < 0 → ∀ b, b < 0 → a ≠ b → (TJ10 a).2.1 ≠ (TJ10 b).2.1 := by decide +kernel
theorem tyJ10_ok : ∀ k, k < 0 → parseFieldDescriptor (TJ10 k).2.2.1 = some (tyJ10 k) := by decide +kernel
def RJ7 : String := "java/util/Arrays"
def TJ7 : u_T := fun k => match k with
  | _ => ("", "", "", false)
def tyJ7 : Nat → FieldType := fun k => match k with
  | _ => .int
abbrev wsJ70 : List Cond := u_ws RJ7 TJ7 0
theorem nmJ7 : ∀ a, a < 0 → ∀ b, b < 0 → a ≠ b → (TJ7 a).2.1 ≠ (TJ7 b).2.1 := by decide +kernel
theorem tyJ7_ok : ∀ k, k < 0 → parseFieldDescriptor (TJ7 k).2.2.1 = some (tyJ7 k) := by decide +kernel
abbrev cJ7_fill_53178 : ByteArray := prog_15_method_103_code
def yJ7_fill_53178 : MethodName := ⟨RJ7, "fill", "([II)V"⟩
def RL : String := "ExchangeRowsLaw"
abbrev cL_law : ByteArray := code
def yL_law : MethodName := ⟨RL, "law", "([I)Z"⟩
abbrev vwCl : List vw_C := [(RX0, TX0, 2), (RX1, TX1, 2), (RX3, TX3, 2), (RX4, TX4, 7), (RX5, TX5, 5), (RX6, TX6, 2), (RX7, TX7, 2), (RX8, TX8, 2), (RX9, TX9, 15), (RX10, TX10, 32)]
end
section
/-! a small machine over whole numbers: values, frames of values, one heap of numbers, one step -/
abbrev jV : Type := Int ⊕ (Int ⊕ Option Nat)
abbrev jF : Type := List (Option jV)
/-- contents, kinds (number, length), references, next address, the static row's address -/
abbrev jS : Type := (Nat → Nat → Int) × (Nat → Nat × Nat) × (Nat → Nat → Option Nat) × Nat × Nat
/-- pc, instruction, its length, three resolved numbers, a constant -/
abbrev jE : Type := Nat × Instr × Nat × Nat × Nat × Nat × Int
def b32 (x : Int) : Int := x.bmod 4294967296
def b64 (x : Int) : Int := x.bmod 18446744073709551616
def jdr (r : Option Nat) : Nat := r.getD 0
def jg : jV → Value
  | .inl x => .int (Int32.ofInt x)
  | .inr (.inl x) => .long (Int64.ofInt x)
  | .inr (.inr r) => va_rf r
def jcat : jV → Nat
  | .inl _ => 1
  | .inr (.inl _) => 2
  | .inr (.inr _) => 1
def jget : jF → Nat → Option jV
  | [], _ => none
  | x :: _, 0 => x
  | _ :: r, i + 1 => jget r i
def jlong : Option jV → Bool
  | some (.inr (.inl _)) => true
  | _ => false
def jcut : jF → jF
  | [] => []
  | _ :: r => none :: r
def jset (v : jV) : Nat → jF → jF
  | _, [] => []
  | 0, _ :: r => some v :: (bif jlong (some v) then jcut r else r)
  | 1, x :: r => (bif jlong x then none else x) :: jset v 0 r
  | i + 2, x :: r => x :: jset v (i + 1) r
def jcb (c : Jvm.ClassFile.Cond) (x y : Int) : Bool := match c with
  | .eq => decide (x = y)
  | .ne => decide (x ≠ y)
  | .lt => decide (x < y)
  | .ge => decide (y ≤ x)
  | .gt => decide (y < x)
  | .le => decide (x ≤ y)
def jlc (x y : Int) : Int := if y < x then 1 else if x = y then 0 else -1
def jsw : List (Int × Nat) → Nat → Int → Nat
  | [], d, _ => d
  | q :: r, d, x => if q.1 = x then q.2 else jsw r d x
def jup (M : Nat → Nat → Int) (a k : Nat) (v : Int) : Nat → Nat → Int := fun b j => if b = a ∧ j = k then v else M b j
def jupr (M : Nat → Nat → Option Nat) (a k : Nat) (v : Option Nat) : Nat → Nat → Option Nat := fun b j => if b = a ∧ j = k then v else M b j
def jcpy (M : Nat → Nat → Int) (a0 s a d n : Nat) : Nat → Nat → Int := fun b j => if b = a ∧ d ≤ j ∧ j < d + n then M a0 (s + (j - d)) else M b j
def jand (x y : Int) : Int := (Int32.ofInt x &&& Int32.ofInt y).toInt
def jor (x y : Int) : Int := (Int32.ofInt x ||| Int32.ofInt y).toInt
def jshl (x y : Int) : Int := (Int32.ofInt x <<< (Int32.ofInt y &&& 31)).toInt
abbrev jR : Type := Option (Prop × Nat × jF × List jV × jS)
def jldv (k : Nat) (v : Option jV) (p : Nat) (l : jF) (st : List jV) (w : jS) : jR := match k, v with
  | 0, some (.inl x) => some (True, p, l, .inl x :: st, w)
  | 1, some (.inr (.inl x)) => some (True, p, l, .inr (.inl x) :: st, w)
  | 2, some (.inr (.inr r)) => some (r.isSome = true, p, l, .inr (.inr r) :: st, w)
  | _, _ => none
def jstv (k i p : Nat) (l : jF) (st : List jV) (w : jS) : jR := match k, st with
  | 0, .inl x :: r => some (True, p, jset (.inl x) i l, r, w)
  | 1, .inr (.inl x) :: r => some (True, p, jset (.inr (.inl x)) i l, r, w)
  | 2, .inr (.inr q) :: r => some (q.isSome = true, p, jset (.inr (.inr q)) i l, r, w)
  | _, _ => none
def jbin (f : Int → Int → Int) (p : Nat) (l : jF) (st : List jV) (w : jS) : jR := match st with
  | .inl y :: .inl x :: r => some (True, p, l, .inl (f x y) :: r, w)
  | _ => none
def jbinL (f : Int → Int → Int) (p : Nat) (l : jF) (st : List jV) (w : jS) : jR := match st with
  | .inr (.inl y) :: .inr (.inl x) :: r => some (True, p, l, .inr (.inl (f x y)) :: r, w)
  | _ => none
/-- a field's value: kind 0 int, 1 long, 2 reference, 3 boolean -/
def jfv (t k : Nat) (w : jS) (a : Nat) : jV := match t with
  | 1 => .inr (.inl (w.1 a k))
  | 2 => .inr (.inr (w.2.2.1 a k))
  | _ => .inl (w.1 a k)
def jput (t k p : Nat) (l : jF) (st : List jV) (w : jS) : jR := match t, st with
  | 0, .inl x :: .inr (.inr q) :: r => some (q.isSome = true, p, l, r, (jup w.1 (jdr q) k x, w.2))
  | 1, .inr (.inl x) :: .inr (.inr q) :: r => some (q.isSome = true, p, l, r, (jup w.1 (jdr q) k x, w.2))
  | 2, .inr (.inr v) :: .inr (.inr q) :: r => some (q.isSome = true ∧ v.isSome = true, p, l, r, (w.1, w.2.1, jupr w.2.2.1 (jdr q) k v, w.2.2.2))
  | 3, .inl x :: .inr (.inr q) :: r => some (q.isSome = true ∧ (b32 x = 0 ∨ b32 x = 1), p, l, r, (jup w.1 (jdr q) k x, w.2))
  | _, _ => none
def jird (q : Nat × Nat) : Prop := q.1 = 100 ∨ q.1 = 99
/-- the object kind that an array of references holds -/
def jrk (t : Nat) : Nat := match t with
  | 102 => 4
  | 103 => 6
  | 104 => 7
  | _ => 0
/-- the words of an operand stack -/
def jcats (st : List jV) : Nat := (st.map jcat).sum
def jbui (k p : Nat) (l : jF) (st : List jV) (w : jS) : jR := match k, st with
  | 1000, .inr (.inr q) :: r => some (q.isSome = true ∧ jcats r ≤ 8, p, l, r, w)
  | 1001, .inl x :: r => some (jcats r ≤ 8, p, l, .inl (if 0 ≤ b32 x then b32 x else 0 - b32 x) :: r, w)
  | 1002, .inr (.inl x) :: r => some (jcats r ≤ 8, p, l, .inr (.inl (if 0 ≤ b64 x then b64 x else 0 - b64 x)) :: r, w)
  | 1003, .inl y :: .inl x :: r => some (jcats r ≤ 8, p, l, .inl (if b32 x < b32 y then b32 y else b32 x) :: r, w)
  | 1004, .inl n :: .inl d :: .inr (.inr a) :: .inl s :: .inr (.inr a0) :: r =>
      some (jcats r ≤ 8 ∧ (a.isSome = true ∧ a0.isSome = true ∧ (w.2.1 (jdr a)).1 = 100 ∧ (w.2.1 (jdr a0)).1 = 100) ∧ (0 ≤ b32 n ∧ 0 ≤ b32 d ∧ 0 ≤ b32 s) ∧ b32 s + b32 n ≤ (w.2.1 (jdr a0)).2 ∧ b32 d + b32 n ≤ (w.2.1 (jdr a)).2, p, l, r, (jcpy w.1 (jdr a0) (b32 s).toNat (jdr a) (b32 d).toNat (b32 n).toNat, w.2))
  | _, _ => none
def jstep (e : jE) (l : jF) (st : List jV) (w : jS) : jR :=
  let p := e.1 + e.2.2.1
  match e.2.1 with
  | .iload i => jldv 0 (jget l i) p l st w
  | .iload_n i => jldv 0 (jget l i.val) p l st w
  | .lload i => jldv 1 (jget l i) p l st w
  | .lload_n i => jldv 1 (jget l i.val) p l st w
  | .aload i => jldv 2 (jget l i) p l st w
  | .aload_n i => jldv 2 (jget l i.val) p l st w
  | .istore i => jstv 0 i p l st w
  | .istore_n i => jstv 0 i.val p l st w
  | .lstore i => jstv 1 i p l st w
  | .lstore_n i => jstv 1 i.val p l st w
  | .astore i => jstv 2 i p l st w
  | .astore_n i => jstv 2 i.val p l st w
  | .iconst _ => some (True, p, l, .inl e.2.2.2.2.2.2 :: st, w)
  | .bipush _ => some (True, p, l, .inl e.2.2.2.2.2.2 :: st, w)
  | .sipush _ => some (True, p, l, .inl e.2.2.2.2.2.2 :: st, w)
  | .ldc _ => some (True, p, l, .inl e.2.2.2.2.2.2 :: st, w)
  | .ldc_w _ => some (True, p, l, .inl e.2.2.2.2.2.2 :: st, w)
  | .lconst _ => some (True, p, l, .inr (.inl e.2.2.2.2.2.2) :: st, w)
  | .ldc2_w _ => some (True, p, l, .inr (.inl e.2.2.2.2.2.2) :: st, w)
  | .iadd => jbin (fun x y => x + y) p l st w
  | .isub => jbin (fun x y => x - y) p l st w
  | .imul => jbin (fun x y => x * y) p l st w
  | .iand => jbin jand p l st w
  | .ior => jbin jor p l st w
  | .ishl => jbin jshl p l st w
  | .idiv => match st with
    | .inl y :: .inl x :: r => some (b32 y ≠ 0, p, l, .inl ((b32 x).tdiv (b32 y)) :: r, w)
    | _ => none
  | .irem => match st with
    | .inl y :: .inl x :: r => some (b32 y ≠ 0, p, l, .inl ((b32 x).tmod (b32 y)) :: r, w)
    | _ => none
  | .ineg => match st with
    | .inl x :: r => some (True, p, l, .inl (-x) :: r, w)
    | _ => none
  | .ladd => jbinL (fun x y => x + y) p l st w
  | .lsub => jbinL (fun x y => x - y) p l st w
  | .lmul => jbinL (fun x y => x * y) p l st w
  | .ldiv => match st with
    | .inr (.inl y) :: .inr (.inl x) :: r => some (b64 y ≠ 0, p, l, .inr (.inl ((b64 x).tdiv (b64 y))) :: r, w)
    | _ => none
  | .lrem => match st with
    | .inr (.inl y) :: .inr (.inl x) :: r => some (b64 y ≠ 0, p, l, .inr (.inl ((b64 x).tmod (b64 y))) :: r, w)
    | _ => none
  | .lneg => match st with
    | .inr (.inl x) :: r => some (True, p, l, .inr (.inl (-x)) :: r, w)
    | _ => none
  | .i2l => match st with
    | .inl x :: r => some (True, p, l, .inr (.inl (b32 x)) :: r, w)
    | _ => none
  | .l2i => match st with
    | .inr (.inl x) :: r => some (True, p, l, .inl x :: r, w)
    | _ => none
  | .lcmp => match st with
    | .inr (.inl y) :: .inr (.inl x) :: r => some (True, p, l, .inl (jlc (b64 x) (b64 y)) :: r, w)
    | _ => none
  | .iinc i n => match jget l i with
    | some (.inl x) => some (True, p, jset (.inl (x + n)) i l, st, w)
    | _ => none
  | .dup => match st with
    | .inl x :: r => some (True, p, l, .inl x :: .inl x :: r, w)
    | .inr (.inr q) :: r => some (q.isSome = true, p, l, .inr (.inr q) :: .inr (.inr q) :: r, w)
    | _ => none
  | .dup2 => match st with
    | .inl x :: .inr (.inr q) :: r => some (q.isSome = true, p, l, .inl x :: .inr (.inr q) :: .inl x :: .inr (.inr q) :: r, w)
    | _ => none
  | .pop => match st with
    | .inl _ :: r => some (True, p, l, r, w)
    | _ => none
  | .goto _ => some (True, e.2.2.2.1, l, st, w)
  | .getfield _ => match st with
    | .inr (.inr q) :: r => some (q.isSome = true ∧ (w.2.1 (jdr q)).1 = e.2.2.2.1 + 1, p, l, jfv e.2.2.2.2.2.1 e.2.2.2.2.1 w (jdr q) :: r, w)
    | _ => none
  | .putfield _ => match st with
    | _ :: .inr (.inr q) :: _ => match jput e.2.2.2.2.2.1 e.2.2.2.2.1 p l st w with
      | some (g, x) => some ((w.2.1 (jdr q)).1 = e.2.2.2.1 + 1 ∧ g, x)
      | none => none
    | _ => none
  | .getstatic _ => some (True, p, l, .inr (.inr (some w.2.2.2.2)) :: st, w)
  | .arraylength => match st with
    | .inr (.inr q) :: r => some (q.isSome = true ∧ jird (w.2.1 (jdr q)), p, l, .inl ((w.2.1 (jdr q)).2 : Int) :: r, w)
    | _ => none
  | .iaload => match st with
    | .inl i :: .inr (.inr q) :: r => some (q.isSome = true ∧ jird (w.2.1 (jdr q)) ∧ 0 ≤ b32 i ∧ b32 i < ((w.2.1 (jdr q)).2 : Int), p, l, .inl (w.1 (jdr q) (b32 i).toNat) :: r, w)
    | _ => none
  | .laload => match st with
    | .inl i :: .inr (.inr q) :: r => some (q.isSome = true ∧ (w.2.1 (jdr q)).1 = 101 ∧ 0 ≤ b32 i ∧ b32 i < ((w.2.1 (jdr q)).2 : Int), p, l, .inr (.inl (w.1 (jdr q) (b32 i).toNat)) :: r, w)
    | _ => none
  | .aaload => match st with
    | .inl i :: .inr (.inr q) :: r => some (q.isSome = true ∧ (102 ≤ (w.2.1 (jdr q)).1 ∧ (w.2.1 (jdr q)).1 ≤ 105) ∧ 0 ≤ b32 i ∧ b32 i < ((w.2.1 (jdr q)).2 : Int), p, l, .inr (.inr (w.2.2.1 (jdr q) (b32 i).toNat)) :: r, w)
    | _ => none
  | .iastore => match st with
    | .inl x :: .inl i :: .inr (.inr q) :: r => some (q.isSome = true ∧ (w.2.1 (jdr q)).1 = 100 ∧ 0 ≤ b32 i ∧ b32 i < ((w.2.1 (jdr q)).2 : Int), p, l, r, (jup w.1 (jdr q) (b32 i).toNat x, w.2))
    | _ => none
  | .lastore => match st with
    | .inr (.inl x) :: .inl i :: .inr (.inr q) :: r => some (q.isSome = true ∧ (w.2.1 (jdr q)).1 = 101 ∧ 0 ≤ b32 i ∧ b32 i < ((w.2.1 (jdr q)).2 : Int), p, l, r, (jup w.1 (jdr q) (b32 i).toNat x, w.2))
    | _ => none
  | .aastore => match st with
    | .inr (.inr v) :: .inl i :: .inr (.inr q) :: r => some (q.isSome = true ∧ v.isSome = true ∧ (102 ≤ (w.2.1 (jdr q)).1 ∧ (w.2.1 (jdr q)).1 ≤ 104 ∧ (w.2.1 (jdr v)).1 = jrk (w.2.1 (jdr q)).1) ∧ 0 ≤ b32 i ∧ b32 i < ((w.2.1 (jdr q)).2 : Int), p, l, r, (w.1, w.2.1, jupr w.2.2.1 (jdr q) (b32 i).toNat v, w.2.2.2))
    | _ => none
  | .invokestatic _ => jbui e.2.2.2.1 p l st w
  | .invokespecial _ => jbui e.2.2.2.1 p l st w
  | _ => none
def jfind : List jE → Nat → Option jE
  | [], _ => none
  | e :: r, p => bif Nat.beq e.1 p then some e else jfind r p
end
