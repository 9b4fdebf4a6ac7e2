section
-- ===== PART A: goes FIRST, ahead of the names: the tables' words, and 'selects' of the private methods out of them =====
/-- a private method of a class that the tables say can be made, by its rows of tables_1 -/
def lw_okq (q : MethodName × Nat) : Prop := (q.1.cls ≠ "java/lang/invoke/MethodHandle" ∧ q.1.cls ≠ "java/lang/invoke/VarHandle") ∧ Cond.instantiable q.1.cls q.2 ∈ tables_1 ∧ Cond.privateMethod q.1 ∈ tables_1 ∧ Cond.instanceMethod q.1 ∈ tables_1
theorem lw_p0 : lw_okq (⟨"SaidLeast$Reader", "begin", "()V"⟩, 4) := ⟨⟨by decide +kernel, by decide +kernel⟩, List.mem_of_getElem? (i := 42) (by decide +kernel), List.mem_of_getElem? (i := 323) (by decide +kernel), List.mem_of_getElem? (i := 324) (by decide +kernel)⟩
theorem lw_p1 : lw_okq (⟨"SaidLeast$Reader", "takes", "(I)Z"⟩, 4) := ⟨⟨by decide +kernel, by decide +kernel⟩, List.mem_of_getElem? (i := 42) (by decide +kernel), List.mem_of_getElem? (i := 330) (by decide +kernel), List.mem_of_getElem? (i := 331) (by decide +kernel)⟩
theorem lw_p2 : lw_okq (⟨"SaidLeast$Reader", "takesStart", "(I)Z"⟩, 4) := ⟨⟨by decide +kernel, by decide +kernel⟩, List.mem_of_getElem? (i := 42) (by decide +kernel), List.mem_of_getElem? (i := 334) (by decide +kernel), List.mem_of_getElem? (i := 335) (by decide +kernel)⟩
theorem lw_p3 : lw_okq (⟨"SaidLeast$Reader", "takesLaw", "(I)Z"⟩, 4) := ⟨⟨by decide +kernel, by decide +kernel⟩, List.mem_of_getElem? (i := 42) (by decide +kernel), List.mem_of_getElem? (i := 338) (by decide +kernel), List.mem_of_getElem? (i := 339) (by decide +kernel)⟩
theorem lw_p4 : lw_okq (⟨"SaidLeast$Reader", "opensSaying", "()Z"⟩, 4) := ⟨⟨by decide +kernel, by decide +kernel⟩, List.mem_of_getElem? (i := 42) (by decide +kernel), List.mem_of_getElem? (i := 342) (by decide +kernel), List.mem_of_getElem? (i := 343) (by decide +kernel)⟩
theorem lw_p5 : lw_okq (⟨"SaidLeast$Reader", "opensPerson", "(I)Z"⟩, 4) := ⟨⟨by decide +kernel, by decide +kernel⟩, List.mem_of_getElem? (i := 42) (by decide +kernel), List.mem_of_getElem? (i := 346) (by decide +kernel), List.mem_of_getElem? (i := 347) (by decide +kernel)⟩
theorem lw_p6 : lw_okq (⟨"SaidLeast$Reader", "takesTens", "(I)Z"⟩, 4) := ⟨⟨by decide +kernel, by decide +kernel⟩, List.mem_of_getElem? (i := 42) (by decide +kernel), List.mem_of_getElem? (i := 350) (by decide +kernel), List.mem_of_getElem? (i := 351) (by decide +kernel)⟩
theorem lw_p7 : lw_okq (⟨"SaidLeast$Reader", "takesOnes", "(I)Z"⟩, 4) := ⟨⟨by decide +kernel, by decide +kernel⟩, List.mem_of_getElem? (i := 42) (by decide +kernel), List.mem_of_getElem? (i := 354) (by decide +kernel), List.mem_of_getElem? (i := 355) (by decide +kernel)⟩
theorem lw_p8 : lw_okq (⟨"SaidLeast$Reader", "takesSpeaker", "(I)Z"⟩, 4) := ⟨⟨by decide +kernel, by decide +kernel⟩, List.mem_of_getElem? (i := 42) (by decide +kernel), List.mem_of_getElem? (i := 358) (by decide +kernel), List.mem_of_getElem? (i := 359) (by decide +kernel)⟩
theorem lw_p9 : lw_okq (⟨"SaidLeast$Reader", "takesWords", "(I)Z"⟩, 4) := ⟨⟨by decide +kernel, by decide +kernel⟩, List.mem_of_getElem? (i := 42) (by decide +kernel), List.mem_of_getElem? (i := 366) (by decide +kernel), List.mem_of_getElem? (i := 367) (by decide +kernel)⟩
theorem lw_p10 : lw_okq (⟨"SaidLeast$Reader", "takesWorth", "(I)Z"⟩, 4) := ⟨⟨by decide +kernel, by decide +kernel⟩, List.mem_of_getElem? (i := 42) (by decide +kernel), List.mem_of_getElem? (i := 370) (by decide +kernel), List.mem_of_getElem? (i := 371) (by decide +kernel)⟩
theorem lw_p11 : lw_okq (⟨"SaidLeast$Reader", "closesSaying", "(I)Z"⟩, 4) := ⟨⟨by decide +kernel, by decide +kernel⟩, List.mem_of_getElem? (i := 42) (by decide +kernel), List.mem_of_getElem? (i := 374) (by decide +kernel), List.mem_of_getElem? (i := 375) (by decide +kernel)⟩
theorem lw_p12 : lw_okq (⟨"SaidLeast$Reader", "takesAnswered", "(I)Z"⟩, 4) := ⟨⟨by decide +kernel, by decide +kernel⟩, List.mem_of_getElem? (i := 42) (by decide +kernel), List.mem_of_getElem? (i := 378) (by decide +kernel), List.mem_of_getElem? (i := 379) (by decide +kernel)⟩
theorem lw_p13 : lw_okq (⟨"SaidLeast$State", "mostWords", "()I"⟩, 5) := ⟨⟨by decide +kernel, by decide +kernel⟩, List.mem_of_getElem? (i := 99) (by decide +kernel), List.mem_of_getElem? (i := 491) (by decide +kernel), List.mem_of_getElem? (i := 492) (by decide +kernel)⟩
theorem lw_p14 : lw_okq (⟨"SaidLeast$Orders", "spread", "(LSaidLeast$Told;LSaidLeast$State;)V"⟩, 6) := ⟨⟨by decide +kernel, by decide +kernel⟩, List.mem_of_getElem? (i := 190) (by decide +kernel), List.mem_of_getElem? (i := 525) (by decide +kernel), List.mem_of_getElem? (i := 526) (by decide +kernel)⟩
theorem lw_p15 : lw_okq (⟨"SaidLeast$Orders", "openAt", "(LSaidLeast$Told;LSaidLeast$State;I)I"⟩, 6) := ⟨⟨by decide +kernel, by decide +kernel⟩, List.mem_of_getElem? (i := 190) (by decide +kernel), List.mem_of_getElem? (i := 533) (by decide +kernel), List.mem_of_getElem? (i := 534) (by decide +kernel)⟩
def lw_privs_1 : List (MethodName × Nat) := [(⟨"SaidLeast$Reader", "begin", "()V"⟩, 4), (⟨"SaidLeast$Reader", "takes", "(I)Z"⟩, 4), (⟨"SaidLeast$Reader", "takesStart", "(I)Z"⟩, 4), (⟨"SaidLeast$Reader", "takesLaw", "(I)Z"⟩, 4), (⟨"SaidLeast$Reader", "opensSaying", "()Z"⟩, 4), (⟨"SaidLeast$Reader", "opensPerson", "(I)Z"⟩, 4), (⟨"SaidLeast$Reader", "takesTens", "(I)Z"⟩, 4), (⟨"SaidLeast$Reader", "takesOnes", "(I)Z"⟩, 4), (⟨"SaidLeast$Reader", "takesSpeaker", "(I)Z"⟩, 4), (⟨"SaidLeast$Reader", "takesWords", "(I)Z"⟩, 4), (⟨"SaidLeast$Reader", "takesWorth", "(I)Z"⟩, 4), (⟨"SaidLeast$Reader", "closesSaying", "(I)Z"⟩, 4), (⟨"SaidLeast$Reader", "takesAnswered", "(I)Z"⟩, 4), (⟨"SaidLeast$State", "mostWords", "()I"⟩, 5), (⟨"SaidLeast$Orders", "spread", "(LSaidLeast$Told;LSaidLeast$State;)V"⟩, 6), (⟨"SaidLeast$Orders", "openAt", "(LSaidLeast$Told;LSaidLeast$State;I)I"⟩, 6)]
theorem lw_r1 : ∀ q ∈ lw_privs_1, lw_okq q := List.forall_mem_cons.mpr ⟨lw_p0, List.forall_mem_cons.mpr ⟨lw_p1, List.forall_mem_cons.mpr ⟨lw_p2, List.forall_mem_cons.mpr ⟨lw_p3, List.forall_mem_cons.mpr ⟨lw_p4, List.forall_mem_cons.mpr ⟨lw_p5, List.forall_mem_cons.mpr ⟨lw_p6, List.forall_mem_cons.mpr ⟨lw_p7, List.forall_mem_cons.mpr ⟨lw_p8, List.forall_mem_cons.mpr ⟨lw_p9, List.forall_mem_cons.mpr ⟨lw_p10, List.forall_mem_cons.mpr ⟨lw_p11, List.forall_mem_cons.mpr ⟨lw_p12, List.forall_mem_cons.mpr ⟨lw_p13, List.forall_mem_cons.mpr ⟨lw_p14, List.forall_mem_cons.mpr ⟨lw_p15, fun _ h => absurd h List.not_mem_nil⟩⟩⟩⟩⟩⟩⟩⟩⟩⟩⟩⟩⟩⟩⟩⟩
theorem lw_p16 : lw_okq (⟨"SaidLeast$Orders", "goOnFrom", "(LSaidLeast$Told;I)V"⟩, 6) := ⟨⟨by decide +kernel, by decide +kernel⟩, List.mem_of_getElem? (i := 190) (by decide +kernel), List.mem_of_getElem? (i := 548) (by decide +kernel), List.mem_of_getElem? (i := 549) (by decide +kernel)⟩
theorem lw_p17 : lw_okq (⟨"SaidLeast$Orders", "topWorth", "(LSaidLeast$Told;LSaidLeast$State;I)I"⟩, 6) := ⟨⟨by decide +kernel, by decide +kernel⟩, List.mem_of_getElem? (i := 190) (by decide +kernel), List.mem_of_getElem? (i := 552) (by decide +kernel), List.mem_of_getElem? (i := 553) (by decide +kernel)⟩
theorem lw_p18 : lw_okq (⟨"SaidLeast$Orders", "markGood", "(LSaidLeast$Told;LSaidLeast$State;II)V"⟩, 6) := ⟨⟨by decide +kernel, by decide +kernel⟩, List.mem_of_getElem? (i := 190) (by decide +kernel), List.mem_of_getElem? (i := 565) (by decide +kernel), List.mem_of_getElem? (i := 566) (by decide +kernel)⟩
theorem lw_p19 : lw_okq (⟨"SaidLeast$Orders", "goodByNext", "(LSaidLeast$Told;I)I"⟩, 6) := ⟨⟨by decide +kernel, by decide +kernel⟩, List.mem_of_getElem? (i := 190) (by decide +kernel), List.mem_of_getElem? (i := 569) (by decide +kernel), List.mem_of_getElem? (i := 570) (by decide +kernel)⟩
theorem lw_p20 : lw_okq (⟨"SaidLeast$Orders", "firstGood", "(LSaidLeast$Told;II)I"⟩, 6) := ⟨⟨by decide +kernel, by decide +kernel⟩, List.mem_of_getElem? (i := 190) (by decide +kernel), List.mem_of_getElem? (i := 573) (by decide +kernel), List.mem_of_getElem? (i := 574) (by decide +kernel)⟩
theorem lw_p21 : lw_okq (⟨"SaidLeast$Contest", "spread", "(LSaidLeast$Told;LSaidLeast$State;)V"⟩, 3) := ⟨⟨by decide +kernel, by decide +kernel⟩, List.mem_of_getElem? (i := 227) (by decide +kernel), List.mem_of_getElem? (i := 601) (by decide +kernel), List.mem_of_getElem? (i := 602) (by decide +kernel)⟩
theorem lw_p22 : lw_okq (⟨"SaidLeast$Contest", "goOnFrom", "(LSaidLeast$Told;I)V"⟩, 3) := ⟨⟨by decide +kernel, by decide +kernel⟩, List.mem_of_getElem? (i := 227) (by decide +kernel), List.mem_of_getElem? (i := 607) (by decide +kernel), List.mem_of_getElem? (i := 608) (by decide +kernel)⟩
theorem lw_p23 : lw_okq (⟨"SaidLeast$Contest", "endFrom", "(LSaidLeast$Told;I)I"⟩, 3) := ⟨⟨by decide +kernel, by decide +kernel⟩, List.mem_of_getElem? (i := 227) (by decide +kernel), List.mem_of_getElem? (i := 612) (by decide +kernel), List.mem_of_getElem? (i := 613) (by decide +kernel)⟩
theorem lw_p24 : lw_okq (⟨"SaidLeast$Contest", "choiceOf", "(LSaidLeast$Told;III)I"⟩, 3) := ⟨⟨by decide +kernel, by decide +kernel⟩, List.mem_of_getElem? (i := 227) (by decide +kernel), List.mem_of_getElem? (i := 616) (by decide +kernel), List.mem_of_getElem? (i := 617) (by decide +kernel)⟩
theorem lw_p25 : lw_okq (⟨"SaidLeast$Guesses", "waysAtLevel", "(LSaidLeast$State;III)J"⟩, 4) := ⟨⟨by decide +kernel, by decide +kernel⟩, List.mem_of_getElem? (i := 245) (by decide +kernel), List.mem_of_getElem? (i := 634) (by decide +kernel), List.mem_of_getElem? (i := 635) (by decide +kernel)⟩
theorem lw_p26 : lw_okq (⟨"SaidLeast$Guesses", "addWords", "(III)V"⟩, 4) := ⟨⟨by decide +kernel, by decide +kernel⟩, List.mem_of_getElem? (i := 245) (by decide +kernel), List.mem_of_getElem? (i := 646) (by decide +kernel), List.mem_of_getElem? (i := 647) (by decide +kernel)⟩
theorem lw_p27 : lw_okq (⟨"SaidLeast$Guesses", "isLeastBehind", "(LSaidLeast$State;III)Z"⟩, 4) := ⟨⟨by decide +kernel, by decide +kernel⟩, List.mem_of_getElem? (i := 245) (by decide +kernel), List.mem_of_getElem? (i := 659) (by decide +kernel), List.mem_of_getElem? (i := 660) (by decide +kernel)⟩
theorem lw_p28 : lw_okq (⟨"SaidLeast$Guesses", "cancel", "(I)V"⟩, 4) := ⟨⟨by decide +kernel, by decide +kernel⟩, List.mem_of_getElem? (i := 245) (by decide +kernel), List.mem_of_getElem? (i := 669) (by decide +kernel), List.mem_of_getElem? (i := 670) (by decide +kernel)⟩
theorem lw_p29 : lw_okq (⟨"SaidLeastModel", "readParlour", "()I"⟩, 38) := ⟨⟨by decide +kernel, by decide +kernel⟩, List.mem_of_getElem? (i := 683) (by decide +kernel), List.mem_of_getElem? (i := 821) (by decide +kernel), List.mem_of_getElem? (i := 822) (by decide +kernel)⟩
theorem lw_p30 : lw_okq (⟨"SaidLeastModel", "figure", "(II)I"⟩, 38) := ⟨⟨by decide +kernel, by decide +kernel⟩, List.mem_of_getElem? (i := 683) (by decide +kernel), List.mem_of_getElem? (i := 825) (by decide +kernel), List.mem_of_getElem? (i := 826) (by decide +kernel)⟩
theorem lw_p31 : lw_okq (⟨"SaidLeastModel", "readPart", "()Z"⟩, 38) := ⟨⟨by decide +kernel, by decide +kernel⟩, List.mem_of_getElem? (i := 683) (by decide +kernel), List.mem_of_getElem? (i := 829) (by decide +kernel), List.mem_of_getElem? (i := 830) (by decide +kernel)⟩
def lw_privs_2 : List (MethodName × Nat) := [(⟨"SaidLeast$Orders", "goOnFrom", "(LSaidLeast$Told;I)V"⟩, 6), (⟨"SaidLeast$Orders", "topWorth", "(LSaidLeast$Told;LSaidLeast$State;I)I"⟩, 6), (⟨"SaidLeast$Orders", "markGood", "(LSaidLeast$Told;LSaidLeast$State;II)V"⟩, 6), (⟨"SaidLeast$Orders", "goodByNext", "(LSaidLeast$Told;I)I"⟩, 6), (⟨"SaidLeast$Orders", "firstGood", "(LSaidLeast$Told;II)I"⟩, 6), (⟨"SaidLeast$Contest", "spread", "(LSaidLeast$Told;LSaidLeast$State;)V"⟩, 3), (⟨"SaidLeast$Contest", "goOnFrom", "(LSaidLeast$Told;I)V"⟩, 3), (⟨"SaidLeast$Contest", "endFrom", "(LSaidLeast$Told;I)I"⟩, 3), (⟨"SaidLeast$Contest", "choiceOf", "(LSaidLeast$Told;III)I"⟩, 3), (⟨"SaidLeast$Guesses", "waysAtLevel", "(LSaidLeast$State;III)J"⟩, 4), (⟨"SaidLeast$Guesses", "addWords", "(III)V"⟩, 4), (⟨"SaidLeast$Guesses", "isLeastBehind", "(LSaidLeast$State;III)Z"⟩, 4), (⟨"SaidLeast$Guesses", "cancel", "(I)V"⟩, 4), (⟨"SaidLeastModel", "readParlour", "()I"⟩, 38), (⟨"SaidLeastModel", "figure", "(II)I"⟩, 38), (⟨"SaidLeastModel", "readPart", "()Z"⟩, 38)]
theorem lw_r2 : ∀ q ∈ lw_privs_2, lw_okq q := List.forall_mem_cons.mpr ⟨lw_p16, List.forall_mem_cons.mpr ⟨lw_p17, List.forall_mem_cons.mpr ⟨lw_p18, List.forall_mem_cons.mpr ⟨lw_p19, List.forall_mem_cons.mpr ⟨lw_p20, List.forall_mem_cons.mpr ⟨lw_p21, List.forall_mem_cons.mpr ⟨lw_p22, List.forall_mem_cons.mpr ⟨lw_p23, List.forall_mem_cons.mpr ⟨lw_p24, List.forall_mem_cons.mpr ⟨lw_p25, List.forall_mem_cons.mpr ⟨lw_p26, List.forall_mem_cons.mpr ⟨lw_p27, List.forall_mem_cons.mpr ⟨lw_p28, List.forall_mem_cons.mpr ⟨lw_p29, List.forall_mem_cons.mpr ⟨lw_p30, List.forall_mem_cons.mpr ⟨lw_p31, fun _ h => absurd h List.not_mem_nil⟩⟩⟩⟩⟩⟩⟩⟩⟩⟩⟩⟩⟩⟩⟩⟩
theorem lw_p32 : lw_okq (⟨"SaidLeastModel", "readPerson", "(Z)Z"⟩, 38) := ⟨⟨by decide +kernel, by decide +kernel⟩, List.mem_of_getElem? (i := 683) (by decide +kernel), List.mem_of_getElem? (i := 833) (by decide +kernel), List.mem_of_getElem? (i := 834) (by decide +kernel)⟩
theorem lw_p33 : lw_okq (⟨"SaidLeastModel", "readSaying", "()Z"⟩, 38) := ⟨⟨by decide +kernel, by decide +kernel⟩, List.mem_of_getElem? (i := 683) (by decide +kernel), List.mem_of_getElem? (i := 837) (by decide +kernel), List.mem_of_getElem? (i := 838) (by decide +kernel)⟩
theorem lw_p34 : lw_okq (⟨"SaidLeastModel", "isAnswered", "(I)Z"⟩, 38) := ⟨⟨by decide +kernel, by decide +kernel⟩, List.mem_of_getElem? (i := 683) (by decide +kernel), List.mem_of_getElem? (i := 841) (by decide +kernel), List.mem_of_getElem? (i := 842) (by decide +kernel)⟩
theorem lw_p35 : lw_okq (⟨"SaidLeastModel", "begin", "()V"⟩, 38) := ⟨⟨by decide +kernel, by decide +kernel⟩, List.mem_of_getElem? (i := 683) (by decide +kernel), List.mem_of_getElem? (i := 853) (by decide +kernel), List.mem_of_getElem? (i := 854) (by decide +kernel)⟩
theorem lw_p36 : lw_okq (⟨"SaidLeastModel", "leastSet", "()I"⟩, 38) := ⟨⟨by decide +kernel, by decide +kernel⟩, List.mem_of_getElem? (i := 683) (by decide +kernel), List.mem_of_getElem? (i := 860) (by decide +kernel), List.mem_of_getElem? (i := 861) (by decide +kernel)⟩
theorem lw_p37 : lw_okq (⟨"SaidLeastModel", "worthOf", "(II)I"⟩, 38) := ⟨⟨by decide +kernel, by decide +kernel⟩, List.mem_of_getElem? (i := 683) (by decide +kernel), List.mem_of_getElem? (i := 865) (by decide +kernel), List.mem_of_getElem? (i := 866) (by decide +kernel)⟩
theorem lw_p38 : lw_okq (⟨"SaidLeastModel", "noOne", "(I)Z"⟩, 38) := ⟨⟨by decide +kernel, by decide +kernel⟩, List.mem_of_getElem? (i := 683) (by decide +kernel), List.mem_of_getElem? (i := 873) (by decide +kernel), List.mem_of_getElem? (i := 874) (by decide +kernel)⟩
theorem lw_p39 : lw_okq (⟨"SaidLeastModel", "noSaying", "(I)Z"⟩, 38) := ⟨⟨by decide +kernel, by decide +kernel⟩, List.mem_of_getElem? (i := 683) (by decide +kernel), List.mem_of_getElem? (i := 881) (by decide +kernel), List.mem_of_getElem? (i := 882) (by decide +kernel)⟩
theorem lw_p40 : lw_okq (⟨"SaidLeastModel", "canSay", "(I)Z"⟩, 38) := ⟨⟨by decide +kernel, by decide +kernel⟩, List.mem_of_getElem? (i := 683) (by decide +kernel), List.mem_of_getElem? (i := 894) (by decide +kernel), List.mem_of_getElem? (i := 895) (by decide +kernel)⟩
theorem lw_p41 : lw_okq (⟨"SaidLeastModel", "note", "()V"⟩, 38) := ⟨⟨by decide +kernel, by decide +kernel⟩, List.mem_of_getElem? (i := 683) (by decide +kernel), List.mem_of_getElem? (i := 902) (by decide +kernel), List.mem_of_getElem? (i := 903) (by decide +kernel)⟩
theorem lw_p42 : lw_okq (⟨"SaidLeastModel", "layPage", "([II)V"⟩, 38) := ⟨⟨by decide +kernel, by decide +kernel⟩, List.mem_of_getElem? (i := 683) (by decide +kernel), List.mem_of_getElem? (i := 906) (by decide +kernel), List.mem_of_getElem? (i := 907) (by decide +kernel)⟩
theorem lw_p43 : lw_okq (⟨"SaidLeastModel", "takePage", "([II)V"⟩, 38) := ⟨⟨by decide +kernel, by decide +kernel⟩, List.mem_of_getElem? (i := 683) (by decide +kernel), List.mem_of_getElem? (i := 930) (by decide +kernel), List.mem_of_getElem? (i := 931) (by decide +kernel)⟩
theorem lw_p44 : lw_okq (⟨"SaidLeastModel", "sayIt", "(I)V"⟩, 38) := ⟨⟨by decide +kernel, by decide +kernel⟩, List.mem_of_getElem? (i := 683) (by decide +kernel), List.mem_of_getElem? (i := 938) (by decide +kernel), List.mem_of_getElem? (i := 939) (by decide +kernel)⟩
theorem lw_p45 : lw_okq (⟨"SaidLeastModel", "goOrders", "(II)I"⟩, 38) := ⟨⟨by decide +kernel, by decide +kernel⟩, List.mem_of_getElem? (i := 683) (by decide +kernel), List.mem_of_getElem? (i := 947) (by decide +kernel), List.mem_of_getElem? (i := 948) (by decide +kernel)⟩
theorem lw_p46 : lw_okq (⟨"SaidLeastModel", "takeBack", "(I)V"⟩, 38) := ⟨⟨by decide +kernel, by decide +kernel⟩, List.mem_of_getElem? (i := 683) (by decide +kernel), List.mem_of_getElem? (i := 951) (by decide +kernel), List.mem_of_getElem? (i := 952) (by decide +kernel)⟩
theorem lw_p47 : lw_okq (⟨"SaidLeastModel", "endOf", "(I)I"⟩, 38) := ⟨⟨by decide +kernel, by decide +kernel⟩, List.mem_of_getElem? (i := 683) (by decide +kernel), List.mem_of_getElem? (i := 971) (by decide +kernel), List.mem_of_getElem? (i := 972) (by decide +kernel)⟩
def lw_privs_3 : List (MethodName × Nat) := [(⟨"SaidLeastModel", "readPerson", "(Z)Z"⟩, 38), (⟨"SaidLeastModel", "readSaying", "()Z"⟩, 38), (⟨"SaidLeastModel", "isAnswered", "(I)Z"⟩, 38), (⟨"SaidLeastModel", "begin", "()V"⟩, 38), (⟨"SaidLeastModel", "leastSet", "()I"⟩, 38), (⟨"SaidLeastModel", "worthOf", "(II)I"⟩, 38), (⟨"SaidLeastModel", "noOne", "(I)Z"⟩, 38), (⟨"SaidLeastModel", "noSaying", "(I)Z"⟩, 38), (⟨"SaidLeastModel", "canSay", "(I)Z"⟩, 38), (⟨"SaidLeastModel", "note", "()V"⟩, 38), (⟨"SaidLeastModel", "layPage", "([II)V"⟩, 38), (⟨"SaidLeastModel", "takePage", "([II)V"⟩, 38), (⟨"SaidLeastModel", "sayIt", "(I)V"⟩, 38), (⟨"SaidLeastModel", "goOrders", "(II)I"⟩, 38), (⟨"SaidLeastModel", "takeBack", "(I)V"⟩, 38), (⟨"SaidLeastModel", "endOf", "(I)I"⟩, 38)]
theorem lw_r3 : ∀ q ∈ lw_privs_3, lw_okq q := List.forall_mem_cons.mpr ⟨lw_p32, List.forall_mem_cons.mpr ⟨lw_p33, List.forall_mem_cons.mpr ⟨lw_p34, List.forall_mem_cons.mpr ⟨lw_p35, List.forall_mem_cons.mpr ⟨lw_p36, List.forall_mem_cons.mpr ⟨lw_p37, List.forall_mem_cons.mpr ⟨lw_p38, List.forall_mem_cons.mpr ⟨lw_p39, List.forall_mem_cons.mpr ⟨lw_p40, List.forall_mem_cons.mpr ⟨lw_p41, List.forall_mem_cons.mpr ⟨lw_p42, List.forall_mem_cons.mpr ⟨lw_p43, List.forall_mem_cons.mpr ⟨lw_p44, List.forall_mem_cons.mpr ⟨lw_p45, List.forall_mem_cons.mpr ⟨lw_p46, List.forall_mem_cons.mpr ⟨lw_p47, fun _ h => absurd h List.not_mem_nil⟩⟩⟩⟩⟩⟩⟩⟩⟩⟩⟩⟩⟩⟩⟩⟩
theorem lw_p48 : lw_okq (⟨"SaidLeastModel", "outBy", "(III)J"⟩, 38) := ⟨⟨by decide +kernel, by decide +kernel⟩, List.mem_of_getElem? (i := 683) (by decide +kernel), List.mem_of_getElem? (i := 981) (by decide +kernel), List.mem_of_getElem? (i := 982) (by decide +kernel)⟩
theorem lw_p49 : lw_okq (⟨"SaidLeastModel", "turn", "(I)V"⟩, 38) := ⟨⟨by decide +kernel, by decide +kernel⟩, List.mem_of_getElem? (i := 683) (by decide +kernel), List.mem_of_getElem? (i := 992) (by decide +kernel), List.mem_of_getElem? (i := 993) (by decide +kernel)⟩
def lw_privs_4 : List (MethodName × Nat) := [(⟨"SaidLeastModel", "outBy", "(III)J"⟩, 38), (⟨"SaidLeastModel", "turn", "(I)V"⟩, 38)]
theorem lw_r4 : ∀ q ∈ lw_privs_4, lw_okq q := List.forall_mem_cons.mpr ⟨lw_p48, List.forall_mem_cons.mpr ⟨lw_p49, fun _ h => absurd h List.not_mem_nil⟩⟩
def lw_privs : List (MethodName × Nat) := lw_privs_1 ++ (lw_privs_2 ++ (lw_privs_3 ++ (lw_privs_4)))
def lw_tbl : List Cond := k2_sels lw_privs ++ tables_1
theorem lw_privs_ok : ∀ q ∈ lw_privs, lw_okq q := by
  show ∀ q ∈ lw_privs_1 ++ (lw_privs_2 ++ (lw_privs_3 ++ (lw_privs_4))), lw_okq q
  exact List.forall_mem_append.mpr ⟨lw_r1, List.forall_mem_append.mpr ⟨lw_r2, List.forall_mem_append.mpr ⟨lw_r3, lw_r4⟩⟩⟩
end
section
/-- class names -/
def ab_cn : Nat → String := fun c => match c with
  | 0 => "SaidLeast"
  | 1 => "SaidLeast$Text"
  | 2 => "SaidLeast$Reader"
  | 3 => "SaidLeast$Told"
  | 4 => "SaidLeast$State"
  | 5 => "SaidLeast$Acts"
  | 6 => "SaidLeast$Orders"
  | 7 => "SaidLeast$Ahead"
  | 8 => "SaidLeast$Contest"
  | 9 => "SaidLeast$Guesses"
  | 10 => "SaidLeastModel"
  | 11 => "java/lang/Integer"
  | 12 => "java/lang/Math"
  | 13 => "java/util/Arrays"
  | _ => "java/lang/Object"
def ab_T0 : u_T := fun k => match k with
  | 0 => ("SaidLeast", "text", "LSaidLeast$Text;", true)
  | 1 => ("SaidLeast", "reader", "LSaidLeast$Reader;", true)
  | 2 => ("SaidLeast", "told", "LSaidLeast$Told;", true)
  | 3 => ("SaidLeast", "now", "LSaidLeast$State;", true)
  | 4 => ("SaidLeast", "trial", "LSaidLeast$State;", true)
  | 5 => ("SaidLeast", "acts", "LSaidLeast$Acts;", true)
  | 6 => ("SaidLeast", "slots", "[LSaidLeast$State;", true)
  | 7 => ("SaidLeast", "orders", "LSaidLeast$Orders;", true)
  | 8 => ("SaidLeast", "contest", "LSaidLeast$Contest;", true)
  | 9 => ("SaidLeast", "guesses", "LSaidLeast$Guesses;", true)
  | _ => ("SaidLeast", "keptSlots", "I", false)
def ab_T1 : u_T := fun k => match k with
  | 0 => ("SaidLeast$Text", "bytes", "[B", true)
  | _ => ("SaidLeast$Text", "length", "I", false)
def ab_T2 : u_T := fun k => match k with
  | 0 => ("SaidLeast$Reader", "told", "LSaidLeast$Told;", true)
  | 1 => ("SaidLeast$Reader", "state", "LSaidLeast$State;", true)
  | 2 => ("SaidLeast$Reader", "due", "I", false)
  | _ => ("SaidLeast$Reader", "answered", "I", false)
def ab_T3 : u_T := fun k => match k with
  | 0 => ("SaidLeast$Told", "speaker", "[I", true)
  | 1 => ("SaidLeast$Told", "words", "[I", true)
  | 2 => ("SaidLeast$Told", "worth", "[I", true)
  | 3 => ("SaidLeast$Told", "answers", "[I", true)
  | 4 => ("SaidLeast$Told", "people", "I", false)
  | _ => ("SaidLeast$Told", "sayings", "I", false)
def ab_T4 : u_T := fun k => match k with
  | 0 => ("SaidLeast$State", "words", "[I", true)
  | 1 => ("SaidLeast$State", "there", "I", false)
  | 2 => ("SaidLeast$State", "said", "I", false)
  | 3 => ("SaidLeast$State", "last", "I", false)
  | _ => ("SaidLeast$State", "law", "I", false)
def ab_T5 : u_T := fun k => match k with
  | 0 => ("SaidLeast$Acts", "person", "[I", true)
  | 1 => ("SaidLeast$Acts", "words", "[I", true)
  | 2 => ("SaidLeast$Acts", "there", "[I", true)
  | 3 => ("SaidLeast$Acts", "said", "[I", true)
  | 4 => ("SaidLeast$Acts", "last", "[I", true)
  | 5 => ("SaidLeast$Acts", "first", "I", false)
  | _ => ("SaidLeast$Acts", "count", "I", false)
def ab_T6 : u_T := fun k => match k with
  | 0 => ("SaidLeast$Orders", "ahead", "LSaidLeast$Ahead;", true)
  | 1 => ("SaidLeast$Orders", "lasts", "[I", true)
  | 2 => ("SaidLeast$Orders", "open", "[I", true)
  | 3 => ("SaidLeast$Orders", "spent", "[I", true)
  | 4 => ("SaidLeast$Orders", "gained", "[I", true)
  | _ => ("SaidLeast$Orders", "good", "[I", true)
def ab_T7 : u_T := fun k => match k with
  | _ => ("SaidLeast$Ahead", "then", "LSaidLeast$State;", true)
def ab_T8 : u_T := fun k => match k with
  | 0 => ("SaidLeast$Contest", "ahead", "LSaidLeast$Ahead;", true)
  | 1 => ("SaidLeast$Contest", "leasts", "[I", true)
  | _ => ("SaidLeast$Contest", "ends", "[I", true)
def ab_T9 : u_T := fun k => match k with
  | 0 => ("SaidLeast$Guesses", "ways", "[J", true)
  | 1 => ("SaidLeast$Guesses", "then", "LSaidLeast$State;", true)
  | 2 => ("SaidLeast$Guesses", "upper", "J", false)
  | _ => ("SaidLeast$Guesses", "lower", "J", false)
def ab_T10 : u_T := fun k => match k with
  | 0 => ("SaidLeastModel", "thrown", "I", false)
  | 1 => ("SaidLeastModel", "text", "[I", true)
  | 2 => ("SaidLeastModel", "textSize", "I", false)
  | 3 => ("SaidLeastModel", "place", "I", false)
  | 4 => ("SaidLeastModel", "law", "I", false)
  | 5 => ("SaidLeastModel", "people", "I", false)
  | 6 => ("SaidLeastModel", "words", "[I", true)
  | 7 => ("SaidLeastModel", "there", "I", false)
  | 8 => ("SaidLeastModel", "sayings", "I", false)
  | 9 => ("SaidLeastModel", "who", "[I", true)
  | 10 => ("SaidLeastModel", "size", "[I", true)
  | 11 => ("SaidLeastModel", "worth", "[I", true)
  | 12 => ("SaidLeastModel", "answers", "[I", true)
  | 13 => ("SaidLeastModel", "said", "I", false)
  | 14 => ("SaidLeastModel", "last", "I", false)
  | 15 => ("SaidLeastModel", "readLaw", "I", false)
  | 16 => ("SaidLeastModel", "readPeople", "I", false)
  | 17 => ("SaidLeastModel", "readWords", "[I", true)
  | 18 => ("SaidLeastModel", "readThere", "I", false)
  | 19 => ("SaidLeastModel", "readSayings", "I", false)
  | 20 => ("SaidLeastModel", "readWho", "[I", true)
  | 21 => ("SaidLeastModel", "readSize", "[I", true)
  | 22 => ("SaidLeastModel", "readWorth", "[I", true)
  | 23 => ("SaidLeastModel", "readAnswers", "[I", true)
  | 24 => ("SaidLeastModel", "book", "[I", true)
  | 25 => ("SaidLeastModel", "acts", "I", false)
  | 26 => ("SaidLeastModel", "kept", "[I", true)
  | 27 => ("SaidLeastModel", "isKept", "[Z", true)
  | 28 => ("SaidLeastModel", "w", "[I", true)
  | 29 => ("SaidLeastModel", "done", "I", false)
  | 30 => ("SaidLeastModel", "latest", "I", false)
  | 31 => ("SaidLeastModel", "row", "[I", true)
  | 32 => ("SaidLeastModel", "before", "[I", true)
  | 33 => ("SaidLeastModel", "best", "[I", true)
  | 34 => ("SaidLeastModel", "bestMany", "I", false)
  | 35 => ("SaidLeastModel", "end", "[I", true)
  | 36 => ("SaidLeastModel", "sums", "[J", true)
  | _ => ("SaidLeastModel", "then", "[J", true)
abbrev ab_classes : List vw_C := [("SaidLeast", ab_T0, 11), ("SaidLeast$Text", ab_T1, 2), ("SaidLeast$Reader", ab_T2, 4), ("SaidLeast$Told", ab_T3, 6), ("SaidLeast$State", ab_T4, 5), ("SaidLeast$Acts", ab_T5, 7), ("SaidLeast$Orders", ab_T6, 6), ("SaidLeast$Ahead", ab_T7, 1), ("SaidLeast$Contest", ab_T8, 3), ("SaidLeast$Guesses", ab_T9, 4), ("SaidLeastModel", ab_T10, 38)]
/-- kinds of fields: 0 int, 1 long, 2 a reference -/
def ab_fkT : List (List Nat) := [[2, 2, 2, 2, 2, 2, 2, 2, 2, 2, 0], [2, 0], [2, 2, 0, 0], [2, 2, 2, 2, 0, 0], [2, 0, 0, 0, 0], [2, 2, 2, 2, 2, 0, 0], [2, 2, 2, 2, 2, 2], [2], [2, 2, 2], [2, 2, 1, 1], [0, 2, 0, 0, 0, 0, 2, 0, 0, 2, 2, 2, 2, 0, 0, 0, 0, 2, 0, 0, 2, 2, 2, 2, 2, 0, 2, 2, 2, 0, 0, 2, 2, 2, 0, 2, 2, 2]]
def ab_fk (ci k : Nat) : Nat := (ab_fkT.getD ci []).getD k 9
/-- the methods: name, code, locals, what is returned, own class -/
def ab_mt : List (MethodName × ByteArray × Nat × Option FieldType × Nat) := [
  (⟨"SaidLeast", "<init>", "()V"⟩, prog_1_method_1_code, 2, none, 0),
  (⟨"java/lang/Object", "<init>", "()V"⟩, object_method_1_code, 1, none, 14),
  (⟨"SaidLeast$Text", "<init>", "()V"⟩, prog_9_method_1_code, 1, none, 1),
  (⟨"SaidLeast$Reader", "<init>", "()V"⟩, prog_7_method_1_code, 1, none, 2),
  (⟨"SaidLeast$Told", "<init>", "()V"⟩, prog_10_method_1_code, 1, none, 3),
  (⟨"SaidLeast$State", "<init>", "()V"⟩, prog_8_method_1_code, 1, none, 4),
  (⟨"SaidLeast$Acts", "<init>", "()V"⟩, prog_2_method_1_code, 1, none, 5),
  (⟨"SaidLeast$Orders", "<init>", "()V"⟩, prog_6_method_1_code, 1, none, 6),
  (⟨"SaidLeast$Ahead", "<init>", "()V"⟩, prog_3_method_1_code, 1, none, 7),
  (⟨"SaidLeast$Contest", "<init>", "()V"⟩, prog_4_method_1_code, 1, none, 8),
  (⟨"SaidLeast$Guesses", "<init>", "()V"⟩, prog_5_method_1_code, 1, none, 9),
  (⟨"SaidLeast", "write", "(IJ)I"⟩, prog_1_method_2_code, 4, some .int, 0),
  (⟨"SaidLeast$Text", "append", "(IJ)V"⟩, prog_9_method_2_code, 5, none, 1),
  (⟨"SaidLeast", "wipe", "()I"⟩, prog_1_method_3_code, 2, some .int, 0),
  (⟨"SaidLeast", "fault", "()I"⟩, prog_1_method_4_code, 1, some .int, 0),
  (⟨"SaidLeast$Reader", "firstFault", "(LSaidLeast$Text;)I"⟩, prog_7_method_2_code, 3, some .int, 2),
  (⟨"SaidLeast$Reader", "begin", "()V"⟩, prog_7_method_3_code, 1, none, 2),
  (⟨"java/util/Arrays", "fill", "([II)V"⟩, prog_16_method_103_code, 4, none, 13),
  (⟨"SaidLeast$Reader", "takes", "(I)Z"⟩, prog_7_method_4_code, 2, some .boolean, 2),
  (⟨"SaidLeast$Reader", "takesStart", "(I)Z"⟩, prog_7_method_5_code, 2, some .boolean, 2),
  (⟨"SaidLeast$Reader", "takesLaw", "(I)Z"⟩, prog_7_method_6_code, 2, some .boolean, 2),
  (⟨"SaidLeast$Reader", "opensSaying", "()Z"⟩, prog_7_method_10_code, 1, some .boolean, 2),
  (⟨"SaidLeast$Reader", "opensPerson", "(I)Z"⟩, prog_7_method_7_code, 2, some .boolean, 2),
  (⟨"SaidLeast$Reader", "takesTens", "(I)Z"⟩, prog_7_method_8_code, 2, some .boolean, 2),
  (⟨"SaidLeast$Reader", "takesOnes", "(I)Z"⟩, prog_7_method_9_code, 2, some .boolean, 2),
  (⟨"SaidLeast$Reader", "takesSpeaker", "(I)Z"⟩, prog_7_method_11_code, 2, some .boolean, 2),
  (⟨"SaidLeast$Told", "hasPerson", "(I)Z"⟩, prog_10_method_3_code, 2, some .boolean, 3),
  (⟨"SaidLeast$Reader", "takesWords", "(I)Z"⟩, prog_7_method_12_code, 2, some .boolean, 2),
  (⟨"SaidLeast$Reader", "takesWorth", "(I)Z"⟩, prog_7_method_13_code, 2, some .boolean, 2),
  (⟨"SaidLeast$Reader", "closesSaying", "(I)Z"⟩, prog_7_method_15_code, 2, some .boolean, 2),
  (⟨"SaidLeast$Reader", "takesAnswered", "(I)Z"⟩, prog_7_method_14_code, 2, some .boolean, 2),
  (⟨"SaidLeast$Told", "hasSaying", "(I)Z"⟩, prog_10_method_4_code, 2, some .boolean, 3),
  (⟨"SaidLeast", "has", "(II)Z"⟩, prog_1_method_26_code, 2, some .boolean, 0),
  (⟨"SaidLeast", "parlour", "()I"⟩, prog_1_method_5_code, 1, some .int, 0),
  (⟨"SaidLeast$Told", "copyFrom", "(LSaidLeast$Told;)V"⟩, prog_10_method_2_code, 2, none, 3),
  (⟨"SaidLeast$State", "copyFrom", "(LSaidLeast$State;)V"⟩, prog_8_method_2_code, 2, none, 4),
  (⟨"SaidLeast$Acts", "clear", "()V"⟩, prog_2_method_2_code, 1, none, 5),
  (⟨"SaidLeast", "about", "(I)I"⟩, prog_1_method_6_code, 2, some .int, 0),
  (⟨"SaidLeast$State", "least", "()I"⟩, prog_8_method_4_code, 4, some .int, 4),
  (⟨"SaidLeast$Told", "worthOf", "(I)I"⟩, prog_10_method_6_code, 4, some .int, 3),
  (⟨"SaidLeast$State", "wordsThere", "()I"⟩, prog_8_method_5_code, 3, some .int, 4),
  (⟨"SaidLeast", "person", "(II)I"⟩, prog_1_method_7_code, 3, some .int, 0),
  (⟨"SaidLeast$Told", "sayingsOf", "(I)I"⟩, prog_10_method_5_code, 4, some .int, 3),
  (⟨"SaidLeast", "saying", "(II)I"⟩, prog_1_method_8_code, 3, some .int, 0),
  (⟨"SaidLeast", "law", "(I)I"⟩, prog_1_method_9_code, 3, some .int, 0),
  (⟨"SaidLeast", "may", "(I)I"⟩, prog_1_method_10_code, 2, some .int, 0),
  (⟨"SaidLeast$State", "allows", "(LSaidLeast$Told;I)Z"⟩, prog_8_method_9_code, 5, some .boolean, 4),
  (⟨"SaidLeast", "say", "(I)I"⟩, prog_1_method_11_code, 3, some .int, 0),
  (⟨"SaidLeast$Acts", "remember", "(LSaidLeast$State;I)V"⟩, prog_2_method_3_code, 4, none, 5),
  (⟨"SaidLeast$State", "utter", "(LSaidLeast$Told;I)V"⟩, prog_8_method_10_code, 3, none, 4),
  (⟨"SaidLeast", "talk", "(II)I"⟩, prog_1_method_12_code, 3, some .int, 0),
  (⟨"SaidLeast", "come", "(I)I"⟩, prog_1_method_13_code, 2, some .int, 0),
  (⟨"SaidLeast$State", "wordsOfNewcomer", "()I"⟩, prog_8_method_7_code, 2, some .int, 4),
  (⟨"SaidLeast$State", "countThere", "()I"⟩, prog_8_method_3_code, 1, some .int, 4),
  (⟨"java/lang/Integer", "bitCount", "(I)I"⟩, prog_13_method_49_code, 1, some .int, 11),
  (⟨"SaidLeast$State", "mostWords", "()I"⟩, prog_8_method_8_code, 3, some .int, 4),
  (⟨"java/lang/Math", "max", "(II)I"⟩, prog_14_method_65_code, 2, some .int, 12),
  (⟨"SaidLeast", "go", "(I)I"⟩, prog_1_method_14_code, 2, some .int, 0),
  (⟨"SaidLeast", "undo", "()I"⟩, prog_1_method_15_code, 1, some .int, 0),
  (⟨"SaidLeast$Acts", "takeBack", "(LSaidLeast$State;)V"⟩, prog_2_method_4_code, 3, none, 5),
  (⟨"SaidLeast", "judge", "(II)I"⟩, prog_1_method_16_code, 5, some .int, 0),
  (⟨"SaidLeast", "most", "(I)I"⟩, prog_1_method_17_code, 2, some .int, 0),
  (⟨"SaidLeast$Orders", "mostWorth", "(LSaidLeast$Told;LSaidLeast$State;I)I"⟩, prog_6_method_2_code, 4, some .int, 6),
  (⟨"SaidLeast$Orders", "spread", "(LSaidLeast$Told;LSaidLeast$State;)V"⟩, prog_6_method_5_code, 4, none, 6),
  (⟨"SaidLeast$Orders", "lastBit", "(I)I"⟩, prog_6_method_6_code, 1, some .int, 6),
  (⟨"SaidLeast$Orders", "openAt", "(LSaidLeast$Told;LSaidLeast$State;I)I"⟩, prog_6_method_7_code, 9, some .int, 6),
  (⟨"SaidLeast$Ahead", "leastAt", "(LSaidLeast$Told;LSaidLeast$State;I)I"⟩, prog_3_method_2_code, 5, some .int, 7),
  (⟨"SaidLeast$Orders", "canFollow", "(LSaidLeast$Told;II)Z"⟩, prog_6_method_8_code, 4, some .boolean, 6),
  (⟨"SaidLeast$Orders", "goOnFrom", "(LSaidLeast$Told;I)V"⟩, prog_6_method_9_code, 5, none, 6),
  (⟨"SaidLeast$Orders", "topWorth", "(LSaidLeast$Told;LSaidLeast$State;I)I"⟩, prog_6_method_10_code, 6, some .int, 6),
  (⟨"SaidLeast", "mostAt", "(II)I"⟩, prog_1_method_18_code, 3, some .int, 0),
  (⟨"SaidLeast$Orders", "sayingOfFirst", "(LSaidLeast$Told;LSaidLeast$State;II)I"⟩, prog_6_method_3_code, 10, some .int, 6),
  (⟨"SaidLeast$Orders", "markGood", "(LSaidLeast$Told;LSaidLeast$State;II)V"⟩, prog_6_method_11_code, 6, none, 6),
  (⟨"SaidLeast$Orders", "goodByNext", "(LSaidLeast$Told;I)I"⟩, prog_6_method_12_code, 6, some .int, 6),
  (⟨"SaidLeast$Orders", "firstGood", "(LSaidLeast$Told;II)I"⟩, prog_6_method_13_code, 5, some .int, 6),
  (⟨"SaidLeast", "soon", "(I)I"⟩, prog_1_method_19_code, 2, some .int, 0),
  (⟨"SaidLeast$Orders", "fewestWordsAhead", "(LSaidLeast$Told;LSaidLeast$State;I)I"⟩, prog_6_method_4_code, 6, some .int, 6),
  (⟨"SaidLeast", "need", "(I)I"⟩, prog_1_method_20_code, 2, some .int, 0),
  (⟨"SaidLeast$State", "wordsMissingBelow", "(I)I"⟩, prog_8_method_6_code, 4, some .int, 4),
  (⟨"SaidLeast", "each", "()I"⟩, prog_1_method_21_code, 1, some .int, 0),
  (⟨"SaidLeast$Contest", "endOf", "(LSaidLeast$Told;LSaidLeast$State;)I"⟩, prog_4_method_2_code, 4, some .int, 8),
  (⟨"SaidLeast$Contest", "spread", "(LSaidLeast$Told;LSaidLeast$State;)V"⟩, prog_4_method_3_code, 4, none, 8),
  (⟨"SaidLeast$Contest", "goOnFrom", "(LSaidLeast$Told;I)V"⟩, prog_4_method_4_code, 4, none, 8),
  (⟨"SaidLeast$Contest", "endFrom", "(LSaidLeast$Told;I)I"⟩, prog_4_method_5_code, 5, some .int, 8),
  (⟨"SaidLeast$Contest", "choiceOf", "(LSaidLeast$Told;III)I"⟩, prog_4_method_6_code, 11, some .int, 8),
  (⟨"SaidLeast", "out", "(II)J"⟩, prog_1_method_22_code, 3, some .long, 0),
  (⟨"SaidLeast$Guesses", "waysWhileOut", "(LSaidLeast$State;II)J"⟩, prog_5_method_2_code, 8, some .long, 9),
  (⟨"SaidLeast", "firstOf", "(I)I"⟩, prog_1_method_27_code, 2, some .int, 0),
  (⟨"SaidLeast$Guesses", "waysAtLevel", "(LSaidLeast$State;III)J"⟩, prog_5_method_3_code, 10, some .long, 9),
  (⟨"java/util/Arrays", "fill", "([JJ)V"⟩, prog_16_method_101_code, 5, none, 13),
  (⟨"java/lang/Math", "min", "(II)I"⟩, prog_14_method_69_code, 2, some .int, 12),
  (⟨"SaidLeast$Guesses", "addWords", "(III)V"⟩, prog_5_method_4_code, 8, none, 9),
  (⟨"SaidLeast", "chance", "(IIIZ)J"⟩, prog_1_method_23_code, 5, some .long, 0),
  (⟨"SaidLeast$Guesses", "weighTurns", "(LSaidLeast$State;III)V"⟩, prog_5_method_5_code, 6, none, 9),
  (⟨"SaidLeast$Guesses", "isLeastBehind", "(LSaidLeast$State;III)Z"⟩, prog_5_method_6_code, 7, some .boolean, 9),
  (⟨"SaidLeast$Guesses", "weight", "(III)J"⟩, prog_5_method_7_code, 6, some .long, 9),
  (⟨"SaidLeast$Guesses", "cancel", "(I)V"⟩, prog_5_method_8_code, 3, none, 9),
  (⟨"SaidLeast", "keep", "(I)I"⟩, prog_1_method_24_code, 2, some .int, 0),
  (⟨"SaidLeast", "again", "(I)I"⟩, prog_1_method_25_code, 2, some .int, 0),
  (⟨"SaidLeastModel", "<init>", "()V"⟩, prog_12_method_1_code, 1, none, 10),
  (⟨"SaidLeastModel", "write", "(IJ)I"⟩, prog_12_method_7_code, 5, some .int, 10),
  (⟨"SaidLeastModel", "in", "(JJJ)Z"⟩, prog_12_method_3_code, 6, some .boolean, 10),
  (⟨"SaidLeastModel", "wipe", "()I"⟩, prog_12_method_8_code, 2, some .int, 10),
  (⟨"SaidLeastModel", "fault", "()I"⟩, prog_12_method_15_code, 1, some .int, 10),
  (⟨"SaidLeastModel", "readParlour", "()I"⟩, prog_12_method_14_code, 1, some .int, 10),
  (⟨"SaidLeastModel", "figure", "(II)I"⟩, prog_12_method_9_code, 3, some .int, 10),
  (⟨"SaidLeastModel", "readPart", "()Z"⟩, prog_12_method_13_code, 2, some .boolean, 10),
  (⟨"SaidLeastModel", "readPerson", "(Z)Z"⟩, prog_12_method_10_code, 4, some .boolean, 10),
  (⟨"SaidLeastModel", "readSaying", "()Z"⟩, prog_12_method_12_code, 5, some .boolean, 10),
  (⟨"SaidLeastModel", "isAnswered", "(I)Z"⟩, prog_12_method_11_code, 4, some .boolean, 10),
  (⟨"SaidLeastModel", "parlour", "()I"⟩, prog_12_method_16_code, 2, some .int, 10),
  (⟨"SaidLeastModel", "about", "(I)I"⟩, prog_12_method_21_code, 4, some .int, 10),
  (⟨"SaidLeastModel", "begin", "()V"⟩, prog_12_method_17_code, 2, none, 10),
  (⟨"SaidLeastModel", "has", "(II)Z"⟩, prog_12_method_4_code, 2, some .boolean, 10),
  (⟨"SaidLeastModel", "leastSet", "()I"⟩, prog_12_method_18_code, 4, some .int, 10),
  (⟨"SaidLeastModel", "worthOf", "(II)I"⟩, prog_12_method_19_code, 5, some .int, 10),
  (⟨"SaidLeastModel", "person", "(II)I"⟩, prog_12_method_22_code, 3, some .int, 10),
  (⟨"SaidLeastModel", "noOne", "(I)Z"⟩, prog_12_method_5_code, 2, some .boolean, 10),
  (⟨"SaidLeastModel", "saying", "(II)I"⟩, prog_12_method_23_code, 3, some .int, 10),
  (⟨"SaidLeastModel", "noSaying", "(I)Z"⟩, prog_12_method_6_code, 2, some .boolean, 10),
  (⟨"SaidLeastModel", "law", "(I)I"⟩, prog_12_method_24_code, 3, some .int, 10),
  (⟨"SaidLeastModel", "may", "(I)I"⟩, prog_12_method_27_code, 2, some .int, 10),
  (⟨"SaidLeastModel", "canSay", "(I)Z"⟩, prog_12_method_25_code, 2, some .boolean, 10),
  (⟨"SaidLeastModel", "say", "(I)I"⟩, prog_12_method_31_code, 2, some .int, 10),
  (⟨"SaidLeastModel", "note", "()V"⟩, prog_12_method_30_code, 2, none, 10),
  (⟨"SaidLeastModel", "layPage", "([II)V"⟩, prog_12_method_28_code, 4, none, 10),
  (⟨"SaidLeastModel", "talk", "(II)I"⟩, prog_12_method_32_code, 3, some .int, 10),
  (⟨"SaidLeastModel", "come", "(I)I"⟩, prog_12_method_33_code, 6, some .int, 10),
  (⟨"SaidLeastModel", "go", "(I)I"⟩, prog_12_method_34_code, 2, some .int, 10),
  (⟨"SaidLeastModel", "many", "(I)I"⟩, prog_12_method_20_code, 3, some .int, 10),
  (⟨"SaidLeastModel", "undo", "()I"⟩, prog_12_method_35_code, 1, some .int, 10),
  (⟨"SaidLeastModel", "takePage", "([II)V"⟩, prog_12_method_29_code, 4, none, 10),
  (⟨"SaidLeastModel", "judge", "(II)I"⟩, prog_12_method_36_code, 6, some .int, 10),
  (⟨"SaidLeastModel", "sayIt", "(I)V"⟩, prog_12_method_26_code, 2, none, 10),
  (⟨"SaidLeastModel", "most", "(I)I"⟩, prog_12_method_39_code, 2, some .int, 10),
  (⟨"SaidLeastModel", "goOrders", "(II)I"⟩, prog_12_method_38_code, 9, some .int, 10),
  (⟨"SaidLeastModel", "takeBack", "(I)V"⟩, prog_12_method_37_code, 3, none, 10),
  (⟨"SaidLeastModel", "mostAt", "(II)I"⟩, prog_12_method_40_code, 3, some .int, 10),
  (⟨"SaidLeastModel", "soon", "(I)I"⟩, prog_12_method_41_code, 2, some .int, 10),
  (⟨"SaidLeastModel", "need", "(I)I"⟩, prog_12_method_42_code, 4, some .int, 10),
  (⟨"SaidLeastModel", "each", "()I"⟩, prog_12_method_44_code, 2, some .int, 10),
  (⟨"SaidLeastModel", "endOf", "(I)I"⟩, prog_12_method_43_code, 7, some .int, 10),
  (⟨"SaidLeastModel", "out", "(II)J"⟩, prog_12_method_45_code, 7, some .long, 10),
  (⟨"SaidLeastModel", "outBy", "(III)J"⟩, prog_12_method_46_code, 8, some .long, 10),
  (⟨"SaidLeastModel", "chance", "(IIIZ)J"⟩, prog_12_method_48_code, 13, some .long, 10),
  (⟨"SaidLeastModel", "turn", "(I)V"⟩, prog_12_method_49_code, 4, none, 10),
  (⟨"SaidLeastModel", "divisor", "(JJ)J"⟩, prog_12_method_47_code, 10, some .long, 10),
  (⟨"SaidLeastModel", "keep", "(I)I"⟩, prog_12_method_50_code, 2, some .int, 10),
  (⟨"SaidLeastModel", "again", "(I)I"⟩, prog_12_method_51_code, 2, some .int, 10)]
def ab_m (M : Nat) : MethodName × ByteArray × Nat × Option FieldType × Nat := ab_mt.getD M (⟨"", "", ""⟩, prog_1_method_1_code, 0, none, 0)
def ab_N (M : Nat) : MethodName := (ab_m M).1
def ab_C (M : Nat) : ByteArray := (ab_m M).2.1
def ab_L (M : Nat) : Nat := (ab_m M).2.2.1
def ab_R (M : Nat) : Option FieldType := (ab_m M).2.2.2.1
def ab_O (M : Nat) : Nat := (ab_m M).2.2.2.2
/-- field links: own class, index, class, field -/
def ab_flT : List (Nat × Nat × Nat × Nat) := [(0, 12, 0, 0), (0, 19, 0, 1), (0, 26, 0, 2), (0, 33, 0, 3), (0, 37, 0, 4), (0, 43, 0, 5), (0, 47, 0, 6), (0, 54, 0, 7), (0, 61, 0, 8), (0, 68, 0, 9), (0, 72, 1, 1), (0, 84, 2, 0), (0, 89, 2, 1), (0, 98, 0, 10), (0, 101, 3, 4), (0, 104, 3, 5), (0, 107, 4, 4), (0, 110, 4, 1), (0, 117, 4, 2), (0, 124, 5, 6), (0, 130, 4, 3), (0, 137, 4, 0), (0, 151, 3, 0), (0, 154, 3, 1), (0, 155, 3, 2), (0, 158, 3, 3), (0, 215, 9, 2), (0, 219, 9, 3), (5, 9, 5, 0), (5, 15, 5, 1), (5, 18, 5, 2), (5, 21, 5, 3), (5, 24, 5, 4), (5, 27, 5, 6), (5, 31, 5, 5), (5, 34, 4, 0), (5, 37, 4, 1), (5, 39, 4, 2), (5, 41, 4, 3), (7, 10, 7, 0), (7, 20, 3, 5), (7, 26, 4, 2), (7, 35, 4, 0), (7, 39, 3, 0), (7, 42, 3, 1), (8, 12, 8, 0), (8, 18, 8, 1), (8, 22, 8, 2), (8, 29, 3, 5), (8, 35, 4, 2), (8, 62, 3, 0), (9, 9, 9, 0), (9, 18, 9, 1), (9, 22, 9, 3), (9, 26, 4, 1), (9, 34, 4, 0), (9, 65, 9, 2), (6, 12, 6, 0), (6, 18, 6, 1), (6, 22, 6, 2), (6, 25, 6, 3), (6, 28, 6, 4), (6, 31, 6, 5), (6, 46, 4, 2), (6, 52, 4, 3), (6, 59, 3, 5), (6, 88, 3, 0), (6, 91, 3, 3), (6, 94, 4, 1), (6, 101, 3, 1), (6, 104, 3, 2), (2, 12, 2, 0), (2, 21, 2, 1), (2, 28, 1, 1), (2, 34, 1, 0), (2, 42, 2, 2), (2, 45, 3, 4), (2, 48, 3, 5), (2, 51, 4, 0), (2, 61, 4, 1), (2, 64, 4, 4), (2, 67, 2, 3), (2, 107, 3, 0), (2, 110, 3, 1), (2, 111, 3, 2), (2, 121, 3, 3), (4, 9, 4, 0), (4, 15, 4, 3), (4, 25, 4, 1), (4, 28, 4, 2), (4, 31, 4, 4), (4, 61, 3, 0), (4, 66, 3, 3), (4, 72, 3, 1), (1, 9, 1, 0), (1, 15, 1, 1), (3, 9, 3, 0), (3, 15, 3, 1), (3, 18, 3, 2), (3, 21, 3, 3), (3, 30, 3, 4), (3, 34, 3, 5), (10, 7, 10, 1), (10, 13, 10, 6), (10, 16, 10, 9), (10, 19, 10, 10), (10, 22, 10, 11), (10, 25, 10, 12), (10, 28, 10, 14), (10, 32, 10, 17), (10, 35, 10, 20), (10, 38, 10, 21), (10, 41, 10, 22), (10, 44, 10, 23), (10, 47, 10, 24), (10, 50, 10, 26), (10, 53, 10, 27), (10, 57, 10, 28), (10, 60, 10, 31), (10, 63, 10, 32), (10, 66, 10, 33), (10, 69, 10, 35), (10, 72, 10, 36), (10, 76, 10, 37), (10, 79, 10, 0), (10, 82, 10, 5), (10, 89, 10, 8), (10, 94, 10, 2), (10, 97, 10, 3), (10, 104, 10, 16), (10, 107, 10, 18), (10, 110, 10, 19), (10, 125, 10, 15), (10, 135, 10, 4), (10, 138, 10, 7), (10, 141, 10, 13), (10, 144, 10, 25), (10, 147, 10, 29), (10, 150, 10, 30), (10, 198, 10, 34)]
/-- calls: own class, index, callee, arguments (without the receiver), kind: 0 static, 1 virtual, 2 static of a nest mate -/
def ab_mlT : List (Nat × Nat × Nat × Nat × Nat) := [(0, 76, 12, 2, 1), (0, 80, 15, 1, 1), (0, 85, 34, 1, 1), (0, 92, 35, 1, 1), (0, 95, 36, 0, 1), (0, 113, 38, 0, 1), (0, 120, 39, 1, 1), (0, 127, 40, 0, 1), (0, 133, 26, 1, 1), (0, 141, 32, 2, 0), (0, 145, 42, 1, 1), (0, 148, 31, 1, 1), (0, 161, 46, 2, 1), (0, 165, 48, 2, 1), (0, 169, 49, 2, 1), (0, 173, 52, 0, 1), (0, 176, 53, 0, 1), (0, 179, 59, 1, 1), (0, 185, 62, 3, 1), (0, 189, 71, 4, 1), (0, 193, 76, 3, 1), (0, 196, 78, 1, 1), (0, 199, 80, 2, 1), (0, 205, 86, 3, 1), (0, 211, 93, 4, 1), (7, 16, 35, 1, 1), (7, 29, 32, 2, 2), (7, 43, 38, 0, 1), (8, 25, 81, 2, 1), (8, 40, 83, 2, 1), (8, 44, 17, 2, 0), (8, 50, 66, 3, 1), (8, 54, 82, 2, 1), (8, 58, 32, 2, 2), (8, 65, 84, 4, 1), (8, 69, 42, 1, 1), (8, 73, 39, 1, 1), (9, 30, 87, 1, 2), (9, 38, 88, 4, 1), (9, 42, 89, 2, 0), (9, 48, 32, 2, 2), (9, 61, 91, 3, 1), (9, 68, 94, 4, 1), (9, 72, 95, 3, 0), (9, 79, 96, 1, 1), (9, 83, 35, 1, 1), (9, 87, 38, 0, 1), (6, 34, 63, 2, 1), (6, 38, 69, 3, 1), (6, 42, 72, 4, 1), (6, 55, 74, 3, 1), (6, 64, 32, 2, 2), (6, 68, 17, 2, 0), (6, 74, 64, 1, 0), (6, 78, 65, 3, 1), (6, 81, 68, 2, 1), (6, 85, 66, 3, 1), (6, 97, 67, 3, 0), (6, 113, 73, 2, 1), (2, 25, 16, 0, 1), (2, 38, 18, 1, 1), (2, 55, 17, 2, 0), (2, 70, 19, 1, 1), (2, 73, 20, 1, 1), (2, 76, 21, 0, 1), (2, 80, 22, 1, 1), (2, 83, 23, 1, 1), (2, 86, 24, 1, 1), (2, 89, 25, 1, 1), (2, 92, 27, 1, 1), (2, 95, 28, 1, 1), (2, 98, 29, 1, 1), (2, 101, 30, 1, 1), (2, 104, 26, 1, 1), (2, 114, 31, 1, 1), (2, 117, 32, 2, 2), (4, 34, 54, 1, 0), (4, 41, 32, 2, 2), (4, 51, 53, 0, 1), (4, 55, 40, 0, 1), (4, 58, 55, 0, 1), (4, 69, 38, 0, 1), (3, 37, 32, 2, 2), (10, 85, 101, 3, 0), (10, 100, 105, 2, 1), (10, 113, 109, 1, 1), (10, 117, 107, 1, 1), (10, 121, 108, 0, 1), (10, 128, 106, 0, 1), (10, 131, 104, 0, 1), (10, 154, 113, 2, 0), (10, 158, 112, 0, 1), (10, 161, 114, 0, 1), (10, 164, 115, 2, 1), (10, 167, 117, 1, 1), (10, 170, 119, 1, 1), (10, 175, 122, 1, 1), (10, 178, 125, 2, 1), (10, 182, 124, 0, 1), (10, 187, 129, 1, 0), (10, 191, 131, 2, 1), (10, 194, 133, 1, 1), (10, 201, 136, 1, 1), (10, 206, 135, 2, 1), (10, 209, 141, 1, 1), (10, 216, 143, 3, 1), (10, 226, 145, 1, 1), (10, 229, 146, 2, 0)]
def ab_ciT : List (Nat × Nat × Int32) := [(4, 40, 2147483647), (10, 153, 99999), (11, 265, 1431655765), (11, 266, 858993459), (11, 267, 252645135)]
def ab_clT : List (Nat × Nat × Int64) := [(0, 203, -2), (0, 209, -1), (9, 91, 2), (9, 93, 5), (10, 92, 8), (10, 173, 2), (10, 185, 9), (10, 204, 72), (10, 212, 54), (10, 214, -2), (10, 220, -1), (10, 222, 6), (10, 224, 10)]
/-- arraycopy, by own class and index -/
def ab_acT : List (Nat × Nat) := [(3, 24), (4, 19)]
/-- Math.max (0), Math.min (1), by own class and index -/
def ab_mmT : List (Nat × Nat × Nat) := [(4, 45, 0), (6, 107, 0), (9, 52, 0), (9, 58, 1)]
/-- the one static array, by own class and index; 1: by a nest mate -/
def ab_gsT : List (Nat × Nat × Nat) := [(0, 182, 0), (9, 76, 1)]
def ab_nest : List Cond := [(Jvm.Cond.methodLinkNest "SaidLeast$Reader" (117 : Nat) ({ cls := "SaidLeast", name := "has", desc := "(II)Z" } : Jvm.MethodName) "SaidLeast"),
  (Jvm.Cond.methodLinkNest "SaidLeast$State" (41 : Nat) ({ cls := "SaidLeast", name := "has", desc := "(II)Z" } : Jvm.MethodName) "SaidLeast"),
  (Jvm.Cond.methodLinkNest "SaidLeast$Told" (37 : Nat) ({ cls := "SaidLeast", name := "has", desc := "(II)Z" } : Jvm.MethodName) "SaidLeast"),
  (Jvm.Cond.methodLinkNest "SaidLeast$Ahead" (29 : Nat) ({ cls := "SaidLeast", name := "has", desc := "(II)Z" } : Jvm.MethodName) "SaidLeast"),
  (Jvm.Cond.methodLinkNest "SaidLeast$Orders" (64 : Nat) ({ cls := "SaidLeast", name := "has", desc := "(II)Z" } : Jvm.MethodName) "SaidLeast"),
  (Jvm.Cond.methodLinkNest "SaidLeast$Contest" (58 : Nat) ({ cls := "SaidLeast", name := "has", desc := "(II)Z" } : Jvm.MethodName) "SaidLeast"),
  (Jvm.Cond.methodLinkNest "SaidLeast$Guesses" (30 : Nat) ({ cls := "SaidLeast", name := "firstOf", desc := "(I)I" } : Jvm.MethodName) "SaidLeast"),
  (Jvm.Cond.methodLinkNest "SaidLeast$Guesses" (48 : Nat) ({ cls := "SaidLeast", name := "has", desc := "(II)Z" } : Jvm.MethodName) "SaidLeast"),
  (Jvm.Cond.fieldLinkNest "SaidLeast$Guesses" (76 : Nat) "SaidLeast" "POWERS_OF_TEN" "[I" "SaidLeast")]
/-- the cells: kind (below 100 a class; 100 int, 101 byte, 102 boolean, 103 long, 104 rows of State), length, references -/
def ab_sh : List (Nat × Nat × List Nat) := [(0, 0, [1, 3, 11, 16, 18, 20, 26, 31, 40, 46, 0]), (1, 0, [2, 0]), (101, 64, []), (2, 0, [4, 9, 0, 0]), (3, 0, [5, 6, 7, 8, 0, 0]), (100, 8, []), (100, 8, []), (100, 8, []), (100, 8, []), (4, 0, [10, 0, 0, 0, 0]), (100, 6, []), (3, 0, [12, 13, 14, 15, 0, 0]), (100, 8, []), (100, 8, []), (100, 8, []), (100, 8, []), (4, 0, [17, 0, 0, 0, 0]), (100, 6, []), (4, 0, [19, 0, 0, 0, 0]), (100, 6, []), (5, 0, [21, 22, 23, 24, 25, 0, 0]), (100, 12, []), (100, 12, []), (100, 12, []), (100, 12, []), (100, 12, []), (104, 2, [27, 29]), (4, 0, [28, 0, 0, 0, 0]), (100, 6, []), (4, 0, [30, 0, 0, 0, 0]), (100, 6, []), (6, 0, [32, 35, 36, 37, 38, 39]), (7, 0, [33]), (4, 0, [34, 0, 0, 0, 0]), (100, 6, []), (100, 256, []), (100, 256, []), (100, 256, []), (100, 256, []), (100, 256, []), (8, 0, [41, 44, 45]), (7, 0, [42]), (4, 0, [43, 0, 0, 0, 0]), (100, 6, []), (100, 256, []), (100, 256, []), (9, 0, [47, 48, 0, 0]), (103, 55, []), (4, 0, [49, 0, 0, 0, 0]), (100, 6, []), (10, 0, [0, 51, 0, 0, 0, 0, 52, 0, 0, 53, 54, 55, 56, 0, 0, 0, 0, 57, 0, 0, 58, 59, 60, 61, 62, 0, 63, 64, 65, 0, 0, 66, 67, 68, 0, 69, 70, 71]), (100, 64, []), (100, 6, []), (100, 8, []), (100, 8, []), (100, 8, []), (100, 8, []), (100, 6, []), (100, 8, []), (100, 8, []), (100, 8, []), (100, 8, []), (100, 192, []), (100, 32, []), (102, 2, []), (100, 6, []), (100, 9, []), (100, 9, []), (100, 8, []), (100, 256, []), (103, 56, []), (103, 56, [])]
def ab_s (c : Nat) : Nat × Nat × List Nat := ab_sh.getD c (999, 0, [])
def ab_k (c : Nat) : Nat := (ab_s c).1
def ab_n (c : Nat) : Nat := (ab_s c).2.1
def ab_r (c j : Nat) : Nat := (ab_s c).2.2.getD j 0
end
section
/-! THE MACHINE IN SMALL: a store of ints and longs by cell and place; a method runs over it as a function with fuel -/
abbrev ab_St : Type := (Nat → Nat → Int32) × (Nat → Nat → Int64)
abbrev ab_Lo : Type := List (Option Value)
def ab_wI (σ : ab_St) (c : Nat) (f : Nat → Int32) : ab_St := (fun c' => if c' = c then f else σ.1 c', σ.2)
def ab_wL (σ : ab_St) (c : Nat) (f : Nat → Int64) : ab_St := (σ.1, fun c' => if c' = c then f else σ.2 c')
def ab_ldI (ls : ab_Lo) (i : Nat) : Option Int32 := match ls[i]? with
  | some (some (.int x)) => some x
  | _ => none
def ab_ldR (ls : ab_Lo) (i : Nat) : Option Nat := match ls[i]? with
  | some (some (.ref x)) => some x
  | _ => none
def ab_ldL (ls : ab_Lo) (i : Nat) : Option Int64 := match ls[i]?, ls[i + 1]? with
  | some (some (.long x)), some none => some x
  | _, _ => none
def ab_ci (own idx : Nat) : Option Int32 := (ab_ciT.find? (fun q => q.1 == own && q.2.1 == idx)).map (fun q => q.2.2)
def ab_cl (own idx : Nat) : Option Int64 := (ab_clT.find? (fun q => q.1 == own && q.2.1 == idx)).map (fun q => q.2.2)
def ab_fl (own idx : Nat) : Option (Nat × Nat) := (ab_flT.find? (fun q => q.1 == own && q.2.1 == idx)).map (fun q => q.2.2)
def ab_ml (own idx : Nat) : Option (Nat × Nat × Nat) := (ab_mlT.find? (fun q => q.1 == own && q.2.1 == idx)).map (fun q => q.2.2)
def ab_ac (own idx : Nat) : Bool := ab_acT.any (fun q => q.1 == own && q.2 == idx)
def ab_gs (own idx : Nat) : Option Nat := (ab_gsT.find? (fun q => q.1 == own && q.2.1 == idx)).map (fun q => q.2.2)
def ab_mm (own idx : Nat) : Option Nat := (ab_mmT.find? (fun q => q.1 == own && q.2.1 == idx)).map (fun q => q.2.2)
/-- constants, loads, the stack: the new stack -/
def ab_A1 (M : Nat) (i : Instr) (len : Nat) (ls : ab_Lo) (st : List Value) : Option (List Value) := match i, len, st with
  | .iconst n, 1, st => some (.int (Int32.ofInt n) :: st)
  | .bipush n, 2, st => some (.int (Int8.ofInt n).toInt32 :: st)
  | .sipush n, 3, st => some (.int (Int16.ofInt n).toInt32 :: st)
  | .lconst n, 1, st => some (.long (Int64.ofNat (n : Nat)) :: st)
  | .iload_n k, 1, st => (ab_ldI ls (k : Nat)).map (fun x => .int x :: st)
  | .iload k, 2, st => (ab_ldI ls k).map (fun x => .int x :: st)
  | .lload_n k, 1, st => (ab_ldL ls (k : Nat)).map (fun x => .long x :: st)
  | .lload k, 2, st => (ab_ldL ls k).map (fun x => .long x :: st)
  | .aload_n k, 1, st => (ab_ldR ls (k : Nat)).map (fun x => .ref x :: st)
  | .aload k, 2, st => (ab_ldR ls k).map (fun x => .ref x :: st)
  | .ldc k, 2, st => (ab_ci (ab_O M) k).map (fun x => .int x :: st)
  | .ldc_w k, 3, st => (ab_ci (ab_O M) k).map (fun x => .int x :: st)
  | .ldc2_w k, 3, st => (ab_cl (ab_O M) k).map (fun x => .long x :: st)
  | .dup, 1, v :: st => if v.category = 1 then some (v :: v :: st) else none
  | .dup2, 1, v :: w :: st => if v.category = 1 ∧ w.category = 1 then some (v :: w :: v :: w :: st) else none
  | .pop, 1, v :: st => if v.category = 1 then some st else none
  | _, _, _ => none
/-- arithmetic: the new stack -/
def ab_A2 (i : Instr) (len : Nat) (st : List Value) : Option (List Value) := match i, len, st with
  | .iadd, 1, .int y :: .int x :: st => some (.int (x + y) :: st)
  | .isub, 1, .int y :: .int x :: st => some (.int (x - y) :: st)
  | .imul, 1, .int y :: .int x :: st => some (.int (x * y) :: st)
  | .iand, 1, .int y :: .int x :: st => some (.int (x &&& y) :: st)
  | .ior, 1, .int y :: .int x :: st => some (.int (x ||| y) :: st)
  | .ixor, 1, .int y :: .int x :: st => some (.int (x ^^^ y) :: st)
  | .ishl, 1, .int y :: .int x :: st => some (.int (x <<< (y &&& 31)) :: st)
  | .ishr, 1, .int y :: .int x :: st => some (.int (x >>> (y &&& 31)) :: st)
  | .iushr, 1, .int y :: .int x :: st => some (.int (x.toUInt32 >>> (y.toUInt32 &&& Int32.toUInt32 31)).toInt32 :: st)
  | .idiv, 1, .int y :: .int x :: st => if y = 0 then none else some (.int (x / y) :: st)
  | .irem, 1, .int y :: .int x :: st => if y = 0 then none else some (.int (x - x / y * y) :: st)
  | .ladd, 1, .long y :: .long x :: st => some (.long (x + y) :: st)
  | .lmul, 1, .long y :: .long x :: st => some (.long (x * y) :: st)
  | .ldiv, 1, .long y :: .long x :: st => if y = 0 then none else some (.long (x / y) :: st)
  | .lrem, 1, .long y :: .long x :: st => if y = 0 then none else some (.long (x - x / y * y) :: st)
  | .lcmp, 1, .long y :: .long x :: st => some (.int (lg_cmp x y) :: st)
  | .i2l, 1, .int x :: st => some (.long x.toInt64 :: st)
  | .l2i, 1, .long x :: st => some (.int x.toInt32 :: st)
  | .i2b, 1, .int x :: st => some (.int x.toInt8.toInt32 :: st)
  | .lshr, 1, .int y :: .long x :: st => some (.long (x >>> (y.toInt64 &&& 63)) :: st)
  | .lushr, 1, .int y :: .long x :: st => some (.long (x.toUInt64 >>> (y.toInt64.toUInt64 &&& Int64.toUInt64 63)).toInt64 :: st)
  | _, _, _ => none
/-- Math.max, Math.min -/
def ab_X (d M : Nat) (i : Instr) (len : Nat) (st : List Value) : Option (List Value) := match i, len, st with
  | .invokestatic idx, 3, .int y :: .int x :: st => (ab_mm (ab_O M) idx).bind (fun k => if 0 < d ∧ (st.map fun v => v.category).sum ≤ 8 then some (.int (if k = 0 then (if x < y then y else x) else (if y < x then y else x)) :: st) else none)
  | _, _, _ => none
/-- stores to locals -/
def ab_S (i : Instr) (len : Nat) (ls : ab_Lo) (st : List Value) : Option (ab_Lo × List Value) := match i, len, st with
  | .istore_n k, 1, .int x :: st => if (k : Nat) < ls.length then some (ls.set (k : Nat) (some (.int x)), st) else none
  | .istore k, 2, .int x :: st => if k < ls.length then some (ls.set k (some (.int x)), st) else none
  | .lstore_n k, 1, .long x :: st => if (k : Nat) + 1 < ls.length then some ((ls.set (k : Nat) (some (.long x))).set ((k : Nat) + 1) none, st) else none
  | .lstore k, 2, .long x :: st => if k + 1 < ls.length then some ((ls.set k (some (.long x))).set (k + 1) none, st) else none
  | .iinc k n, 3, st => (ab_ldI ls k).bind (fun x => if k < ls.length then some (ls.set k (some (.int (x + Int32.ofInt n))), st) else none)
  | _, _, _ => none
def ab_to (pc : Nat) (off : Int) : Nat := ((pc : Int) + off).toNat
def ab_tsw (dflt lo hi : Int) (offs : Array Int) (x : Int32) : Option Int := if x.toInt < lo ∨ hi < x.toInt then some dflt else offs[(x.toInt - lo).toNat]?
/-- jumps: where to, the new stack -/
def ab_J (i : Instr) (len pc : Nat) (st : List Value) : Option (Nat × List Value) := match i, len, st with
  | .goto off, 3, st => if 0 ≤ (pc : Int) + off then some (ab_to pc off, st) else none
  | .ifCond .eq off, 3, .int x :: st => if 0 ≤ (pc : Int) + off then some (if x = 0 then ab_to pc off else pc + 3, st) else none
  | .ifCond .ne off, 3, .int x :: st => if 0 ≤ (pc : Int) + off then some (if x = 0 then pc + 3 else ab_to pc off, st) else none
  | .ifCond .lt off, 3, .int x :: st => if 0 ≤ (pc : Int) + off then some (if x < 0 then ab_to pc off else pc + 3, st) else none
  | .ifCond .ge off, 3, .int x :: st => if 0 ≤ (pc : Int) + off then some (if 0 ≤ x then ab_to pc off else pc + 3, st) else none
  | .ifCond .gt off, 3, .int x :: st => if 0 ≤ (pc : Int) + off then some (if 0 < x then ab_to pc off else pc + 3, st) else none
  | .ifCond .le off, 3, .int x :: st => if 0 ≤ (pc : Int) + off then some (if x ≤ 0 then ab_to pc off else pc + 3, st) else none
  | .if_icmp .eq off, 3, .int y :: .int x :: st => if 0 ≤ (pc : Int) + off then some (if x = y then ab_to pc off else pc + 3, st) else none
  | .if_icmp .ne off, 3, .int y :: .int x :: st => if 0 ≤ (pc : Int) + off then some (if x = y then pc + 3 else ab_to pc off, st) else none
  | .if_icmp .lt off, 3, .int y :: .int x :: st => if 0 ≤ (pc : Int) + off then some (if x < y then ab_to pc off else pc + 3, st) else none
  | .if_icmp .ge off, 3, .int y :: .int x :: st => if 0 ≤ (pc : Int) + off then some (if y ≤ x then ab_to pc off else pc + 3, st) else none
  | .if_icmp .gt off, 3, .int y :: .int x :: st => if 0 ≤ (pc : Int) + off then some (if y < x then ab_to pc off else pc + 3, st) else none
  | .if_icmp .le off, 3, .int y :: .int x :: st => if 0 ≤ (pc : Int) + off then some (if x ≤ y then ab_to pc off else pc + 3, st) else none
  | .tableswitch dflt lo hi offs, _, .int x :: st => (ab_tsw dflt lo hi offs x).bind (fun off => if 0 ≤ (pc : Int) + off then some (ab_to pc off, st) else none)
  | _, _, _ => none
abbrev ab_in (j : Int32) (n : Nat) : Prop := ¬ (j < 0 ∨ n ≤ j.toNatClampNeg)
/-- the static array of powers of ten -/
def ab_pw (j : Nat) : Int32 := [1, 10, 100, 1000, 10000, 100000, 1000000, 10000000, 100000000].getD j 0
def ab_fv (σ : ab_St) (ci c k : Nat) : Value := if ab_fk ci k = 0 then .int (σ.1 c k) else if ab_fk ci k = 1 then .long (σ.2 c k) else .ref (ab_r c k)
/-- the heap: the new stack, the new store -/
def ab_H (d M : Nat) (i : Instr) (len : Nat) (st : List Value) (σ : ab_St) : Option (List Value × ab_St) := match i, len, st with
  | .getfield idx, 3, .ref c :: st => (ab_fl (ab_O M) idx).bind (fun q => if ab_k c = q.1 then some (ab_fv σ q.1 c q.2 :: st, σ) else none)
  | .putfield idx, 3, .int x :: .ref c :: st => (ab_fl (ab_O M) idx).bind (fun q => if ab_fk q.1 q.2 = 0 then (if ab_k c = q.1 then some (st, ab_wI σ c (upd (σ.1 c) q.2 x)) else none) else none)
  | .putfield idx, 3, .long x :: .ref c :: st => (ab_fl (ab_O M) idx).bind (fun q => if ab_fk q.1 q.2 = 1 then (if ab_k c = q.1 then some (st, ab_wL σ c (vp_updL (σ.2 c) q.2 x)) else none) else none)
  | .getstatic idx, 3, st => (ab_gs (ab_O M) idx).map (fun _ => (.null :: st, σ))
  | .iaload, 1, .int j :: .null :: st => if ab_in j 9 then some (.int (ab_pw j.toNatClampNeg) :: st, σ) else none
  | .iaload, 1, .int j :: .ref c :: st => if ab_k c = 100 ∧ ab_in j (ab_n c) then some (.int (σ.1 c j.toNatClampNeg) :: st, σ) else none
  | .baload, 1, .int j :: .ref c :: st => if (ab_k c = 101 ∨ ab_k c = 102) ∧ ab_in j (ab_n c) then some (.int (σ.1 c j.toNatClampNeg) :: st, σ) else none
  | .laload, 1, .int j :: .ref c :: st => if ab_k c = 103 ∧ ab_in j (ab_n c) then some (.long (σ.2 c j.toNatClampNeg) :: st, σ) else none
  | .aaload, 1, .int j :: .ref c :: st => if ab_k c = 104 ∧ ab_in j (ab_n c) then some (.ref (ab_r c j.toNatClampNeg) :: st, σ) else none
  | .iastore, 1, .int x :: .int j :: .ref c :: st => if ab_k c = 100 ∧ ab_in j (ab_n c) then some (st, ab_wI σ c (upd (σ.1 c) j.toNatClampNeg x)) else none
  | .bastore, 1, .int x :: .int j :: .ref c :: st => if ab_k c = 101 ∧ ab_in j (ab_n c) then some (st, ab_wI σ c (upd (σ.1 c) j.toNatClampNeg (vp_nar .byte x))) else if ab_k c = 102 ∧ ab_in j (ab_n c) then some (st, ab_wI σ c (upd (σ.1 c) j.toNatClampNeg (vp_nar .boolean x))) else none
  | .lastore, 1, .long x :: .int j :: .ref c :: st => if ab_k c = 103 ∧ ab_in j (ab_n c) then some (st, ab_wL σ c (vp_updL (σ.2 c) j.toNatClampNeg x)) else none
  | .arraylength, 1, .ref c :: st => if 100 ≤ ab_k c ∧ ab_k c ≤ 103 then some (.int (Int32.ofNat (ab_n c)) :: st, σ) else none
  | .invokestatic idx, 3, .int n :: .int dp :: .ref c :: .int sp :: .ref c0 :: st =>
    if ab_ac (ab_O M) idx = true then (if 0 < d ∧ (ab_k c0 = 100 ∧ ab_k c = 100) ∧ (¬ sp < 0 ∧ ¬ dp < 0 ∧ ¬ n < 0) ∧ sp.toNatClampNeg + n.toNatClampNeg ≤ ab_n c0 ∧ dp.toNatClampNeg + n.toNatClampNeg ≤ ab_n c ∧ (st.map fun v => v.category).sum ≤ 8
      then some (st, ab_wI σ c (va_cpy (σ.1 c0) (σ.1 c) sp.toNatClampNeg dp.toNatClampNeg n.toNatClampNeg)) else none) else none
  | _, _, _ => none
/-- the end of a method -/
def ab_E (M : Nat) (i : Instr) (len : Nat) (st : List Value) : Option (Option Value) := match i, len, st with
  | .ireturn, 1, [.int x] => if ab_R M = some .int then some (some (.int x)) else if ab_R M = some .boolean then (if x = 0 ∨ x = 1 then some (some (.int x)) else none) else none
  | .lreturn, 1, [.long x] => if ab_R M = some .long then some (some (.long x)) else none
  | .return_, 1, [] => if ab_R M = none then some none else none
  | _, _, _ => none
def ab_sl : List Value → ab_Lo
  | [] => []
  | v :: vs => if v.category = 2 then some v :: none :: ab_sl vs else some v :: ab_sl vs
def ab_ent (n : Nat) (as : List Value) : ab_Lo := ab_sl as ++ List.replicate (n - (ab_sl as).length) none
def ab_recvB (y : Nat) (as : List Value) : Bool := match as with
  | .ref b :: _ => ab_k b == ab_O y
  | _ => false
/-- a call: the callee, its arguments, the rest of the stack -/
def ab_K (M : Nat) (i : Instr) (len : Nat) (st : List Value) : Option (Nat × List Value × List Value) := match i, len with
  | .invokestatic idx, 3 => (ab_ml (ab_O M) idx).bind (fun q => if (q.2.2 = 0 ∨ q.2.2 = 2) ∧ q.2.1 ≤ st.length ∧ ((st.drop q.2.1).map fun v => v.category).sum ≤ 8 ∧ (ab_sl (st.take q.2.1).reverse).length ≤ ab_L q.1 then some (q.1, (st.take q.2.1).reverse, st.drop q.2.1) else none)
  | .invokevirtual idx, 3 => (ab_ml (ab_O M) idx).bind (fun q => if q.2.2 = 1 ∧ q.2.1 + 1 ≤ st.length ∧ ((st.drop (q.2.1 + 1)).map fun v => v.category).sum ≤ 8 ∧ (ab_sl (st.take (q.2.1 + 1)).reverse).length ≤ ab_L q.1 ∧ ab_recvB q.1 (st.take (q.2.1 + 1)).reverse = true then some (q.1, (st.take (q.2.1 + 1)).reverse, st.drop (q.2.1 + 1)) else none)
  | _, _ => none
def ab_run : Nat → Nat → Nat → Nat → ab_Lo → List Value → ab_St → Option (Option Value × ab_St)
  | 0, _, _, _, _, _, _ => none
  | n + 1, d, M, pc, ls, st, σ => match decode (ab_C M) pc with
    | .error _ => none
    | .ok (i, len) => match ab_A1 M i len ls st with
      | some st' => ab_run n d M (pc + len) ls st' σ
      | none => match ab_A2 i len st with
        | some st' => ab_run n d M (pc + len) ls st' σ
        | none => match ab_X d M i len st with
         | some st' => ab_run n d M (pc + len) ls st' σ
         | none => match ab_S i len ls st with
          | some q => ab_run n d M (pc + len) q.1 q.2 σ
          | none => match ab_J i len pc st with
            | some q => ab_run n d M q.1 ls q.2 σ
            | none => match ab_H d M i len st σ with
              | some q => ab_run n d M (pc + len) ls q.1 q.2
              | none => match ab_E M i len st with
                | some r => some (r, σ)
                | none => match ab_K M i len st, d with
                  | some q, d' + 1 => match ab_run n d' q.1 0 (ab_ent (ab_L q.1) q.2.1) [] σ with
                    | some w => ab_run n (d' + 1) M (pc + 3) ls (w.1.toList ++ q.2.2) w.2
                    | none => none
                  | _, _ => none
end
section
/-! WHAT THE TABLES SAY OF THE SMALL MACHINE'S TABLES, by program -/
def ab_gt : List Cond := lw_tbl.filter goodWord
def ab_ws (M : Nat) : List Cond := .code (ab_N M) (ab_C M) (ab_L M) (ab_R M) :: ab_gt
theorem ab_gt_in {w : Cond} (h : w ∈ lw_tbl) (hg : goodWord w = true) : w ∈ ab_gt := List.mem_filter.mpr ⟨h, hg⟩
theorem ab_gt_good : GoodIn ab_gt ab_gt := fun w hw => ⟨hw, good_of_word (List.mem_filter.mp hw).2⟩
theorem ab_cls_ok : ∀ q ∈ ab_classes, (∀ w ∈ u_ws q.1 q.2.1 q.2.2, w ∈ lw_tbl) ∧ (∀ w ∈ u_ws q.1 q.2.1 q.2.2, goodWord w = true) ∧ (∀ a, a < q.2.2 → ∀ b, b < q.2.2 → a ≠ b → (q.2.1 a).2.1 ≠ (q.2.1 b).2.1) ∧ (∀ k, k < q.2.2 → (parseFieldDescriptor (q.2.1 k).2.2.1).isSome = true) := by decide +kernel
/-- a class' words, and its fields -/
theorem ab_cls {ci : Nat} {C : String} {T : u_T} {N : Nat} (h : ab_classes[ci]? = some (C, T, N)) : (∀ w ∈ u_ws C T N, w ∈ ab_gt) ∧ (∀ a, a < N → ∀ b, b < N → a ≠ b → (T a).2.1 ≠ (T b).2.1) ∧ ∃ ty0 : Nat → FieldType, ∀ k, k < N → parseFieldDescriptor (T k).2.2.1 = some (ty0 k) := by
  obtain ⟨h1, h2, h3, h4⟩ := ab_cls_ok _ (List.mem_of_getElem? h)
  refine ⟨fun w hw => ab_gt_in (h1 w hw) (h2 w hw), h3, fun k => (parseFieldDescriptor (T k).2.2.1).getD .int, fun k hk => ?_⟩
  obtain ⟨t, ht⟩ := Option.isSome_iff_exists.mp (h4 k hk)
  show parseFieldDescriptor (T k).2.2.1 = some ((parseFieldDescriptor (T k).2.2.1).getD .int)
  have ht : parseFieldDescriptor (T k).2.2.1 = some t := ht
  rw [ht]
  rfl
def ab_fl1 (q : Nat × Nat × Nat × Nat) : Bool := match ab_classes[q.2.2.1]? with
  | some c => decide (q.2.2.2 < c.2.2) && decide (Cond.fieldLink (ab_cn q.1) q.2.1 c.1 (c.2.1 q.2.2.2).2.1 (c.2.1 q.2.2.2).2.2.1 ∈ lw_tbl) && decide (q.2.2.1 < 100) && decide (c.2.2 = (ab_fkT.getD q.2.2.1 []).length) && decide ((c.2.1 q.2.2.2).1 = c.1) &&
    (match ab_fk q.2.2.1 q.2.2.2 with
      | 0 => decide ((c.2.1 q.2.2.2).2.2.1 = "I") && decide ((c.2.1 q.2.2.2).2.2.2 = false)
      | 1 => decide ((c.2.1 q.2.2.2).2.2.1 = "J") && decide ((c.2.1 q.2.2.2).2.2.2 = false)
      | _ => true)
  | none => false
theorem ab_fl_ok : ab_flT.all ab_fl1 = true := by decide +kernel
theorem ab_ci_ok : ab_ciT.all (fun q => decide (Cond.constant (ab_cn q.1) q.2.1 q.2.2 ∈ lw_tbl)) = true := by decide +kernel
theorem ab_cl_ok : ab_clT.all (fun q => decide (Cond.constantLong (ab_cn q.1) q.2.1 q.2.2 ∈ lw_tbl)) = true := by decide +kernel
theorem ab_find {α : Type} {L : List α} {p : α → Bool} {x : α} (h : L.find? p = some x) : x ∈ L ∧ p x = true := ⟨List.mem_of_find?_eq_some h, List.find?_some h⟩
theorem ab_ci_in {own idx : Nat} {v : Int32} (h : ab_ci own idx = some v) : Cond.constant (ab_cn own) idx v ∈ ab_gt := by
  unfold ab_ci at h
  obtain ⟨q, hq, rfl⟩ := Option.map_eq_some_iff.mp h
  obtain ⟨h1, h2⟩ := ab_find hq
  simp only [Bool.and_eq_true, beq_iff_eq] at h2
  have h3 := List.all_eq_true.mp ab_ci_ok q h1
  rw [← h2.1, ← h2.2]
  exact ab_gt_in (of_decide_eq_true h3) rfl
theorem ab_cl_in {own idx : Nat} {v : Int64} (h : ab_cl own idx = some v) : Cond.constantLong (ab_cn own) idx v ∈ ab_gt := by
  unfold ab_cl at h
  obtain ⟨q, hq, rfl⟩ := Option.map_eq_some_iff.mp h
  obtain ⟨h1, h2⟩ := ab_find hq
  simp only [Bool.and_eq_true, beq_iff_eq] at h2
  have h3 := List.all_eq_true.mp ab_cl_ok q h1
  rw [← h2.1, ← h2.2]
  exact ab_gt_in (of_decide_eq_true h3) rfl
def ab_nF (ci : Nat) : Nat := (ab_fkT.getD ci []).length
theorem ab_fl_in {own idx : Nat} {q : Nat × Nat} (h : ab_fl own idx = some q) : ∃ C T, ab_classes[q.1]? = some (C, T, ab_nF q.1) ∧ q.2 < ab_nF q.1 ∧ q.1 < 100 ∧ Cond.fieldLink (ab_cn own) idx C (T q.2).2.1 (T q.2).2.2.1 ∈ ab_gt ∧ (T q.2).1 = C ∧ (ab_fk q.1 q.2 = 0 → (T q.2).2.2.1 = "I" ∧ (T q.2).2.2.2 = false) ∧ (ab_fk q.1 q.2 = 1 → (T q.2).2.2.1 = "J" ∧ (T q.2).2.2.2 = false) := by
  unfold ab_fl at h
  obtain ⟨r, hr, rfl⟩ := Option.map_eq_some_iff.mp h
  obtain ⟨h1, h2⟩ := ab_find hr
  simp only [Bool.and_eq_true, beq_iff_eq] at h2
  have h3 := List.all_eq_true.mp ab_fl_ok r h1
  obtain ⟨o, x, ci, k⟩ := r
  simp only at h2
  obtain ⟨rfl, rfl⟩ := h2
  unfold ab_fl1 at h3
  simp only at h3
  cases hc : ab_classes[ci]? with
  | none => rw [hc] at h3; cases h3
  | some c =>
    rw [hc] at h3
    obtain ⟨C, T, N⟩ := c
    simp only [Bool.and_eq_true, decide_eq_true_eq] at h3
    obtain ⟨⟨⟨⟨⟨h4, h5⟩, h6⟩, h7⟩, h8⟩, h9⟩ := h3
    have h7 : N = ab_nF ci := h7
    subst h7
    refine ⟨C, T, rfl, h4, h6, ab_gt_in h5 rfl, h8, fun e => ?_, fun e => ?_⟩
    · simp only [e, Bool.and_eq_true, decide_eq_true_eq] at h9
      exact h9
    · simp only [e, Bool.and_eq_true, decide_eq_true_eq] at h9
      exact h9
/-- of each method: its class' name, its words -/
theorem ab_mt_ok : ab_mt.all (fun q => ((q.1.cls == "java/lang/Object") || (q.1.cls == "java/lang/Math")) || (decide (ab_cn q.2.2.2.2 = q.1.cls) && decide (q.2.2.1 ≤ 13) && decide (q.1.cls ≠ "java/lang/invoke/MethodHandle" ∧ q.1.cls ≠ "java/lang/invoke/VarHandle") && plainName q.1.cls)) = true := by decide +kernel
theorem ab_mt_1 : ∀ M : Nat, M < 149 → M ≠ 1 → (((ab_N M).cls == "java/lang/Object") || ((ab_N M).cls == "java/lang/Math")) = true → M = 56 ∨ M = 90 := by decide +kernel
set_option maxRecDepth 100000 in
theorem ab_mt_code : ab_mt.map (fun q => Cond.code q.1 q.2.1 q.2.2.1 q.2.2.2.1) = lw_tbl.filter k2_isCode := by rfl
theorem ab_code_in {M : Nat} (h : M < 149) : Cond.code (ab_N M) (ab_C M) (ab_L M) (ab_R M) ∈ ab_gt := by
  have h0 : M < ab_mt.length := h
  have h1 : ab_mt[M]? = some (ab_m M) := by
    unfold ab_m
    rw [List.getD_eq_getElem?_getD, List.getElem?_eq_getElem h0]
    rfl
  have h2 : Cond.code (ab_N M) (ab_C M) (ab_L M) (ab_R M) ∈ ab_mt.map (fun q => Cond.code q.1 q.2.1 q.2.2.1 q.2.2.2.1) := List.mem_map.mpr ⟨ab_m M, List.mem_of_getElem? h1, rfl⟩
  rw [ab_mt_code] at h2
  exact ab_gt_in (List.mem_filter.mp h2).1 rfl
theorem ab_m_in {M : Nat} (h : M < 149) (hne : M ≠ 1 ∧ M ≠ 56 ∧ M ≠ 90) : ab_cn (ab_O M) = (ab_N M).cls ∧ ab_L M ≤ 13 ∧ ((ab_N M).cls ≠ "java/lang/invoke/MethodHandle" ∧ (ab_N M).cls ≠ "java/lang/invoke/VarHandle") ∧ plainName (ab_N M).cls = true := by
  have h0 : M < ab_mt.length := h
  have h1 : ab_mt[M]? = some (ab_m M) := by
    unfold ab_m
    rw [List.getD_eq_getElem?_getD, List.getElem?_eq_getElem h0]
    rfl
  have h2 := List.all_eq_true.mp ab_mt_ok _ (List.mem_of_getElem? h1)
  have h4 : (((ab_m M).1.cls == "java/lang/Object") || ((ab_m M).1.cls == "java/lang/Math")) = false := by
    cases hc : (((ab_m M).1.cls == "java/lang/Object") || ((ab_m M).1.cls == "java/lang/Math")) with
    | false => rfl
    | true => rcases ab_mt_1 M h hne.1 hc with q | q
              · exact absurd q hne.2.1
              · exact absurd q hne.2.2
  rw [h4, Bool.false_or] at h2
  simp only [Bool.and_eq_true, decide_eq_true_eq] at h2
  exact ⟨h2.1.1.1, h2.1.1.2, h2.1.2, h2.2⟩
/-- of each call: the words, by their places in the tables -/
def ab_ml1 (r : (Nat × Nat × Nat × Nat × Nat) × Nat × Nat × Nat × Nat) : Bool := decide (r.1.2.2.1 < 149 ∧ r.1.2.2.1 ≠ 1 ∧ r.1.2.2.1 ≠ 56 ∧ r.1.2.2.1 ≠ 90) && decide ((parseMethodDescriptor (ab_N r.1.2.2.1).desc).map (fun d => d.parameters.length) = some r.1.2.2.2.1) && decide (lw_tbl[r.2.1]? = some (Cond.initialized (ab_N r.1.2.2.1).cls)) &&
  (match r.1.2.2.2.2 with
    | 0 => decide (lw_tbl[r.2.2.1]? = some (Cond.methodLink (ab_cn r.1.1) r.1.2.1 (ab_N r.1.2.2.1))) && decide (lw_tbl[r.2.2.2.1]? = some (Cond.static (ab_N r.1.2.2.1)))
    | 1 => decide (lw_tbl[r.2.2.1]? = some (Cond.methodLink (ab_cn r.1.1) r.1.2.1 (ab_N r.1.2.2.1))) && decide (lw_tbl[r.2.2.2.1]? = some (Cond.instanceMethod (ab_N r.1.2.2.1))) && decide (lw_tbl[r.2.2.2.2]? = some (Cond.selects (ab_N r.1.2.2.1).cls (ab_N r.1.2.2.1) (ab_N r.1.2.2.1))) && decide ((ab_classes[ab_O r.1.2.2.1]?).map (fun c => (c.1, c.2.2)) = some ((ab_N r.1.2.2.1).cls, ab_nF (ab_O r.1.2.2.1))) && decide (ab_O r.1.2.2.1 < 100)
    | _ => decide (Cond.methodLinkNest (ab_cn r.1.1) r.1.2.1 (ab_N r.1.2.2.1) "SaidLeast" ∈ ab_nest) && decide (lw_tbl[r.2.2.2.1]? = some (Cond.static (ab_N r.1.2.2.1))))
def ab_mlP0 : List ((Nat × Nat × Nat × Nat × Nat) × Nat × Nat × Nat × Nat) := [((0, 76, 12, 2, 1), 52, 356, 357, 358), ((0, 80, 15, 1, 1), 53, 368, 369, 370), ((0, 85, 34, 1, 1), 54, 442, 443, 444), ((0, 92, 35, 1, 1), 55, 449, 450, 451), ((0, 95, 36, 0, 1), 56, 454, 455, 456), ((0, 113, 38, 0, 1), 55, 462, 463, 464), ((0, 120, 39, 1, 1), 54, 468, 469, 470), ((0, 127, 40, 0, 1), 55, 473, 474, 475), ((0, 133, 26, 1, 1), 54, 481, 412, 413), ((0, 141, 32, 2, 0), 51, 482, 436, 0), ((0, 145, 42, 1, 1), 54, 483, 484, 485), ((0, 148, 31, 1, 1), 54, 491, 432, 433), ((0, 161, 46, 2, 1), 55, 500, 501, 502), ((0, 165, 48, 2, 1), 56, 509, 510, 511), ((0, 169, 49, 2, 1), 55, 513, 514, 515), ((0, 173, 52, 0, 1), 55, 525, 526, 527), ((0, 176, 53, 0, 1), 55, 551, 530, 531), ((0, 179, 59, 1, 1), 56, 556, 557, 558), ((0, 185, 62, 3, 1), 57, 570, 571, 572), ((0, 189, 71, 4, 1), 57, 610, 611, 612), ((0, 193, 76, 3, 1), 57, 630, 631, 632), ((0, 196, 78, 1, 1), 55, 638, 639, 640), ((0, 199, 80, 2, 1), 59, 646, 647, 648), ((0, 205, 86, 3, 1), 60, 676, 677, 678), ((0, 211, 93, 4, 1), 60, 704, 705, 706), ((7, 16, 35, 1, 1), 55, 590, 450, 451), ((7, 29, 32, 2, 2), 51, 0, 436, 0), ((7, 43, 38, 0, 1), 55, 592, 463, 464)]
theorem ab_mlP0_ok : ∀ q ∈ ab_mlP0, ab_ml1 q = true := by decide +kernel
def ab_mlP1 : List ((Nat × Nat × Nat × Nat × Nat) × Nat × Nat × Nat × Nat) := [((8, 25, 81, 2, 1), 59, 650, 652, 21), ((8, 40, 83, 2, 1), 59, 661, 663, 23), ((8, 44, 17, 2, 0), 62, 654, 377, 0), ((8, 50, 66, 3, 1), 58, 655, 587, 588), ((8, 54, 82, 2, 1), 59, 656, 658, 22), ((8, 58, 32, 2, 2), 51, 0, 436, 0), ((8, 65, 84, 4, 1), 59, 665, 667, 24), ((8, 69, 42, 1, 1), 54, 669, 484, 485), ((8, 73, 39, 1, 1), 54, 670, 469, 470), ((9, 30, 87, 1, 2), 51, 0, 681, 0), ((9, 38, 88, 4, 1), 60, 683, 685, 25), ((9, 42, 89, 2, 0), 62, 687, 688, 0), ((9, 48, 32, 2, 2), 51, 0, 436, 0), ((9, 61, 91, 3, 1), 60, 695, 697, 26), ((9, 68, 94, 4, 1), 60, 708, 710, 27), ((9, 72, 95, 3, 0), 60, 714, 715, 0), ((9, 79, 96, 1, 1), 60, 718, 720, 28), ((9, 83, 35, 1, 1), 55, 712, 450, 451), ((9, 87, 38, 0, 1), 55, 713, 463, 464), ((6, 34, 63, 2, 1), 57, 574, 576, 14), ((6, 38, 69, 3, 1), 57, 601, 603, 17), ((6, 42, 72, 4, 1), 57, 614, 616, 18), ((6, 55, 74, 3, 1), 57, 622, 624, 20), ((6, 64, 32, 2, 2), 51, 0, 436, 0), ((6, 68, 17, 2, 0), 62, 578, 377, 0), ((6, 74, 64, 1, 0), 57, 579, 580, 0), ((6, 78, 65, 3, 1), 57, 582, 584, 15), ((6, 81, 68, 2, 1), 57, 597, 599, 16)]
theorem ab_mlP1_ok : ∀ q ∈ ab_mlP1, ab_ml1 q = true := by decide +kernel
def ab_mlP2 : List ((Nat × Nat × Nat × Nat × Nat) × Nat × Nat × Nat × Nat) := [((6, 85, 66, 3, 1), 58, 586, 587, 588), ((6, 97, 67, 3, 0), 57, 594, 595, 0), ((6, 113, 73, 2, 1), 57, 618, 620, 19), ((2, 25, 16, 0, 1), 53, 372, 374, 0), ((2, 38, 18, 1, 1), 53, 379, 381, 1), ((2, 55, 17, 2, 0), 62, 376, 377, 0), ((2, 70, 19, 1, 1), 53, 383, 385, 2), ((2, 73, 20, 1, 1), 53, 387, 389, 3), ((2, 76, 21, 0, 1), 53, 391, 393, 4), ((2, 80, 22, 1, 1), 53, 395, 397, 5), ((2, 83, 23, 1, 1), 53, 399, 401, 6), ((2, 86, 24, 1, 1), 53, 403, 405, 7), ((2, 89, 25, 1, 1), 53, 407, 409, 8), ((2, 92, 27, 1, 1), 53, 415, 417, 9), ((2, 95, 28, 1, 1), 53, 419, 421, 10), ((2, 98, 29, 1, 1), 53, 423, 425, 11), ((2, 101, 30, 1, 1), 53, 427, 429, 12), ((2, 104, 26, 1, 1), 54, 411, 412, 413), ((2, 114, 31, 1, 1), 54, 431, 432, 433), ((2, 117, 32, 2, 2), 51, 0, 436, 0), ((4, 34, 54, 1, 0), 64, 533, 534, 0), ((4, 41, 32, 2, 2), 51, 0, 436, 0), ((4, 51, 53, 0, 1), 55, 529, 530, 531), ((4, 55, 40, 0, 1), 55, 539, 474, 475), ((4, 58, 55, 0, 1), 55, 540, 542, 13), ((4, 69, 38, 0, 1), 55, 504, 463, 464), ((3, 37, 32, 2, 2), 51, 0, 436, 0), ((10, 85, 101, 3, 0), 61, 859, 860, 0)]
theorem ab_mlP2_ok : ∀ q ∈ ab_mlP2, ab_ml1 q = true := by decide +kernel
def ab_mlP3 : List ((Nat × Nat × Nat × Nat × Nat) × Nat × Nat × Nat × Nat) := [((10, 100, 105, 2, 1), 61, 874, 876, 30), ((10, 113, 109, 1, 1), 61, 890, 892, 34), ((10, 117, 107, 1, 1), 61, 882, 884, 32), ((10, 121, 108, 0, 1), 61, 886, 888, 33), ((10, 128, 106, 0, 1), 61, 878, 880, 31), ((10, 131, 104, 0, 1), 61, 870, 872, 29), ((10, 154, 113, 2, 0), 61, 906, 907, 0), ((10, 158, 112, 0, 1), 61, 902, 904, 35), ((10, 161, 114, 0, 1), 61, 909, 911, 36), ((10, 164, 115, 2, 1), 61, 914, 916, 37), ((10, 167, 117, 1, 1), 61, 922, 924, 38), ((10, 170, 119, 1, 1), 61, 930, 932, 39), ((10, 175, 122, 1, 1), 61, 943, 945, 40), ((10, 178, 125, 2, 1), 61, 955, 957, 42), ((10, 182, 124, 0, 1), 61, 951, 953, 41), ((10, 187, 129, 1, 0), 61, 972, 973, 0), ((10, 191, 131, 2, 1), 61, 979, 981, 43), ((10, 194, 133, 1, 1), 61, 987, 989, 44), ((10, 201, 136, 1, 1), 61, 1000, 1002, 46), ((10, 206, 135, 2, 1), 61, 996, 998, 45), ((10, 209, 141, 1, 1), 61, 1020, 1022, 47), ((10, 216, 143, 3, 1), 61, 1030, 1032, 48), ((10, 226, 145, 1, 1), 61, 1041, 1043, 49), ((10, 229, 146, 2, 0), 61, 1045, 1046, 0)]
theorem ab_mlP3_ok : ∀ q ∈ ab_mlP3, ab_ml1 q = true := by decide +kernel
theorem ab_mlT_eq : ab_mlT = (ab_mlP0 ++ (ab_mlP1 ++ (ab_mlP2 ++ (ab_mlP3)))).map (fun r => r.1) := by rfl
theorem ab_ml_ok : ∀ q ∈ ab_mlP0 ++ (ab_mlP1 ++ (ab_mlP2 ++ (ab_mlP3))), ab_ml1 q = true := List.forall_mem_append.mpr ⟨ab_mlP0_ok, List.forall_mem_append.mpr ⟨ab_mlP1_ok, List.forall_mem_append.mpr ⟨ab_mlP2_ok, ab_mlP3_ok⟩⟩⟩
theorem ab_tbl_in {i : Nat} {w : Cond} (h : lw_tbl[i]? = some w) (hg : goodWord w = true) : w ∈ ab_gt := ab_gt_in (List.mem_of_getElem? h) hg
/-- what holds of a call -/
def ab_mlQ (own idx y na kd : Nat) : Prop := y < 149 ∧ (y ≠ 1 ∧ y ≠ 56 ∧ y ≠ 90) ∧ (parseMethodDescriptor (ab_N y).desc).map (fun d => d.parameters.length) = some na ∧ Cond.initialized (ab_N y).cls ∈ ab_gt ∧
  (kd = 0 → Cond.methodLink (ab_cn own) idx (ab_N y) ∈ ab_gt ∧ Cond.static (ab_N y) ∈ ab_gt) ∧
  (kd = 1 → Cond.methodLink (ab_cn own) idx (ab_N y) ∈ ab_gt ∧ Cond.instanceMethod (ab_N y) ∈ ab_gt ∧ Cond.selects (ab_N y).cls (ab_N y) (ab_N y) ∈ ab_gt ∧ (∃ T, ab_classes[ab_O y]? = some ((ab_N y).cls, T, ab_nF (ab_O y))) ∧ ab_O y < 100) ∧
  (kd = 2 → Cond.methodLinkNest (ab_cn own) idx (ab_N y) "SaidLeast" ∈ ab_nest ∧ Cond.static (ab_N y) ∈ ab_gt)
theorem ab_ml_in {own idx : Nat} {q : Nat × Nat × Nat} (h : ab_ml own idx = some q) : ab_mlQ own idx q.1 q.2.1 q.2.2 := by
  unfold ab_ml at h
  obtain ⟨r, hr, rfl⟩ := Option.map_eq_some_iff.mp h
  obtain ⟨h1, h2⟩ := ab_find hr
  simp only [Bool.and_eq_true, beq_iff_eq] at h2
  rw [ab_mlT_eq] at h1
  obtain ⟨⟨⟨o, x, y, na, kd⟩, p1, p2, p3, p4⟩, h3, rfl⟩ := List.mem_map.mp h1
  have h4 := ab_ml_ok _ h3
  simp only at h2
  obtain ⟨rfl, rfl⟩ := h2
  unfold ab_ml1 at h4
  simp only [Bool.and_eq_true, decide_eq_true_eq] at h4
  obtain ⟨⟨⟨⟨a1, a2⟩, a3⟩, a4⟩, a5⟩ := h4
  refine ⟨a1, a2, a3, ab_tbl_in a4 rfl, fun e => ?_, fun e => ?_, fun e => ?_⟩
  · simp only at e
    subst e
    simp only [Bool.and_eq_true, decide_eq_true_eq] at a5
    exact ⟨ab_tbl_in a5.1 rfl, ab_tbl_in a5.2 rfl⟩
  · simp only at e
    subst e
    simp only [Bool.and_eq_true, decide_eq_true_eq] at a5
    obtain ⟨⟨⟨⟨b1, b2⟩, b3⟩, b4⟩, b5⟩ := a5
    refine ⟨ab_tbl_in b1 rfl, ab_tbl_in b2 rfl, ab_tbl_in b3 rfl, ?_, b5⟩
    obtain ⟨c, hc, he⟩ := Option.map_eq_some_iff.mp b4
    obtain ⟨C, T, N⟩ := c
    simp only [Prod.mk.injEq] at he
    obtain ⟨rfl, rfl⟩ := he
    exact ⟨T, hc⟩
  · simp only at e
    subst e
    simp only [Bool.and_eq_true, decide_eq_true_eq] at a5
    exact ⟨a5.1, ab_tbl_in a5.2 rfl⟩
theorem ab_ac_ok : ab_acT.all (fun q => decide (Cond.methodLink (ab_cn q.1) q.2 arraycopyName ∈ lw_tbl)) = true := by decide +kernel
theorem ab_ac_in {own idx : Nat} (h : ab_ac own idx = true) : Cond.methodLink (ab_cn own) idx arraycopyName ∈ ab_gt := by
  unfold ab_ac at h
  obtain ⟨q, h1, h2⟩ := List.any_eq_true.mp h
  simp only [Bool.and_eq_true, beq_iff_eq] at h2
  have h3 := List.all_eq_true.mp ab_ac_ok q h1
  rw [← h2.1, ← h2.2]
  exact ab_gt_in (of_decide_eq_true h3) rfl
theorem ab_ac_n : Cond.native arraycopyName ∈ ab_gt := ab_gt_in (by decide +kernel) rfl
theorem ab_ac_s : Cond.static arraycopyName ∈ ab_gt := ab_gt_in (by decide +kernel) rfl
theorem ab_ac_i : Cond.initialized "java/lang/System" ∈ ab_gt := ab_gt_in (by decide +kernel) rfl
theorem ab_gs_ok : ab_gsT.all (fun q => match q.2.2 with
  | 0 => decide (Cond.fieldLink (ab_cn q.1) q.2.1 "SaidLeast" "POWERS_OF_TEN" "[I" ∈ lw_tbl)
  | _ => decide (Cond.fieldLinkNest (ab_cn q.1) q.2.1 "SaidLeast" "POWERS_OF_TEN" "[I" "SaidLeast" ∈ ab_nest)) = true := by decide +kernel
theorem ab_mm_ok : ab_mmT.all (fun q => match q.2.2 with
  | 0 => decide (Cond.methodLink (ab_cn q.1) q.2.1 Lib.Math.max.name ∈ lw_tbl)
  | _ => decide (Cond.methodLink (ab_cn q.1) q.2.1 Lib.Math.min.name ∈ lw_tbl)) = true := by decide +kernel
theorem ab_mm_in {own idx k : Nat} (h : ab_mm own idx = some k) : (k = 0 ∧ Cond.methodLink (ab_cn own) idx Lib.Math.max.name ∈ ab_gt) ∨ (k ≠ 0 ∧ Cond.methodLink (ab_cn own) idx Lib.Math.min.name ∈ ab_gt) := by
  unfold ab_mm at h
  obtain ⟨q, hq, rfl⟩ := Option.map_eq_some_iff.mp h
  obtain ⟨h1, h2⟩ := ab_find hq
  simp only [Bool.and_eq_true, beq_iff_eq] at h2
  have h3 := List.all_eq_true.mp ab_mm_ok q h1
  obtain ⟨o, x, k⟩ := q
  simp only at h2 h3 ⊢
  obtain ⟨rfl, rfl⟩ := h2
  cases k with
  | zero => exact Or.inl ⟨rfl, ab_gt_in (of_decide_eq_true h3) rfl⟩
  | succ k => exact Or.inr ⟨Nat.succ_ne_zero k, ab_gt_in (of_decide_eq_true h3) rfl⟩
theorem ab_mm_w : (Cond.static Lib.Math.max.name ∈ ab_gt ∧ Cond.static Lib.Math.min.name ∈ ab_gt ∧ Cond.initialized "java/lang/Math" ∈ ab_gt) := ⟨ab_gt_in (by decide +kernel) rfl, ab_gt_in (by decide +kernel) rfl, ab_gt_in (by decide +kernel) rfl⟩
theorem ab_mm_c : Cond.code Lib.Math.max.name Lib.Math.max.code 2 (some .int) ∈ ab_gt ∧ Cond.code Lib.Math.min.name Lib.Math.min.code 2 (some .int) ∈ ab_gt := by
  have h1 := ab_code_in (M := 56) (by decide)
  have h2 := ab_code_in (M := 90) (by decide)
  exact ⟨h1, h2⟩
theorem ab_nest_in : ∀ w ∈ ab_nest, w ∈ lw_tbl := by decide +kernel
theorem ab_gs_in {own idx k : Nat} (h : ab_gs own idx = some k) : (k = 0 ∧ Cond.fieldLink (ab_cn own) idx "SaidLeast" "POWERS_OF_TEN" "[I" ∈ ab_gt) ∨ Cond.fieldLinkNest (ab_cn own) idx "SaidLeast" "POWERS_OF_TEN" "[I" "SaidLeast" ∈ ab_nest := by
  unfold ab_gs at h
  obtain ⟨q, hq, rfl⟩ := Option.map_eq_some_iff.mp h
  obtain ⟨h1, h2⟩ := ab_find hq
  simp only [Bool.and_eq_true, beq_iff_eq] at h2
  have h3 := List.all_eq_true.mp ab_gs_ok q h1
  obtain ⟨o, x, k⟩ := q
  simp only at h2 h3 ⊢
  obtain ⟨rfl, rfl⟩ := h2
  split at h3
  · exact Or.inl ⟨rfl, ab_gt_in (of_decide_eq_true h3) rfl⟩
  · exact Or.inr (of_decide_eq_true h3)
end
section
/-! THE WORLD OF THE SMALL MACHINE: its cells at any addresses -/
def ab_cv (ad : Nat → Nat) : Value → Value
  | .ref c => .ref (ad c)
  | .null => .ref (ad 1000)
  | v => v
theorem ab_cv_cat (ad : Nat → Nat) (v : Value) : (ab_cv ad v).category = v.category := by cases v <;> rfl
def ab_ce (ad : Nat → Nat) (cA : Nat → ClassId) (σ : ab_St) (c : Nat) (s : Nat × Nat × List Nat) : va_E :=
  if s.1 < 100 then .inr (s.1, (List.range (ab_nF s.1)).map (fun k => ab_cv ad (ab_fv σ s.1 c k)))
  else if s.1 = 103 then .inl (cA 103, s.2.1, .inr (.inl (σ.2 c)))
  else if s.1 = 104 then .inl (cA 104, s.2.1, .inr (.inr (.inr (.inr (fun j => some (ad (s.2.2.getD j 0)))))))
  else .inl (cA s.1, s.2.1, .inl (σ.1 c))
def ab_w (ad : Nat → Nat) (cA : Nat → ClassId) (σ : ab_St) : va_W := ab_sh.mapIdx (fun c s => (ad c, ab_ce ad cA σ c s))
def ab_tys (cA : Nat → ClassId) : List (ClassId × FieldType) := [(cA 100, .int), (cA 101, .byte), (cA 102, .boolean), (cA 103, .long), (cA 104, .object "SaidLeast$State")]
def ab_Ad (ad : Nat → Nat) : Nat → Prop := fun q => ∃ c, c < 72 ∧ q = ad c
theorem ab_s_at {c : Nat} (h : ab_k c ≠ 999) : ab_sh[c]? = some (ab_s c) := by
  unfold ab_k ab_s at h
  unfold ab_s
  rw [List.getD_eq_getElem?_getD] at h ⊢
  cases hc : ab_sh[c]? with
  | none => rw [hc] at h; exact absurd rfl h
  | some x => rfl
theorem ab_w_at (ad : Nat → Nat) (cA : Nat → ClassId) (σ : ab_St) {c : Nat} (h : ab_k c ≠ 999) : (ab_w ad cA σ)[c]? = some (ad c, ab_ce ad cA σ c (ab_s c)) := by
  unfold ab_w
  rw [List.getElem?_mapIdx, ab_s_at h]
  rfl
theorem ab_ce_congr (ad : Nat → Nat) (cA : Nat → ClassId) {σ τ : ab_St} {c : Nat} (s : Nat × Nat × List Nat) (h1 : σ.1 c = τ.1 c) (h2 : σ.2 c = τ.2 c) : ab_ce ad cA σ c s = ab_ce ad cA τ c s := by
  unfold ab_ce ab_fv
  rw [h1, h2]
theorem ab_w_set (ad : Nat → Nat) (cA : Nat → ClassId) {σ τ : ab_St} {c : Nat} (h : ab_k c ≠ 999) (h1 : ∀ j, j ≠ c → σ.1 j = τ.1 j) (h2 : ∀ j, j ≠ c → σ.2 j = τ.2 j) {x : va_E} (hx : ab_ce ad cA τ c (ab_s c) = x) : (ab_w ad cA σ).set c (ad c, x) = ab_w ad cA τ := by
  subst hx
  apply List.ext_getElem?
  intro j
  rw [List.getElem?_set]
  unfold ab_w
  rw [List.getElem?_mapIdx, List.getElem?_mapIdx]
  by_cases hj : c = j
  · subst hj
    rw [if_pos rfl, ab_s_at h]
    have : c < (List.mapIdx (fun c s => (ad c, ab_ce ad cA σ c s)) ab_sh).length := by
      rw [List.length_mapIdx]
      have := ab_s_at h
      exact (List.getElem?_eq_some_iff.mp this).1
    rw [if_pos this]
    rfl
  · rw [if_neg hj]
    cases ab_sh[j]? with
    | none => rfl
    | some s => simp only [Option.map_some]; rw [ab_ce_congr ad cA s (h1 j (fun e => hj e.symm)) (h2 j (fun e => hj e.symm))]
theorem ab_wI_set (ad : Nat → Nat) (cA : Nat → ClassId) {σ : ab_St} {c : Nat} {f : Nat → Int32} (h : ab_k c ≠ 999) {x : va_E} (hx : ab_ce ad cA (ab_wI σ c f) c (ab_s c) = x) : (ab_w ad cA σ).set c (ad c, x) = ab_w ad cA (ab_wI σ c f) :=
  ab_w_set (σ := σ) (τ := ab_wI σ c f) ad cA h (fun j hj => by show σ.1 j = if j = c then f else σ.1 j; rw [if_neg hj]) (fun j _ => rfl) hx
theorem ab_wL_set (ad : Nat → Nat) (cA : Nat → ClassId) {σ : ab_St} {c : Nat} {f : Nat → Int64} (h : ab_k c ≠ 999) {x : va_E} (hx : ab_ce ad cA (ab_wL σ c f) c (ab_s c) = x) : (ab_w ad cA σ).set c (ad c, x) = ab_w ad cA (ab_wL σ c f) :=
  ab_w_set (σ := σ) (τ := ab_wL σ c f) ad cA h (fun j _ => rfl) (fun j hj => by show σ.2 j = if j = c then f else σ.2 j; rw [if_neg hj]) hx
/-- objects and rows of each kind -/
theorem ab_at_o (ad : Nat → Nat) (cA : Nat → ClassId) (σ : ab_St) {c ci : Nat} (h : ab_k c = ci) (hi : ci < 100) : (ab_w ad cA σ)[c]? = some (ad c, .inr (ci, (List.range (ab_nF ci)).map (fun k => ab_cv ad (ab_fv σ ci c k)))) := by
  rw [ab_w_at ad cA σ (by omega)]
  unfold ab_ce
  have h : (ab_s c).1 = ci := h
  rw [h, if_pos hi]
theorem ab_at_i (ad : Nat → Nat) (cA : Nat → ClassId) (σ : ab_St) {c ci : Nat} (h : ab_k c = ci) (hi : ci = 100 ∨ ci = 101 ∨ ci = 102) : (ab_w ad cA σ)[c]? = some (ad c, .inl (cA ci, ab_n c, .inl (σ.1 c))) := by
  rw [ab_w_at ad cA σ (by omega)]
  unfold ab_ce
  have h : (ab_s c).1 = ci := h
  rw [h, if_neg (by omega), if_neg (by omega), if_neg (by omega)]
  rfl
theorem ab_at_l (ad : Nat → Nat) (cA : Nat → ClassId) (σ : ab_St) {c : Nat} (h : ab_k c = 103) : (ab_w ad cA σ)[c]? = some (ad c, .inl (cA 103, ab_n c, .inr (.inl (σ.2 c)))) := by
  rw [ab_w_at ad cA σ (by omega)]
  unfold ab_ce
  have h : (ab_s c).1 = 103 := h
  rw [h, if_neg (by omega), if_pos rfl]
  rfl
theorem ab_at_q (ad : Nat → Nat) (cA : Nat → ClassId) (σ : ab_St) {c : Nat} (h : ab_k c = 104) : (ab_w ad cA σ)[c]? = some (ad c, .inl (cA 104, ab_n c, .inr (.inr (.inr (.inr (fun j => some (ad (ab_r c j)))))))) := by
  rw [ab_w_at ad cA σ (by omega)]
  unfold ab_ce
  have h : (ab_s c).1 = 104 := h
  rw [h, if_neg (by omega), if_neg (by omega), if_pos rfl]
  rfl
theorem ab_ce_i (ad : Nat → Nat) (cA : Nat → ClassId) (σ : ab_St) {c ci : Nat} (f : Nat → Int32) (h : ab_k c = ci) (hi : ci = 100 ∨ ci = 101 ∨ ci = 102) : ab_ce ad cA (ab_wI σ c f) c (ab_s c) = .inl (cA ci, ab_n c, .inl f) := by
  unfold ab_ce
  have h : (ab_s c).1 = ci := h
  rw [h, if_neg (by omega), if_neg (by omega), if_neg (by omega)]
  simp only [ab_wI, if_pos]
  rfl
theorem ab_ce_l (ad : Nat → Nat) (cA : Nat → ClassId) (σ : ab_St) {c : Nat} (f : Nat → Int64) (h : ab_k c = 103) : ab_ce ad cA (ab_wL σ c f) c (ab_s c) = .inl (cA 103, ab_n c, .inr (.inl f)) := by
  unfold ab_ce
  have h : (ab_s c).1 = 103 := h
  rw [h, if_neg (by omega), if_pos rfl]
  simp only [ab_wL, if_pos]
  rfl
theorem ab_ce_oI (ad : Nat → Nat) (cA : Nat → ClassId) (σ : ab_St) {c ci k : Nat} (x : Int32) (h : ab_k c = ci) (hi : ci < 100) (hk : ab_fk ci k = 0) (hn : k < ab_nF ci) : ab_ce ad cA (ab_wI σ c (upd (σ.1 c) k x)) c (ab_s c) = .inr (ci, ((List.range (ab_nF ci)).map (fun k => ab_cv ad (ab_fv σ ci c k))).set k (.int x)) := by
  unfold ab_ce
  have h : (ab_s c).1 = ci := h
  rw [h, if_pos hi]
  congr 2
  apply List.ext_getElem?
  intro j
  rw [List.getElem?_set, List.getElem?_map, List.getElem?_map, List.length_map, List.length_range]
  by_cases hj : k = j
  · subst hj
    rw [if_pos rfl, if_pos hn, List.getElem?_range hn]
    simp [ab_fv, hk, ab_wI, upd, ab_cv]
  · rw [if_neg hj]
    by_cases hjn : j < ab_nF ci
    · rw [List.getElem?_range hjn]
      have hj' : ¬ j = k := fun e => hj e.symm
      simp [ab_fv, ab_wI, upd, hj']
    · simp [hjn]
theorem ab_ce_oL (ad : Nat → Nat) (cA : Nat → ClassId) (σ : ab_St) {c ci k : Nat} (x : Int64) (h : ab_k c = ci) (hi : ci < 100) (hk : ab_fk ci k = 1) (hn : k < ab_nF ci) : ab_ce ad cA (ab_wL σ c (vp_updL (σ.2 c) k x)) c (ab_s c) = .inr (ci, ((List.range (ab_nF ci)).map (fun k => ab_cv ad (ab_fv σ ci c k))).set k (.long x)) := by
  unfold ab_ce
  have h : (ab_s c).1 = ci := h
  rw [h, if_pos hi]
  congr 2
  apply List.ext_getElem?
  intro j
  rw [List.getElem?_set, List.getElem?_map, List.getElem?_map, List.length_map, List.length_range]
  by_cases hj : k = j
  · subst hj
    rw [if_pos rfl, if_pos hn, List.getElem?_range hn]
    simp [ab_fv, hk, ab_wL, vp_updL, ab_cv]
  · rw [if_neg hj]
    by_cases hjn : j < ab_nF ci
    · rw [List.getElem?_range hjn]
      have hj' : ¬ j = k := fun e => hj e.symm
      simp [ab_fv, ab_wL, vp_updL, hj']
    · simp [hjn]
/-- the locals -/
def ab_lo (ad : Nat → Nat) (ls : ab_Lo) : List (Nat × Value) := (List.range ls.length).filterMap (fun i => match ls[i]? with
  | some (some v) => if v.category = 2 ∧ ls[i + 1]? ≠ some none then none else some (i, ab_cv ad v)
  | _ => none)
theorem ab_lo_mem {ad : Nat → Nat} {ls : ab_Lo} {q : Nat × Value} : q ∈ ab_lo ad ls ↔ ∃ v, ls[q.1]? = some (some v) ∧ (v.category = 2 → ls[q.1 + 1]? = some none) ∧ q.2 = ab_cv ad v := by
  unfold ab_lo
  rw [List.mem_filterMap]
  constructor
  · rintro ⟨i, hi, h⟩
    split at h
    next v hv =>
      by_cases hc : v.category = 2 ∧ ls[i + 1]? ≠ some none
      · rw [if_pos hc] at h; cases h
      · rw [if_neg hc] at h
        cases h
        refine ⟨v, hv, fun h2 => ?_, rfl⟩
        exact Classical.byContradiction fun h3 => hc ⟨h2, h3⟩
    next => cases h
  · rintro ⟨v, hv, h2, h3⟩
    refine ⟨q.1, List.mem_range.mpr ?_, ?_⟩
    · exact (List.getElem?_eq_some_iff.mp hv).1
    · rw [hv]
      simp only
      rw [if_neg (fun h => h.2 (h2 h.1)), ← h3]
theorem ab_has_mono {ls : Array Slot} {nL : Nat} {l l' : List (Nat × Value)} (h : lv_has ls nL l) (hl : ∀ q ∈ l', q ∈ l) : lv_has ls nL l' := ⟨h.1, h.2.1, fun q hq => h.2.2 q (hl q hq)⟩
theorem ab_has_I {ad : Nat → Nat} {la : Array Slot} {nL : Nat} {ls : ab_Lo} {i : Nat} {x : Int32} (h : lv_has la nL (ab_lo ad ls)) (hx : ab_ldI ls i = some x) : la[i]? = some (.val (.int x)) := by
  unfold ab_ldI at hx
  split at hx
  next y hy => cases hx; exact h.2.2 (i, .int x) (ab_lo_mem.mpr ⟨.int x, hy, (fun e => by cases e), rfl⟩)
  next => cases hx
theorem ab_has_R {ad : Nat → Nat} {la : Array Slot} {nL : Nat} {ls : ab_Lo} {i : Nat} {x : Nat} (h : lv_has la nL (ab_lo ad ls)) (hx : ab_ldR ls i = some x) : la[i]? = some (.val (.ref (ad x))) := by
  unfold ab_ldR at hx
  split at hx
  next y hy => cases hx; exact h.2.2 (i, .ref (ad x)) (ab_lo_mem.mpr ⟨.ref x, hy, (fun e => by cases e), rfl⟩)
  next => cases hx
theorem ab_has_L {ad : Nat → Nat} {la : Array Slot} {nL : Nat} {ls : ab_Lo} {i : Nat} {x : Int64} (h : lv_has la nL (ab_lo ad ls)) (hx : ab_ldL ls i = some x) : la[i]? = some (.val (.long x)) := by
  unfold ab_ldL at hx
  split at hx
  next y hy hy2 => cases hx; exact h.2.2 (i, .long x) (ab_lo_mem.mpr ⟨.long x, hy, fun _ => hy2, rfl⟩)
  next => cases hx
theorem ab_st1 {ad : Nat → Nat} {ls : ab_Lo} {i : Nat} {x : Int32} : ∀ q ∈ ab_lo ad (ls.set i (some (.int x))), q ∈ (i, Value.int x) :: (ab_lo ad ls).filter (fun q => !(q.1 == i) && !(q.1 + 1 == i && q.2.category == 2)) := by
  intro q hq
  obtain ⟨v, h1, h2, h3⟩ := ab_lo_mem.mp hq
  rw [List.getElem?_set] at h1 h2
  by_cases hi : i = q.1
  · rw [if_pos hi] at h1
    split at h1
    · cases h1
      refine List.mem_cons.mpr (Or.inl ?_)
      obtain ⟨a, b⟩ := q
      simp only at hi h3 ⊢
      rw [← hi, h3]
      rfl
    · cases h1
  · rw [if_neg hi] at h1
    refine List.mem_cons.mpr (Or.inr (List.mem_filter.mpr ⟨ab_lo_mem.mpr ⟨v, h1, fun hc => ?_, h3⟩, ?_⟩))
    · have := h2 hc
      by_cases hj : i = q.1 + 1
      · rw [if_pos hj] at this
        split at this <;> cases this
      · rw [if_neg hj] at this
        exact this
    · simp only [Bool.and_eq_true, Bool.not_eq_true', beq_eq_false_iff_ne, ne_eq, Bool.and_eq_false_iff]
      refine ⟨fun e => hi e.symm, ?_⟩
      by_cases hj : q.1 + 1 = i
      · right
        rw [h3, ab_cv_cat]
        intro hc
        have := h2 hc
        rw [if_pos hj.symm] at this
        split at this <;> cases this
      · left
        exact hj
theorem ab_st2 {ad : Nat → Nat} {ls : ab_Lo} {i : Nat} {x : Int64} : ∀ q ∈ ab_lo ad ((ls.set i (some (.long x))).set (i + 1) none), q ∈ (i, Value.long x) :: (ab_lo ad ls).filter (fun q => !(q.1 == i) && (!(q.1 == i + 1) && !(q.1 + 1 == i && q.2.category == 2))) := by
  intro q hq
  obtain ⟨v, h1, h2, h3⟩ := ab_lo_mem.mp hq
  rw [List.getElem?_set, List.length_set, List.getElem?_set] at h1 h2
  by_cases hk : i + 1 = q.1
  · rw [if_pos hk] at h1
    split at h1 <;> cases h1
  · rw [if_neg hk] at h1
    by_cases hi : i = q.1
    · rw [if_pos hi] at h1
      split at h1
      · cases h1
        refine List.mem_cons.mpr (Or.inl ?_)
        obtain ⟨a, b⟩ := q
        simp only at hi h3 ⊢
        rw [← hi, h3]
        rfl
      · cases h1
    · rw [if_neg hi] at h1
      refine List.mem_cons.mpr (Or.inr (List.mem_filter.mpr ⟨ab_lo_mem.mpr ⟨v, h1, fun hc => ?_, h3⟩, ?_⟩))
      · have := h2 hc
        rw [if_neg (show ¬ i + 1 = q.1 + 1 by omega)] at this
        by_cases hj : i = q.1 + 1
        · rw [if_pos hj] at this
          split at this <;> cases this
        · rw [if_neg hj] at this
          exact this
      · simp only [Bool.and_eq_true, Bool.not_eq_true', beq_eq_false_iff_ne, ne_eq, Bool.and_eq_false_iff]
        refine ⟨fun e => hi e.symm, fun e => hk e.symm, ?_⟩
        by_cases hj : q.1 + 1 = i
        · right
          rw [h3, ab_cv_cat]
          intro hc
          have := h2 hc
          rw [if_neg (show ¬ i + 1 = q.1 + 1 by omega), if_pos hj.symm] at this
          split at this <;> cases this
        · left
          exact hj
theorem ab_sl_args (ad : Nat → Nat) (as : List Value) : ∀ (b i : Nat) (v : Value), (ab_sl as)[i]? = some (some v) → (b + i, ab_cv ad v) ∈ lv_args b (as.map (ab_cv ad)) := by
  induction as with
  | nil => intro b i v h; simp [ab_sl] at h
  | cons a as ih =>
    intro b i v h
    simp only [ab_sl] at h
    simp only [List.map_cons, lv_args]
    rw [ab_cv_cat]
    by_cases hc : a.category = 2
    · rw [if_pos hc] at h ⊢
      match i, h with
      | 0, h => simp only [List.getElem?_cons_zero, Option.some.injEq] at h; subst h; exact List.mem_cons_self
      | 1, h => simp at h
      | i + 2, h =>
        simp only [List.getElem?_cons_succ] at h
        have := ih (b + 2) i v h
        rw [show b + 2 + i = b + (i + 2) by omega] at this
        exact List.mem_cons_of_mem _ this
    · rw [if_neg hc] at h ⊢
      match i, h with
      | 0, h => simp only [List.getElem?_cons_zero, Option.some.injEq] at h; subst h; exact List.mem_cons_self
      | i + 1, h =>
        simp only [List.getElem?_cons_succ] at h
        have := ih (b + 1) i v h
        rw [show b + 1 + i = b + (i + 1) by omega] at this
        exact List.mem_cons_of_mem _ this
theorem ab_sl_len (ad : Nat → Nat) (as : List Value) : (lg_sl (as.map (ab_cv ad))).length = (ab_sl as).length := by
  induction as with
  | nil => rfl
  | cons a as ih =>
    simp only [List.map_cons, lg_sl, List.flatMap_cons, List.length_append, ab_sl, ab_cv_cat]
    have ih : ((as.map (ab_cv ad)).flatMap fun v => if v.category = 2 then [Slot.val v, Slot.second] else [Slot.val v]).length = (ab_sl as).length := ih
    rw [ih]
    by_cases hc : a.category = 2
    · rw [if_pos hc, if_pos hc]; simp; omega
    · rw [if_neg hc, if_neg hc]; simp; omega
theorem ab_ent_has (ad : Nat → Nat) (as : List Value) {n : Nat} (h : (ab_sl as).length ≤ n) : lv_has ((lg_sl (as.map (ab_cv ad)) ++ List.replicate (n - (lg_sl (as.map (ab_cv ad))).length) Slot.unset).toArray) n (ab_lo ad (ab_ent n as)) := by
  refine ab_has_mono (lv_entry (as.map (ab_cv ad)) (by rw [ab_sl_len]; exact h)) ?_
  intro q hq
  obtain ⟨v, h1, h2, h3⟩ := ab_lo_mem.mp hq
  obtain ⟨i, w⟩ := q
  simp only at h1 h2 h3
  subst h3
  have : (ab_sl as)[i]? = some (some v) := by
    unfold ab_ent at h1
    by_cases hi : i < (ab_sl as).length
    · rw [List.getElem?_append_left hi] at h1; exact h1
    · rw [List.getElem?_append_right (by omega), List.getElem?_replicate] at h1
      split at h1 <;> simp at h1
  have := ab_sl_args ad as 0 i v this
  rw [Nat.zero_add] at this
  exact this
theorem ab_ent_len {n : Nat} {as : List Value} (h : (ab_sl as).length ≤ n) : (ab_ent n as).length = n := by
  unfold ab_ent
  rw [List.length_append, List.length_replicate]
  omega
end
section
/-! ONE STEP OF THE SMALL MACHINE IS ONE OF THE MACHINE -/
def ab_rm (d : Nat) : Room := { frames := d, cells := 0, slots := 0, locals := 36 * d }
section ABS
variable {p : Program} {l : Launch} {e : Env} {R : Room} {s : State} {m : MethodId} {args : Array Value} {below : List Frame} {meth : Method} {c : Code} {H : Heap} {locs : List Loc} {cells slots : Nat} {Q : State → Prop} {ad : Nat → Nat} {la : Array Slot} {pc M nL : Nat} {ls : ab_Lo} {i : Instr} {len : Nat} {st st' : List Value}
set_option maxHeartbeats 4000000 in
theorem ab_sA1 (hx : p.tables.exec = Jvm.exec) (hb : c.code = ab_C M) (hown : s.vm.findClass (ab_cn (ab_O M)) = some m.cls) (hts : ∀ w ∈ ab_gt, w.before args s = true) (hl : lv_has la nL (ab_lo ad ls)) (hdg : decode (ab_C M) pc = .ok (i, len)) (h : ab_A1 M i len ls st = some st')
    (k : W p l e R s m args below meth c H locs cells slots Q (F0 m (pc + len) la (st'.map (ab_cv ad)))) : W p l e R s m args below meth c H locs cells slots Q (F0 m pc la (st.map (ab_cv ad))) := by
  unfold ab_A1 at h
  split at h
  · cases h; exact lv_iconst hx hb hdg rfl k
  · cases h; exact lv_bipush hx hb hdg rfl k
  · cases h; exact lv_sipush hx hb hdg rfl k
  · cases h; exact lv_lconst hx hb hdg rfl k
  · obtain ⟨x, h1, rfl⟩ := Option.map_eq_some_iff.mp h; exact lv_iload_n hx hb hdg rfl (ab_has_I hl h1) k
  · obtain ⟨x, h1, rfl⟩ := Option.map_eq_some_iff.mp h; exact lv_iload hx hb hdg (ab_has_I hl h1) k
  · obtain ⟨x, h1, rfl⟩ := Option.map_eq_some_iff.mp h; exact lv_lload_n hx hb hdg rfl (ab_has_L hl h1) k
  · obtain ⟨x, h1, rfl⟩ := Option.map_eq_some_iff.mp h; exact lv_lload hx hb hdg (ab_has_L hl h1) k
  · obtain ⟨x, h1, rfl⟩ := Option.map_eq_some_iff.mp h; exact lv_aload_n hx hb hdg rfl (ab_has_R hl h1) k
  · obtain ⟨x, h1, rfl⟩ := Option.map_eq_some_iff.mp h; exact lv_aload hx hb hdg (ab_has_R hl h1) k
  · obtain ⟨x, h1, rfl⟩ := Option.map_eq_some_iff.mp h; exact lv_ldc hx hb hown (hts _ (ab_ci_in h1)) hdg k
  · obtain ⟨x, h1, rfl⟩ := Option.map_eq_some_iff.mp h; exact lv_ldcw hx hb hown (hts _ (ab_ci_in h1)) hdg k
  · obtain ⟨x, h1, rfl⟩ := Option.map_eq_some_iff.mp h; exact lv_ldc2 hx hb hown (hts _ (ab_cl_in h1)) hdg k
  · split at h
    next hc => cases h; exact lv_dup hx hb hdg (by rw [ab_cv_cat]; exact hc) k
    next => cases h
  · split at h
    next hc => cases h; exact lv_dup2_11 hx hb hdg (by rw [ab_cv_cat]; exact hc.1) (by rw [ab_cv_cat]; exact hc.2) k
    next => cases h
  · split at h
    next hc => cases h; exact lv_pop hx hb hdg (by rw [ab_cv_cat]; exact hc) k
    next => cases h
  · cases h
set_option maxHeartbeats 4000000 in
theorem ab_sA2 (hx : p.tables.exec = Jvm.exec) (hb : c.code = ab_C M) (hdg : decode (ab_C M) pc = .ok (i, len)) (h : ab_A2 i len st = some st')
    (k : W p l e R s m args below meth c H locs cells slots Q (F0 m (pc + len) la (st'.map (ab_cv ad)))) : W p l e R s m args below meth c H locs cells slots Q (F0 m pc la (st.map (ab_cv ad))) := by
  unfold ab_A2 at h
  split at h
  · cases h; exact lv_iadd hx hb hdg k
  · cases h; exact lv_isub hx hb hdg k
  · cases h; exact lv_imul hx hb hdg k
  · cases h; exact lv_iand hx hb hdg k
  · cases h; exact lv_ior hx hb hdg k
  · cases h; exact lv_ixor hx hb hdg k
  · cases h; exact lv_ishl hx hb hdg k
  · cases h; exact lv_ishr hx hb hdg k
  · cases h; exact lv_iushr hx hb hdg rfl k
  · split at h
    next => cases h
    next hc => cases h; exact lv_idiv hx hb hdg hc k
  · split at h
    next => cases h
    next hc => cases h; exact lv_irem hx hb hdg hc k
  · cases h; exact lv_ladd hx hb hdg k
  · cases h; exact lv_lmul hx hb hdg k
  · split at h
    next => cases h
    next hc => cases h; exact lv_ldiv hx hb hdg hc k
  · split at h
    next => cases h
    next hc => cases h; exact lv_lrem hx hb hdg hc k
  · cases h; exact W.lcmp hx hb hdg k
  · cases h; exact lv_i2l hx hb hdg rfl k
  · cases h; exact lv_l2i hx hb hdg rfl k
  · cases h; exact lv_i2b hx hb hdg rfl k
  · cases h; exact lv_lshr hx hb hdg rfl k
  · cases h; exact lv_lushr hx hb hdg rfl k
  · cases h
theorem ab_sum (st : List Value) : ((st.map (ab_cv ad)).map fun v => v.category).sum = (st.map fun v => v.category).sum := by
  rw [List.map_map]
  congr 1
  exact List.map_congr_left (fun v _ => ab_cv_cat ad v)
set_option maxHeartbeats 4000000 in
theorem ab_sX {d : Nat} (hx : p.tables.exec = Jvm.exec) (hb : c.code = ab_C M) (hml : c.maxLocals = la.size) (hown : s.vm.findClass (ab_cn (ab_O M)) = some m.cls) (hts : ∀ w ∈ ab_gt, w.before args s = true) (hdg : decode (ab_C M) pc = .ok (i, len)) (h : ab_X d M i len st = some st')
    (k : W p l e (ab_rm d) s m args below meth c H locs 0 0 Q (F0 m (pc + len) la (st'.map (ab_cv ad)))) : W p l e (ab_rm d) s m args below meth c H locs 0 0 Q (F0 m pc la (st.map (ab_cv ad))) := by
  unfold ab_X at h
  split at h
  next idx y x st =>
    obtain ⟨q, h1, h2⟩ := Option.bind_eq_some_iff.mp h
    split at h2
    next hc =>
      cases h2
      have hf : 1 ≤ (ab_rm d).frames := hc.1
      have hlo : ((st.map (ab_cv ad)).map fun v => v.category).sum + 13 ≤ (ab_rm d).locals := by rw [ab_sum]; show _ ≤ 36 * d; omega
      rcases ab_mm_in h1 with ⟨rfl, h3⟩ | ⟨hq, h3⟩
      · exact va_mmax hx hb hml hown (hts _ h3) (hts _ ab_mm_w.1) (hts _ ab_mm_w.2.2) (hts _ ab_mm_c.1) hf hlo (Nat.le_refl 0) (Nat.le_refl 0) hdg k
      · rw [if_neg hq] at k
        exact va_mmin hx hb hml hown (hts _ h3) (hts _ ab_mm_w.2.1) (hts _ ab_mm_w.2.2) (hts _ ab_mm_c.2) hf hlo (Nat.le_refl 0) (Nat.le_refl 0) hdg k
    next => cases h2
  next => cases h
set_option maxHeartbeats 4000000 in
theorem ab_sS {q : ab_Lo × List Value} (hx : p.tables.exec = Jvm.exec) (hb : c.code = ab_C M) (hl : lv_has la nL (ab_lo ad ls)) (hn : ls.length = nL) (hdg : decode (ab_C M) pc = .ok (i, len)) (h : ab_S i len ls st = some q)
    (k : ∀ la' : Array Slot, lv_has la' nL (ab_lo ad q.1) → q.1.length = nL → W p l e R s m args below meth c H locs cells slots Q (F0 m (pc + len) la' (q.2.map (ab_cv ad)))) : W p l e R s m args below meth c H locs cells slots Q (F0 m pc la (st.map (ab_cv ad))) := by
  unfold ab_S at h
  split at h
  · split at h
    next hc => cases h; exact lv_istore_n hx hb hdg rfl hl (by omega) rfl (fun la' h' => k la' (ab_has_mono h' ab_st1) (by rw [List.length_set]; exact hn))
    next => cases h
  · split at h
    next hc => cases h; exact lv_istore hx hb hdg hl (by omega) rfl (fun la' h' => k la' (ab_has_mono h' ab_st1) (by rw [List.length_set]; exact hn))
    next => cases h
  · split at h
    next hc => cases h; exact lv_lstore_n hx hb hdg rfl hl (by omega) rfl (fun la' h' => k la' (ab_has_mono h' ab_st2) (by rw [List.length_set, List.length_set]; exact hn))
    next => cases h
  · split at h
    next hc => cases h; exact lv_lstore hx hb hdg hl (by omega) rfl (fun la' h' => k la' (ab_has_mono h' ab_st2) (by rw [List.length_set, List.length_set]; exact hn))
    next => cases h
  next st j n =>
    obtain ⟨x, h1, h2⟩ := Option.bind_eq_some_iff.mp h
    split at h2
    next hc =>
      cases h2
      have hm : (j, Value.int x) ∈ ab_lo ad ls := by
        unfold ab_ldI at h1
        split at h1
        next y hy => cases h1; exact ab_lo_mem.mpr ⟨.int x, hy, (fun e => by cases e), rfl⟩
        next => cases h1
      obtain ⟨kk, hkk⟩ := List.getElem?_of_mem hm
      exact lv_iinc hx hb hdg hl hkk rfl (by omega) rfl (fun la' h' => k la' (ab_has_mono h' ab_st1) (by rw [List.length_set]; exact hn))
    next => cases h2
  · cases h
theorem ab_to_eq {off : Int} (h : 0 ≤ (pc : Int) + off) : (pc : Int) + off = (ab_to pc off : Int) := (Int.toNat_of_nonneg h).symm
set_option maxHeartbeats 4000000 in
theorem ab_sJ {q : Nat × List Value} (hx : p.tables.exec = Jvm.exec) (hb : c.code = ab_C M) (hdg : decode (ab_C M) pc = .ok (i, len)) (h : ab_J i len pc st = some q)
    (k : W p l e R s m args below meth c H locs cells slots Q (F0 m q.1 la (q.2.map (ab_cv ad)))) : W p l e R s m args below meth c H locs cells slots Q (F0 m pc la (st.map (ab_cv ad))) := by
  unfold ab_J at h
  split at h
  · split at h
    next hc => cases h; exact lv_goto hx hb hdg (ab_to_eq hc) k
    next => cases h
  · split at h
    next hc => cases h; exact lv_if_eq hx hb hdg (ab_to_eq hc) (fun z => by simp only [if_pos z] at k; exact k) (fun z => by simp only [if_neg z] at k; exact k)
    next => cases h
  · split at h
    next hc => cases h; exact lv_if_ne hx hb hdg (ab_to_eq hc) (fun z => by simp only [if_neg z] at k; exact k) (fun z => by simp only [if_pos z] at k; exact k)
    next => cases h
  · split at h
    next hc => cases h; exact lv_if_lt hx hb hdg (ab_to_eq hc) (fun z => by simp only [if_pos z] at k; exact k) (fun z => by simp only [if_neg z] at k; exact k)
    next => cases h
  · split at h
    next hc => cases h; exact lv_if_ge hx hb hdg (ab_to_eq hc) (fun z => by simp only [if_pos z] at k; exact k) (fun z => by simp only [if_neg z] at k; exact k)
    next => cases h
  · split at h
    next hc => cases h; exact lv_if_gt hx hb hdg (ab_to_eq hc) (fun z => by simp only [if_pos z] at k; exact k) (fun z => by simp only [if_neg z] at k; exact k)
    next => cases h
  · split at h
    next hc => cases h; exact lv_if_le hx hb hdg (ab_to_eq hc) (fun z => by simp only [if_pos z] at k; exact k) (fun z => by simp only [if_neg z] at k; exact k)
    next => cases h
  · split at h
    next hc => cases h; exact lv_icmp_eq hx hb hdg (ab_to_eq hc) (fun z => by simp only [if_pos z] at k; exact k) (fun z => by simp only [if_neg z] at k; exact k)
    next => cases h
  · split at h
    next hc => cases h; exact lv_icmp_ne hx hb hdg (ab_to_eq hc) (fun z => by simp only [if_neg z] at k; exact k) (fun z => by simp only [if_pos z] at k; exact k)
    next => cases h
  · split at h
    next hc => cases h; exact lv_icmp_lt hx hb hdg (ab_to_eq hc) (fun z => by simp only [if_pos z] at k; exact k) (fun z => by simp only [if_neg z] at k; exact k)
    next => cases h
  · split at h
    next hc => cases h; exact lv_icmp_ge hx hb hdg (ab_to_eq hc) (fun z => by simp only [if_pos z] at k; exact k) (fun z => by simp only [if_neg z] at k; exact k)
    next => cases h
  · split at h
    next hc => cases h; exact lv_icmp_gt hx hb hdg (ab_to_eq hc) (fun z => by simp only [if_pos z] at k; exact k) (fun z => by simp only [if_neg z] at k; exact k)
    next => cases h
  · split at h
    next hc => cases h; exact lv_icmp_le hx hb hdg (ab_to_eq hc) (fun z => by simp only [if_pos z] at k; exact k) (fun z => by simp only [if_neg z] at k; exact k)
    next => cases h
  next dflt lo hi offs _ x st =>
    obtain ⟨off, h1, h2⟩ := Option.bind_eq_some_iff.mp h
    split at h2
    next hc =>
      cases h2
      unfold ab_tsw at h1
      split at h1
      next hz => cases h1; exact lv_tableOut hx hb hdg hz (ab_to_eq hc) k
      next hz => exact lv_tableIn hx hb hdg (fun z => hz (Or.inl z)) (fun z => hz (Or.inr z)) h1 (ab_to_eq hc) k
    next => cases h2
  · cases h
end ABS
/-- what holds of the machine's tables and statics, at a state and a heap -/
def ab_Env (dC : Nat → ClassId) (dI : Nat → Nat → Nat) (ad : Nat → Nat) (cA : Nat → ClassId) (U : State) (H : Heap) : Prop :=
  va_K (dC, dI) ab_classes (ab_tys cA) U ∧ (∀ w ∈ ab_nest, va_Nw w U) ∧ va_Z "SaidLeast" "POWERS_OF_TEN" "[I" (.ref (ad 1000)) (ab_Ad ad) U H ∧ va_T .int (ad 1000) 9 (fun j => .int (ab_pw j)) (ab_Ad ad) U H
section ABH
variable {p : Program} {l : Launch} {e : Env} {R : Room} {s : State} {m : MethodId} {args : Array Value} {below : List Frame} {meth : Method} {c : Code} {H : Heap} {locs : List Loc} {cells slots : Nat} {Q : State → Prop} {ad : Nat → Nat} {la : Array Slot} {pc M nL : Nat} {ls : ab_Lo} {i : Instr} {len : Nat} {st st' : List Value}
variable {dC : Nat → ClassId} {dI : Nat → Nat → Nat} {cA : Nat → ClassId} {σ : ab_St}
theorem ab_fs_get {ci k cc : Nat} (hk : k < ab_nF ci) : ((List.range (ab_nF ci)).map (fun k => ab_cv ad (ab_fv σ ci cc k)))[k]? = some (ab_cv ad (ab_fv σ ci cc k)) := by
  rw [List.getElem?_map, List.getElem?_range hk]
  rfl
theorem ab_mem_app {X : List Cond} {own : Cond} : ∀ w ∈ ab_gt, w ∈ own :: ab_gt := fun w h => List.mem_cons_of_mem _ h
set_option maxHeartbeats 8000000 in
theorem ab_sH {d : Nat} {q : List Value × ab_St} (hx : p.tables.exec = Jvm.exec) (hb : c.code = ab_C M) (hml : c.maxLocals = la.size) (hown : s.vm.findClass (ab_cn (ab_O M)) = some m.cls) (hts : ∀ w ∈ ab_gt, w.before args s = true) (hE : ab_Env dC dI ad cA s s.heap) (hP : va_P (dC, dI) ab_classes (ab_w ad cA σ) H) (hD : va_D (ab_Ad ad) (ab_w ad cA σ)) (hS : va_S (ab_Ad ad) s.heap H locs)
    (hdg : decode (ab_C M) pc = .ok (i, len)) (h : ab_H d M i len st σ = some q)
    (k : ∀ (H1 : Heap) (locs1 : List Loc), va_P (dC, dI) ab_classes (ab_w ad cA q.2) H1 → va_D (ab_Ad ad) (ab_w ad cA q.2) → va_S (ab_Ad ad) s.heap H1 locs1 → W p l e (ab_rm d) s m args below meth c H1 locs1 0 0 Q (F0 m (pc + len) la (q.1.map (ab_cv ad)))) : W p l e (ab_rm d) s m args below meth c H locs 0 0 Q (F0 m pc la (st.map (ab_cv ad))) := by
  obtain ⟨hK, hN, hZ, hT⟩ := hE
  unfold ab_H at h
  split at h
  -- getfield
  next idx c0 st =>
    obtain ⟨r, h1, h2⟩ := Option.bind_eq_some_iff.mp h
    obtain ⟨C, T, g1, g2, g3, g4, g5, -, -⟩ := ab_fl_in h1
    split at h2
    next hc =>
      cases h2
      exact va_get (D := (dC, dI)) (v := ab_cv ad (ab_fv σ r.1 c0 r.2)) hx hb hts (ab_cls g1).1 hown hK hP c0 (ab_at_o ad cA σ hc g3) g1 r.2 g2 (hts _ g4) (fun _ h9 => by rw [g5] at h9; exact h9) (ab_fs_get g2) hdg (k H locs hP hD hS)
    next => cases h2
  -- putfield int
  next idx x c0 st =>
    obtain ⟨r, h1, h2⟩ := Option.bind_eq_some_iff.mp h
    obtain ⟨C, T, g1, g2, g3, g4, g5, g6, -⟩ := ab_fl_in h1
    obtain ⟨z1, z2, ty0, z3⟩ := ab_cls g1
    split at h2
    next hf =>
      split at h2
      next hc =>
        cases h2
        obtain ⟨f1, f2⟩ := g6 hf
        refine va_put (D := (dC, dI)) (v := .int x) (ty := .int) hx hb hts z1 ty0 z3 z2 hown hK hP hD hS c0 (ab_at_o ad cA σ hc g3) g1 r.2 g2 (hts _ g4) (fun _ h9 => by rw [g5] at h9; exact h9) f2 (by rw [f1]; decide +kernel) rfl rfl (by rw [List.length_map, List.length_range]; exact g2) hdg (fun H1 locs1 a1 a2 a3 => ?_)
        rw [ab_wI_set ad cA (by omega) (ab_ce_oI ad cA σ x hc g3 hf g2)] at a1 a2
        exact k H1 locs1 a1 a2 a3
      next => cases h2
    next => cases h2
  -- putfield long
  next idx x c0 st =>
    obtain ⟨r, h1, h2⟩ := Option.bind_eq_some_iff.mp h
    obtain ⟨C, T, g1, g2, g3, g4, g5, -, g6⟩ := ab_fl_in h1
    obtain ⟨z1, z2, ty0, z3⟩ := ab_cls g1
    split at h2
    next hf =>
      split at h2
      next hc =>
        cases h2
        obtain ⟨f1, f2⟩ := g6 hf
        refine va_put (D := (dC, dI)) (v := .long x) (ty := .long) hx hb hts z1 ty0 z3 z2 hown hK hP hD hS c0 (ab_at_o ad cA σ hc g3) g1 r.2 g2 (hts _ g4) (fun _ h9 => by rw [g5] at h9; exact h9) f2 (by rw [f1]; decide +kernel) rfl rfl (by rw [List.length_map, List.length_range]; exact g2) hdg (fun H1 locs1 a1 a2 a3 => ?_)
        rw [ab_wL_set ad cA (by omega) (ab_ce_oL ad cA σ x hc g3 hf g2)] at a1 a2
        exact k H1 locs1 a1 a2 a3
      next => cases h2
    next => cases h2
  -- getstatic
  next st idx =>
    obtain ⟨r, h1, h2⟩ := Option.map_eq_some_iff.mp h
    cases h2
    rcases ab_gs_in h1 with ⟨-, h3⟩ | h3
    · exact va_gets hx hb hZ hS hown (hts _ h3) (fun _ h9 => h9) hdg (k H locs hP hD hS)
    · exact va_getsN hx hb hZ hS hown (va_Nw.use rfl (hN _ h3)) (fun _ h9 => h9) hdg (k H locs hP hD hS)
  -- iaload of the static array
  next j st =>
    split at h
    next hj => cases h; exact va_ti hx hb hT hS hj rfl hdg (k H locs hP hD hS)
    next => cases h
  -- iaload
  next j c0 st =>
    split at h
    next hc => cases h; exact va_iald hx hb hK hP c0 0 (ab_at_i ad cA σ hc.1 (Or.inl rfl)) rfl hc.2 hdg (k H locs hP hD hS)
    next => cases h
  -- baload
  next j c0 st =>
    split at h
    next hc =>
      cases h
      rcases hc.1 with h1 | h1
      · exact va_bald hx hb hK hP c0 1 (ab_at_i ad cA σ h1 (by omega)) rfl hc.2 hdg (k H locs hP hD hS)
      · exact va_zald hx hb hK hP c0 2 (ab_at_i ad cA σ h1 (by omega)) rfl hc.2 hdg (k H locs hP hD hS)
    next => cases h
  -- laload
  next j c0 st =>
    split at h
    next hc => cases h; exact va_lald hx hb hK hP c0 3 (ab_at_l ad cA σ hc.1) rfl hc.2 hdg (k H locs hP hD hS)
    next => cases h
  -- aaload
  next j c0 st =>
    split at h
    next hc => cases h; exact va_aldq hx hb hK hP c0 4 (ab_at_q ad cA σ hc.1) rfl hc.2 hdg (k H locs hP hD hS)
    next => cases h
  -- iastore
  next x j c0 st =>
    split at h
    next hc =>
      cases h
      refine va_iast hx hb hK hP hD hS c0 0 (ab_at_i ad cA σ hc.1 (Or.inl rfl)) rfl hc.2 hdg (fun H1 locs1 a1 a2 a3 => ?_)
      rw [ab_wI_set ad cA (by omega) (ab_ce_i ad cA σ _ hc.1 (Or.inl rfl))] at a1 a2
      exact k H1 locs1 a1 a2 a3
    next => cases h
  -- bastore
  next x j c0 st =>
    split at h
    next hc =>
      cases h
      refine va_bast hx hb hK hP hD hS c0 1 (ab_at_i ad cA σ hc.1 (by omega)) rfl hc.2 hdg (fun H1 locs1 a1 a2 a3 => ?_)
      rw [ab_wI_set ad cA (by omega) (ab_ce_i ad cA σ _ hc.1 (by omega))] at a1 a2
      exact k H1 locs1 a1 a2 a3
    next =>
      split at h
      next hc =>
        cases h
        refine va_zast hx hb hK hP hD hS c0 2 (ab_at_i ad cA σ hc.1 (by omega)) rfl hc.2 hdg (fun H1 locs1 a1 a2 a3 => ?_)
        rw [ab_wI_set ad cA (by omega) (ab_ce_i ad cA σ _ hc.1 (by omega))] at a1 a2
        exact k H1 locs1 a1 a2 a3
      next => cases h
  -- lastore
  next x j c0 st =>
    split at h
    next hc =>
      cases h
      refine va_last hx hb hK hP hD hS c0 3 (ab_at_l ad cA σ hc.1) rfl hc.2 hdg (fun H1 locs1 a1 a2 a3 => ?_)
      rw [ab_wL_set ad cA (by omega) (ab_ce_l ad cA σ _ hc.1)] at a1 a2
      exact k H1 locs1 a1 a2 a3
    next => cases h
  -- arraylength
  next c0 st =>
    split at h
    next hc =>
      cases h
      rcases (show ab_k c0 = 100 ∨ ab_k c0 = 101 ∨ ab_k c0 = 102 ∨ ab_k c0 = 103 by omega) with h1 | h1 | h1 | h1
      · exact va_alen hx hb hK hP c0 0 (ab_at_i ad cA σ h1 (by omega)) (ty := .int) rfl rfl hdg (k H locs hP hD hS)
      · exact va_alen hx hb hK hP c0 1 (ab_at_i ad cA σ h1 (by omega)) (ty := .byte) rfl rfl hdg (k H locs hP hD hS)
      · exact va_alen hx hb hK hP c0 2 (ab_at_i ad cA σ h1 (by omega)) (ty := .boolean) rfl rfl hdg (k H locs hP hD hS)
      · exact va_alen hx hb hK hP c0 3 (ab_at_l ad cA σ h1) (ty := .long) rfl rfl hdg (k H locs hP hD hS)
    next => cases h
  -- arraycopy
  next idx n dp c1 sp c0 st =>
    split at h
    next ha =>
      split at h
      next hc =>
        cases h
        obtain ⟨d1, ⟨k0, k1⟩, ⟨n1, n2, n3⟩, n4, n5, n6⟩ := hc
        have hw7 : nativeFrameWords "java/lang/System" "arraycopy" 5 = 7 := by decide +kernel
        have hlo : ((st.map (ab_cv ad)).map fun v => v.category).sum + (nativeFrameWords "java/lang/System" "arraycopy" 5 + 11) ≤ (ab_rm d).locals := by
          rw [ab_sum, hw7]
          show _ ≤ 36 * d
          omega
        have hfr : 1 ≤ (ab_rm d).frames := d1
        refine va_copyi hx hb hml hown (hts _ (ab_ac_in ha)) (hts _ ab_ac_n) (hts _ ab_ac_s) (hts _ ab_ac_i) hK hP hD hS c0 c1 0 0 (ty := .int) (ab_at_i ad cA σ k0 (Or.inl rfl)) (ab_at_i ad cA σ k1 (Or.inl rfl)) rfl rfl rfl n1 n2 n3 n4 n5 (fun _ _ => rfl) hfr hlo hdg (fun H1 locs1 a1 a2 a3 => ?_)
        rw [ab_wI_set ad cA (by omega) (ab_ce_i ad cA σ _ k1 (Or.inl rfl))] at a1 a2
        exact k H1 locs1 a1 a2 a3
      next => cases h
    next => cases h
  · cases h
end ABH
end
section
/-! A RUN OF THE SMALL MACHINE IS ONE OF THE MACHINE -/
def ab_B (dC : Nat → ClassId) (dI : Nat → Nat → Nat) (ad : Nat → Nat) (cA : Nat → ClassId) (σ : ab_St) (U : State) : Prop := ab_Env dC dI ad cA U U.heap ∧ va_P (dC, dI) ab_classes (ab_w ad cA σ) U.heap ∧ va_D (ab_Ad ad) (ab_w ad cA σ)
def ab_Q (dC : Nat → ClassId) (dI : Nat → Nat → Nat) (ad : Nat → Nat) (cA : Nat → ClassId) (r : Option Value) (σ : ab_St) : Array Value → State → Outcome → State → Prop := fun _ st oc t => (oc = .returned (r.map (ab_cv ad)) ∧ ab_B dC dI ad cA σ t) ∧ va_F (ab_Ad ad) st t
def ab_ok (M : Nat) : Prop := M < 149 ∧ M ≠ 1 ∧ M ≠ 56 ∧ M ≠ 90
theorem ab_nest_tab : ∀ w ∈ ab_nest, w.onTables = true := by decide +kernel
theorem ab_nest_warm {s U : State} (hW : s.WarmedH U.vm) : ∀ w ∈ ab_nest, va_Nw w s → va_Nw w U := by
  intro w hw
  unfold ab_nest at hw
  simp only [List.mem_cons, List.not_mem_nil, or_false] at hw
  rcases hw with rfl | rfl | rfl | rfl | rfl | rfl | rfl | rfl | rfl
  all_goals first | exact fun h => va_Nw.warmM hW h | exact fun h => va_Nw.warmF hW h
theorem ab_good_of {L : List Cond} (h : ∀ w ∈ L, w ∈ ab_gt) : GoodIn ab_gt L := fun w hw => ab_gt_good w (h w hw)
section ABR
variable {l : Launch} {dC : Nat → ClassId} {dI : Nat → Nat → Nat} {ad : Nat → Nat} {cA : Nat → ClassId}
theorem ab_env_at {s U : State} {H : Heap} {locs : List Loc} (hE : ab_Env dC dI ad cA s s.heap) (hS : va_S (ab_Ad ad) s.heap H locs) (hU : U.heap = H) (hW : s.WarmedH U.vm) : ab_Env dC dI ad cA U U.heap := by
  obtain ⟨hK, hN, hZ, hT⟩ := hE
  rw [hU]
  exact ⟨va_K.moved hW.alike hK, fun w hw => ab_nest_warm hW w hw (hN w hw), (hZ.kept (fun a h1 h2 => hS.2.1 a h1 h2)).moved hW.alike, (hT.kept (fun a h1 h2 => hS.2.1 a h1 h2)).moved hW.alike⟩
theorem ab_blind {av : List Value} {σ : ab_St} : FrameBlind (va_Pc av (ab_B dC dI ad cA σ)) := by
  intro a U g mk q
  obtain ⟨h0, ⟨hK, hN, hZ, hT⟩, hP, hD⟩ := q
  exact ⟨h0, ⟨va_K.moved (u := U) (U := U.calling g mk a) (Vm.Alike.refl U.vm) hK, fun w hw => va_Nw.same (ab_nest_tab w hw) (u := U) (U := U.calling g mk a) rfl (hN w hw), va_Z.moved (u := U) (U := U.calling g mk a) (Vm.Alike.refl U.vm) hZ, va_T.moved (u := U) (U := U.calling g mk a) (Vm.Alike.refl U.vm) hT⟩, hP, hD⟩
variable {p : Program} {e : Env} {R : Room} {s : State} {m : MethodId} {args : Array Value} {below : List Frame} {meth : Method} {c : Code} {H : Heap} {locs : List Loc} {Q : State → Prop}
theorem ab_call {a : Array Value} {r : Option Value} {σ : ab_St} {pc : Nat} {ls : Array Slot} {st0 rest : List Value} (hr : va_Run p l e R s m args below meth c H locs 0 0 0 0 (F0 m pc ls st0) rest (ab_Q dC dI ad cA r σ a) (ab_Ad ad)) (hS : va_S (ab_Ad ad) s.heap H locs)
    (kk : ∀ (H1 : Heap) (locs1 : List Loc), va_P (dC, dI) ab_classes (ab_w ad cA σ) H1 → va_D (ab_Ad ad) (ab_w ad cA σ) → va_S (ab_Ad ad) s.heap H1 locs1 → W p l e R s m args below meth c H1 locs1 0 0 Q (F0 m (pc + 3) ls ((r.map (ab_cv ad)).toList ++ rest))) : W p l e R s m args below meth c H locs 0 0 Q (F0 m pc ls st0) := by
  intro T hT X
  obtain ⟨v, st₀, t, T', L, h0, X', hL, e1, e2, ⟨⟨hv, hB⟩, hz, hk⟩, st⟩ := hr T hT X
  cases hv
  rw [h0] at hz hk
  obtain ⟨-, hP1, hD1⟩ := hB
  rw [← e1] at hP1
  obtain ⟨t2, a1, b1⟩ := kk T'.heap (locs ++ L) hP1 hD1
    ⟨Nat.le_trans hS.1 (by rw [e1]; exact hz), fun q h1 h2 => by rw [e1, hk q (Nat.lt_of_lt_of_le h1 hS.1) h2]; exact hS.2.1 q h1 h2, fun q hq => by
      rcases List.mem_append.mp hq with h | h
      · exact hS.2.2 q h
      · exact hL q h⟩ T' rfl X'
  exact ⟨t2, st t2 a1, b1⟩
set_option maxHeartbeats 4000000 in
theorem ab_sE {M d pc len : Nat} {i : Instr} {la : Array Slot} {st : List Value} {σ : ab_St} {r : Option Value} (hx : p.tables.exec = Jvm.exec) (hb : c.code = ab_C M) (hr : meth.sig.returnType = ab_R M) (hlocks : meth.locks = false) (hE : ab_Env dC dI ad cA s s.heap) (hP : va_P (dC, dI) ab_classes (ab_w ad cA σ) H) (hD : va_D (ab_Ad ad) (ab_w ad cA σ)) (hS : va_S (ab_Ad ad) s.heap H locs)
    (hdg : decode (ab_C M) pc = .ok (i, len)) (h : ab_E M i len st = some r) : W p l e R s m args below meth c H locs 0 0 (MQ below (ab_Q dC dI ad cA r σ) args s 0 0 (ab_Ad ad)) (F0 m pc la (st.map (ab_cv ad))) := by
  have hq : ∀ t : State, t.heap = H → s.WarmedH t.vm → ab_Q dC dI ad cA r σ args s (.returned (r.map (ab_cv ad))) t := fun t ht hW => ⟨⟨rfl, ab_env_at hE hS ht hW, by rw [ht]; exact hP, hD⟩, hS.F ht⟩
  unfold ab_E at h
  split at h
  · split at h
    next hc => cases h; exact W.iret hx hb (by rw [hr, hc]) hq hS.2.2 hdg hlocks
    next =>
      split at h
      next hc =>
        split at h
        next hv =>
          cases h
          exact W.zret hx hb (by rw [hr, hc]) (by rcases hv with rfl | rfl <;> decide) hq hS.2.2 hdg hlocks
        next => cases h
      next => cases h
  · split at h
    next hc => cases h; exact W.lret hx hb (by rw [hr, hc]) hq hS.2.2 hdg hlocks
    next => cases h
  · split at h
    next hc => cases h; exact W.vret hx hb (by rw [hr, hc]) hq hS.2.2 hdg hlocks
    next => cases h
  · cases h
end ABR
/-- what the fuel n is good for -/
def ab_Sound (l : Launch) (dC : Nat → ClassId) (dI : Nat → Nat → Nat) (ad : Nat → Nat) (cA : Nat → ClassId) (n : Nat) : Prop :=
  ∀ (d M pc : Nat) (ls : ab_Lo) (st : List Value) (σ : ab_St) (r : Option Value) (σ' : ab_St), ab_run n d M pc ls st σ = some (r, σ') → ab_ok M →
    ∀ (p : Program) (e : Env) (s : State) (m : MethodId) (args : Array Value) (below : List Frame) (meth : Method) (c : Code) (H : Heap) (locs : List Loc) (la : Array Slot),
      p.tables.exec = Jvm.exec → c.code = ab_C M → meth.sig.returnType = ab_R M → c.maxLocals = ab_L M → s.vm.findClass (ab_cn (ab_O M)) = some m.cls → (∀ w ∈ ab_gt, w.before args s = true) → meth.locks = false →
      ab_Env dC dI ad cA s s.heap → va_P (dC, dI) ab_classes (ab_w ad cA σ) H → va_D (ab_Ad ad) (ab_w ad cA σ) → va_S (ab_Ad ad) s.heap H locs → lv_has la (ab_L M) (ab_lo ad ls) → ls.length = ab_L M →
      W p l e (ab_rm d) s m args below meth c H locs 0 0 (MQ below (ab_Q dC dI ad cA r σ') args s 0 0 (ab_Ad ad)) (F0 m pc la (st.map (ab_cv ad)))
theorem ab_met_of {l : Launch} {dC : Nat → ClassId} {dI : Nat → Nat → Nat} {ad : Nat → Nat} {cA : Nat → ClassId} {n : Nat} (hn : ab_Sound l dC dI ad cA n) {d M : Nat} {as : List Value} {σ : ab_St} {r : Option Value} {σ' : ab_St} (h : ab_run n d M 0 (ab_ent (ab_L M) as) [] σ = some (r, σ')) (hM : ab_ok M) (hlen : (ab_sl as).length ≤ ab_L M) :
    Met l (ab_N M) (ab_ws M) (ab_rm d) (va_Pc (as.map (ab_cv ad)) (ab_B dC dI ad cA σ)) (ab_Q dC dI ad cA r σ') 0 0 (ab_Ad ad) := by
  obtain ⟨m1, -, -, m4⟩ := ab_m_in hM.1 hM.2
  refine Met.ofW (cc := ab_C M) (maxL := ab_L M) (ret := ab_R M) m4 rfl ?_
  intro p e s m args below meth c s₁ B hml hv
  obtain ⟨rfl, hE, hP, hD⟩ := hv
  have hts := atoms_spec (ws := ab_ws M) B.pre
  have hown : s.vm.findClass (ab_N M).cls = some m.cls := findClass_of_methodNamed B.named
  rw [lg_entry_eq]
  exact hn d M 0 _ [] σ r σ' h hM p e s m _ below meth c s.heap [] _ B.exec B.bytes B.returns hml (by rw [m1]; exact hown) (fun w hw => hts w (List.mem_cons_of_mem _ hw)) B.notSynchronized hE hP hD va_S.rf (ab_ent_has ad as hlen) (ab_ent_len hlen)
theorem ab_rm_room {d y : Nat} (hy : ab_L y ≤ 13) : (ab_rm d).frames + 1 ≤ (ab_rm (d + 1)).frames ∧ 8 + (ab_L y + 11) + (ab_rm d).locals ≤ (ab_rm (d + 1)).locals := by
  refine ⟨Nat.le_refl _, ?_⟩
  show 8 + (ab_L y + 11) + 36 * d ≤ 36 * (d + 1)
  omega
theorem ab_ws_sub {y : Nat} (hy : y < 149) : ∀ w ∈ ab_ws y, w ∈ ab_gt := by
  intro w hw
  rcases List.mem_cons.mp hw with rfl | hw
  · exact ab_code_in hy
  · exact hw
set_option maxHeartbeats 8000000 in
/-- a call -/
theorem ab_sK {l : Launch} {dC : Nat → ClassId} {dI : Nat → Nat → Nat} {ad : Nat → Nat} {cA : Nat → ClassId} {n : Nat} (hn : ab_Sound l dC dI ad cA n) {p : Program} {e : Env} {s : State} {m : MethodId} {args : Array Value} {below : List Frame} {meth : Method} {c : Code} {H : Heap} {locs : List Loc} {Q : State → Prop}
    {M d pc len : Nat} {i : Instr} {la : Array Slot} {st : List Value} {σ σ1 : ab_St} {r : Option Value} {q : Nat × List Value × List Value} (hx : p.tables.exec = Jvm.exec) (hb : c.code = ab_C M) (hml : c.maxLocals = ab_L M) (hla : la.size = ab_L M) (hown : s.vm.findClass (ab_cn (ab_O M)) = some m.cls) (hts : ∀ w ∈ ab_gt, w.before args s = true) (hE : ab_Env dC dI ad cA s s.heap) (hP : va_P (dC, dI) ab_classes (ab_w ad cA σ) H) (hD : va_D (ab_Ad ad) (ab_w ad cA σ)) (hS : va_S (ab_Ad ad) s.heap H locs)
    (hdg : decode (ab_C M) pc = .ok (i, len)) (h : ab_K M i len st = some q) (hrun : ab_run n d q.1 0 (ab_ent (ab_L q.1) q.2.1) [] σ = some (r, σ1))
    (kk : ∀ (H1 : Heap) (locs1 : List Loc), va_P (dC, dI) ab_classes (ab_w ad cA σ1) H1 → va_D (ab_Ad ad) (ab_w ad cA σ1) → va_S (ab_Ad ad) s.heap H1 locs1 → W p l e (ab_rm (d + 1)) s m args below meth c H1 locs1 0 0 Q (F0 m (pc + 3) la ((r.toList ++ q.2.2).map (ab_cv ad)))) : W p l e (ab_rm (d + 1)) s m args below meth c H locs 0 0 Q (F0 m pc la (st.map (ab_cv ad))) := by
  have kk' : ∀ (H1 : Heap) (locs1 : List Loc), va_P (dC, dI) ab_classes (ab_w ad cA σ1) H1 → va_D (ab_Ad ad) (ab_w ad cA σ1) → va_S (ab_Ad ad) s.heap H1 locs1 → W p l e (ab_rm (d + 1)) s m args below meth c H1 locs1 0 0 Q (F0 m (pc + 3) la ((r.map (ab_cv ad)).toList ++ q.2.2.map (ab_cv ad))) := by
    intro H1 locs1 a1 a2 a3
    have := kk H1 locs1 a1 a2 a3
    rw [List.map_append] at this
    cases r <;> exact this
  have hpre : ∀ (as : List Value) (U : State), U.heap = H → s.WarmedH U.vm → va_Pc as (ab_B dC dI ad cA σ) as.toArray U := fun as U hU hW => ⟨rfl, ab_env_at hE hS hU hW, by rw [hU]; exact hP, hD⟩
  unfold ab_K at h
  split at h
  next idx =>
    obtain ⟨⟨y, na, kd⟩, h1, h2⟩ := Option.bind_eq_some_iff.mp h
    obtain ⟨g1, g2, g3, g4, g5, g6, g7⟩ := ab_ml_in h1
    simp only at g1 g2 g3 g4 g5 g6 g7 h2
    split at h2
    next hc =>
      cases h2
      obtain ⟨c1, c2, c3, c4⟩ := hc
      obtain ⟨m1, m2, m3, m4⟩ := ab_m_in g1 g2
      have hM := ab_met_of hn (as := (st.take na).reverse) hrun ⟨g1, g2⟩ c4
      have hst : st.map (ab_cv ad) = ((st.take na).reverse.map (ab_cv ad)).reverse ++ (st.drop na).map (ab_cv ad) := by
        rw [← List.map_reverse, List.reverse_reverse, ← List.map_append, List.take_append_drop]
      have hlen : ((st.take na).reverse.map (ab_cv ad)).length = na := by
        rw [List.length_map, List.length_reverse, List.length_take]; omega
      rcases c1 with rfl | rfl
      · obtain ⟨w1, w2⟩ := g5 rfl
        have hG : GoodIn ab_gt (va_wsS (ab_cn (ab_O M)) idx (ab_N y) (ab_ws y)) := ab_good_of (by
          intro w hw
          rcases List.mem_append.mp hw with hw | hw
          · simp only [List.mem_cons, List.not_mem_nil, or_false] at hw
            rcases hw with rfl | rfl | rfl
            · exact w1
            · exact w2
            · exact g4
          · exact ab_ws_sub g1 w hw)
        exact ab_call (va_runS (As := (st.take na).reverse.map (ab_cv ad)) (rest := (st.drop na).map (ab_cv ad)) ⟨hx, hb, hml, hown, hts⟩ hM (va_cwS na hts hG rfl rfl rfl ⟨m3.1, m3.2, g3⟩ (ab_rm_room m2)) ⟨ab_blind, hpre _⟩ rfl hlen hla hst (lv_room (by rw [ab_sum]; exact c3)) hdg ⟨Nat.le_refl 0, Nat.le_refl 0⟩) hS kk'
      · obtain ⟨w1, w2⟩ := g7 rfl
        exact ab_call (va_runSN (As := (st.take na).reverse.map (ab_cv ad)) (rest := (st.drop na).map (ab_cv ad)) ⟨hx, hb, hml, hown, hts⟩ hM ⟨va_cnB na hts (ab_good_of (ab_ws_sub g1)) rfl rfl rfl (hE.2.1 _ w1) (hts _ g4) ⟨m3.1, m3.2, g3⟩ (ab_rm_room m2), hts _ w2, trivial⟩ ⟨ab_blind, hpre _⟩ rfl hlen hla hst (lv_room (by rw [ab_sum]; exact c3)) hdg ⟨Nat.le_refl 0, Nat.le_refl 0⟩) hS kk'
    next => cases h2
  next idx =>
    obtain ⟨⟨y, na, kd⟩, h1, h2⟩ := Option.bind_eq_some_iff.mp h
    obtain ⟨g1, g2, g3, g4, g5, g6, g7⟩ := ab_ml_in h1
    simp only at g1 g2 g3 g4 g5 g6 g7 h2
    split at h2
    next hc =>
      cases h2
      obtain ⟨rfl, c2, c3, c4, c5⟩ := hc
      obtain ⟨m1, m2, m3, m4⟩ := ab_m_in g1 g2
      have hM := ab_met_of hn (as := (st.take (na + 1)).reverse) hrun ⟨g1, g2⟩ c4
      obtain ⟨w1, w2, w3, ⟨T, w4⟩, w5⟩ := g6 rfl
      cases has : (st.take (na + 1)).reverse with
      | nil => rw [has] at c5; cases c5
      | cons v as =>
        rw [has] at c5 hM
        cases v with
        | ref b =>
          have hbk : ab_k b = ab_O y := by simpa [ab_recvB] using c5
          have hst : st.map (ab_cv ad) = (as.map (ab_cv ad)).reverse ++ .ref (ad b) :: (st.drop (na + 1)).map (ab_cv ad) := by
            have h5 : st.take (na + 1) = as.reverse ++ [.ref b] := by rw [← List.reverse_reverse (st.take (na + 1)), has, List.reverse_cons]
            have h6 : st = as.reverse ++ [.ref b] ++ st.drop (na + 1) := by rw [← h5, List.take_append_drop]
            conv => lhs; rw [h6]
            simp [ab_cv]
          have hlen : (as.map (ab_cv ad)).length = na := by
            have h5 : (st.take (na + 1)).reverse.length = na + 1 := by rw [List.length_reverse, List.length_take]; omega
            rw [has, List.length_cons] at h5
            rw [List.length_map]
            omega
          have hG : GoodIn ab_gt (wsV (ab_cn (ab_O M)) idx (ab_N y).cls (ab_N y) (ab_ws y)) := ab_good_of (by
            intro w hw
            rcases List.mem_append.mp hw with hw | hw
            · simp only [List.mem_cons, List.not_mem_nil, or_false] at hw
              rcases hw with rfl | rfl | rfl | rfl
              · exact w1
              · exact w2
              · exact w3
              · exact g4
            · exact ab_ws_sub g1 w hw)
          exact ab_call (va_runV (b := ad b) (As := as.map (ab_cv ad)) (rest := (st.drop (na + 1)).map (ab_cv ad)) ⟨hx, hb, hml, hown, hts⟩ hM (cwV na hts hG rfl rfl rfl ⟨rfl, m3.1, m3.2, g3⟩ (ab_rm_room m2)) ⟨ab_blind, va_recv hE.1 hP w4 (ab_at_o ad cA σ hbk w5), hpre (.ref (ad b) :: as.map (ab_cv ad))⟩ rfl hlen hla hst (lv_room (by rw [ab_sum]; exact c3)) hdg ⟨Nat.le_refl 0, Nat.le_refl 0⟩) hS kk'
        | _ => cases c5
    next => cases h2
  · cases h
set_option maxHeartbeats 8000000 in
theorem ab_sound (l : Launch) (dC : Nat → ClassId) (dI : Nat → Nat → Nat) (ad : Nat → Nat) (cA : Nat → ClassId) : ∀ n, ab_Sound l dC dI ad cA n := by
  intro n
  induction n with
  | zero => intro d M pc ls st σ r σ' h; cases h
  | succ n ih =>
    intro d M pc ls st σ r σ' h hM p e s m args below meth c H locs la hx hb hr hml hown hts hlocks hE hP hD hS hl hn
    unfold ab_run at h
    split at h
    next => cases h
    next i len hdg =>
      split at h
      next st' hs => exact ab_sA1 hx hb hown hts hl hdg hs (ih d M (pc + len) ls st' σ r σ' h hM p e s m args below meth c H locs la hx hb hr hml hown hts hlocks hE hP hD hS hl hn)
      next =>
      split at h
      next st' hs => exact ab_sA2 hx hb hdg hs (ih d M (pc + len) ls st' σ r σ' h hM p e s m args below meth c H locs la hx hb hr hml hown hts hlocks hE hP hD hS hl hn)
      next =>
      split at h
      next st' hs => exact ab_sX hx hb (by rw [hml]; exact hl.1.symm) hown hts hdg hs (ih d M (pc + len) ls st' σ r σ' h hM p e s m args below meth c H locs la hx hb hr hml hown hts hlocks hE hP hD hS hl hn)
      next =>
      split at h
      next q hs => exact ab_sS hx hb hl hn hdg hs (fun la' hl' hn' => ih d M (pc + len) q.1 q.2 σ r σ' h hM p e s m args below meth c H locs la' hx hb hr hml hown hts hlocks hE hP hD hS hl' hn')
      next =>
      split at h
      next q hs => exact ab_sJ hx hb hdg hs (ih d M q.1 ls q.2 σ r σ' h hM p e s m args below meth c H locs la hx hb hr hml hown hts hlocks hE hP hD hS hl hn)
      next =>
      split at h
      next q hs => exact ab_sH hx hb (by rw [hml]; exact hl.1.symm) hown hts hE hP hD hS hdg hs (fun H1 locs1 a1 a2 a3 => ih d M (pc + len) ls q.1 q.2 r σ' h hM p e s m args below meth c H1 locs1 la hx hb hr hml hown hts hlocks hE a1 a2 a3 hl hn)
      next =>
      split at h
      next r1 hs => cases h; exact ab_sE (d := d) hx hb hr hlocks hE hP hD hS hdg hs
      next =>
      split at h
      next q d' hs _ _ =>
        split at h
        next w hw => exact ab_sK ih hx hb hml hl.1 hown hts hE hP hD hS hdg hs (r := w.1) (σ1 := w.2) hw (fun H1 locs1 a1 a2 a3 => ih (d' + 1) M (pc + 3) ls (w.1.toList ++ q.2.2) w.2 r σ' h hM p e s m args below meth c H1 locs1 la hx hb hr hml hown hts hlocks hE a1 a2 a3 hl hn)
        next => cases h
      next => cases h
/-- the contract of a method, out of its run -/
theorem ab_met {l : Launch} {dC : Nat → ClassId} {dI : Nat → Nat → Nat} {ad : Nat → Nat} {cA : Nat → ClassId} {n d M : Nat} {as : List Value} {σ : ab_St} {r : Option Value} {σ' : ab_St} (h : ab_run n d M 0 (ab_ent (ab_L M) as) [] σ = some (r, σ')) (hM : ab_ok M) (hlen : (ab_sl as).length ≤ ab_L M) :
    Met l (ab_N M) (ab_ws M) (ab_rm d) (va_Pc (as.map (ab_cv ad)) (ab_B dC dI ad cA σ)) (ab_Q dC dI ad cA r σ') 0 0 (ab_Ad ad) := ab_met_of (ab_sound l dC dI ad cA n) h hM hlen
end
section
/-! RULES OF THE SMALL MACHINE, as equations between statements -/
set_option maxHeartbeats 4000000 in
theorem ab_more1 : ∀ (n d M pc : Nat) (ls : ab_Lo) (st : List Value) (σ : ab_St) (x : Option Value × ab_St), ab_run n d M pc ls st σ = some x → ab_run (n + 1) d M pc ls st σ = some x := by
  intro n
  induction n with
  | zero => intro d M pc ls st σ x h; cases h
  | succ n ih =>
    intro d M pc ls st σ x h
    rw [ab_run] at h
    rw [show ab_run (n + 1 + 1) d M pc ls st σ = _ from by rw [ab_run]]
    split at h
    next => cases h
    next i len hdg =>
      try simp only [hdg]
      split at h
      next st' hs => exact ih _ _ _ _ _ _ _ h
      next hs =>
      try simp only [hs]
      split at h
      next st' hs => exact ih _ _ _ _ _ _ _ h
      next hs =>
      try simp only [hs]
      split at h
      next st' hs => exact ih _ _ _ _ _ _ _ h
      next hs =>
      try simp only [hs]
      split at h
      next q hs => exact ih _ _ _ _ _ _ _ h
      next hs =>
      try simp only [hs]
      split at h
      next q hs => exact ih _ _ _ _ _ _ _ h
      next hs =>
      try simp only [hs]
      split at h
      next q hs => exact ih _ _ _ _ _ _ _ h
      next hs =>
      try simp only [hs]
      split at h
      next r hs => exact h
      next hs =>
      try simp only [hs]
      split at h
      next q d' hs _ _ =>
        try simp only [hs]
        split at h
        next w hw =>
          rw [ih _ _ _ _ _ _ _ hw]
          try simp only []
          exact ih _ _ _ _ _ _ _ h
        next => cases h
      next => cases h
theorem ab_more {n k d M pc : Nat} {ls : ab_Lo} {st : List Value} {σ : ab_St} {x : Option Value × ab_St} (h : ab_run n d M pc ls st σ = some x) : ab_run (n + k) d M pc ls st σ = some x := by
  induction k with
  | zero => exact h
  | succ k ih => exact ab_more1 _ _ _ _ _ _ _ _ ih
def Ev (d M pc : Nat) (ls : ab_Lo) (st : List Value) (σ : ab_St) (Q : Option Value → ab_St → Prop) : Prop := ∃ (n : Nat) (r : Option Value) (σ' : ab_St), ab_run n d M pc ls st σ = some (r, σ') ∧ Q r σ'
theorem Ev.mono {d M pc : Nat} {ls : ab_Lo} {st : List Value} {σ : ab_St} {P Q : Option Value → ab_St → Prop} (h : Ev d M pc ls st σ P) (hq : ∀ r σ', P r σ' → Q r σ') : Ev d M pc ls st σ Q := by
  obtain ⟨n, r, σ', h1, h2⟩ := h
  exact ⟨n, r, σ', h1, hq r σ' h2⟩
section EV
variable {d M pc : Nat} {ls : ab_Lo} {st : List Value} {σ : ab_St} {Q : Option Value → ab_St → Prop}
theorem ev_go {d' M' pc' : Nat} {ls' : ab_Lo} {st' : List Value} {σ' : ab_St} (h : ∀ n, ab_run (n + 1) d M pc ls st σ = ab_run n d' M' pc' ls' st' σ') : Ev d M pc ls st σ Q = Ev d' M' pc' ls' st' σ' Q := by
  apply propext
  constructor
  · rintro ⟨n, r, τ, h1, h2⟩
    cases n with
    | zero => cases h1
    | succ n => exact ⟨n, r, τ, by rw [← h n]; exact h1, h2⟩
  · rintro ⟨n, r, τ, h1, h2⟩
    exact ⟨n + 1, r, τ, by rw [h n]; exact h1, h2⟩
theorem ev_stuck (h : ∀ n, ab_run (n + 1) d M pc ls st σ = none) : Ev d M pc ls st σ Q = False := by
  apply propext
  constructor
  · rintro ⟨n, r, τ, h1, h2⟩
    cases n with
    | zero => cases h1
    | succ n => rw [h n] at h1; cases h1
  · exact False.elim
theorem ev_and {c : Prop} [Decidable c] {d' M' pc' : Nat} {ls' : ab_Lo} {st' : List Value} {σ' : ab_St} (h : ∀ n, ab_run (n + 1) d M pc ls st σ = if c then ab_run n d' M' pc' ls' st' σ' else none) : Ev d M pc ls st σ Q = (c ∧ Ev d' M' pc' ls' st' σ' Q) := by
  by_cases hc : c
  · rw [ev_go (fun n => by rw [h n, if_pos hc]), eq_true hc, true_and]
  · rw [ev_stuck (fun n => by rw [h n, if_neg hc]), eq_false hc, false_and]
variable {i : Instr} {len : Nat} {st' : List Value}
theorem ev_A1 (hd : decode (ab_C M) pc = .ok (i, len)) (h : ab_A1 M i len ls st = some st') : Ev d M pc ls st σ Q = Ev d M (pc + len) ls st' σ Q :=
  ev_go (fun n => by rw [ab_run]; simp only [hd, h])
theorem ev_A2 (hd : decode (ab_C M) pc = .ok (i, len)) (h1 : ab_A1 M i len ls st = none) (h : ab_A2 i len st = some st') : Ev d M pc ls st σ Q = Ev d M (pc + len) ls st' σ Q :=
  ev_go (fun n => by rw [ab_run]; simp only [hd, h, h1])
theorem ev_S {ls' : ab_Lo} (hd : decode (ab_C M) pc = .ok (i, len)) (h1 : ab_A1 M i len ls st = none) (h2 : ab_A2 i len st = none) (h3 : ab_X d M i len st = none) (h : ab_S i len ls st = some (ls', st')) : Ev d M pc ls st σ Q = Ev d M (pc + len) ls' st' σ Q :=
  ev_go (fun n => by rw [ab_run]; simp only [hd, h, h1, h2, h3])
theorem ev_J {pc' : Nat} (hd : decode (ab_C M) pc = .ok (i, len)) (h1 : ab_A1 M i len ls st = none) (h2 : ab_A2 i len st = none) (h3 : ab_X d M i len st = none) (h4 : ab_S i len ls st = none) (h : ab_J i len pc st = some (pc', st')) : Ev d M pc ls st σ Q = Ev d M pc' ls st' σ Q :=
  ev_go (fun n => by rw [ab_run]; simp only [hd, h, h1, h2, h3, h4])
/-- a jump with two ends -/
theorem ev_B {c : Prop} [Decidable c] {a b : Nat} (hd : decode (ab_C M) pc = .ok (i, len)) (h1 : ab_A1 M i len ls st = none) (h2 : ab_A2 i len st = none) (h3 : ab_X d M i len st = none) (h4 : ab_S i len ls st = none) (h : ab_J i len pc st = some (if c then a else b, st')) : Ev d M pc ls st σ Q = if c then Ev d M a ls st' σ Q else Ev d M b ls st' σ Q := by
  rw [ev_J hd h1 h2 h3 h4 h]
  split <;> rfl
/-- arithmetic that may fail -/
theorem ev_D {c : Prop} [Decidable c] (hd : decode (ab_C M) pc = .ok (i, len)) (h1 : ab_A1 M i len ls st = none) (h : ab_A2 i len st = if c then none else some st') (h3 : ab_X d M i len st = none) (h4 : ab_S i len ls st = none) (h5 : ab_J i len pc st = none) (h6 : ab_H d M i len st σ = none) (h7 : ab_E M i len st = none) (h8 : ab_K M i len st = none) : Ev d M pc ls st σ Q = (¬ c ∧ Ev d M (pc + len) ls st' σ Q) :=
  ev_and (c := ¬ c) (fun n => by
    rw [ab_run]
    by_cases hc : c
    · rw [if_pos hc] at h
      rw [if_neg (fun z => z hc)]
      simp only [hd, h1, h, h3, h4, h5, h6, h7, h8]
    · rw [if_neg hc] at h
      rw [if_pos hc]
      simp only [hd, h1, h])
theorem ev_X (hd : decode (ab_C M) pc = .ok (i, len)) (h1 : ab_A1 M i len ls st = none) (h2 : ab_A2 i len st = none) (h : ab_X d M i len st = some st') : Ev d M pc ls st σ Q = Ev d M (pc + len) ls st' σ Q :=
  ev_go (fun n => by rw [ab_run]; simp only [hd, h1, h2, h])
theorem ev_H {σ' : ab_St} (hd : decode (ab_C M) pc = .ok (i, len)) (h1 : ab_A1 M i len ls st = none) (h2 : ab_A2 i len st = none) (h3 : ab_X d M i len st = none) (h4 : ab_S i len ls st = none) (h5 : ab_J i len pc st = none) (h : ab_H d M i len st σ = some (st', σ')) : Ev d M pc ls st σ Q = Ev d M (pc + len) ls st' σ' Q :=
  ev_go (fun n => by rw [ab_run]; simp only [hd, h1, h2, h3, h4, h5, h])
theorem ev_Hc {c : Prop} [Decidable c] {σ' : ab_St} (hd : decode (ab_C M) pc = .ok (i, len)) (h1 : ab_A1 M i len ls st = none) (h2 : ab_A2 i len st = none) (h3 : ab_X d M i len st = none) (h4 : ab_S i len ls st = none) (h5 : ab_J i len pc st = none) (h : ab_H d M i len st σ = if c then some (st', σ') else none) (h7 : ab_E M i len st = none) (h8 : ab_K M i len st = none) : Ev d M pc ls st σ Q = (c ∧ Ev d M (pc + len) ls st' σ' Q) :=
  ev_and (fun n => by
    rw [ab_run]
    by_cases hc : c
    · rw [if_pos hc] at h
      rw [if_pos hc]
      simp only [hd, h1, h2, h3, h4, h5, h]
    · rw [if_neg hc] at h
      rw [if_neg hc]
      simp only [hd, h1, h2, h3, h4, h5, h, h7, h8])
theorem ev_E {r : Option Value} (hd : decode (ab_C M) pc = .ok (i, len)) (h1 : ab_A1 M i len ls st = none) (h2 : ab_A2 i len st = none) (h3 : ab_X d M i len st = none) (h4 : ab_S i len ls st = none) (h5 : ab_J i len pc st = none) (h6 : ab_H d M i len st σ = none) (h : ab_E M i len st = some r) : Ev d M pc ls st σ Q = Q r σ := by
  have hr : ∀ n, ab_run (n + 1) d M pc ls st σ = some (r, σ) := fun n => by rw [ab_run]; simp only [hd, h1, h2, h3, h4, h5, h6, h]
  apply propext
  constructor
  · rintro ⟨n, r1, τ, h1, h2⟩
    cases n with
    | zero => cases h1
    | succ n => rw [hr n] at h1; cases h1; exact h2
  · intro hq
    exact ⟨1, r, σ, hr 0, hq⟩
/-- the end of a method that answers yes or no -/
theorem ev_Z {x : Int32} (hd : decode (ab_C M) pc = .ok (.ireturn, 1)) (hR : ab_R M = some .boolean) : Ev d M pc ls [.int x] σ Q = ((x = 0 ∨ x = 1) ∧ Q (some (.int x)) σ) := by
  by_cases hc : x = 0 ∨ x = 1
  · rw [ev_E (r := some (.int x)) hd rfl rfl rfl rfl rfl rfl (by show (if ab_R M = some .int then _ else if ab_R M = some .boolean then _ else _) = _; rw [hR, if_neg (by decide), if_pos rfl, if_pos hc]), eq_true hc, true_and]
  · rw [eq_false hc, false_and]
    refine ev_stuck (fun n => ?_)
    rw [ab_run]
    have h7 : ab_E M .ireturn 1 [.int x] = none := by show (if ab_R M = some .int then _ else if ab_R M = some .boolean then _ else _) = _; rw [hR, if_neg (by decide), if_pos rfl, if_neg hc]
    have h1 : ab_A1 M .ireturn 1 ls [.int x] = none := rfl
    have h2 : ab_A2 .ireturn 1 [.int x] = none := rfl
    have h3 : ab_X d M .ireturn 1 [.int x] = none := rfl
    have h4 : ab_S .ireturn 1 ls [.int x] = none := rfl
    have h5 : ab_J .ireturn 1 pc [.int x] = none := rfl
    have h6 : ab_H d M .ireturn 1 [.int x] σ = none := rfl
    have h8 : ab_K M .ireturn 1 [.int x] = none := rfl
    simp only [hd, h1, h2, h3, h4, h5, h6, h7, h8]
theorem ev_K0 {y : Nat} {as rest : List Value} (hd : decode (ab_C M) pc = .ok (i, len)) (h1 : ab_A1 M i len ls st = none) (h2 : ab_A2 i len st = none) (h3 : ab_X (d + 1) M i len st = none) (h4 : ab_S i len ls st = none) (h5 : ab_J i len pc st = none) (h6 : ab_H (d + 1) M i len st σ = none) (h7 : ab_E M i len st = none) (h : ab_K M i len st = some (y, as, rest)) :
    Ev (d + 1) M pc ls st σ Q = Ev d y 0 (ab_ent (ab_L y) as) [] σ (fun r σ' => Ev (d + 1) M (pc + 3) ls (r.toList ++ rest) σ' Q) := by
  have hr : ∀ n, ab_run (n + 1) (d + 1) M pc ls st σ = match ab_run n d y 0 (ab_ent (ab_L y) as) [] σ with
      | some w => ab_run n (d + 1) M (pc + 3) ls (w.1.toList ++ rest) w.2
      | none => none := fun n => by
    rw [ab_run]
    simp only [hd, h1, h2, h3, h4, h5, h6, h7, h]
    rfl
  apply propext
  constructor
  · rintro ⟨n, r1, τ, h1, h2⟩
    cases n with
    | zero => cases h1
    | succ n =>
      rw [hr n] at h1
      split at h1
      next w hw => exact ⟨n, w.1, w.2, hw, n, r1, τ, h1, h2⟩
      next => cases h1
  · rintro ⟨n, r1, τ, h1, n2, r2, τ2, h2, h3⟩
    refine ⟨n + n2 + 1, r2, τ2, ?_, h3⟩
    rw [hr (n + n2), ab_more (k := n2) h1]
    simp only
    rw [Nat.add_comm n n2]
    exact ab_more (k := n) h2
/-- a call of an object's method -/
theorem ev_K1 {c : Prop} [Decidable c] {y : Nat} {as rest : List Value} (hd : decode (ab_C M) pc = .ok (i, len)) (h1 : ab_A1 M i len ls st = none) (h2 : ab_A2 i len st = none) (h3 : ab_X (d + 1) M i len st = none) (h4 : ab_S i len ls st = none) (h5 : ab_J i len pc st = none) (h6 : ab_H (d + 1) M i len st σ = none) (h7 : ab_E M i len st = none) (h : c → ab_K M i len st = some (y, as, rest)) (hn : ¬ c → ab_K M i len st = none) :
    Ev (d + 1) M pc ls st σ Q = (c ∧ Ev d y 0 (ab_ent (ab_L y) as) [] σ (fun r σ' => Ev (d + 1) M (pc + 3) ls (r.toList ++ rest) σ' Q)) := by
  by_cases hc : c
  · rw [ev_K0 hd h1 h2 h3 h4 h5 h6 h7 (h hc), eq_true hc, true_and]
  · rw [eq_false hc, false_and]
    refine ev_stuck (fun n => ?_)
    rw [ab_run]
    have h8 := hn hc
    simp only [hd, h1, h2, h3, h4, h5, h6, h7, h8]
theorem ab_K_v {idx y na b : Nat} {as rest : List Value} (hml : ab_ml (ab_O M) idx = some (y, na, 1)) (hst : (st.take (na + 1)).reverse = .ref b :: as) (hrest : st.drop (na + 1) = rest) (hlen : na + 1 ≤ st.length) (hsum : (rest.map fun v => v.category).sum ≤ 8) (hsl : (ab_sl (.ref b :: as)).length ≤ ab_L y) : (ab_k b = ab_O y → ab_K M (.invokevirtual idx) 3 st = some (y, .ref b :: as, rest)) ∧ (¬ ab_k b = ab_O y → ab_K M (.invokevirtual idx) 3 st = none) := by
  have e : ab_K M (.invokevirtual idx) 3 st = (ab_ml (ab_O M) idx).bind (fun q => if q.2.2 = 1 ∧ q.2.1 + 1 ≤ st.length ∧ ((st.drop (q.2.1 + 1)).map fun v => v.category).sum ≤ 8 ∧ (ab_sl (st.take (q.2.1 + 1)).reverse).length ≤ ab_L q.1 ∧ ab_recvB q.1 (st.take (q.2.1 + 1)).reverse = true then some (q.1, (st.take (q.2.1 + 1)).reverse, st.drop (q.2.1 + 1)) else none) := rfl
  rw [e, hml]
  simp only [Option.bind_some, hst, hrest]
  constructor
  · intro h
    rw [if_pos ⟨trivial, hlen, hsum, hsl, by simpa [ab_recvB] using h⟩]
  · intro h
    rw [if_neg (fun z => h (by simpa [ab_recvB] using z.2.2.2.2))]
theorem ev_KV {idx y na b : Nat} {as rest : List Value} (hd : decode (ab_C M) pc = .ok (.invokevirtual idx, 3)) (hml : ab_ml (ab_O M) idx = some (y, na, 1)) (hst : (st.take (na + 1)).reverse = .ref b :: as) (hrest : st.drop (na + 1) = rest) (hlen : na + 1 ≤ st.length) (hsum : (rest.map fun v => v.category).sum ≤ 8) (hsl : (ab_sl (.ref b :: as)).length ≤ ab_L y)
    (h1 : ab_A1 M (.invokevirtual idx) 3 ls st = none) (h2 : ab_A2 (.invokevirtual idx) 3 st = none) (h3 : ab_X (d + 1) M (.invokevirtual idx) 3 st = none) (h4 : ab_S (.invokevirtual idx) 3 ls st = none) (h5 : ab_J (.invokevirtual idx) 3 pc st = none) (h6 : ab_H (d + 1) M (.invokevirtual idx) 3 st σ = none) (h7 : ab_E M (.invokevirtual idx) 3 st = none) :
    Ev (d + 1) M pc ls st σ Q = (ab_k b = ab_O y ∧ Ev d y 0 (ab_ent (ab_L y) (.ref b :: as)) [] σ (fun r σ' => Ev (d + 1) M (pc + 3) ls (r.toList ++ rest) σ' Q)) :=
  ev_K1 hd h1 h2 h3 h4 h5 h6 h7 (ab_K_v hml hst hrest hlen hsum hsl).1 (ab_K_v hml hst hrest hlen hsum hsl).2
/-- a store into a row of bytes or of yes and no -/
theorem ev_bast {c j : Nat} {x k : Int32} {rest : List Value} (hd : decode (ab_C M) pc = .ok (.bastore, 1)) : Ev d M pc ls (.int x :: .int k :: .ref c :: rest) σ Q = if ab_k c = 101 ∧ ab_in k (ab_n c) then Ev d M (pc + 1) ls rest (ab_wI σ c (upd (σ.1 c) k.toNatClampNeg (vp_nar .byte x))) Q else ((ab_k c = 102 ∧ ab_in k (ab_n c)) ∧ Ev d M (pc + 1) ls rest (ab_wI σ c (upd (σ.1 c) k.toNatClampNeg (vp_nar .boolean x))) Q) := by
  by_cases h : ab_k c = 101 ∧ ab_in k (ab_n c)
  · rw [if_pos h]
    exact ev_H hd rfl rfl rfl rfl rfl (if_pos h)
  · rw [if_neg h]
    exact ev_Hc hd rfl rfl rfl rfl rfl (if_neg h) rfl rfl
end EV
theorem ab_X_ok {d M idx k : Nat} {x y : Int32} {st : List Value} (h : ab_mm (ab_O M) idx = some k) (hs : (st.map fun v => v.category).sum ≤ 8) : ab_X (d + 1) M (.invokestatic idx) 3 (.int y :: .int x :: st) = some (.int (if k = 0 then (if x < y then y else x) else (if y < x then y else x)) :: st) := by
  show (ab_mm (ab_O M) idx).bind _ = _
  rw [h]
  exact if_pos ⟨Nat.succ_pos d, hs⟩
theorem ev_ac {d M pc idx : Nat} {ls : ab_Lo} {rest : List Value} {σ : ab_St} {Q : Option Value → ab_St → Prop} {n dp sp : Int32} {c c0 : Nat} (hd : decode (ab_C M) pc = .ok (.invokestatic idx, 3)) (ha : ab_ac (ab_O M) idx = true) (hs : (rest.map fun v => v.category).sum ≤ 8) (hmm : ab_mm (ab_O M) idx = none) (hml : ab_ml (ab_O M) idx = none) :
    Ev (d + 1) M pc ls (.int n :: .int dp :: .ref c :: .int sp :: .ref c0 :: rest) σ Q = (((ab_k c0 = 100 ∧ ab_k c = 100) ∧ (¬ sp < 0 ∧ ¬ dp < 0 ∧ ¬ n < 0) ∧ sp.toNatClampNeg + n.toNatClampNeg ≤ ab_n c0 ∧ dp.toNatClampNeg + n.toNatClampNeg ≤ ab_n c) ∧ Ev (d + 1) M (pc + 3) ls rest (ab_wI σ c (va_cpy (σ.1 c0) (σ.1 c) sp.toNatClampNeg dp.toNatClampNeg n.toNatClampNeg)) Q) := by
  have hX : ab_X (d + 1) M (.invokestatic idx) 3 (.int n :: .int dp :: .ref c :: .int sp :: .ref c0 :: rest) = none := by
    show (ab_mm (ab_O M) idx).bind _ = _
    rw [hmm]
    rfl
  have hK : ab_K M (.invokestatic idx) 3 (.int n :: .int dp :: .ref c :: .int sp :: .ref c0 :: rest) = none := by
    show (ab_ml (ab_O M) idx).bind _ = _
    rw [hml]
    rfl
  refine ev_Hc hd rfl rfl hX rfl rfl ?_ rfl hK
  show (if ab_ac (ab_O M) idx = true then _ else none) = _
  rw [if_pos ha]
  by_cases hc : (ab_k c0 = 100 ∧ ab_k c = 100) ∧ (¬ sp < 0 ∧ ¬ dp < 0 ∧ ¬ n < 0) ∧ sp.toNatClampNeg + n.toNatClampNeg ≤ ab_n c0 ∧ dp.toNatClampNeg + n.toNatClampNeg ≤ ab_n c
  · rw [if_pos hc, if_pos ⟨Nat.succ_pos d, hc.1, hc.2.1, hc.2.2.1, hc.2.2.2, hs⟩]
  · rw [if_neg hc, if_neg (fun z => hc ⟨z.2.1, z.2.2.1, z.2.2.2.1, z.2.2.2.2.1⟩)]
/-- a jump by a table from 0 on -/
def ab_sw (x : Int32) (df : Nat) (G : Nat → Prop) : Nat → List Nat → Prop
  | _, [] => G df
  | k, t :: ts => if x = Int32.ofNat k then G t else ab_sw x df G (k + 1) ts
theorem ab_sw_out {x : Int32} {df : Nat} {G : Nat → Prop} : ∀ (ts : List Nat) (k0 : Nat), (∀ k, k < ts.length → ¬ x = Int32.ofNat (k0 + k)) → ab_sw x df G k0 ts = G df := by
  intro ts
  induction ts with
  | nil => intro k0 _; rfl
  | cons t ts ih =>
    intro k0 h
    show (if x = Int32.ofNat k0 then G t else ab_sw x df G (k0 + 1) ts) = G df
    have h00 : ¬ x = Int32.ofNat k0 := h 0 (Nat.succ_pos _)
    rw [if_neg h00, ih (k0 + 1) (fun k hk => by
      have := h (k + 1) (by rw [List.length_cons]; omega)
      rwa [show k0 + (k + 1) = k0 + 1 + k by omega] at this)]
theorem ab_sw_at {x : Int32} {df : Nat} {G : Nat → Prop} : ∀ (ts : List Nat) (k0 k : Nat) (t : Nat), ts[k]? = some t → x = Int32.ofNat (k0 + k) → k0 + ts.length ≤ 100 → ab_sw x df G k0 ts = G t := by
  intro ts
  induction ts with
  | nil => intro k0 k t h; simp at h
  | cons a ts ih =>
    intro k0 k t h hx hl
    show (if x = Int32.ofNat k0 then G a else ab_sw x df G (k0 + 1) ts) = G t
    rw [List.length_cons] at hl
    cases k with
    | zero =>
      have hx0 : x = Int32.ofNat k0 := hx
      rw [if_pos hx0]
      simp only [List.getElem?_cons_zero, Option.some.injEq] at h
      rw [h]
    | succ k =>
      rw [List.getElem?_cons_succ] at h
      have hk : k < ts.length := (List.getElem?_eq_some_iff.mp h).1
      have hne : ¬ x = Int32.ofNat k0 := by
        rw [hx]
        intro e
        have e : nI (k0 + (k + 1)) = nI k0 := e
        rw [nI_eq (by omega) (by omega)] at e
        omega
      rw [if_neg hne]
      exact ih (k0 + 1) k t h (by rw [hx]; congr 1; omega) (by omega)
theorem ev_T {d M pc df len : Nat} {ls : ab_Lo} {rest : List Value} {σ : ab_St} {Q : Option Value → ab_St → Prop} {x : Int32} {dflt hi : Int} {offs : Array Int} {ts : List Nat} (hd : decode (ab_C M) pc = .ok (.tableswitch dflt 0 hi offs, len))
    (hc : ts = offs.toList.map (ab_to pc) ∧ (∀ o ∈ offs.toList, 0 ≤ (pc : Int) + o) ∧ df = ab_to pc dflt ∧ 0 ≤ (pc : Int) + dflt ∧ hi + 1 = offs.toList.length ∧ offs.toList.length ≤ 100) : Ev d M pc ls (.int x :: rest) σ Q = ab_sw x df (fun t => Ev d M t ls rest σ Q) 0 ts := by
  obtain ⟨h1, h2, h3, h4, h5, h6⟩ := hc
  have hlen : ts.length = offs.toList.length := by rw [h1, List.length_map]
  by_cases hz : x.toInt < 0 ∨ hi < x.toInt
  · rw [ab_sw_out ts 0 (fun k hk e => by
      have e1 : x.toInt = (k : Int) := by rw [e, Nat.zero_add]; exact nI_toInt (by omega)
      omega), h3]
    refine ev_J hd rfl rfl rfl rfl ?_
    show (ab_tsw dflt 0 hi offs x).bind _ = _
    unfold ab_tsw
    rw [if_pos hz]
    exact if_pos h4
  · have hx : x = Int32.ofNat (0 + x.toInt.toNat) := by
      rw [Nat.zero_add]
      apply Int32.toInt_inj.mp
      have : (nI x.toInt.toNat).toInt = (x.toInt.toNat : Int) := nI_toInt (by omega)
      rw [show Int32.ofNat x.toInt.toNat = nI x.toInt.toNat from rfl, this]
      omega
    have hk : x.toInt.toNat < offs.toList.length := by omega
    have ho : offs.toList[x.toInt.toNat]? = some offs.toList[x.toInt.toNat] := List.getElem?_eq_getElem hk
    have ht : ts[x.toInt.toNat]? = some (ab_to pc offs.toList[x.toInt.toNat]) := by rw [h1, List.getElem?_map, ho]; rfl
    rw [ab_sw_at ts 0 _ _ ht hx (by omega)]
    refine ev_J hd rfl rfl rfl rfl ?_
    show (ab_tsw dflt 0 hi offs x).bind _ = _
    unfold ab_tsw
    have ho2 : offs[x.toInt.toNat]? = some offs.toList[x.toInt.toNat] := by rw [← ho]; exact Array.getElem?_toList.symm
    rw [if_neg hz, Int.sub_zero, ho2]
    exact if_pos (h2 _ (List.getElem_mem hk))
end
section
/-! SaidLeast.write(IJ)I -/
theorem d11_0 : decode (ab_C 11) 0 = .ok (.iload_n 1, 1) := by decide +kernel
theorem e11_0 {d : Nat} {l0 l2 l3 : Option Value} {x : Int32} {σ : ab_St} {Q : Option Value → ab_St → Prop} : Ev d 11 0 [l0, some (.int x), l2, l3] [] σ Q = Ev d 11 1 [l0, some (.int x), l2, l3] [.int x] σ Q := ev_A1 d11_0 rfl
theorem d11_1 : decode (ab_C 11) 1 = .ok (.iconst 1, 1) := by decide +kernel
theorem e11_1 {d : Nat} {l0 l1 l2 l3 : Option Value} {s0 : Int32} {σ : ab_St} {Q : Option Value → ab_St → Prop} : Ev d 11 1 [l0, l1, l2, l3] [.int s0] σ Q = Ev d 11 2 [l0, l1, l2, l3] [.int 1, .int s0] σ Q := ev_A1 d11_1 rfl
theorem d11_2 : decode (ab_C 11) 2 = .ok (.if_icmp .lt 9, 3) := by decide +kernel
theorem e11_2 {d : Nat} {l0 l1 l2 l3 : Option Value} {s0 : Int32} {s1 : Int32} {σ : ab_St} {Q : Option Value → ab_St → Prop} : Ev d 11 2 [l0, l1, l2, l3] [.int s0, .int s1] σ Q = if s1 < s0 then Ev d 11 11 [l0, l1, l2, l3] [] σ Q else Ev d 11 5 [l0, l1, l2, l3] [] σ Q := ev_B (c := s1 < s0) d11_2 rfl rfl rfl rfl rfl
theorem d11_5 : decode (ab_C 11) 5 = .ok (.iload_n 1, 1) := by decide +kernel
theorem e11_5 {d : Nat} {l0 l2 l3 : Option Value} {x : Int32} {σ : ab_St} {Q : Option Value → ab_St → Prop} : Ev d 11 5 [l0, some (.int x), l2, l3] [] σ Q = Ev d 11 6 [l0, some (.int x), l2, l3] [.int x] σ Q := ev_A1 d11_5 rfl
theorem d11_6 : decode (ab_C 11) 6 = .ok (.bipush 8, 2) := by decide +kernel
theorem e11_6 {d : Nat} {l0 l1 l2 l3 : Option Value} {s0 : Int32} {σ : ab_St} {Q : Option Value → ab_St → Prop} : Ev d 11 6 [l0, l1, l2, l3] [.int s0] σ Q = Ev d 11 8 [l0, l1, l2, l3] [.int 8, .int s0] σ Q := ev_A1 d11_6 rfl
theorem d11_8 : decode (ab_C 11) 8 = .ok (.if_icmp .le 6, 3) := by decide +kernel
theorem e11_8 {d : Nat} {l0 l1 l2 l3 : Option Value} {s0 : Int32} {s1 : Int32} {σ : ab_St} {Q : Option Value → ab_St → Prop} : Ev d 11 8 [l0, l1, l2, l3] [.int s0, .int s1] σ Q = if s1 ≤ s0 then Ev d 11 14 [l0, l1, l2, l3] [] σ Q else Ev d 11 11 [l0, l1, l2, l3] [] σ Q := ev_B (c := s1 ≤ s0) d11_8 rfl rfl rfl rfl rfl
theorem d11_11 : decode (ab_C 11) 11 = .ok (.bipush (-2), 2) := by decide +kernel
theorem e11_11 {d : Nat} {l0 l1 l2 l3 : Option Value} {σ : ab_St} {Q : Option Value → ab_St → Prop} : Ev d 11 11 [l0, l1, l2, l3] [] σ Q = Ev d 11 13 [l0, l1, l2, l3] [.int (-2)] σ Q := ev_A1 d11_11 rfl
theorem d11_13 : decode (ab_C 11) 13 = .ok (.ireturn, 1) := by decide +kernel
theorem e11_13 {d : Nat} {l0 l1 l2 l3 : Option Value} {s0 : Int32} {σ : ab_St} {Q : Option Value → ab_St → Prop} : Ev d 11 13 [l0, l1, l2, l3] [.int s0] σ Q = Q (some (.int s0)) σ := ev_E d11_13 rfl rfl rfl rfl rfl rfl rfl
theorem d11_14 : decode (ab_C 11) 14 = .ok (.aload_n 0, 1) := by decide +kernel
theorem e11_14 {d : Nat} {l1 l2 l3 : Option Value} {x : Nat} {σ : ab_St} {Q : Option Value → ab_St → Prop} : Ev d 11 14 [some (.ref x), l1, l2, l3] [] σ Q = Ev d 11 15 [some (.ref x), l1, l2, l3] [.ref x] σ Q := ev_A1 d11_14 rfl
theorem d11_15 : decode (ab_C 11) 15 = .ok (.getfield 12, 3) := by decide +kernel
theorem e11_15 {d : Nat} {l0 l1 l2 l3 : Option Value} {s0 : Nat} {σ : ab_St} {Q : Option Value → ab_St → Prop} : Ev d 11 15 [l0, l1, l2, l3] [.ref s0] σ Q = (ab_k s0 = 0 ∧ Ev d 11 18 [l0, l1, l2, l3] [.ref (ab_r s0 0)] σ Q) := ev_Hc (c := ab_k s0 = 0) d11_15 rfl rfl rfl rfl rfl rfl rfl rfl
theorem d11_18 : decode (ab_C 11) 18 = .ok (.getfield 72, 3) := by decide +kernel
theorem e11_18 {d : Nat} {l0 l1 l2 l3 : Option Value} {s0 : Nat} {σ : ab_St} {Q : Option Value → ab_St → Prop} : Ev d 11 18 [l0, l1, l2, l3] [.ref s0] σ Q = (ab_k s0 = 1 ∧ Ev d 11 21 [l0, l1, l2, l3] [.int (σ.1 s0 1)] σ Q) := ev_Hc (c := ab_k s0 = 1) d11_18 rfl rfl rfl rfl rfl rfl rfl rfl
theorem d11_21 : decode (ab_C 11) 21 = .ok (.iload_n 1, 1) := by decide +kernel
theorem e11_21 {d : Nat} {l0 l2 l3 : Option Value} {x : Int32} {s0 : Int32} {σ : ab_St} {Q : Option Value → ab_St → Prop} : Ev d 11 21 [l0, some (.int x), l2, l3] [.int s0] σ Q = Ev d 11 22 [l0, some (.int x), l2, l3] [.int x, .int s0] σ Q := ev_A1 d11_21 rfl
theorem d11_22 : decode (ab_C 11) 22 = .ok (.iadd, 1) := by decide +kernel
theorem e11_22 {d : Nat} {l0 l1 l2 l3 : Option Value} {s0 : Int32} {s1 : Int32} {σ : ab_St} {Q : Option Value → ab_St → Prop} : Ev d 11 22 [l0, l1, l2, l3] [.int s0, .int s1] σ Q = Ev d 11 23 [l0, l1, l2, l3] [.int (s1 + s0)] σ Q := ev_A2 d11_22 rfl rfl
theorem d11_23 : decode (ab_C 11) 23 = .ok (.bipush 64, 2) := by decide +kernel
theorem e11_23 {d : Nat} {l0 l1 l2 l3 : Option Value} {s0 : Int32} {σ : ab_St} {Q : Option Value → ab_St → Prop} : Ev d 11 23 [l0, l1, l2, l3] [.int s0] σ Q = Ev d 11 25 [l0, l1, l2, l3] [.int 64, .int s0] σ Q := ev_A1 d11_23 rfl
theorem d11_25 : decode (ab_C 11) 25 = .ok (.if_icmp .le 6, 3) := by decide +kernel
theorem e11_25 {d : Nat} {l0 l1 l2 l3 : Option Value} {s0 : Int32} {s1 : Int32} {σ : ab_St} {Q : Option Value → ab_St → Prop} : Ev d 11 25 [l0, l1, l2, l3] [.int s0, .int s1] σ Q = if s1 ≤ s0 then Ev d 11 31 [l0, l1, l2, l3] [] σ Q else Ev d 11 28 [l0, l1, l2, l3] [] σ Q := ev_B (c := s1 ≤ s0) d11_25 rfl rfl rfl rfl rfl
theorem d11_28 : decode (ab_C 11) 28 = .ok (.bipush (-4), 2) := by decide +kernel
theorem e11_28 {d : Nat} {l0 l1 l2 l3 : Option Value} {σ : ab_St} {Q : Option Value → ab_St → Prop} : Ev d 11 28 [l0, l1, l2, l3] [] σ Q = Ev d 11 30 [l0, l1, l2, l3] [.int (-4)] σ Q := ev_A1 d11_28 rfl
theorem d11_30 : decode (ab_C 11) 30 = .ok (.ireturn, 1) := by decide +kernel
theorem e11_30 {d : Nat} {l0 l1 l2 l3 : Option Value} {s0 : Int32} {σ : ab_St} {Q : Option Value → ab_St → Prop} : Ev d 11 30 [l0, l1, l2, l3] [.int s0] σ Q = Q (some (.int s0)) σ := ev_E d11_30 rfl rfl rfl rfl rfl rfl rfl
theorem d11_31 : decode (ab_C 11) 31 = .ok (.aload_n 0, 1) := by decide +kernel
theorem e11_31 {d : Nat} {l1 l2 l3 : Option Value} {x : Nat} {σ : ab_St} {Q : Option Value → ab_St → Prop} : Ev d 11 31 [some (.ref x), l1, l2, l3] [] σ Q = Ev d 11 32 [some (.ref x), l1, l2, l3] [.ref x] σ Q := ev_A1 d11_31 rfl
theorem d11_32 : decode (ab_C 11) 32 = .ok (.getfield 12, 3) := by decide +kernel
theorem e11_32 {d : Nat} {l0 l1 l2 l3 : Option Value} {s0 : Nat} {σ : ab_St} {Q : Option Value → ab_St → Prop} : Ev d 11 32 [l0, l1, l2, l3] [.ref s0] σ Q = (ab_k s0 = 0 ∧ Ev d 11 35 [l0, l1, l2, l3] [.ref (ab_r s0 0)] σ Q) := ev_Hc (c := ab_k s0 = 0) d11_32 rfl rfl rfl rfl rfl rfl rfl rfl
theorem d11_35 : decode (ab_C 11) 35 = .ok (.iload_n 1, 1) := by decide +kernel
theorem e11_35 {d : Nat} {l0 l2 l3 : Option Value} {x : Int32} {s0 : Nat} {σ : ab_St} {Q : Option Value → ab_St → Prop} : Ev d 11 35 [l0, some (.int x), l2, l3] [.ref s0] σ Q = Ev d 11 36 [l0, some (.int x), l2, l3] [.int x, .ref s0] σ Q := ev_A1 d11_35 rfl
theorem d11_36 : decode (ab_C 11) 36 = .ok (.lload_n 2, 1) := by decide +kernel
theorem e11_36 {d : Nat} {l0 l1 : Option Value} {x : Int64} {s0 : Int32} {s1 : Nat} {σ : ab_St} {Q : Option Value → ab_St → Prop} : Ev d 11 36 [l0, l1, some (.long x), none] [.int s0, .ref s1] σ Q = Ev d 11 37 [l0, l1, some (.long x), none] [.long x, .int s0, .ref s1] σ Q := ev_A1 d11_36 rfl
theorem d11_37 : decode (ab_C 11) 37 = .ok (.invokevirtual 76, 3) := by decide +kernel
theorem e11_37 {d : Nat} {l0 l1 l2 l3 : Option Value} {s0 : Int64} {s1 : Int32} {s2 : Nat} {σ : ab_St} {Q : Option Value → ab_St → Prop} : Ev (d + 1) 11 37 [l0, l1, l2, l3] [.long s0, .int s1, .ref s2] σ Q = (ab_k s2 = 1 ∧ Ev d 12 0 [some (.ref s2), some (.int s1), some (.long s0), none, none] [] σ (fun r σ2 => Ev (d + 1) 11 40 [l0, l1, l2, l3] (r.toList ++ []) σ2 Q)) := ev_KV (b := s2) (ls := [l0, l1, l2, l3]) (st := [.long s0, .int s1, .ref s2]) (as := [.int s1, .long s0]) (rest := []) d11_37 rfl rfl rfl (Nat.le_of_ble_eq_true rfl) (Nat.le_of_ble_eq_true rfl) (Nat.le_of_ble_eq_true rfl) rfl rfl rfl rfl rfl rfl rfl
theorem d11_40 : decode (ab_C 11) 40 = .ok (.aload_n 0, 1) := by decide +kernel
theorem e11_40 {d : Nat} {l1 l2 l3 : Option Value} {x : Nat} {σ : ab_St} {Q : Option Value → ab_St → Prop} : Ev d 11 40 [some (.ref x), l1, l2, l3] [] σ Q = Ev d 11 41 [some (.ref x), l1, l2, l3] [.ref x] σ Q := ev_A1 d11_40 rfl
theorem d11_41 : decode (ab_C 11) 41 = .ok (.getfield 12, 3) := by decide +kernel
theorem e11_41 {d : Nat} {l0 l1 l2 l3 : Option Value} {s0 : Nat} {σ : ab_St} {Q : Option Value → ab_St → Prop} : Ev d 11 41 [l0, l1, l2, l3] [.ref s0] σ Q = (ab_k s0 = 0 ∧ Ev d 11 44 [l0, l1, l2, l3] [.ref (ab_r s0 0)] σ Q) := ev_Hc (c := ab_k s0 = 0) d11_41 rfl rfl rfl rfl rfl rfl rfl rfl
theorem d11_44 : decode (ab_C 11) 44 = .ok (.getfield 72, 3) := by decide +kernel
theorem e11_44 {d : Nat} {l0 l1 l2 l3 : Option Value} {s0 : Nat} {σ : ab_St} {Q : Option Value → ab_St → Prop} : Ev d 11 44 [l0, l1, l2, l3] [.ref s0] σ Q = (ab_k s0 = 1 ∧ Ev d 11 47 [l0, l1, l2, l3] [.int (σ.1 s0 1)] σ Q) := ev_Hc (c := ab_k s0 = 1) d11_44 rfl rfl rfl rfl rfl rfl rfl rfl
theorem d11_47 : decode (ab_C 11) 47 = .ok (.ireturn, 1) := by decide +kernel
theorem e11_47 {d : Nat} {l0 l1 l2 l3 : Option Value} {s0 : Int32} {σ : ab_St} {Q : Option Value → ab_St → Prop} : Ev d 11 47 [l0, l1, l2, l3] [.int s0] σ Q = Q (some (.int s0)) σ := ev_E d11_47 rfl rfl rfl rfl rfl rfl rfl
/-! SaidLeast$Text.append(IJ)V -/
theorem d12_0 : decode (ab_C 12) 0 = .ok (.iload_n 1, 1) := by decide +kernel
theorem e12_0 {d : Nat} {l0 l2 l3 l4 : Option Value} {x : Int32} {σ : ab_St} {Q : Option Value → ab_St → Prop} : Ev d 12 0 [l0, some (.int x), l2, l3, l4] [] σ Q = Ev d 12 1 [l0, some (.int x), l2, l3, l4] [.int x] σ Q := ev_A1 d12_0 rfl
theorem d12_1 : decode (ab_C 12) 1 = .ok (.iconst 1, 1) := by decide +kernel
theorem e12_1 {d : Nat} {l0 l1 l2 l3 l4 : Option Value} {s0 : Int32} {σ : ab_St} {Q : Option Value → ab_St → Prop} : Ev d 12 1 [l0, l1, l2, l3, l4] [.int s0] σ Q = Ev d 12 2 [l0, l1, l2, l3, l4] [.int 1, .int s0] σ Q := ev_A1 d12_1 rfl
theorem d12_2 : decode (ab_C 12) 2 = .ok (.isub, 1) := by decide +kernel
theorem e12_2 {d : Nat} {l0 l1 l2 l3 l4 : Option Value} {s0 : Int32} {s1 : Int32} {σ : ab_St} {Q : Option Value → ab_St → Prop} : Ev d 12 2 [l0, l1, l2, l3, l4] [.int s0, .int s1] σ Q = Ev d 12 3 [l0, l1, l2, l3, l4] [.int (s1 - s0)] σ Q := ev_A2 d12_2 rfl rfl
theorem d12_3 : decode (ab_C 12) 3 = .ok (.istore 4, 2) := by decide +kernel
theorem e12_3 {d : Nat} {l0 l1 l2 l3 l4 : Option Value} {s0 : Int32} {σ : ab_St} {Q : Option Value → ab_St → Prop} : Ev d 12 3 [l0, l1, l2, l3, l4] [.int s0] σ Q = Ev d 12 5 [l0, l1, l2, l3, some (.int s0)] [] σ Q := ev_S d12_3 rfl rfl rfl rfl
theorem d12_5 : decode (ab_C 12) 5 = .ok (.iload 4, 2) := by decide +kernel
theorem e12_5 {d : Nat} {l0 l1 l2 l3 : Option Value} {x : Int32} {σ : ab_St} {Q : Option Value → ab_St → Prop} : Ev d 12 5 [l0, l1, l2, l3, some (.int x)] [] σ Q = Ev d 12 7 [l0, l1, l2, l3, some (.int x)] [.int x] σ Q := ev_A1 d12_5 rfl
theorem d12_7 : decode (ab_C 12) 7 = .ok (.ifCond .lt 46, 3) := by decide +kernel
theorem e12_7 {d : Nat} {l0 l1 l2 l3 l4 : Option Value} {s0 : Int32} {σ : ab_St} {Q : Option Value → ab_St → Prop} : Ev d 12 7 [l0, l1, l2, l3, l4] [.int s0] σ Q = if s0 < 0 then Ev d 12 53 [l0, l1, l2, l3, l4] [] σ Q else Ev d 12 10 [l0, l1, l2, l3, l4] [] σ Q := ev_B (c := s0 < 0) d12_7 rfl rfl rfl rfl rfl
theorem d12_10 : decode (ab_C 12) 10 = .ok (.aload_n 0, 1) := by decide +kernel
theorem e12_10 {d : Nat} {l1 l2 l3 l4 : Option Value} {x : Nat} {σ : ab_St} {Q : Option Value → ab_St → Prop} : Ev d 12 10 [some (.ref x), l1, l2, l3, l4] [] σ Q = Ev d 12 11 [some (.ref x), l1, l2, l3, l4] [.ref x] σ Q := ev_A1 d12_10 rfl
theorem d12_11 : decode (ab_C 12) 11 = .ok (.getfield 15, 3) := by decide +kernel
theorem e12_11 {d : Nat} {l0 l1 l2 l3 l4 : Option Value} {s0 : Nat} {σ : ab_St} {Q : Option Value → ab_St → Prop} : Ev d 12 11 [l0, l1, l2, l3, l4] [.ref s0] σ Q = (ab_k s0 = 1 ∧ Ev d 12 14 [l0, l1, l2, l3, l4] [.int (σ.1 s0 1)] σ Q) := ev_Hc (c := ab_k s0 = 1) d12_11 rfl rfl rfl rfl rfl rfl rfl rfl
theorem d12_14 : decode (ab_C 12) 14 = .ok (.bipush 64, 2) := by decide +kernel
theorem e12_14 {d : Nat} {l0 l1 l2 l3 l4 : Option Value} {s0 : Int32} {σ : ab_St} {Q : Option Value → ab_St → Prop} : Ev d 12 14 [l0, l1, l2, l3, l4] [.int s0] σ Q = Ev d 12 16 [l0, l1, l2, l3, l4] [.int 64, .int s0] σ Q := ev_A1 d12_14 rfl
theorem d12_16 : decode (ab_C 12) 16 = .ok (.if_icmp .ge 37, 3) := by decide +kernel
theorem e12_16 {d : Nat} {l0 l1 l2 l3 l4 : Option Value} {s0 : Int32} {s1 : Int32} {σ : ab_St} {Q : Option Value → ab_St → Prop} : Ev d 12 16 [l0, l1, l2, l3, l4] [.int s0, .int s1] σ Q = if s0 ≤ s1 then Ev d 12 53 [l0, l1, l2, l3, l4] [] σ Q else Ev d 12 19 [l0, l1, l2, l3, l4] [] σ Q := ev_B (c := s0 ≤ s1) d12_16 rfl rfl rfl rfl rfl
theorem d12_19 : decode (ab_C 12) 19 = .ok (.aload_n 0, 1) := by decide +kernel
theorem e12_19 {d : Nat} {l1 l2 l3 l4 : Option Value} {x : Nat} {σ : ab_St} {Q : Option Value → ab_St → Prop} : Ev d 12 19 [some (.ref x), l1, l2, l3, l4] [] σ Q = Ev d 12 20 [some (.ref x), l1, l2, l3, l4] [.ref x] σ Q := ev_A1 d12_19 rfl
theorem d12_20 : decode (ab_C 12) 20 = .ok (.getfield 9, 3) := by decide +kernel
theorem e12_20 {d : Nat} {l0 l1 l2 l3 l4 : Option Value} {s0 : Nat} {σ : ab_St} {Q : Option Value → ab_St → Prop} : Ev d 12 20 [l0, l1, l2, l3, l4] [.ref s0] σ Q = (ab_k s0 = 1 ∧ Ev d 12 23 [l0, l1, l2, l3, l4] [.ref (ab_r s0 0)] σ Q) := ev_Hc (c := ab_k s0 = 1) d12_20 rfl rfl rfl rfl rfl rfl rfl rfl
theorem d12_23 : decode (ab_C 12) 23 = .ok (.aload_n 0, 1) := by decide +kernel
theorem e12_23 {d : Nat} {l1 l2 l3 l4 : Option Value} {x : Nat} {s0 : Nat} {σ : ab_St} {Q : Option Value → ab_St → Prop} : Ev d 12 23 [some (.ref x), l1, l2, l3, l4] [.ref s0] σ Q = Ev d 12 24 [some (.ref x), l1, l2, l3, l4] [.ref x, .ref s0] σ Q := ev_A1 d12_23 rfl
theorem d12_24 : decode (ab_C 12) 24 = .ok (.getfield 15, 3) := by decide +kernel
theorem e12_24 {d : Nat} {l0 l1 l2 l3 l4 : Option Value} {s0 : Nat} {s1 : Nat} {σ : ab_St} {Q : Option Value → ab_St → Prop} : Ev d 12 24 [l0, l1, l2, l3, l4] [.ref s0, .ref s1] σ Q = (ab_k s0 = 1 ∧ Ev d 12 27 [l0, l1, l2, l3, l4] [.int (σ.1 s0 1), .ref s1] σ Q) := ev_Hc (c := ab_k s0 = 1) d12_24 rfl rfl rfl rfl rfl rfl rfl rfl
theorem d12_27 : decode (ab_C 12) 27 = .ok (.lload_n 2, 1) := by decide +kernel
theorem e12_27 {d : Nat} {l0 l1 l4 : Option Value} {x : Int64} {s0 : Int32} {s1 : Nat} {σ : ab_St} {Q : Option Value → ab_St → Prop} : Ev d 12 27 [l0, l1, some (.long x), none, l4] [.int s0, .ref s1] σ Q = Ev d 12 28 [l0, l1, some (.long x), none, l4] [.long x, .int s0, .ref s1] σ Q := ev_A1 d12_27 rfl
theorem d12_28 : decode (ab_C 12) 28 = .ok (.bipush 8, 2) := by decide +kernel
theorem e12_28 {d : Nat} {l0 l1 l2 l3 l4 : Option Value} {s0 : Int64} {s1 : Int32} {s2 : Nat} {σ : ab_St} {Q : Option Value → ab_St → Prop} : Ev d 12 28 [l0, l1, l2, l3, l4] [.long s0, .int s1, .ref s2] σ Q = Ev d 12 30 [l0, l1, l2, l3, l4] [.int 8, .long s0, .int s1, .ref s2] σ Q := ev_A1 d12_28 rfl
theorem d12_30 : decode (ab_C 12) 30 = .ok (.iload 4, 2) := by decide +kernel
theorem e12_30 {d : Nat} {l0 l1 l2 l3 : Option Value} {x : Int32} {s0 : Int32} {s1 : Int64} {s2 : Int32} {s3 : Nat} {σ : ab_St} {Q : Option Value → ab_St → Prop} : Ev d 12 30 [l0, l1, l2, l3, some (.int x)] [.int s0, .long s1, .int s2, .ref s3] σ Q = Ev d 12 32 [l0, l1, l2, l3, some (.int x)] [.int x, .int s0, .long s1, .int s2, .ref s3] σ Q := ev_A1 d12_30 rfl
theorem d12_32 : decode (ab_C 12) 32 = .ok (.imul, 1) := by decide +kernel
theorem e12_32 {d : Nat} {l0 l1 l2 l3 l4 : Option Value} {s0 : Int32} {s1 : Int32} {s2 : Int64} {s3 : Int32} {s4 : Nat} {σ : ab_St} {Q : Option Value → ab_St → Prop} : Ev d 12 32 [l0, l1, l2, l3, l4] [.int s0, .int s1, .long s2, .int s3, .ref s4] σ Q = Ev d 12 33 [l0, l1, l2, l3, l4] [.int (s1 * s0), .long s2, .int s3, .ref s4] σ Q := ev_A2 d12_32 rfl rfl
theorem d12_33 : decode (ab_C 12) 33 = .ok (.lushr, 1) := by decide +kernel
theorem e12_33 {d : Nat} {l0 l1 l2 l3 l4 : Option Value} {s0 : Int32} {s1 : Int64} {s2 : Int32} {s3 : Nat} {σ : ab_St} {Q : Option Value → ab_St → Prop} : Ev d 12 33 [l0, l1, l2, l3, l4] [.int s0, .long s1, .int s2, .ref s3] σ Q = Ev d 12 34 [l0, l1, l2, l3, l4] [.long (s1.toUInt64 >>> (s0.toInt64.toUInt64 &&& Int64.toUInt64 63)).toInt64, .int s2, .ref s3] σ Q := ev_A2 d12_33 rfl rfl
theorem d12_34 : decode (ab_C 12) 34 = .ok (.l2i, 1) := by decide +kernel
theorem e12_34 {d : Nat} {l0 l1 l2 l3 l4 : Option Value} {s0 : Int64} {s1 : Int32} {s2 : Nat} {σ : ab_St} {Q : Option Value → ab_St → Prop} : Ev d 12 34 [l0, l1, l2, l3, l4] [.long s0, .int s1, .ref s2] σ Q = Ev d 12 35 [l0, l1, l2, l3, l4] [.int s0.toInt32, .int s1, .ref s2] σ Q := ev_A2 d12_34 rfl rfl
theorem d12_35 : decode (ab_C 12) 35 = .ok (.i2b, 1) := by decide +kernel
theorem e12_35 {d : Nat} {l0 l1 l2 l3 l4 : Option Value} {s0 : Int32} {s1 : Int32} {s2 : Nat} {σ : ab_St} {Q : Option Value → ab_St → Prop} : Ev d 12 35 [l0, l1, l2, l3, l4] [.int s0, .int s1, .ref s2] σ Q = Ev d 12 36 [l0, l1, l2, l3, l4] [.int s0.toInt8.toInt32, .int s1, .ref s2] σ Q := ev_A2 d12_35 rfl rfl
theorem d12_36 : decode (ab_C 12) 36 = .ok (.bastore, 1) := by decide +kernel
theorem e12_36 {d : Nat} {l0 l1 l2 l3 l4 : Option Value} {s0 : Int32} {s1 : Int32} {s2 : Nat} {σ : ab_St} {Q : Option Value → ab_St → Prop} : Ev d 12 36 [l0, l1, l2, l3, l4] [.int s0, .int s1, .ref s2] σ Q = if ab_k s2 = 101 ∧ ab_in s1 (ab_n s2) then Ev d 12 37 [l0, l1, l2, l3, l4] [] (ab_wI σ s2 (upd (σ.1 s2) s1.toNatClampNeg (vp_nar .byte s0))) Q else ((ab_k s2 = 102 ∧ ab_in s1 (ab_n s2)) ∧ Ev d 12 37 [l0, l1, l2, l3, l4] [] (ab_wI σ s2 (upd (σ.1 s2) s1.toNatClampNeg (vp_nar .boolean s0))) Q) := ev_bast (j := 0) d12_36 
theorem d12_37 : decode (ab_C 12) 37 = .ok (.aload_n 0, 1) := by decide +kernel
theorem e12_37 {d : Nat} {l1 l2 l3 l4 : Option Value} {x : Nat} {σ : ab_St} {Q : Option Value → ab_St → Prop} : Ev d 12 37 [some (.ref x), l1, l2, l3, l4] [] σ Q = Ev d 12 38 [some (.ref x), l1, l2, l3, l4] [.ref x] σ Q := ev_A1 d12_37 rfl
theorem d12_38 : decode (ab_C 12) 38 = .ok (.dup, 1) := by decide +kernel
theorem e12_38 {d : Nat} {l0 l1 l2 l3 l4 : Option Value} {s0 : Nat} {σ : ab_St} {Q : Option Value → ab_St → Prop} : Ev d 12 38 [l0, l1, l2, l3, l4] [.ref s0] σ Q = Ev d 12 39 [l0, l1, l2, l3, l4] [.ref s0, .ref s0] σ Q := ev_A1 d12_38 rfl
theorem d12_39 : decode (ab_C 12) 39 = .ok (.getfield 15, 3) := by decide +kernel
theorem e12_39 {d : Nat} {l0 l1 l2 l3 l4 : Option Value} {s0 : Nat} {s1 : Nat} {σ : ab_St} {Q : Option Value → ab_St → Prop} : Ev d 12 39 [l0, l1, l2, l3, l4] [.ref s0, .ref s1] σ Q = (ab_k s0 = 1 ∧ Ev d 12 42 [l0, l1, l2, l3, l4] [.int (σ.1 s0 1), .ref s1] σ Q) := ev_Hc (c := ab_k s0 = 1) d12_39 rfl rfl rfl rfl rfl rfl rfl rfl
theorem d12_42 : decode (ab_C 12) 42 = .ok (.iconst 1, 1) := by decide +kernel
theorem e12_42 {d : Nat} {l0 l1 l2 l3 l4 : Option Value} {s0 : Int32} {s1 : Nat} {σ : ab_St} {Q : Option Value → ab_St → Prop} : Ev d 12 42 [l0, l1, l2, l3, l4] [.int s0, .ref s1] σ Q = Ev d 12 43 [l0, l1, l2, l3, l4] [.int 1, .int s0, .ref s1] σ Q := ev_A1 d12_42 rfl
theorem d12_43 : decode (ab_C 12) 43 = .ok (.iadd, 1) := by decide +kernel
theorem e12_43 {d : Nat} {l0 l1 l2 l3 l4 : Option Value} {s0 : Int32} {s1 : Int32} {s2 : Nat} {σ : ab_St} {Q : Option Value → ab_St → Prop} : Ev d 12 43 [l0, l1, l2, l3, l4] [.int s0, .int s1, .ref s2] σ Q = Ev d 12 44 [l0, l1, l2, l3, l4] [.int (s1 + s0), .ref s2] σ Q := ev_A2 d12_43 rfl rfl
theorem d12_44 : decode (ab_C 12) 44 = .ok (.putfield 15, 3) := by decide +kernel
theorem e12_44 {d : Nat} {l0 l1 l2 l3 l4 : Option Value} {s0 : Int32} {s1 : Nat} {σ : ab_St} {Q : Option Value → ab_St → Prop} : Ev d 12 44 [l0, l1, l2, l3, l4] [.int s0, .ref s1] σ Q = (ab_k s1 = 1 ∧ Ev d 12 47 [l0, l1, l2, l3, l4] [] (ab_wI σ s1 (upd (σ.1 s1) 1 s0)) Q) := ev_Hc (c := ab_k s1 = 1) d12_44 rfl rfl rfl rfl rfl rfl rfl rfl
theorem d12_47 : decode (ab_C 12) 47 = .ok (.iinc 4 (-1), 3) := by decide +kernel
theorem e12_47 {d : Nat} {l0 l1 l2 l3 : Option Value} {x : Int32} {σ : ab_St} {Q : Option Value → ab_St → Prop} : Ev d 12 47 [l0, l1, l2, l3, some (.int x)] [] σ Q = Ev d 12 50 [l0, l1, l2, l3, some (.int (x + (-1)))] [] σ Q := ev_S d12_47 rfl rfl rfl rfl
theorem d12_50 : decode (ab_C 12) 50 = .ok (.goto (-45), 3) := by decide +kernel
theorem e12_50 {d : Nat} {l0 l1 l2 l3 l4 : Option Value} {σ : ab_St} {Q : Option Value → ab_St → Prop} : Ev d 12 50 [l0, l1, l2, l3, l4] [] σ Q = Ev d 12 5 [l0, l1, l2, l3, l4] [] σ Q := ev_J d12_50 rfl rfl rfl rfl rfl
theorem d12_53 : decode (ab_C 12) 53 = .ok (.return_, 1) := by decide +kernel
theorem e12_53 {d : Nat} {l0 l1 l2 l3 l4 : Option Value} {σ : ab_St} {Q : Option Value → ab_St → Prop} : Ev d 12 53 [l0, l1, l2, l3, l4] [] σ Q = Q none σ := ev_E d12_53 rfl rfl rfl rfl rfl rfl rfl
/-! SaidLeast.wipe()I -/
theorem d13_0 : decode (ab_C 13) 0 = .ok (.aload_n 0, 1) := by decide +kernel
theorem e13_0 {d : Nat} {l1 : Option Value} {x : Nat} {σ : ab_St} {Q : Option Value → ab_St → Prop} : Ev d 13 0 [some (.ref x), l1] [] σ Q = Ev d 13 1 [some (.ref x), l1] [.ref x] σ Q := ev_A1 d13_0 rfl
theorem d13_1 : decode (ab_C 13) 1 = .ok (.getfield 12, 3) := by decide +kernel
theorem e13_1 {d : Nat} {l0 l1 : Option Value} {s0 : Nat} {σ : ab_St} {Q : Option Value → ab_St → Prop} : Ev d 13 1 [l0, l1] [.ref s0] σ Q = (ab_k s0 = 0 ∧ Ev d 13 4 [l0, l1] [.ref (ab_r s0 0)] σ Q) := ev_Hc (c := ab_k s0 = 0) d13_1 rfl rfl rfl rfl rfl rfl rfl rfl
theorem d13_4 : decode (ab_C 13) 4 = .ok (.getfield 72, 3) := by decide +kernel
theorem e13_4 {d : Nat} {l0 l1 : Option Value} {s0 : Nat} {σ : ab_St} {Q : Option Value → ab_St → Prop} : Ev d 13 4 [l0, l1] [.ref s0] σ Q = (ab_k s0 = 1 ∧ Ev d 13 7 [l0, l1] [.int (σ.1 s0 1)] σ Q) := ev_Hc (c := ab_k s0 = 1) d13_4 rfl rfl rfl rfl rfl rfl rfl rfl
theorem d13_7 : decode (ab_C 13) 7 = .ok (.istore_n 1, 1) := by decide +kernel
theorem e13_7 {d : Nat} {l0 l1 : Option Value} {s0 : Int32} {σ : ab_St} {Q : Option Value → ab_St → Prop} : Ev d 13 7 [l0, l1] [.int s0] σ Q = Ev d 13 8 [l0, some (.int s0)] [] σ Q := ev_S d13_7 rfl rfl rfl rfl
theorem d13_8 : decode (ab_C 13) 8 = .ok (.aload_n 0, 1) := by decide +kernel
theorem e13_8 {d : Nat} {l1 : Option Value} {x : Nat} {σ : ab_St} {Q : Option Value → ab_St → Prop} : Ev d 13 8 [some (.ref x), l1] [] σ Q = Ev d 13 9 [some (.ref x), l1] [.ref x] σ Q := ev_A1 d13_8 rfl
theorem d13_9 : decode (ab_C 13) 9 = .ok (.getfield 12, 3) := by decide +kernel
theorem e13_9 {d : Nat} {l0 l1 : Option Value} {s0 : Nat} {σ : ab_St} {Q : Option Value → ab_St → Prop} : Ev d 13 9 [l0, l1] [.ref s0] σ Q = (ab_k s0 = 0 ∧ Ev d 13 12 [l0, l1] [.ref (ab_r s0 0)] σ Q) := ev_Hc (c := ab_k s0 = 0) d13_9 rfl rfl rfl rfl rfl rfl rfl rfl
theorem d13_12 : decode (ab_C 13) 12 = .ok (.iconst 0, 1) := by decide +kernel
theorem e13_12 {d : Nat} {l0 l1 : Option Value} {s0 : Nat} {σ : ab_St} {Q : Option Value → ab_St → Prop} : Ev d 13 12 [l0, l1] [.ref s0] σ Q = Ev d 13 13 [l0, l1] [.int 0, .ref s0] σ Q := ev_A1 d13_12 rfl
theorem d13_13 : decode (ab_C 13) 13 = .ok (.putfield 72, 3) := by decide +kernel
theorem e13_13 {d : Nat} {l0 l1 : Option Value} {s0 : Int32} {s1 : Nat} {σ : ab_St} {Q : Option Value → ab_St → Prop} : Ev d 13 13 [l0, l1] [.int s0, .ref s1] σ Q = (ab_k s1 = 1 ∧ Ev d 13 16 [l0, l1] [] (ab_wI σ s1 (upd (σ.1 s1) 1 s0)) Q) := ev_Hc (c := ab_k s1 = 1) d13_13 rfl rfl rfl rfl rfl rfl rfl rfl
theorem d13_16 : decode (ab_C 13) 16 = .ok (.iload_n 1, 1) := by decide +kernel
theorem e13_16 {d : Nat} {l0 : Option Value} {x : Int32} {σ : ab_St} {Q : Option Value → ab_St → Prop} : Ev d 13 16 [l0, some (.int x)] [] σ Q = Ev d 13 17 [l0, some (.int x)] [.int x] σ Q := ev_A1 d13_16 rfl
theorem d13_17 : decode (ab_C 13) 17 = .ok (.ireturn, 1) := by decide +kernel
theorem e13_17 {d : Nat} {l0 l1 : Option Value} {s0 : Int32} {σ : ab_St} {Q : Option Value → ab_St → Prop} : Ev d 13 17 [l0, l1] [.int s0] σ Q = Q (some (.int s0)) σ := ev_E d13_17 rfl rfl rfl rfl rfl rfl rfl
/-! SaidLeast.fault()I -/
theorem d14_0 : decode (ab_C 14) 0 = .ok (.aload_n 0, 1) := by decide +kernel
theorem e14_0 {d : Nat} {x : Nat} {σ : ab_St} {Q : Option Value → ab_St → Prop} : Ev d 14 0 [some (.ref x)] [] σ Q = Ev d 14 1 [some (.ref x)] [.ref x] σ Q := ev_A1 d14_0 rfl
theorem d14_1 : decode (ab_C 14) 1 = .ok (.getfield 19, 3) := by decide +kernel
theorem e14_1 {d : Nat} {l0 : Option Value} {s0 : Nat} {σ : ab_St} {Q : Option Value → ab_St → Prop} : Ev d 14 1 [l0] [.ref s0] σ Q = (ab_k s0 = 0 ∧ Ev d 14 4 [l0] [.ref (ab_r s0 1)] σ Q) := ev_Hc (c := ab_k s0 = 0) d14_1 rfl rfl rfl rfl rfl rfl rfl rfl
theorem d14_4 : decode (ab_C 14) 4 = .ok (.aload_n 0, 1) := by decide +kernel
theorem e14_4 {d : Nat} {x : Nat} {s0 : Nat} {σ : ab_St} {Q : Option Value → ab_St → Prop} : Ev d 14 4 [some (.ref x)] [.ref s0] σ Q = Ev d 14 5 [some (.ref x)] [.ref x, .ref s0] σ Q := ev_A1 d14_4 rfl
theorem d14_5 : decode (ab_C 14) 5 = .ok (.getfield 12, 3) := by decide +kernel
theorem e14_5 {d : Nat} {l0 : Option Value} {s0 : Nat} {s1 : Nat} {σ : ab_St} {Q : Option Value → ab_St → Prop} : Ev d 14 5 [l0] [.ref s0, .ref s1] σ Q = (ab_k s0 = 0 ∧ Ev d 14 8 [l0] [.ref (ab_r s0 0), .ref s1] σ Q) := ev_Hc (c := ab_k s0 = 0) d14_5 rfl rfl rfl rfl rfl rfl rfl rfl
theorem d14_8 : decode (ab_C 14) 8 = .ok (.invokevirtual 80, 3) := by decide +kernel
theorem e14_8 {d : Nat} {l0 : Option Value} {s0 : Nat} {s1 : Nat} {σ : ab_St} {Q : Option Value → ab_St → Prop} : Ev (d + 1) 14 8 [l0] [.ref s0, .ref s1] σ Q = (ab_k s1 = 2 ∧ Ev d 15 0 [some (.ref s1), some (.ref s0), none] [] σ (fun r σ2 => Ev (d + 1) 14 11 [l0] (r.toList ++ []) σ2 Q)) := ev_KV (b := s1) (ls := [l0]) (st := [.ref s0, .ref s1]) (as := [.ref s0]) (rest := []) d14_8 rfl rfl rfl (Nat.le_of_ble_eq_true rfl) (Nat.le_of_ble_eq_true rfl) (Nat.le_of_ble_eq_true rfl) rfl rfl rfl rfl rfl rfl rfl
theorem d14_11 : decode (ab_C 14) 11 = .ok (.ireturn, 1) := by decide +kernel
theorem e14_11 {d : Nat} {l0 : Option Value} {s0 : Int32} {σ : ab_St} {Q : Option Value → ab_St → Prop} : Ev d 14 11 [l0] [.int s0] σ Q = Q (some (.int s0)) σ := ev_E d14_11 rfl rfl rfl rfl rfl rfl rfl
/-! SaidLeast$Reader.firstFault(LSaidLeast$Text;)I -/
theorem d15_0 : decode (ab_C 15) 0 = .ok (.aload_n 0, 1) := by decide +kernel
theorem e15_0 {d : Nat} {l1 l2 : Option Value} {x : Nat} {σ : ab_St} {Q : Option Value → ab_St → Prop} : Ev d 15 0 [some (.ref x), l1, l2] [] σ Q = Ev d 15 1 [some (.ref x), l1, l2] [.ref x] σ Q := ev_A1 d15_0 rfl
theorem d15_1 : decode (ab_C 15) 1 = .ok (.invokevirtual 25, 3) := by decide +kernel
theorem e15_1 {d : Nat} {l0 l1 l2 : Option Value} {s0 : Nat} {σ : ab_St} {Q : Option Value → ab_St → Prop} : Ev (d + 1) 15 1 [l0, l1, l2] [.ref s0] σ Q = (ab_k s0 = 2 ∧ Ev d 16 0 [some (.ref s0)] [] σ (fun r σ2 => Ev (d + 1) 15 4 [l0, l1, l2] (r.toList ++ []) σ2 Q)) := ev_KV (b := s0) (ls := [l0, l1, l2]) (st := [.ref s0]) (as := []) (rest := []) d15_1 rfl rfl rfl (Nat.le_of_ble_eq_true rfl) (Nat.le_of_ble_eq_true rfl) (Nat.le_of_ble_eq_true rfl) rfl rfl rfl rfl rfl rfl rfl
theorem d15_4 : decode (ab_C 15) 4 = .ok (.iconst 0, 1) := by decide +kernel
theorem e15_4 {d : Nat} {l0 l1 l2 : Option Value} {σ : ab_St} {Q : Option Value → ab_St → Prop} : Ev d 15 4 [l0, l1, l2] [] σ Q = Ev d 15 5 [l0, l1, l2] [.int 0] σ Q := ev_A1 d15_4 rfl
theorem d15_5 : decode (ab_C 15) 5 = .ok (.istore_n 2, 1) := by decide +kernel
theorem e15_5 {d : Nat} {l0 l1 l2 : Option Value} {s0 : Int32} {σ : ab_St} {Q : Option Value → ab_St → Prop} : Ev d 15 5 [l0, l1, l2] [.int s0] σ Q = Ev d 15 6 [l0, l1, some (.int s0)] [] σ Q := ev_S d15_5 rfl rfl rfl rfl
theorem d15_6 : decode (ab_C 15) 6 = .ok (.iload_n 2, 1) := by decide +kernel
theorem e15_6 {d : Nat} {l0 l1 : Option Value} {x : Int32} {σ : ab_St} {Q : Option Value → ab_St → Prop} : Ev d 15 6 [l0, l1, some (.int x)] [] σ Q = Ev d 15 7 [l0, l1, some (.int x)] [.int x] σ Q := ev_A1 d15_6 rfl
theorem d15_7 : decode (ab_C 15) 7 = .ok (.aload_n 1, 1) := by decide +kernel
theorem e15_7 {d : Nat} {l0 l2 : Option Value} {x : Nat} {s0 : Int32} {σ : ab_St} {Q : Option Value → ab_St → Prop} : Ev d 15 7 [l0, some (.ref x), l2] [.int s0] σ Q = Ev d 15 8 [l0, some (.ref x), l2] [.ref x, .int s0] σ Q := ev_A1 d15_7 rfl
theorem d15_8 : decode (ab_C 15) 8 = .ok (.getfield 28, 3) := by decide +kernel
theorem e15_8 {d : Nat} {l0 l1 l2 : Option Value} {s0 : Nat} {s1 : Int32} {σ : ab_St} {Q : Option Value → ab_St → Prop} : Ev d 15 8 [l0, l1, l2] [.ref s0, .int s1] σ Q = (ab_k s0 = 1 ∧ Ev d 15 11 [l0, l1, l2] [.int (σ.1 s0 1), .int s1] σ Q) := ev_Hc (c := ab_k s0 = 1) d15_8 rfl rfl rfl rfl rfl rfl rfl rfl
theorem d15_11 : decode (ab_C 15) 11 = .ok (.if_icmp .ge 24, 3) := by decide +kernel
theorem e15_11 {d : Nat} {l0 l1 l2 : Option Value} {s0 : Int32} {s1 : Int32} {σ : ab_St} {Q : Option Value → ab_St → Prop} : Ev d 15 11 [l0, l1, l2] [.int s0, .int s1] σ Q = if s0 ≤ s1 then Ev d 15 35 [l0, l1, l2] [] σ Q else Ev d 15 14 [l0, l1, l2] [] σ Q := ev_B (c := s0 ≤ s1) d15_11 rfl rfl rfl rfl rfl
theorem d15_14 : decode (ab_C 15) 14 = .ok (.aload_n 0, 1) := by decide +kernel
theorem e15_14 {d : Nat} {l1 l2 : Option Value} {x : Nat} {σ : ab_St} {Q : Option Value → ab_St → Prop} : Ev d 15 14 [some (.ref x), l1, l2] [] σ Q = Ev d 15 15 [some (.ref x), l1, l2] [.ref x] σ Q := ev_A1 d15_14 rfl
theorem d15_15 : decode (ab_C 15) 15 = .ok (.aload_n 1, 1) := by decide +kernel
theorem e15_15 {d : Nat} {l0 l2 : Option Value} {x : Nat} {s0 : Nat} {σ : ab_St} {Q : Option Value → ab_St → Prop} : Ev d 15 15 [l0, some (.ref x), l2] [.ref s0] σ Q = Ev d 15 16 [l0, some (.ref x), l2] [.ref x, .ref s0] σ Q := ev_A1 d15_15 rfl
theorem d15_16 : decode (ab_C 15) 16 = .ok (.getfield 34, 3) := by decide +kernel
theorem e15_16 {d : Nat} {l0 l1 l2 : Option Value} {s0 : Nat} {s1 : Nat} {σ : ab_St} {Q : Option Value → ab_St → Prop} : Ev d 15 16 [l0, l1, l2] [.ref s0, .ref s1] σ Q = (ab_k s0 = 1 ∧ Ev d 15 19 [l0, l1, l2] [.ref (ab_r s0 0), .ref s1] σ Q) := ev_Hc (c := ab_k s0 = 1) d15_16 rfl rfl rfl rfl rfl rfl rfl rfl
theorem d15_19 : decode (ab_C 15) 19 = .ok (.iload_n 2, 1) := by decide +kernel
theorem e15_19 {d : Nat} {l0 l1 : Option Value} {x : Int32} {s0 : Nat} {s1 : Nat} {σ : ab_St} {Q : Option Value → ab_St → Prop} : Ev d 15 19 [l0, l1, some (.int x)] [.ref s0, .ref s1] σ Q = Ev d 15 20 [l0, l1, some (.int x)] [.int x, .ref s0, .ref s1] σ Q := ev_A1 d15_19 rfl
theorem d15_20 : decode (ab_C 15) 20 = .ok (.baload, 1) := by decide +kernel
theorem e15_20 {d : Nat} {l0 l1 l2 : Option Value} {s0 : Int32} {s1 : Nat} {s2 : Nat} {σ : ab_St} {Q : Option Value → ab_St → Prop} : Ev d 15 20 [l0, l1, l2] [.int s0, .ref s1, .ref s2] σ Q = (((ab_k s1 = 101 ∨ ab_k s1 = 102) ∧ ab_in s0 (ab_n s1)) ∧ Ev d 15 21 [l0, l1, l2] [.int (σ.1 s1 s0.toNatClampNeg), .ref s2] σ Q) := ev_Hc (c := (ab_k s1 = 101 ∨ ab_k s1 = 102) ∧ ab_in s0 (ab_n s1)) d15_20 rfl rfl rfl rfl rfl rfl rfl rfl
theorem d15_21 : decode (ab_C 15) 21 = .ok (.invokevirtual 38, 3) := by decide +kernel
theorem e15_21 {d : Nat} {l0 l1 l2 : Option Value} {s0 : Int32} {s1 : Nat} {σ : ab_St} {Q : Option Value → ab_St → Prop} : Ev (d + 1) 15 21 [l0, l1, l2] [.int s0, .ref s1] σ Q = (ab_k s1 = 2 ∧ Ev d 18 0 [some (.ref s1), some (.int s0)] [] σ (fun r σ2 => Ev (d + 1) 15 24 [l0, l1, l2] (r.toList ++ []) σ2 Q)) := ev_KV (b := s1) (ls := [l0, l1, l2]) (st := [.int s0, .ref s1]) (as := [.int s0]) (rest := []) d15_21 rfl rfl rfl (Nat.le_of_ble_eq_true rfl) (Nat.le_of_ble_eq_true rfl) (Nat.le_of_ble_eq_true rfl) rfl rfl rfl rfl rfl rfl rfl
theorem d15_24 : decode (ab_C 15) 24 = .ok (.ifCond .ne 5, 3) := by decide +kernel
theorem e15_24 {d : Nat} {l0 l1 l2 : Option Value} {s0 : Int32} {σ : ab_St} {Q : Option Value → ab_St → Prop} : Ev d 15 24 [l0, l1, l2] [.int s0] σ Q = if s0 = 0 then Ev d 15 27 [l0, l1, l2] [] σ Q else Ev d 15 29 [l0, l1, l2] [] σ Q := ev_B (c := s0 = 0) d15_24 rfl rfl rfl rfl rfl
theorem d15_27 : decode (ab_C 15) 27 = .ok (.iload_n 2, 1) := by decide +kernel
theorem e15_27 {d : Nat} {l0 l1 : Option Value} {x : Int32} {σ : ab_St} {Q : Option Value → ab_St → Prop} : Ev d 15 27 [l0, l1, some (.int x)] [] σ Q = Ev d 15 28 [l0, l1, some (.int x)] [.int x] σ Q := ev_A1 d15_27 rfl
theorem d15_28 : decode (ab_C 15) 28 = .ok (.ireturn, 1) := by decide +kernel
theorem e15_28 {d : Nat} {l0 l1 l2 : Option Value} {s0 : Int32} {σ : ab_St} {Q : Option Value → ab_St → Prop} : Ev d 15 28 [l0, l1, l2] [.int s0] σ Q = Q (some (.int s0)) σ := ev_E d15_28 rfl rfl rfl rfl rfl rfl rfl
theorem d15_29 : decode (ab_C 15) 29 = .ok (.iinc 2 1, 3) := by decide +kernel
theorem e15_29 {d : Nat} {l0 l1 : Option Value} {x : Int32} {σ : ab_St} {Q : Option Value → ab_St → Prop} : Ev d 15 29 [l0, l1, some (.int x)] [] σ Q = Ev d 15 32 [l0, l1, some (.int (x + 1))] [] σ Q := ev_S d15_29 rfl rfl rfl rfl
theorem d15_32 : decode (ab_C 15) 32 = .ok (.goto (-26), 3) := by decide +kernel
theorem e15_32 {d : Nat} {l0 l1 l2 : Option Value} {σ : ab_St} {Q : Option Value → ab_St → Prop} : Ev d 15 32 [l0, l1, l2] [] σ Q = Ev d 15 6 [l0, l1, l2] [] σ Q := ev_J d15_32 rfl rfl rfl rfl rfl
theorem d15_35 : decode (ab_C 15) 35 = .ok (.aload_n 0, 1) := by decide +kernel
theorem e15_35 {d : Nat} {l1 l2 : Option Value} {x : Nat} {σ : ab_St} {Q : Option Value → ab_St → Prop} : Ev d 15 35 [some (.ref x), l1, l2] [] σ Q = Ev d 15 36 [some (.ref x), l1, l2] [.ref x] σ Q := ev_A1 d15_35 rfl
theorem d15_36 : decode (ab_C 15) 36 = .ok (.getfield 42, 3) := by decide +kernel
theorem e15_36 {d : Nat} {l0 l1 l2 : Option Value} {s0 : Nat} {σ : ab_St} {Q : Option Value → ab_St → Prop} : Ev d 15 36 [l0, l1, l2] [.ref s0] σ Q = (ab_k s0 = 2 ∧ Ev d 15 39 [l0, l1, l2] [.int (σ.1 s0 2)] σ Q) := ev_Hc (c := ab_k s0 = 2) d15_36 rfl rfl rfl rfl rfl rfl rfl rfl
theorem d15_39 : decode (ab_C 15) 39 = .ok (.iconst 2, 1) := by decide +kernel
theorem e15_39 {d : Nat} {l0 l1 l2 : Option Value} {s0 : Int32} {σ : ab_St} {Q : Option Value → ab_St → Prop} : Ev d 15 39 [l0, l1, l2] [.int s0] σ Q = Ev d 15 40 [l0, l1, l2] [.int 2, .int s0] σ Q := ev_A1 d15_39 rfl
theorem d15_40 : decode (ab_C 15) 40 = .ok (.if_icmp .ne 8, 3) := by decide +kernel
theorem e15_40 {d : Nat} {l0 l1 l2 : Option Value} {s0 : Int32} {s1 : Int32} {σ : ab_St} {Q : Option Value → ab_St → Prop} : Ev d 15 40 [l0, l1, l2] [.int s0, .int s1] σ Q = if s1 = s0 then Ev d 15 43 [l0, l1, l2] [] σ Q else Ev d 15 48 [l0, l1, l2] [] σ Q := ev_B (c := s1 = s0) d15_40 rfl rfl rfl rfl rfl
theorem d15_43 : decode (ab_C 15) 43 = .ok (.bipush (-9), 2) := by decide +kernel
theorem e15_43 {d : Nat} {l0 l1 l2 : Option Value} {σ : ab_St} {Q : Option Value → ab_St → Prop} : Ev d 15 43 [l0, l1, l2] [] σ Q = Ev d 15 45 [l0, l1, l2] [.int (-9)] σ Q := ev_A1 d15_43 rfl
theorem d15_45 : decode (ab_C 15) 45 = .ok (.goto 7, 3) := by decide +kernel
theorem e15_45 {d : Nat} {l0 l1 l2 : Option Value} {s0 : Int32} {σ : ab_St} {Q : Option Value → ab_St → Prop} : Ev d 15 45 [l0, l1, l2] [.int s0] σ Q = Ev d 15 52 [l0, l1, l2] [.int s0] σ Q := ev_J d15_45 rfl rfl rfl rfl rfl
theorem d15_48 : decode (ab_C 15) 48 = .ok (.aload_n 1, 1) := by decide +kernel
theorem e15_48 {d : Nat} {l0 l2 : Option Value} {x : Nat} {σ : ab_St} {Q : Option Value → ab_St → Prop} : Ev d 15 48 [l0, some (.ref x), l2] [] σ Q = Ev d 15 49 [l0, some (.ref x), l2] [.ref x] σ Q := ev_A1 d15_48 rfl
theorem d15_49 : decode (ab_C 15) 49 = .ok (.getfield 28, 3) := by decide +kernel
theorem e15_49 {d : Nat} {l0 l1 l2 : Option Value} {s0 : Nat} {σ : ab_St} {Q : Option Value → ab_St → Prop} : Ev d 15 49 [l0, l1, l2] [.ref s0] σ Q = (ab_k s0 = 1 ∧ Ev d 15 52 [l0, l1, l2] [.int (σ.1 s0 1)] σ Q) := ev_Hc (c := ab_k s0 = 1) d15_49 rfl rfl rfl rfl rfl rfl rfl rfl
theorem d15_52 : decode (ab_C 15) 52 = .ok (.ireturn, 1) := by decide +kernel
theorem e15_52 {d : Nat} {l0 l1 l2 : Option Value} {s0 : Int32} {σ : ab_St} {Q : Option Value → ab_St → Prop} : Ev d 15 52 [l0, l1, l2] [.int s0] σ Q = Q (some (.int s0)) σ := ev_E d15_52 rfl rfl rfl rfl rfl rfl rfl
/-! SaidLeast$Reader.begin()V -/
theorem d16_0 : decode (ab_C 16) 0 = .ok (.aload_n 0, 1) := by decide +kernel
theorem e16_0 {d : Nat} {x : Nat} {σ : ab_St} {Q : Option Value → ab_St → Prop} : Ev d 16 0 [some (.ref x)] [] σ Q = Ev d 16 1 [some (.ref x)] [.ref x] σ Q := ev_A1 d16_0 rfl
theorem d16_1 : decode (ab_C 16) 1 = .ok (.getfield 12, 3) := by decide +kernel
theorem e16_1 {d : Nat} {l0 : Option Value} {s0 : Nat} {σ : ab_St} {Q : Option Value → ab_St → Prop} : Ev d 16 1 [l0] [.ref s0] σ Q = (ab_k s0 = 2 ∧ Ev d 16 4 [l0] [.ref (ab_r s0 0)] σ Q) := ev_Hc (c := ab_k s0 = 2) d16_1 rfl rfl rfl rfl rfl rfl rfl rfl
theorem d16_4 : decode (ab_C 16) 4 = .ok (.iconst 0, 1) := by decide +kernel
theorem e16_4 {d : Nat} {l0 : Option Value} {s0 : Nat} {σ : ab_St} {Q : Option Value → ab_St → Prop} : Ev d 16 4 [l0] [.ref s0] σ Q = Ev d 16 5 [l0] [.int 0, .ref s0] σ Q := ev_A1 d16_4 rfl
theorem d16_5 : decode (ab_C 16) 5 = .ok (.putfield 45, 3) := by decide +kernel
theorem e16_5 {d : Nat} {l0 : Option Value} {s0 : Int32} {s1 : Nat} {σ : ab_St} {Q : Option Value → ab_St → Prop} : Ev d 16 5 [l0] [.int s0, .ref s1] σ Q = (ab_k s1 = 3 ∧ Ev d 16 8 [l0] [] (ab_wI σ s1 (upd (σ.1 s1) 4 s0)) Q) := ev_Hc (c := ab_k s1 = 3) d16_5 rfl rfl rfl rfl rfl rfl rfl rfl
theorem d16_8 : decode (ab_C 16) 8 = .ok (.aload_n 0, 1) := by decide +kernel
theorem e16_8 {d : Nat} {x : Nat} {σ : ab_St} {Q : Option Value → ab_St → Prop} : Ev d 16 8 [some (.ref x)] [] σ Q = Ev d 16 9 [some (.ref x)] [.ref x] σ Q := ev_A1 d16_8 rfl
theorem d16_9 : decode (ab_C 16) 9 = .ok (.getfield 12, 3) := by decide +kernel
theorem e16_9 {d : Nat} {l0 : Option Value} {s0 : Nat} {σ : ab_St} {Q : Option Value → ab_St → Prop} : Ev d 16 9 [l0] [.ref s0] σ Q = (ab_k s0 = 2 ∧ Ev d 16 12 [l0] [.ref (ab_r s0 0)] σ Q) := ev_Hc (c := ab_k s0 = 2) d16_9 rfl rfl rfl rfl rfl rfl rfl rfl
theorem d16_12 : decode (ab_C 16) 12 = .ok (.iconst 0, 1) := by decide +kernel
theorem e16_12 {d : Nat} {l0 : Option Value} {s0 : Nat} {σ : ab_St} {Q : Option Value → ab_St → Prop} : Ev d 16 12 [l0] [.ref s0] σ Q = Ev d 16 13 [l0] [.int 0, .ref s0] σ Q := ev_A1 d16_12 rfl
theorem d16_13 : decode (ab_C 16) 13 = .ok (.putfield 48, 3) := by decide +kernel
theorem e16_13 {d : Nat} {l0 : Option Value} {s0 : Int32} {s1 : Nat} {σ : ab_St} {Q : Option Value → ab_St → Prop} : Ev d 16 13 [l0] [.int s0, .ref s1] σ Q = (ab_k s1 = 3 ∧ Ev d 16 16 [l0] [] (ab_wI σ s1 (upd (σ.1 s1) 5 s0)) Q) := ev_Hc (c := ab_k s1 = 3) d16_13 rfl rfl rfl rfl rfl rfl rfl rfl
theorem d16_16 : decode (ab_C 16) 16 = .ok (.aload_n 0, 1) := by decide +kernel
theorem e16_16 {d : Nat} {x : Nat} {σ : ab_St} {Q : Option Value → ab_St → Prop} : Ev d 16 16 [some (.ref x)] [] σ Q = Ev d 16 17 [some (.ref x)] [.ref x] σ Q := ev_A1 d16_16 rfl
theorem d16_17 : decode (ab_C 16) 17 = .ok (.getfield 21, 3) := by decide +kernel
theorem e16_17 {d : Nat} {l0 : Option Value} {s0 : Nat} {σ : ab_St} {Q : Option Value → ab_St → Prop} : Ev d 16 17 [l0] [.ref s0] σ Q = (ab_k s0 = 2 ∧ Ev d 16 20 [l0] [.ref (ab_r s0 1)] σ Q) := ev_Hc (c := ab_k s0 = 2) d16_17 rfl rfl rfl rfl rfl rfl rfl rfl
theorem d16_20 : decode (ab_C 16) 20 = .ok (.getfield 51, 3) := by decide +kernel
theorem e16_20 {d : Nat} {l0 : Option Value} {s0 : Nat} {σ : ab_St} {Q : Option Value → ab_St → Prop} : Ev d 16 20 [l0] [.ref s0] σ Q = (ab_k s0 = 4 ∧ Ev d 16 23 [l0] [.ref (ab_r s0 0)] σ Q) := ev_Hc (c := ab_k s0 = 4) d16_20 rfl rfl rfl rfl rfl rfl rfl rfl
theorem d16_23 : decode (ab_C 16) 23 = .ok (.iconst 0, 1) := by decide +kernel
theorem e16_23 {d : Nat} {l0 : Option Value} {s0 : Nat} {σ : ab_St} {Q : Option Value → ab_St → Prop} : Ev d 16 23 [l0] [.ref s0] σ Q = Ev d 16 24 [l0] [.int 0, .ref s0] σ Q := ev_A1 d16_23 rfl
theorem d16_24 : decode (ab_C 16) 24 = .ok (.invokestatic 55, 3) := by decide +kernel
theorem e16_24 {d : Nat} {l0 : Option Value} {s0 : Int32} {s1 : Nat} {σ : ab_St} {Q : Option Value → ab_St → Prop} : Ev (d + 1) 16 24 [l0] [.int s0, .ref s1] σ Q = Ev d 17 0 [some (.ref s1), some (.int s0), none, none] [] σ (fun r σ2 => Ev (d + 1) 16 27 [l0] (r.toList ++ []) σ2 Q) := ev_K0 (y := 17) (ls := [l0]) (st := [.int s0, .ref s1]) (as := [.ref s1, .int s0]) (rest := []) d16_24 rfl rfl rfl rfl rfl rfl rfl rfl
theorem d16_27 : decode (ab_C 16) 27 = .ok (.aload_n 0, 1) := by decide +kernel
theorem e16_27 {d : Nat} {x : Nat} {σ : ab_St} {Q : Option Value → ab_St → Prop} : Ev d 16 27 [some (.ref x)] [] σ Q = Ev d 16 28 [some (.ref x)] [.ref x] σ Q := ev_A1 d16_27 rfl
theorem d16_28 : decode (ab_C 16) 28 = .ok (.getfield 21, 3) := by decide +kernel
theorem e16_28 {d : Nat} {l0 : Option Value} {s0 : Nat} {σ : ab_St} {Q : Option Value → ab_St → Prop} : Ev d 16 28 [l0] [.ref s0] σ Q = (ab_k s0 = 2 ∧ Ev d 16 31 [l0] [.ref (ab_r s0 1)] σ Q) := ev_Hc (c := ab_k s0 = 2) d16_28 rfl rfl rfl rfl rfl rfl rfl rfl
theorem d16_31 : decode (ab_C 16) 31 = .ok (.iconst 0, 1) := by decide +kernel
theorem e16_31 {d : Nat} {l0 : Option Value} {s0 : Nat} {σ : ab_St} {Q : Option Value → ab_St → Prop} : Ev d 16 31 [l0] [.ref s0] σ Q = Ev d 16 32 [l0] [.int 0, .ref s0] σ Q := ev_A1 d16_31 rfl
theorem d16_32 : decode (ab_C 16) 32 = .ok (.putfield 61, 3) := by decide +kernel
theorem e16_32 {d : Nat} {l0 : Option Value} {s0 : Int32} {s1 : Nat} {σ : ab_St} {Q : Option Value → ab_St → Prop} : Ev d 16 32 [l0] [.int s0, .ref s1] σ Q = (ab_k s1 = 4 ∧ Ev d 16 35 [l0] [] (ab_wI σ s1 (upd (σ.1 s1) 1 s0)) Q) := ev_Hc (c := ab_k s1 = 4) d16_32 rfl rfl rfl rfl rfl rfl rfl rfl
theorem d16_35 : decode (ab_C 16) 35 = .ok (.aload_n 0, 1) := by decide +kernel
theorem e16_35 {d : Nat} {x : Nat} {σ : ab_St} {Q : Option Value → ab_St → Prop} : Ev d 16 35 [some (.ref x)] [] σ Q = Ev d 16 36 [some (.ref x)] [.ref x] σ Q := ev_A1 d16_35 rfl
theorem d16_36 : decode (ab_C 16) 36 = .ok (.getfield 21, 3) := by decide +kernel
theorem e16_36 {d : Nat} {l0 : Option Value} {s0 : Nat} {σ : ab_St} {Q : Option Value → ab_St → Prop} : Ev d 16 36 [l0] [.ref s0] σ Q = (ab_k s0 = 2 ∧ Ev d 16 39 [l0] [.ref (ab_r s0 1)] σ Q) := ev_Hc (c := ab_k s0 = 2) d16_36 rfl rfl rfl rfl rfl rfl rfl rfl
theorem d16_39 : decode (ab_C 16) 39 = .ok (.iconst 0, 1) := by decide +kernel
theorem e16_39 {d : Nat} {l0 : Option Value} {s0 : Nat} {σ : ab_St} {Q : Option Value → ab_St → Prop} : Ev d 16 39 [l0] [.ref s0] σ Q = Ev d 16 40 [l0] [.int 0, .ref s0] σ Q := ev_A1 d16_39 rfl
theorem d16_40 : decode (ab_C 16) 40 = .ok (.putfield 64, 3) := by decide +kernel
theorem e16_40 {d : Nat} {l0 : Option Value} {s0 : Int32} {s1 : Nat} {σ : ab_St} {Q : Option Value → ab_St → Prop} : Ev d 16 40 [l0] [.int s0, .ref s1] σ Q = (ab_k s1 = 4 ∧ Ev d 16 43 [l0] [] (ab_wI σ s1 (upd (σ.1 s1) 4 s0)) Q) := ev_Hc (c := ab_k s1 = 4) d16_40 rfl rfl rfl rfl rfl rfl rfl rfl
theorem d16_43 : decode (ab_C 16) 43 = .ok (.aload_n 0, 1) := by decide +kernel
theorem e16_43 {d : Nat} {x : Nat} {σ : ab_St} {Q : Option Value → ab_St → Prop} : Ev d 16 43 [some (.ref x)] [] σ Q = Ev d 16 44 [some (.ref x)] [.ref x] σ Q := ev_A1 d16_43 rfl
theorem d16_44 : decode (ab_C 16) 44 = .ok (.iconst 0, 1) := by decide +kernel
theorem e16_44 {d : Nat} {l0 : Option Value} {s0 : Nat} {σ : ab_St} {Q : Option Value → ab_St → Prop} : Ev d 16 44 [l0] [.ref s0] σ Q = Ev d 16 45 [l0] [.int 0, .ref s0] σ Q := ev_A1 d16_44 rfl
theorem d16_45 : decode (ab_C 16) 45 = .ok (.putfield 67, 3) := by decide +kernel
theorem e16_45 {d : Nat} {l0 : Option Value} {s0 : Int32} {s1 : Nat} {σ : ab_St} {Q : Option Value → ab_St → Prop} : Ev d 16 45 [l0] [.int s0, .ref s1] σ Q = (ab_k s1 = 2 ∧ Ev d 16 48 [l0] [] (ab_wI σ s1 (upd (σ.1 s1) 3 s0)) Q) := ev_Hc (c := ab_k s1 = 2) d16_45 rfl rfl rfl rfl rfl rfl rfl rfl
theorem d16_48 : decode (ab_C 16) 48 = .ok (.aload_n 0, 1) := by decide +kernel
theorem e16_48 {d : Nat} {x : Nat} {σ : ab_St} {Q : Option Value → ab_St → Prop} : Ev d 16 48 [some (.ref x)] [] σ Q = Ev d 16 49 [some (.ref x)] [.ref x] σ Q := ev_A1 d16_48 rfl
theorem d16_49 : decode (ab_C 16) 49 = .ok (.iconst 0, 1) := by decide +kernel
theorem e16_49 {d : Nat} {l0 : Option Value} {s0 : Nat} {σ : ab_St} {Q : Option Value → ab_St → Prop} : Ev d 16 49 [l0] [.ref s0] σ Q = Ev d 16 50 [l0] [.int 0, .ref s0] σ Q := ev_A1 d16_49 rfl
theorem d16_50 : decode (ab_C 16) 50 = .ok (.putfield 42, 3) := by decide +kernel
theorem e16_50 {d : Nat} {l0 : Option Value} {s0 : Int32} {s1 : Nat} {σ : ab_St} {Q : Option Value → ab_St → Prop} : Ev d 16 50 [l0] [.int s0, .ref s1] σ Q = (ab_k s1 = 2 ∧ Ev d 16 53 [l0] [] (ab_wI σ s1 (upd (σ.1 s1) 2 s0)) Q) := ev_Hc (c := ab_k s1 = 2) d16_50 rfl rfl rfl rfl rfl rfl rfl rfl
theorem d16_53 : decode (ab_C 16) 53 = .ok (.return_, 1) := by decide +kernel
theorem e16_53 {d : Nat} {l0 : Option Value} {σ : ab_St} {Q : Option Value → ab_St → Prop} : Ev d 16 53 [l0] [] σ Q = Q none σ := ev_E d16_53 rfl rfl rfl rfl rfl rfl rfl
/-! java/util/Arrays.fill([II)V -/
theorem d17_0 : decode (ab_C 17) 0 = .ok (.iconst 0, 1) := by decide +kernel
theorem e17_0 {d : Nat} {l0 l1 l2 l3 : Option Value} {σ : ab_St} {Q : Option Value → ab_St → Prop} : Ev d 17 0 [l0, l1, l2, l3] [] σ Q = Ev d 17 1 [l0, l1, l2, l3] [.int 0] σ Q := ev_A1 d17_0 rfl
theorem d17_1 : decode (ab_C 17) 1 = .ok (.istore_n 2, 1) := by decide +kernel
theorem e17_1 {d : Nat} {l0 l1 l2 l3 : Option Value} {s0 : Int32} {σ : ab_St} {Q : Option Value → ab_St → Prop} : Ev d 17 1 [l0, l1, l2, l3] [.int s0] σ Q = Ev d 17 2 [l0, l1, some (.int s0), l3] [] σ Q := ev_S d17_1 rfl rfl rfl rfl
theorem d17_2 : decode (ab_C 17) 2 = .ok (.aload_n 0, 1) := by decide +kernel
theorem e17_2 {d : Nat} {l1 l2 l3 : Option Value} {x : Nat} {σ : ab_St} {Q : Option Value → ab_St → Prop} : Ev d 17 2 [some (.ref x), l1, l2, l3] [] σ Q = Ev d 17 3 [some (.ref x), l1, l2, l3] [.ref x] σ Q := ev_A1 d17_2 rfl
theorem d17_3 : decode (ab_C 17) 3 = .ok (.arraylength, 1) := by decide +kernel
theorem e17_3 {d : Nat} {l0 l1 l2 l3 : Option Value} {s0 : Nat} {σ : ab_St} {Q : Option Value → ab_St → Prop} : Ev d 17 3 [l0, l1, l2, l3] [.ref s0] σ Q = ((100 ≤ ab_k s0 ∧ ab_k s0 ≤ 103) ∧ Ev d 17 4 [l0, l1, l2, l3] [.int (Int32.ofNat (ab_n s0))] σ Q) := ev_Hc (c := 100 ≤ ab_k s0 ∧ ab_k s0 ≤ 103) d17_3 rfl rfl rfl rfl rfl rfl rfl rfl
theorem d17_4 : decode (ab_C 17) 4 = .ok (.istore_n 3, 1) := by decide +kernel
theorem e17_4 {d : Nat} {l0 l1 l2 l3 : Option Value} {s0 : Int32} {σ : ab_St} {Q : Option Value → ab_St → Prop} : Ev d 17 4 [l0, l1, l2, l3] [.int s0] σ Q = Ev d 17 5 [l0, l1, l2, some (.int s0)] [] σ Q := ev_S d17_4 rfl rfl rfl rfl
theorem d17_5 : decode (ab_C 17) 5 = .ok (.iload_n 2, 1) := by decide +kernel
theorem e17_5 {d : Nat} {l0 l1 l3 : Option Value} {x : Int32} {σ : ab_St} {Q : Option Value → ab_St → Prop} : Ev d 17 5 [l0, l1, some (.int x), l3] [] σ Q = Ev d 17 6 [l0, l1, some (.int x), l3] [.int x] σ Q := ev_A1 d17_5 rfl
theorem d17_6 : decode (ab_C 17) 6 = .ok (.iload_n 3, 1) := by decide +kernel
theorem e17_6 {d : Nat} {l0 l1 l2 : Option Value} {x : Int32} {s0 : Int32} {σ : ab_St} {Q : Option Value → ab_St → Prop} : Ev d 17 6 [l0, l1, l2, some (.int x)] [.int s0] σ Q = Ev d 17 7 [l0, l1, l2, some (.int x)] [.int x, .int s0] σ Q := ev_A1 d17_6 rfl
theorem d17_7 : decode (ab_C 17) 7 = .ok (.if_icmp .ge 13, 3) := by decide +kernel
theorem e17_7 {d : Nat} {l0 l1 l2 l3 : Option Value} {s0 : Int32} {s1 : Int32} {σ : ab_St} {Q : Option Value → ab_St → Prop} : Ev d 17 7 [l0, l1, l2, l3] [.int s0, .int s1] σ Q = if s0 ≤ s1 then Ev d 17 20 [l0, l1, l2, l3] [] σ Q else Ev d 17 10 [l0, l1, l2, l3] [] σ Q := ev_B (c := s0 ≤ s1) d17_7 rfl rfl rfl rfl rfl
theorem d17_10 : decode (ab_C 17) 10 = .ok (.aload_n 0, 1) := by decide +kernel
theorem e17_10 {d : Nat} {l1 l2 l3 : Option Value} {x : Nat} {σ : ab_St} {Q : Option Value → ab_St → Prop} : Ev d 17 10 [some (.ref x), l1, l2, l3] [] σ Q = Ev d 17 11 [some (.ref x), l1, l2, l3] [.ref x] σ Q := ev_A1 d17_10 rfl
theorem d17_11 : decode (ab_C 17) 11 = .ok (.iload_n 2, 1) := by decide +kernel
theorem e17_11 {d : Nat} {l0 l1 l3 : Option Value} {x : Int32} {s0 : Nat} {σ : ab_St} {Q : Option Value → ab_St → Prop} : Ev d 17 11 [l0, l1, some (.int x), l3] [.ref s0] σ Q = Ev d 17 12 [l0, l1, some (.int x), l3] [.int x, .ref s0] σ Q := ev_A1 d17_11 rfl
theorem d17_12 : decode (ab_C 17) 12 = .ok (.iload_n 1, 1) := by decide +kernel
theorem e17_12 {d : Nat} {l0 l2 l3 : Option Value} {x : Int32} {s0 : Int32} {s1 : Nat} {σ : ab_St} {Q : Option Value → ab_St → Prop} : Ev d 17 12 [l0, some (.int x), l2, l3] [.int s0, .ref s1] σ Q = Ev d 17 13 [l0, some (.int x), l2, l3] [.int x, .int s0, .ref s1] σ Q := ev_A1 d17_12 rfl
theorem d17_13 : decode (ab_C 17) 13 = .ok (.iastore, 1) := by decide +kernel
theorem e17_13 {d : Nat} {l0 l1 l2 l3 : Option Value} {s0 : Int32} {s1 : Int32} {s2 : Nat} {σ : ab_St} {Q : Option Value → ab_St → Prop} : Ev d 17 13 [l0, l1, l2, l3] [.int s0, .int s1, .ref s2] σ Q = ((ab_k s2 = 100 ∧ ab_in s1 (ab_n s2)) ∧ Ev d 17 14 [l0, l1, l2, l3] [] (ab_wI σ s2 (upd (σ.1 s2) s1.toNatClampNeg s0)) Q) := ev_Hc (c := ab_k s2 = 100 ∧ ab_in s1 (ab_n s2)) d17_13 rfl rfl rfl rfl rfl rfl rfl rfl
theorem d17_14 : decode (ab_C 17) 14 = .ok (.iinc 2 1, 3) := by decide +kernel
theorem e17_14 {d : Nat} {l0 l1 l3 : Option Value} {x : Int32} {σ : ab_St} {Q : Option Value → ab_St → Prop} : Ev d 17 14 [l0, l1, some (.int x), l3] [] σ Q = Ev d 17 17 [l0, l1, some (.int (x + 1)), l3] [] σ Q := ev_S d17_14 rfl rfl rfl rfl
theorem d17_17 : decode (ab_C 17) 17 = .ok (.goto (-12), 3) := by decide +kernel
theorem e17_17 {d : Nat} {l0 l1 l2 l3 : Option Value} {σ : ab_St} {Q : Option Value → ab_St → Prop} : Ev d 17 17 [l0, l1, l2, l3] [] σ Q = Ev d 17 5 [l0, l1, l2, l3] [] σ Q := ev_J d17_17 rfl rfl rfl rfl rfl
theorem d17_20 : decode (ab_C 17) 20 = .ok (.return_, 1) := by decide +kernel
theorem e17_20 {d : Nat} {l0 l1 l2 l3 : Option Value} {σ : ab_St} {Q : Option Value → ab_St → Prop} : Ev d 17 20 [l0, l1, l2, l3] [] σ Q = Q none σ := ev_E d17_20 rfl rfl rfl rfl rfl rfl rfl
/-! SaidLeast$Reader.takes(I)Z -/
theorem d18_0 : decode (ab_C 18) 0 = .ok (.aload_n 0, 1) := by decide +kernel
theorem e18_0 {d : Nat} {l1 : Option Value} {x : Nat} {σ : ab_St} {Q : Option Value → ab_St → Prop} : Ev d 18 0 [some (.ref x), l1] [] σ Q = Ev d 18 1 [some (.ref x), l1] [.ref x] σ Q := ev_A1 d18_0 rfl
theorem d18_1 : decode (ab_C 18) 1 = .ok (.getfield 42, 3) := by decide +kernel
theorem e18_1 {d : Nat} {l0 l1 : Option Value} {s0 : Nat} {σ : ab_St} {Q : Option Value → ab_St → Prop} : Ev d 18 1 [l0, l1] [.ref s0] σ Q = (ab_k s0 = 2 ∧ Ev d 18 4 [l0, l1] [.int (σ.1 s0 2)] σ Q) := ev_Hc (c := ab_k s0 = 2) d18_1 rfl rfl rfl rfl rfl rfl rfl rfl
theorem d18_4 : decode (ab_C 18) 4 = .ok (.tableswitch 127 0 7 #[48, 54, 63, 82, 91, 100, 109, 118], 48) := by decide +kernel
theorem e18_4 {d : Nat} {l0 l1 : Option Value} {s0 : Int32} {σ : ab_St} {Q : Option Value → ab_St → Prop} : Ev d 18 4 [l0, l1] [.int s0] σ Q = if s0 = 0 then Ev d 18 52 [l0, l1] [] σ Q else if s0 = 1 then Ev d 18 58 [l0, l1] [] σ Q else if s0 = 2 then Ev d 18 67 [l0, l1] [] σ Q else if s0 = 3 then Ev d 18 86 [l0, l1] [] σ Q else if s0 = 4 then Ev d 18 95 [l0, l1] [] σ Q else if s0 = 5 then Ev d 18 104 [l0, l1] [] σ Q else if s0 = 6 then Ev d 18 113 [l0, l1] [] σ Q else if s0 = 7 then Ev d 18 122 [l0, l1] [] σ Q else Ev d 18 131 [l0, l1] [] σ Q := ev_T (ts := [52, 58, 67, 86, 95, 104, 113, 122]) (df := 131) d18_4 (by decide +kernel)
theorem d18_52 : decode (ab_C 18) 52 = .ok (.aload_n 0, 1) := by decide +kernel
theorem e18_52 {d : Nat} {l1 : Option Value} {x : Nat} {σ : ab_St} {Q : Option Value → ab_St → Prop} : Ev d 18 52 [some (.ref x), l1] [] σ Q = Ev d 18 53 [some (.ref x), l1] [.ref x] σ Q := ev_A1 d18_52 rfl
theorem d18_53 : decode (ab_C 18) 53 = .ok (.iload_n 1, 1) := by decide +kernel
theorem e18_53 {d : Nat} {l0 : Option Value} {x : Int32} {s0 : Nat} {σ : ab_St} {Q : Option Value → ab_St → Prop} : Ev d 18 53 [l0, some (.int x)] [.ref s0] σ Q = Ev d 18 54 [l0, some (.int x)] [.int x, .ref s0] σ Q := ev_A1 d18_53 rfl
theorem d18_54 : decode (ab_C 18) 54 = .ok (.invokevirtual 70, 3) := by decide +kernel
theorem e18_54 {d : Nat} {l0 l1 : Option Value} {s0 : Int32} {s1 : Nat} {σ : ab_St} {Q : Option Value → ab_St → Prop} : Ev (d + 1) 18 54 [l0, l1] [.int s0, .ref s1] σ Q = (ab_k s1 = 2 ∧ Ev d 19 0 [some (.ref s1), some (.int s0)] [] σ (fun r σ2 => Ev (d + 1) 18 57 [l0, l1] (r.toList ++ []) σ2 Q)) := ev_KV (b := s1) (ls := [l0, l1]) (st := [.int s0, .ref s1]) (as := [.int s0]) (rest := []) d18_54 rfl rfl rfl (Nat.le_of_ble_eq_true rfl) (Nat.le_of_ble_eq_true rfl) (Nat.le_of_ble_eq_true rfl) rfl rfl rfl rfl rfl rfl rfl
theorem d18_57 : decode (ab_C 18) 57 = .ok (.ireturn, 1) := by decide +kernel
theorem e18_57 {d : Nat} {l0 l1 : Option Value} {s0 : Int32} {σ : ab_St} {Q : Option Value → ab_St → Prop} : Ev d 18 57 [l0, l1] [.int s0] σ Q = ((s0 = 0 ∨ s0 = 1) ∧ Q (some (.int s0)) σ) := ev_Z d18_57 rfl
theorem d18_58 : decode (ab_C 18) 58 = .ok (.aload_n 0, 1) := by decide +kernel
theorem e18_58 {d : Nat} {l1 : Option Value} {x : Nat} {σ : ab_St} {Q : Option Value → ab_St → Prop} : Ev d 18 58 [some (.ref x), l1] [] σ Q = Ev d 18 59 [some (.ref x), l1] [.ref x] σ Q := ev_A1 d18_58 rfl
theorem d18_59 : decode (ab_C 18) 59 = .ok (.iload_n 1, 1) := by decide +kernel
theorem e18_59 {d : Nat} {l0 : Option Value} {x : Int32} {s0 : Nat} {σ : ab_St} {Q : Option Value → ab_St → Prop} : Ev d 18 59 [l0, some (.int x)] [.ref s0] σ Q = Ev d 18 60 [l0, some (.int x)] [.int x, .ref s0] σ Q := ev_A1 d18_59 rfl
theorem d18_60 : decode (ab_C 18) 60 = .ok (.bipush 48, 2) := by decide +kernel
theorem e18_60 {d : Nat} {l0 l1 : Option Value} {s0 : Int32} {s1 : Nat} {σ : ab_St} {Q : Option Value → ab_St → Prop} : Ev d 18 60 [l0, l1] [.int s0, .ref s1] σ Q = Ev d 18 62 [l0, l1] [.int 48, .int s0, .ref s1] σ Q := ev_A1 d18_60 rfl
theorem d18_62 : decode (ab_C 18) 62 = .ok (.isub, 1) := by decide +kernel
theorem e18_62 {d : Nat} {l0 l1 : Option Value} {s0 : Int32} {s1 : Int32} {s2 : Nat} {σ : ab_St} {Q : Option Value → ab_St → Prop} : Ev d 18 62 [l0, l1] [.int s0, .int s1, .ref s2] σ Q = Ev d 18 63 [l0, l1] [.int (s1 - s0), .ref s2] σ Q := ev_A2 d18_62 rfl rfl
theorem d18_63 : decode (ab_C 18) 63 = .ok (.invokevirtual 73, 3) := by decide +kernel
theorem e18_63 {d : Nat} {l0 l1 : Option Value} {s0 : Int32} {s1 : Nat} {σ : ab_St} {Q : Option Value → ab_St → Prop} : Ev (d + 1) 18 63 [l0, l1] [.int s0, .ref s1] σ Q = (ab_k s1 = 2 ∧ Ev d 20 0 [some (.ref s1), some (.int s0)] [] σ (fun r σ2 => Ev (d + 1) 18 66 [l0, l1] (r.toList ++ []) σ2 Q)) := ev_KV (b := s1) (ls := [l0, l1]) (st := [.int s0, .ref s1]) (as := [.int s0]) (rest := []) d18_63 rfl rfl rfl (Nat.le_of_ble_eq_true rfl) (Nat.le_of_ble_eq_true rfl) (Nat.le_of_ble_eq_true rfl) rfl rfl rfl rfl rfl rfl rfl
theorem d18_66 : decode (ab_C 18) 66 = .ok (.ireturn, 1) := by decide +kernel
theorem e18_66 {d : Nat} {l0 l1 : Option Value} {s0 : Int32} {σ : ab_St} {Q : Option Value → ab_St → Prop} : Ev d 18 66 [l0, l1] [.int s0] σ Q = ((s0 = 0 ∨ s0 = 1) ∧ Q (some (.int s0)) σ) := ev_Z d18_66 rfl
theorem d18_67 : decode (ab_C 18) 67 = .ok (.iload_n 1, 1) := by decide +kernel
theorem e18_67 {d : Nat} {l0 : Option Value} {x : Int32} {σ : ab_St} {Q : Option Value → ab_St → Prop} : Ev d 18 67 [l0, some (.int x)] [] σ Q = Ev d 18 68 [l0, some (.int x)] [.int x] σ Q := ev_A1 d18_67 rfl
theorem d18_68 : decode (ab_C 18) 68 = .ok (.bipush 83, 2) := by decide +kernel
theorem e18_68 {d : Nat} {l0 l1 : Option Value} {s0 : Int32} {σ : ab_St} {Q : Option Value → ab_St → Prop} : Ev d 18 68 [l0, l1] [.int s0] σ Q = Ev d 18 70 [l0, l1] [.int 83, .int s0] σ Q := ev_A1 d18_68 rfl
theorem d18_70 : decode (ab_C 18) 70 = .ok (.if_icmp .ne 10, 3) := by decide +kernel
theorem e18_70 {d : Nat} {l0 l1 : Option Value} {s0 : Int32} {s1 : Int32} {σ : ab_St} {Q : Option Value → ab_St → Prop} : Ev d 18 70 [l0, l1] [.int s0, .int s1] σ Q = if s1 = s0 then Ev d 18 73 [l0, l1] [] σ Q else Ev d 18 80 [l0, l1] [] σ Q := ev_B (c := s1 = s0) d18_70 rfl rfl rfl rfl rfl
theorem d18_73 : decode (ab_C 18) 73 = .ok (.aload_n 0, 1) := by decide +kernel
theorem e18_73 {d : Nat} {l1 : Option Value} {x : Nat} {σ : ab_St} {Q : Option Value → ab_St → Prop} : Ev d 18 73 [some (.ref x), l1] [] σ Q = Ev d 18 74 [some (.ref x), l1] [.ref x] σ Q := ev_A1 d18_73 rfl
theorem d18_74 : decode (ab_C 18) 74 = .ok (.invokevirtual 76, 3) := by decide +kernel
theorem e18_74 {d : Nat} {l0 l1 : Option Value} {s0 : Nat} {σ : ab_St} {Q : Option Value → ab_St → Prop} : Ev (d + 1) 18 74 [l0, l1] [.ref s0] σ Q = (ab_k s0 = 2 ∧ Ev d 21 0 [some (.ref s0)] [] σ (fun r σ2 => Ev (d + 1) 18 77 [l0, l1] (r.toList ++ []) σ2 Q)) := ev_KV (b := s0) (ls := [l0, l1]) (st := [.ref s0]) (as := []) (rest := []) d18_74 rfl rfl rfl (Nat.le_of_ble_eq_true rfl) (Nat.le_of_ble_eq_true rfl) (Nat.le_of_ble_eq_true rfl) rfl rfl rfl rfl rfl rfl rfl
theorem d18_77 : decode (ab_C 18) 77 = .ok (.goto 8, 3) := by decide +kernel
theorem e18_77 {d : Nat} {l0 l1 : Option Value} {s0 : Int32} {σ : ab_St} {Q : Option Value → ab_St → Prop} : Ev d 18 77 [l0, l1] [.int s0] σ Q = Ev d 18 85 [l0, l1] [.int s0] σ Q := ev_J d18_77 rfl rfl rfl rfl rfl
theorem d18_80 : decode (ab_C 18) 80 = .ok (.aload_n 0, 1) := by decide +kernel
theorem e18_80 {d : Nat} {l1 : Option Value} {x : Nat} {σ : ab_St} {Q : Option Value → ab_St → Prop} : Ev d 18 80 [some (.ref x), l1] [] σ Q = Ev d 18 81 [some (.ref x), l1] [.ref x] σ Q := ev_A1 d18_80 rfl
theorem d18_81 : decode (ab_C 18) 81 = .ok (.iload_n 1, 1) := by decide +kernel
theorem e18_81 {d : Nat} {l0 : Option Value} {x : Int32} {s0 : Nat} {σ : ab_St} {Q : Option Value → ab_St → Prop} : Ev d 18 81 [l0, some (.int x)] [.ref s0] σ Q = Ev d 18 82 [l0, some (.int x)] [.int x, .ref s0] σ Q := ev_A1 d18_81 rfl
theorem d18_82 : decode (ab_C 18) 82 = .ok (.invokevirtual 80, 3) := by decide +kernel
theorem e18_82 {d : Nat} {l0 l1 : Option Value} {s0 : Int32} {s1 : Nat} {σ : ab_St} {Q : Option Value → ab_St → Prop} : Ev (d + 1) 18 82 [l0, l1] [.int s0, .ref s1] σ Q = (ab_k s1 = 2 ∧ Ev d 22 0 [some (.ref s1), some (.int s0)] [] σ (fun r σ2 => Ev (d + 1) 18 85 [l0, l1] (r.toList ++ []) σ2 Q)) := ev_KV (b := s1) (ls := [l0, l1]) (st := [.int s0, .ref s1]) (as := [.int s0]) (rest := []) d18_82 rfl rfl rfl (Nat.le_of_ble_eq_true rfl) (Nat.le_of_ble_eq_true rfl) (Nat.le_of_ble_eq_true rfl) rfl rfl rfl rfl rfl rfl rfl
theorem d18_85 : decode (ab_C 18) 85 = .ok (.ireturn, 1) := by decide +kernel
theorem e18_85 {d : Nat} {l0 l1 : Option Value} {s0 : Int32} {σ : ab_St} {Q : Option Value → ab_St → Prop} : Ev d 18 85 [l0, l1] [.int s0] σ Q = ((s0 = 0 ∨ s0 = 1) ∧ Q (some (.int s0)) σ) := ev_Z d18_85 rfl
theorem d18_86 : decode (ab_C 18) 86 = .ok (.aload_n 0, 1) := by decide +kernel
theorem e18_86 {d : Nat} {l1 : Option Value} {x : Nat} {σ : ab_St} {Q : Option Value → ab_St → Prop} : Ev d 18 86 [some (.ref x), l1] [] σ Q = Ev d 18 87 [some (.ref x), l1] [.ref x] σ Q := ev_A1 d18_86 rfl
theorem d18_87 : decode (ab_C 18) 87 = .ok (.iload_n 1, 1) := by decide +kernel
theorem e18_87 {d : Nat} {l0 : Option Value} {x : Int32} {s0 : Nat} {σ : ab_St} {Q : Option Value → ab_St → Prop} : Ev d 18 87 [l0, some (.int x)] [.ref s0] σ Q = Ev d 18 88 [l0, some (.int x)] [.int x, .ref s0] σ Q := ev_A1 d18_87 rfl
theorem d18_88 : decode (ab_C 18) 88 = .ok (.bipush 48, 2) := by decide +kernel
theorem e18_88 {d : Nat} {l0 l1 : Option Value} {s0 : Int32} {s1 : Nat} {σ : ab_St} {Q : Option Value → ab_St → Prop} : Ev d 18 88 [l0, l1] [.int s0, .ref s1] σ Q = Ev d 18 90 [l0, l1] [.int 48, .int s0, .ref s1] σ Q := ev_A1 d18_88 rfl
theorem d18_90 : decode (ab_C 18) 90 = .ok (.isub, 1) := by decide +kernel
theorem e18_90 {d : Nat} {l0 l1 : Option Value} {s0 : Int32} {s1 : Int32} {s2 : Nat} {σ : ab_St} {Q : Option Value → ab_St → Prop} : Ev d 18 90 [l0, l1] [.int s0, .int s1, .ref s2] σ Q = Ev d 18 91 [l0, l1] [.int (s1 - s0), .ref s2] σ Q := ev_A2 d18_90 rfl rfl
theorem d18_91 : decode (ab_C 18) 91 = .ok (.invokevirtual 83, 3) := by decide +kernel
theorem e18_91 {d : Nat} {l0 l1 : Option Value} {s0 : Int32} {s1 : Nat} {σ : ab_St} {Q : Option Value → ab_St → Prop} : Ev (d + 1) 18 91 [l0, l1] [.int s0, .ref s1] σ Q = (ab_k s1 = 2 ∧ Ev d 23 0 [some (.ref s1), some (.int s0)] [] σ (fun r σ2 => Ev (d + 1) 18 94 [l0, l1] (r.toList ++ []) σ2 Q)) := ev_KV (b := s1) (ls := [l0, l1]) (st := [.int s0, .ref s1]) (as := [.int s0]) (rest := []) d18_91 rfl rfl rfl (Nat.le_of_ble_eq_true rfl) (Nat.le_of_ble_eq_true rfl) (Nat.le_of_ble_eq_true rfl) rfl rfl rfl rfl rfl rfl rfl
theorem d18_94 : decode (ab_C 18) 94 = .ok (.ireturn, 1) := by decide +kernel
theorem e18_94 {d : Nat} {l0 l1 : Option Value} {s0 : Int32} {σ : ab_St} {Q : Option Value → ab_St → Prop} : Ev d 18 94 [l0, l1] [.int s0] σ Q = ((s0 = 0 ∨ s0 = 1) ∧ Q (some (.int s0)) σ) := ev_Z d18_94 rfl
theorem d18_95 : decode (ab_C 18) 95 = .ok (.aload_n 0, 1) := by decide +kernel
theorem e18_95 {d : Nat} {l1 : Option Value} {x : Nat} {σ : ab_St} {Q : Option Value → ab_St → Prop} : Ev d 18 95 [some (.ref x), l1] [] σ Q = Ev d 18 96 [some (.ref x), l1] [.ref x] σ Q := ev_A1 d18_95 rfl
theorem d18_96 : decode (ab_C 18) 96 = .ok (.iload_n 1, 1) := by decide +kernel
theorem e18_96 {d : Nat} {l0 : Option Value} {x : Int32} {s0 : Nat} {σ : ab_St} {Q : Option Value → ab_St → Prop} : Ev d 18 96 [l0, some (.int x)] [.ref s0] σ Q = Ev d 18 97 [l0, some (.int x)] [.int x, .ref s0] σ Q := ev_A1 d18_96 rfl
theorem d18_97 : decode (ab_C 18) 97 = .ok (.bipush 48, 2) := by decide +kernel
theorem e18_97 {d : Nat} {l0 l1 : Option Value} {s0 : Int32} {s1 : Nat} {σ : ab_St} {Q : Option Value → ab_St → Prop} : Ev d 18 97 [l0, l1] [.int s0, .ref s1] σ Q = Ev d 18 99 [l0, l1] [.int 48, .int s0, .ref s1] σ Q := ev_A1 d18_97 rfl
theorem d18_99 : decode (ab_C 18) 99 = .ok (.isub, 1) := by decide +kernel
theorem e18_99 {d : Nat} {l0 l1 : Option Value} {s0 : Int32} {s1 : Int32} {s2 : Nat} {σ : ab_St} {Q : Option Value → ab_St → Prop} : Ev d 18 99 [l0, l1] [.int s0, .int s1, .ref s2] σ Q = Ev d 18 100 [l0, l1] [.int (s1 - s0), .ref s2] σ Q := ev_A2 d18_99 rfl rfl
theorem d18_100 : decode (ab_C 18) 100 = .ok (.invokevirtual 86, 3) := by decide +kernel
theorem e18_100 {d : Nat} {l0 l1 : Option Value} {s0 : Int32} {s1 : Nat} {σ : ab_St} {Q : Option Value → ab_St → Prop} : Ev (d + 1) 18 100 [l0, l1] [.int s0, .ref s1] σ Q = (ab_k s1 = 2 ∧ Ev d 24 0 [some (.ref s1), some (.int s0)] [] σ (fun r σ2 => Ev (d + 1) 18 103 [l0, l1] (r.toList ++ []) σ2 Q)) := ev_KV (b := s1) (ls := [l0, l1]) (st := [.int s0, .ref s1]) (as := [.int s0]) (rest := []) d18_100 rfl rfl rfl (Nat.le_of_ble_eq_true rfl) (Nat.le_of_ble_eq_true rfl) (Nat.le_of_ble_eq_true rfl) rfl rfl rfl rfl rfl rfl rfl
theorem d18_103 : decode (ab_C 18) 103 = .ok (.ireturn, 1) := by decide +kernel
theorem e18_103 {d : Nat} {l0 l1 : Option Value} {s0 : Int32} {σ : ab_St} {Q : Option Value → ab_St → Prop} : Ev d 18 103 [l0, l1] [.int s0] σ Q = ((s0 = 0 ∨ s0 = 1) ∧ Q (some (.int s0)) σ) := ev_Z d18_103 rfl
theorem d18_104 : decode (ab_C 18) 104 = .ok (.aload_n 0, 1) := by decide +kernel
theorem e18_104 {d : Nat} {l1 : Option Value} {x : Nat} {σ : ab_St} {Q : Option Value → ab_St → Prop} : Ev d 18 104 [some (.ref x), l1] [] σ Q = Ev d 18 105 [some (.ref x), l1] [.ref x] σ Q := ev_A1 d18_104 rfl
theorem d18_105 : decode (ab_C 18) 105 = .ok (.iload_n 1, 1) := by decide +kernel
theorem e18_105 {d : Nat} {l0 : Option Value} {x : Int32} {s0 : Nat} {σ : ab_St} {Q : Option Value → ab_St → Prop} : Ev d 18 105 [l0, some (.int x)] [.ref s0] σ Q = Ev d 18 106 [l0, some (.int x)] [.int x, .ref s0] σ Q := ev_A1 d18_105 rfl
theorem d18_106 : decode (ab_C 18) 106 = .ok (.bipush 48, 2) := by decide +kernel
theorem e18_106 {d : Nat} {l0 l1 : Option Value} {s0 : Int32} {s1 : Nat} {σ : ab_St} {Q : Option Value → ab_St → Prop} : Ev d 18 106 [l0, l1] [.int s0, .ref s1] σ Q = Ev d 18 108 [l0, l1] [.int 48, .int s0, .ref s1] σ Q := ev_A1 d18_106 rfl
theorem d18_108 : decode (ab_C 18) 108 = .ok (.isub, 1) := by decide +kernel
theorem e18_108 {d : Nat} {l0 l1 : Option Value} {s0 : Int32} {s1 : Int32} {s2 : Nat} {σ : ab_St} {Q : Option Value → ab_St → Prop} : Ev d 18 108 [l0, l1] [.int s0, .int s1, .ref s2] σ Q = Ev d 18 109 [l0, l1] [.int (s1 - s0), .ref s2] σ Q := ev_A2 d18_108 rfl rfl
theorem d18_109 : decode (ab_C 18) 109 = .ok (.invokevirtual 89, 3) := by decide +kernel
theorem e18_109 {d : Nat} {l0 l1 : Option Value} {s0 : Int32} {s1 : Nat} {σ : ab_St} {Q : Option Value → ab_St → Prop} : Ev (d + 1) 18 109 [l0, l1] [.int s0, .ref s1] σ Q = (ab_k s1 = 2 ∧ Ev d 25 0 [some (.ref s1), some (.int s0)] [] σ (fun r σ2 => Ev (d + 1) 18 112 [l0, l1] (r.toList ++ []) σ2 Q)) := ev_KV (b := s1) (ls := [l0, l1]) (st := [.int s0, .ref s1]) (as := [.int s0]) (rest := []) d18_109 rfl rfl rfl (Nat.le_of_ble_eq_true rfl) (Nat.le_of_ble_eq_true rfl) (Nat.le_of_ble_eq_true rfl) rfl rfl rfl rfl rfl rfl rfl
theorem d18_112 : decode (ab_C 18) 112 = .ok (.ireturn, 1) := by decide +kernel
theorem e18_112 {d : Nat} {l0 l1 : Option Value} {s0 : Int32} {σ : ab_St} {Q : Option Value → ab_St → Prop} : Ev d 18 112 [l0, l1] [.int s0] σ Q = ((s0 = 0 ∨ s0 = 1) ∧ Q (some (.int s0)) σ) := ev_Z d18_112 rfl
theorem d18_113 : decode (ab_C 18) 113 = .ok (.aload_n 0, 1) := by decide +kernel
theorem e18_113 {d : Nat} {l1 : Option Value} {x : Nat} {σ : ab_St} {Q : Option Value → ab_St → Prop} : Ev d 18 113 [some (.ref x), l1] [] σ Q = Ev d 18 114 [some (.ref x), l1] [.ref x] σ Q := ev_A1 d18_113 rfl
theorem d18_114 : decode (ab_C 18) 114 = .ok (.iload_n 1, 1) := by decide +kernel
theorem e18_114 {d : Nat} {l0 : Option Value} {x : Int32} {s0 : Nat} {σ : ab_St} {Q : Option Value → ab_St → Prop} : Ev d 18 114 [l0, some (.int x)] [.ref s0] σ Q = Ev d 18 115 [l0, some (.int x)] [.int x, .ref s0] σ Q := ev_A1 d18_114 rfl
theorem d18_115 : decode (ab_C 18) 115 = .ok (.bipush 48, 2) := by decide +kernel
theorem e18_115 {d : Nat} {l0 l1 : Option Value} {s0 : Int32} {s1 : Nat} {σ : ab_St} {Q : Option Value → ab_St → Prop} : Ev d 18 115 [l0, l1] [.int s0, .ref s1] σ Q = Ev d 18 117 [l0, l1] [.int 48, .int s0, .ref s1] σ Q := ev_A1 d18_115 rfl
theorem d18_117 : decode (ab_C 18) 117 = .ok (.isub, 1) := by decide +kernel
theorem e18_117 {d : Nat} {l0 l1 : Option Value} {s0 : Int32} {s1 : Int32} {s2 : Nat} {σ : ab_St} {Q : Option Value → ab_St → Prop} : Ev d 18 117 [l0, l1] [.int s0, .int s1, .ref s2] σ Q = Ev d 18 118 [l0, l1] [.int (s1 - s0), .ref s2] σ Q := ev_A2 d18_117 rfl rfl
theorem d18_118 : decode (ab_C 18) 118 = .ok (.invokevirtual 92, 3) := by decide +kernel
theorem e18_118 {d : Nat} {l0 l1 : Option Value} {s0 : Int32} {s1 : Nat} {σ : ab_St} {Q : Option Value → ab_St → Prop} : Ev (d + 1) 18 118 [l0, l1] [.int s0, .ref s1] σ Q = (ab_k s1 = 2 ∧ Ev d 27 0 [some (.ref s1), some (.int s0)] [] σ (fun r σ2 => Ev (d + 1) 18 121 [l0, l1] (r.toList ++ []) σ2 Q)) := ev_KV (b := s1) (ls := [l0, l1]) (st := [.int s0, .ref s1]) (as := [.int s0]) (rest := []) d18_118 rfl rfl rfl (Nat.le_of_ble_eq_true rfl) (Nat.le_of_ble_eq_true rfl) (Nat.le_of_ble_eq_true rfl) rfl rfl rfl rfl rfl rfl rfl
theorem d18_121 : decode (ab_C 18) 121 = .ok (.ireturn, 1) := by decide +kernel
theorem e18_121 {d : Nat} {l0 l1 : Option Value} {s0 : Int32} {σ : ab_St} {Q : Option Value → ab_St → Prop} : Ev d 18 121 [l0, l1] [.int s0] σ Q = ((s0 = 0 ∨ s0 = 1) ∧ Q (some (.int s0)) σ) := ev_Z d18_121 rfl
theorem d18_122 : decode (ab_C 18) 122 = .ok (.aload_n 0, 1) := by decide +kernel
theorem e18_122 {d : Nat} {l1 : Option Value} {x : Nat} {σ : ab_St} {Q : Option Value → ab_St → Prop} : Ev d 18 122 [some (.ref x), l1] [] σ Q = Ev d 18 123 [some (.ref x), l1] [.ref x] σ Q := ev_A1 d18_122 rfl
theorem d18_123 : decode (ab_C 18) 123 = .ok (.iload_n 1, 1) := by decide +kernel
theorem e18_123 {d : Nat} {l0 : Option Value} {x : Int32} {s0 : Nat} {σ : ab_St} {Q : Option Value → ab_St → Prop} : Ev d 18 123 [l0, some (.int x)] [.ref s0] σ Q = Ev d 18 124 [l0, some (.int x)] [.int x, .ref s0] σ Q := ev_A1 d18_123 rfl
theorem d18_124 : decode (ab_C 18) 124 = .ok (.bipush 48, 2) := by decide +kernel
theorem e18_124 {d : Nat} {l0 l1 : Option Value} {s0 : Int32} {s1 : Nat} {σ : ab_St} {Q : Option Value → ab_St → Prop} : Ev d 18 124 [l0, l1] [.int s0, .ref s1] σ Q = Ev d 18 126 [l0, l1] [.int 48, .int s0, .ref s1] σ Q := ev_A1 d18_124 rfl
theorem d18_126 : decode (ab_C 18) 126 = .ok (.isub, 1) := by decide +kernel
theorem e18_126 {d : Nat} {l0 l1 : Option Value} {s0 : Int32} {s1 : Int32} {s2 : Nat} {σ : ab_St} {Q : Option Value → ab_St → Prop} : Ev d 18 126 [l0, l1] [.int s0, .int s1, .ref s2] σ Q = Ev d 18 127 [l0, l1] [.int (s1 - s0), .ref s2] σ Q := ev_A2 d18_126 rfl rfl
theorem d18_127 : decode (ab_C 18) 127 = .ok (.invokevirtual 95, 3) := by decide +kernel
theorem e18_127 {d : Nat} {l0 l1 : Option Value} {s0 : Int32} {s1 : Nat} {σ : ab_St} {Q : Option Value → ab_St → Prop} : Ev (d + 1) 18 127 [l0, l1] [.int s0, .ref s1] σ Q = (ab_k s1 = 2 ∧ Ev d 28 0 [some (.ref s1), some (.int s0)] [] σ (fun r σ2 => Ev (d + 1) 18 130 [l0, l1] (r.toList ++ []) σ2 Q)) := ev_KV (b := s1) (ls := [l0, l1]) (st := [.int s0, .ref s1]) (as := [.int s0]) (rest := []) d18_127 rfl rfl rfl (Nat.le_of_ble_eq_true rfl) (Nat.le_of_ble_eq_true rfl) (Nat.le_of_ble_eq_true rfl) rfl rfl rfl rfl rfl rfl rfl
theorem d18_130 : decode (ab_C 18) 130 = .ok (.ireturn, 1) := by decide +kernel
theorem e18_130 {d : Nat} {l0 l1 : Option Value} {s0 : Int32} {σ : ab_St} {Q : Option Value → ab_St → Prop} : Ev d 18 130 [l0, l1] [.int s0] σ Q = ((s0 = 0 ∨ s0 = 1) ∧ Q (some (.int s0)) σ) := ev_Z d18_130 rfl
theorem d18_131 : decode (ab_C 18) 131 = .ok (.iload_n 1, 1) := by decide +kernel
theorem e18_131 {d : Nat} {l0 : Option Value} {x : Int32} {σ : ab_St} {Q : Option Value → ab_St → Prop} : Ev d 18 131 [l0, some (.int x)] [] σ Q = Ev d 18 132 [l0, some (.int x)] [.int x] σ Q := ev_A1 d18_131 rfl
theorem d18_132 : decode (ab_C 18) 132 = .ok (.bipush 45, 2) := by decide +kernel
theorem e18_132 {d : Nat} {l0 l1 : Option Value} {s0 : Int32} {σ : ab_St} {Q : Option Value → ab_St → Prop} : Ev d 18 132 [l0, l1] [.int s0] σ Q = Ev d 18 134 [l0, l1] [.int 45, .int s0] σ Q := ev_A1 d18_132 rfl
theorem d18_134 : decode (ab_C 18) 134 = .ok (.if_icmp .ne 12, 3) := by decide +kernel
theorem e18_134 {d : Nat} {l0 l1 : Option Value} {s0 : Int32} {s1 : Int32} {σ : ab_St} {Q : Option Value → ab_St → Prop} : Ev d 18 134 [l0, l1] [.int s0, .int s1] σ Q = if s1 = s0 then Ev d 18 137 [l0, l1] [] σ Q else Ev d 18 146 [l0, l1] [] σ Q := ev_B (c := s1 = s0) d18_134 rfl rfl rfl rfl rfl
theorem d18_137 : decode (ab_C 18) 137 = .ok (.aload_n 0, 1) := by decide +kernel
theorem e18_137 {d : Nat} {l1 : Option Value} {x : Nat} {σ : ab_St} {Q : Option Value → ab_St → Prop} : Ev d 18 137 [some (.ref x), l1] [] σ Q = Ev d 18 138 [some (.ref x), l1] [.ref x] σ Q := ev_A1 d18_137 rfl
theorem d18_138 : decode (ab_C 18) 138 = .ok (.bipush (-9), 2) := by decide +kernel
theorem e18_138 {d : Nat} {l0 l1 : Option Value} {s0 : Nat} {σ : ab_St} {Q : Option Value → ab_St → Prop} : Ev d 18 138 [l0, l1] [.ref s0] σ Q = Ev d 18 140 [l0, l1] [.int (-9), .ref s0] σ Q := ev_A1 d18_138 rfl
theorem d18_140 : decode (ab_C 18) 140 = .ok (.invokevirtual 98, 3) := by decide +kernel
theorem e18_140 {d : Nat} {l0 l1 : Option Value} {s0 : Int32} {s1 : Nat} {σ : ab_St} {Q : Option Value → ab_St → Prop} : Ev (d + 1) 18 140 [l0, l1] [.int s0, .ref s1] σ Q = (ab_k s1 = 2 ∧ Ev d 29 0 [some (.ref s1), some (.int s0)] [] σ (fun r σ2 => Ev (d + 1) 18 143 [l0, l1] (r.toList ++ []) σ2 Q)) := ev_KV (b := s1) (ls := [l0, l1]) (st := [.int s0, .ref s1]) (as := [.int s0]) (rest := []) d18_140 rfl rfl rfl (Nat.le_of_ble_eq_true rfl) (Nat.le_of_ble_eq_true rfl) (Nat.le_of_ble_eq_true rfl) rfl rfl rfl rfl rfl rfl rfl
theorem d18_143 : decode (ab_C 18) 143 = .ok (.goto 11, 3) := by decide +kernel
theorem e18_143 {d : Nat} {l0 l1 : Option Value} {s0 : Int32} {σ : ab_St} {Q : Option Value → ab_St → Prop} : Ev d 18 143 [l0, l1] [.int s0] σ Q = Ev d 18 154 [l0, l1] [.int s0] σ Q := ev_J d18_143 rfl rfl rfl rfl rfl
theorem d18_146 : decode (ab_C 18) 146 = .ok (.aload_n 0, 1) := by decide +kernel
theorem e18_146 {d : Nat} {l1 : Option Value} {x : Nat} {σ : ab_St} {Q : Option Value → ab_St → Prop} : Ev d 18 146 [some (.ref x), l1] [] σ Q = Ev d 18 147 [some (.ref x), l1] [.ref x] σ Q := ev_A1 d18_146 rfl
theorem d18_147 : decode (ab_C 18) 147 = .ok (.iload_n 1, 1) := by decide +kernel
theorem e18_147 {d : Nat} {l0 : Option Value} {x : Int32} {s0 : Nat} {σ : ab_St} {Q : Option Value → ab_St → Prop} : Ev d 18 147 [l0, some (.int x)] [.ref s0] σ Q = Ev d 18 148 [l0, some (.int x)] [.int x, .ref s0] σ Q := ev_A1 d18_147 rfl
theorem d18_148 : decode (ab_C 18) 148 = .ok (.bipush 48, 2) := by decide +kernel
theorem e18_148 {d : Nat} {l0 l1 : Option Value} {s0 : Int32} {s1 : Nat} {σ : ab_St} {Q : Option Value → ab_St → Prop} : Ev d 18 148 [l0, l1] [.int s0, .ref s1] σ Q = Ev d 18 150 [l0, l1] [.int 48, .int s0, .ref s1] σ Q := ev_A1 d18_148 rfl
theorem d18_150 : decode (ab_C 18) 150 = .ok (.isub, 1) := by decide +kernel
theorem e18_150 {d : Nat} {l0 l1 : Option Value} {s0 : Int32} {s1 : Int32} {s2 : Nat} {σ : ab_St} {Q : Option Value → ab_St → Prop} : Ev d 18 150 [l0, l1] [.int s0, .int s1, .ref s2] σ Q = Ev d 18 151 [l0, l1] [.int (s1 - s0), .ref s2] σ Q := ev_A2 d18_150 rfl rfl
theorem d18_151 : decode (ab_C 18) 151 = .ok (.invokevirtual 101, 3) := by decide +kernel
theorem e18_151 {d : Nat} {l0 l1 : Option Value} {s0 : Int32} {s1 : Nat} {σ : ab_St} {Q : Option Value → ab_St → Prop} : Ev (d + 1) 18 151 [l0, l1] [.int s0, .ref s1] σ Q = (ab_k s1 = 2 ∧ Ev d 30 0 [some (.ref s1), some (.int s0)] [] σ (fun r σ2 => Ev (d + 1) 18 154 [l0, l1] (r.toList ++ []) σ2 Q)) := ev_KV (b := s1) (ls := [l0, l1]) (st := [.int s0, .ref s1]) (as := [.int s0]) (rest := []) d18_151 rfl rfl rfl (Nat.le_of_ble_eq_true rfl) (Nat.le_of_ble_eq_true rfl) (Nat.le_of_ble_eq_true rfl) rfl rfl rfl rfl rfl rfl rfl
theorem d18_154 : decode (ab_C 18) 154 = .ok (.ireturn, 1) := by decide +kernel
theorem e18_154 {d : Nat} {l0 l1 : Option Value} {s0 : Int32} {σ : ab_St} {Q : Option Value → ab_St → Prop} : Ev d 18 154 [l0, l1] [.int s0] σ Q = ((s0 = 0 ∨ s0 = 1) ∧ Q (some (.int s0)) σ) := ev_Z d18_154 rfl
/-! SaidLeast$Reader.takesStart(I)Z -/
theorem d19_0 : decode (ab_C 19) 0 = .ok (.aload_n 0, 1) := by decide +kernel
theorem e19_0 {d : Nat} {l1 : Option Value} {x : Nat} {σ : ab_St} {Q : Option Value → ab_St → Prop} : Ev d 19 0 [some (.ref x), l1] [] σ Q = Ev d 19 1 [some (.ref x), l1] [.ref x] σ Q := ev_A1 d19_0 rfl
theorem d19_1 : decode (ab_C 19) 1 = .ok (.iconst 1, 1) := by decide +kernel
theorem e19_1 {d : Nat} {l0 l1 : Option Value} {s0 : Nat} {σ : ab_St} {Q : Option Value → ab_St → Prop} : Ev d 19 1 [l0, l1] [.ref s0] σ Q = Ev d 19 2 [l0, l1] [.int 1, .ref s0] σ Q := ev_A1 d19_1 rfl
theorem d19_2 : decode (ab_C 19) 2 = .ok (.putfield 42, 3) := by decide +kernel
theorem e19_2 {d : Nat} {l0 l1 : Option Value} {s0 : Int32} {s1 : Nat} {σ : ab_St} {Q : Option Value → ab_St → Prop} : Ev d 19 2 [l0, l1] [.int s0, .ref s1] σ Q = (ab_k s1 = 2 ∧ Ev d 19 5 [l0, l1] [] (ab_wI σ s1 (upd (σ.1 s1) 2 s0)) Q) := ev_Hc (c := ab_k s1 = 2) d19_2 rfl rfl rfl rfl rfl rfl rfl rfl
theorem d19_5 : decode (ab_C 19) 5 = .ok (.iload_n 1, 1) := by decide +kernel
theorem e19_5 {d : Nat} {l0 : Option Value} {x : Int32} {σ : ab_St} {Q : Option Value → ab_St → Prop} : Ev d 19 5 [l0, some (.int x)] [] σ Q = Ev d 19 6 [l0, some (.int x)] [.int x] σ Q := ev_A1 d19_5 rfl
theorem d19_6 : decode (ab_C 19) 6 = .ok (.bipush 81, 2) := by decide +kernel
theorem e19_6 {d : Nat} {l0 l1 : Option Value} {s0 : Int32} {σ : ab_St} {Q : Option Value → ab_St → Prop} : Ev d 19 6 [l0, l1] [.int s0] σ Q = Ev d 19 8 [l0, l1] [.int 81, .int s0] σ Q := ev_A1 d19_6 rfl
theorem d19_8 : decode (ab_C 19) 8 = .ok (.if_icmp .ne 7, 3) := by decide +kernel
theorem e19_8 {d : Nat} {l0 l1 : Option Value} {s0 : Int32} {s1 : Int32} {σ : ab_St} {Q : Option Value → ab_St → Prop} : Ev d 19 8 [l0, l1] [.int s0, .int s1] σ Q = if s1 = s0 then Ev d 19 11 [l0, l1] [] σ Q else Ev d 19 15 [l0, l1] [] σ Q := ev_B (c := s1 = s0) d19_8 rfl rfl rfl rfl rfl
theorem d19_11 : decode (ab_C 19) 11 = .ok (.iconst 1, 1) := by decide +kernel
theorem e19_11 {d : Nat} {l0 l1 : Option Value} {σ : ab_St} {Q : Option Value → ab_St → Prop} : Ev d 19 11 [l0, l1] [] σ Q = Ev d 19 12 [l0, l1] [.int 1] σ Q := ev_A1 d19_11 rfl
theorem d19_12 : decode (ab_C 19) 12 = .ok (.goto 4, 3) := by decide +kernel
theorem e19_12 {d : Nat} {l0 l1 : Option Value} {s0 : Int32} {σ : ab_St} {Q : Option Value → ab_St → Prop} : Ev d 19 12 [l0, l1] [.int s0] σ Q = Ev d 19 16 [l0, l1] [.int s0] σ Q := ev_J d19_12 rfl rfl rfl rfl rfl
theorem d19_15 : decode (ab_C 19) 15 = .ok (.iconst 0, 1) := by decide +kernel
theorem e19_15 {d : Nat} {l0 l1 : Option Value} {σ : ab_St} {Q : Option Value → ab_St → Prop} : Ev d 19 15 [l0, l1] [] σ Q = Ev d 19 16 [l0, l1] [.int 0] σ Q := ev_A1 d19_15 rfl
theorem d19_16 : decode (ab_C 19) 16 = .ok (.ireturn, 1) := by decide +kernel
theorem e19_16 {d : Nat} {l0 l1 : Option Value} {s0 : Int32} {σ : ab_St} {Q : Option Value → ab_St → Prop} : Ev d 19 16 [l0, l1] [.int s0] σ Q = ((s0 = 0 ∨ s0 = 1) ∧ Q (some (.int s0)) σ) := ev_Z d19_16 rfl
/-! SaidLeast$Reader.takesLaw(I)Z -/
theorem d20_0 : decode (ab_C 20) 0 = .ok (.iload_n 1, 1) := by decide +kernel
theorem e20_0 {d : Nat} {l0 : Option Value} {x : Int32} {σ : ab_St} {Q : Option Value → ab_St → Prop} : Ev d 20 0 [l0, some (.int x)] [] σ Q = Ev d 20 1 [l0, some (.int x)] [.int x] σ Q := ev_A1 d20_0 rfl
theorem d20_1 : decode (ab_C 20) 1 = .ok (.ifCond .lt 8, 3) := by decide +kernel
theorem e20_1 {d : Nat} {l0 l1 : Option Value} {s0 : Int32} {σ : ab_St} {Q : Option Value → ab_St → Prop} : Ev d 20 1 [l0, l1] [.int s0] σ Q = if s0 < 0 then Ev d 20 9 [l0, l1] [] σ Q else Ev d 20 4 [l0, l1] [] σ Q := ev_B (c := s0 < 0) d20_1 rfl rfl rfl rfl rfl
theorem d20_4 : decode (ab_C 20) 4 = .ok (.iload_n 1, 1) := by decide +kernel
theorem e20_4 {d : Nat} {l0 : Option Value} {x : Int32} {σ : ab_St} {Q : Option Value → ab_St → Prop} : Ev d 20 4 [l0, some (.int x)] [] σ Q = Ev d 20 5 [l0, some (.int x)] [.int x] σ Q := ev_A1 d20_4 rfl
theorem d20_5 : decode (ab_C 20) 5 = .ok (.iconst 3, 1) := by decide +kernel
theorem e20_5 {d : Nat} {l0 l1 : Option Value} {s0 : Int32} {σ : ab_St} {Q : Option Value → ab_St → Prop} : Ev d 20 5 [l0, l1] [.int s0] σ Q = Ev d 20 6 [l0, l1] [.int 3, .int s0] σ Q := ev_A1 d20_5 rfl
theorem d20_6 : decode (ab_C 20) 6 = .ok (.if_icmp .lt 5, 3) := by decide +kernel
theorem e20_6 {d : Nat} {l0 l1 : Option Value} {s0 : Int32} {s1 : Int32} {σ : ab_St} {Q : Option Value → ab_St → Prop} : Ev d 20 6 [l0, l1] [.int s0, .int s1] σ Q = if s1 < s0 then Ev d 20 11 [l0, l1] [] σ Q else Ev d 20 9 [l0, l1] [] σ Q := ev_B (c := s1 < s0) d20_6 rfl rfl rfl rfl rfl
theorem d20_9 : decode (ab_C 20) 9 = .ok (.iconst 0, 1) := by decide +kernel
theorem e20_9 {d : Nat} {l0 l1 : Option Value} {σ : ab_St} {Q : Option Value → ab_St → Prop} : Ev d 20 9 [l0, l1] [] σ Q = Ev d 20 10 [l0, l1] [.int 0] σ Q := ev_A1 d20_9 rfl
theorem d20_10 : decode (ab_C 20) 10 = .ok (.ireturn, 1) := by decide +kernel
theorem e20_10 {d : Nat} {l0 l1 : Option Value} {s0 : Int32} {σ : ab_St} {Q : Option Value → ab_St → Prop} : Ev d 20 10 [l0, l1] [.int s0] σ Q = ((s0 = 0 ∨ s0 = 1) ∧ Q (some (.int s0)) σ) := ev_Z d20_10 rfl
theorem d20_11 : decode (ab_C 20) 11 = .ok (.aload_n 0, 1) := by decide +kernel
theorem e20_11 {d : Nat} {l1 : Option Value} {x : Nat} {σ : ab_St} {Q : Option Value → ab_St → Prop} : Ev d 20 11 [some (.ref x), l1] [] σ Q = Ev d 20 12 [some (.ref x), l1] [.ref x] σ Q := ev_A1 d20_11 rfl
theorem d20_12 : decode (ab_C 20) 12 = .ok (.getfield 21, 3) := by decide +kernel
theorem e20_12 {d : Nat} {l0 l1 : Option Value} {s0 : Nat} {σ : ab_St} {Q : Option Value → ab_St → Prop} : Ev d 20 12 [l0, l1] [.ref s0] σ Q = (ab_k s0 = 2 ∧ Ev d 20 15 [l0, l1] [.ref (ab_r s0 1)] σ Q) := ev_Hc (c := ab_k s0 = 2) d20_12 rfl rfl rfl rfl rfl rfl rfl rfl
theorem d20_15 : decode (ab_C 20) 15 = .ok (.iload_n 1, 1) := by decide +kernel
theorem e20_15 {d : Nat} {l0 : Option Value} {x : Int32} {s0 : Nat} {σ : ab_St} {Q : Option Value → ab_St → Prop} : Ev d 20 15 [l0, some (.int x)] [.ref s0] σ Q = Ev d 20 16 [l0, some (.int x)] [.int x, .ref s0] σ Q := ev_A1 d20_15 rfl
theorem d20_16 : decode (ab_C 20) 16 = .ok (.putfield 64, 3) := by decide +kernel
theorem e20_16 {d : Nat} {l0 l1 : Option Value} {s0 : Int32} {s1 : Nat} {σ : ab_St} {Q : Option Value → ab_St → Prop} : Ev d 20 16 [l0, l1] [.int s0, .ref s1] σ Q = (ab_k s1 = 4 ∧ Ev d 20 19 [l0, l1] [] (ab_wI σ s1 (upd (σ.1 s1) 4 s0)) Q) := ev_Hc (c := ab_k s1 = 4) d20_16 rfl rfl rfl rfl rfl rfl rfl rfl
theorem d20_19 : decode (ab_C 20) 19 = .ok (.aload_n 0, 1) := by decide +kernel
theorem e20_19 {d : Nat} {l1 : Option Value} {x : Nat} {σ : ab_St} {Q : Option Value → ab_St → Prop} : Ev d 20 19 [some (.ref x), l1] [] σ Q = Ev d 20 20 [some (.ref x), l1] [.ref x] σ Q := ev_A1 d20_19 rfl
theorem d20_20 : decode (ab_C 20) 20 = .ok (.iconst 2, 1) := by decide +kernel
theorem e20_20 {d : Nat} {l0 l1 : Option Value} {s0 : Nat} {σ : ab_St} {Q : Option Value → ab_St → Prop} : Ev d 20 20 [l0, l1] [.ref s0] σ Q = Ev d 20 21 [l0, l1] [.int 2, .ref s0] σ Q := ev_A1 d20_20 rfl
theorem d20_21 : decode (ab_C 20) 21 = .ok (.putfield 42, 3) := by decide +kernel
theorem e20_21 {d : Nat} {l0 l1 : Option Value} {s0 : Int32} {s1 : Nat} {σ : ab_St} {Q : Option Value → ab_St → Prop} : Ev d 20 21 [l0, l1] [.int s0, .ref s1] σ Q = (ab_k s1 = 2 ∧ Ev d 20 24 [l0, l1] [] (ab_wI σ s1 (upd (σ.1 s1) 2 s0)) Q) := ev_Hc (c := ab_k s1 = 2) d20_21 rfl rfl rfl rfl rfl rfl rfl rfl
theorem d20_24 : decode (ab_C 20) 24 = .ok (.iconst 1, 1) := by decide +kernel
theorem e20_24 {d : Nat} {l0 l1 : Option Value} {σ : ab_St} {Q : Option Value → ab_St → Prop} : Ev d 20 24 [l0, l1] [] σ Q = Ev d 20 25 [l0, l1] [.int 1] σ Q := ev_A1 d20_24 rfl
theorem d20_25 : decode (ab_C 20) 25 = .ok (.ireturn, 1) := by decide +kernel
theorem e20_25 {d : Nat} {l0 l1 : Option Value} {s0 : Int32} {σ : ab_St} {Q : Option Value → ab_St → Prop} : Ev d 20 25 [l0, l1] [.int s0] σ Q = ((s0 = 0 ∨ s0 = 1) ∧ Q (some (.int s0)) σ) := ev_Z d20_25 rfl
/-! SaidLeast$Reader.opensSaying()Z -/
theorem d21_0 : decode (ab_C 21) 0 = .ok (.aload_n 0, 1) := by decide +kernel
theorem e21_0 {d : Nat} {x : Nat} {σ : ab_St} {Q : Option Value → ab_St → Prop} : Ev d 21 0 [some (.ref x)] [] σ Q = Ev d 21 1 [some (.ref x)] [.ref x] σ Q := ev_A1 d21_0 rfl
theorem d21_1 : decode (ab_C 21) 1 = .ok (.getfield 12, 3) := by decide +kernel
theorem e21_1 {d : Nat} {l0 : Option Value} {s0 : Nat} {σ : ab_St} {Q : Option Value → ab_St → Prop} : Ev d 21 1 [l0] [.ref s0] σ Q = (ab_k s0 = 2 ∧ Ev d 21 4 [l0] [.ref (ab_r s0 0)] σ Q) := ev_Hc (c := ab_k s0 = 2) d21_1 rfl rfl rfl rfl rfl rfl rfl rfl
theorem d21_4 : decode (ab_C 21) 4 = .ok (.getfield 48, 3) := by decide +kernel
theorem e21_4 {d : Nat} {l0 : Option Value} {s0 : Nat} {σ : ab_St} {Q : Option Value → ab_St → Prop} : Ev d 21 4 [l0] [.ref s0] σ Q = (ab_k s0 = 3 ∧ Ev d 21 7 [l0] [.int (σ.1 s0 5)] σ Q) := ev_Hc (c := ab_k s0 = 3) d21_4 rfl rfl rfl rfl rfl rfl rfl rfl
theorem d21_7 : decode (ab_C 21) 7 = .ok (.bipush 8, 2) := by decide +kernel
theorem e21_7 {d : Nat} {l0 : Option Value} {s0 : Int32} {σ : ab_St} {Q : Option Value → ab_St → Prop} : Ev d 21 7 [l0] [.int s0] σ Q = Ev d 21 9 [l0] [.int 8, .int s0] σ Q := ev_A1 d21_7 rfl
theorem d21_9 : decode (ab_C 21) 9 = .ok (.if_icmp .ge 13, 3) := by decide +kernel
theorem e21_9 {d : Nat} {l0 : Option Value} {s0 : Int32} {s1 : Int32} {σ : ab_St} {Q : Option Value → ab_St → Prop} : Ev d 21 9 [l0] [.int s0, .int s1] σ Q = if s0 ≤ s1 then Ev d 21 22 [l0] [] σ Q else Ev d 21 12 [l0] [] σ Q := ev_B (c := s0 ≤ s1) d21_9 rfl rfl rfl rfl rfl
theorem d21_12 : decode (ab_C 21) 12 = .ok (.aload_n 0, 1) := by decide +kernel
theorem e21_12 {d : Nat} {x : Nat} {σ : ab_St} {Q : Option Value → ab_St → Prop} : Ev d 21 12 [some (.ref x)] [] σ Q = Ev d 21 13 [some (.ref x)] [.ref x] σ Q := ev_A1 d21_12 rfl
theorem d21_13 : decode (ab_C 21) 13 = .ok (.getfield 12, 3) := by decide +kernel
theorem e21_13 {d : Nat} {l0 : Option Value} {s0 : Nat} {σ : ab_St} {Q : Option Value → ab_St → Prop} : Ev d 21 13 [l0] [.ref s0] σ Q = (ab_k s0 = 2 ∧ Ev d 21 16 [l0] [.ref (ab_r s0 0)] σ Q) := ev_Hc (c := ab_k s0 = 2) d21_13 rfl rfl rfl rfl rfl rfl rfl rfl
theorem d21_16 : decode (ab_C 21) 16 = .ok (.getfield 45, 3) := by decide +kernel
theorem e21_16 {d : Nat} {l0 : Option Value} {s0 : Nat} {σ : ab_St} {Q : Option Value → ab_St → Prop} : Ev d 21 16 [l0] [.ref s0] σ Q = (ab_k s0 = 3 ∧ Ev d 21 19 [l0] [.int (σ.1 s0 4)] σ Q) := ev_Hc (c := ab_k s0 = 3) d21_16 rfl rfl rfl rfl rfl rfl rfl rfl
theorem d21_19 : decode (ab_C 21) 19 = .ok (.ifCond .ne 5, 3) := by decide +kernel
theorem e21_19 {d : Nat} {l0 : Option Value} {s0 : Int32} {σ : ab_St} {Q : Option Value → ab_St → Prop} : Ev d 21 19 [l0] [.int s0] σ Q = if s0 = 0 then Ev d 21 22 [l0] [] σ Q else Ev d 21 24 [l0] [] σ Q := ev_B (c := s0 = 0) d21_19 rfl rfl rfl rfl rfl
theorem d21_22 : decode (ab_C 21) 22 = .ok (.iconst 0, 1) := by decide +kernel
theorem e21_22 {d : Nat} {l0 : Option Value} {σ : ab_St} {Q : Option Value → ab_St → Prop} : Ev d 21 22 [l0] [] σ Q = Ev d 21 23 [l0] [.int 0] σ Q := ev_A1 d21_22 rfl
theorem d21_23 : decode (ab_C 21) 23 = .ok (.ireturn, 1) := by decide +kernel
theorem e21_23 {d : Nat} {l0 : Option Value} {s0 : Int32} {σ : ab_St} {Q : Option Value → ab_St → Prop} : Ev d 21 23 [l0] [.int s0] σ Q = ((s0 = 0 ∨ s0 = 1) ∧ Q (some (.int s0)) σ) := ev_Z d21_23 rfl
theorem d21_24 : decode (ab_C 21) 24 = .ok (.aload_n 0, 1) := by decide +kernel
theorem e21_24 {d : Nat} {x : Nat} {σ : ab_St} {Q : Option Value → ab_St → Prop} : Ev d 21 24 [some (.ref x)] [] σ Q = Ev d 21 25 [some (.ref x)] [.ref x] σ Q := ev_A1 d21_24 rfl
theorem d21_25 : decode (ab_C 21) 25 = .ok (.iconst 5, 1) := by decide +kernel
theorem e21_25 {d : Nat} {l0 : Option Value} {s0 : Nat} {σ : ab_St} {Q : Option Value → ab_St → Prop} : Ev d 21 25 [l0] [.ref s0] σ Q = Ev d 21 26 [l0] [.int 5, .ref s0] σ Q := ev_A1 d21_25 rfl
theorem d21_26 : decode (ab_C 21) 26 = .ok (.putfield 42, 3) := by decide +kernel
theorem e21_26 {d : Nat} {l0 : Option Value} {s0 : Int32} {s1 : Nat} {σ : ab_St} {Q : Option Value → ab_St → Prop} : Ev d 21 26 [l0] [.int s0, .ref s1] σ Q = (ab_k s1 = 2 ∧ Ev d 21 29 [l0] [] (ab_wI σ s1 (upd (σ.1 s1) 2 s0)) Q) := ev_Hc (c := ab_k s1 = 2) d21_26 rfl rfl rfl rfl rfl rfl rfl rfl
theorem d21_29 : decode (ab_C 21) 29 = .ok (.iconst 1, 1) := by decide +kernel
theorem e21_29 {d : Nat} {l0 : Option Value} {σ : ab_St} {Q : Option Value → ab_St → Prop} : Ev d 21 29 [l0] [] σ Q = Ev d 21 30 [l0] [.int 1] σ Q := ev_A1 d21_29 rfl
theorem d21_30 : decode (ab_C 21) 30 = .ok (.ireturn, 1) := by decide +kernel
theorem e21_30 {d : Nat} {l0 : Option Value} {s0 : Int32} {σ : ab_St} {Q : Option Value → ab_St → Prop} : Ev d 21 30 [l0] [.int s0] σ Q = ((s0 = 0 ∨ s0 = 1) ∧ Q (some (.int s0)) σ) := ev_Z d21_30 rfl
/-! SaidLeast$Reader.opensPerson(I)Z -/
theorem d22_0 : decode (ab_C 22) 0 = .ok (.aload_n 0, 1) := by decide +kernel
theorem e22_0 {d : Nat} {l1 : Option Value} {x : Nat} {σ : ab_St} {Q : Option Value → ab_St → Prop} : Ev d 22 0 [some (.ref x), l1] [] σ Q = Ev d 22 1 [some (.ref x), l1] [.ref x] σ Q := ev_A1 d22_0 rfl
theorem d22_1 : decode (ab_C 22) 1 = .ok (.getfield 12, 3) := by decide +kernel
theorem e22_1 {d : Nat} {l0 l1 : Option Value} {s0 : Nat} {σ : ab_St} {Q : Option Value → ab_St → Prop} : Ev d 22 1 [l0, l1] [.ref s0] σ Q = (ab_k s0 = 2 ∧ Ev d 22 4 [l0, l1] [.ref (ab_r s0 0)] σ Q) := ev_Hc (c := ab_k s0 = 2) d22_1 rfl rfl rfl rfl rfl rfl rfl rfl
theorem d22_4 : decode (ab_C 22) 4 = .ok (.getfield 45, 3) := by decide +kernel
theorem e22_4 {d : Nat} {l0 l1 : Option Value} {s0 : Nat} {σ : ab_St} {Q : Option Value → ab_St → Prop} : Ev d 22 4 [l0, l1] [.ref s0] σ Q = (ab_k s0 = 3 ∧ Ev d 22 7 [l0, l1] [.int (σ.1 s0 4)] σ Q) := ev_Hc (c := ab_k s0 = 3) d22_4 rfl rfl rfl rfl rfl rfl rfl rfl
theorem d22_7 : decode (ab_C 22) 7 = .ok (.bipush 6, 2) := by decide +kernel
theorem e22_7 {d : Nat} {l0 l1 : Option Value} {s0 : Int32} {σ : ab_St} {Q : Option Value → ab_St → Prop} : Ev d 22 7 [l0, l1] [.int s0] σ Q = Ev d 22 9 [l0, l1] [.int 6, .int s0] σ Q := ev_A1 d22_7 rfl
theorem d22_9 : decode (ab_C 22) 9 = .ok (.if_icmp .ge 15, 3) := by decide +kernel
theorem e22_9 {d : Nat} {l0 l1 : Option Value} {s0 : Int32} {s1 : Int32} {σ : ab_St} {Q : Option Value → ab_St → Prop} : Ev d 22 9 [l0, l1] [.int s0, .int s1] σ Q = if s0 ≤ s1 then Ev d 22 24 [l0, l1] [] σ Q else Ev d 22 12 [l0, l1] [] σ Q := ev_B (c := s0 ≤ s1) d22_9 rfl rfl rfl rfl rfl
theorem d22_12 : decode (ab_C 22) 12 = .ok (.iload_n 1, 1) := by decide +kernel
theorem e22_12 {d : Nat} {l0 : Option Value} {x : Int32} {σ : ab_St} {Q : Option Value → ab_St → Prop} : Ev d 22 12 [l0, some (.int x)] [] σ Q = Ev d 22 13 [l0, some (.int x)] [.int x] σ Q := ev_A1 d22_12 rfl
theorem d22_13 : decode (ab_C 22) 13 = .ok (.bipush 80, 2) := by decide +kernel
theorem e22_13 {d : Nat} {l0 l1 : Option Value} {s0 : Int32} {σ : ab_St} {Q : Option Value → ab_St → Prop} : Ev d 22 13 [l0, l1] [.int s0] σ Q = Ev d 22 15 [l0, l1] [.int 80, .int s0] σ Q := ev_A1 d22_13 rfl
theorem d22_15 : decode (ab_C 22) 15 = .ok (.if_icmp .eq 11, 3) := by decide +kernel
theorem e22_15 {d : Nat} {l0 l1 : Option Value} {s0 : Int32} {s1 : Int32} {σ : ab_St} {Q : Option Value → ab_St → Prop} : Ev d 22 15 [l0, l1] [.int s0, .int s1] σ Q = if s1 = s0 then Ev d 22 26 [l0, l1] [] σ Q else Ev d 22 18 [l0, l1] [] σ Q := ev_B (c := s1 = s0) d22_15 rfl rfl rfl rfl rfl
theorem d22_18 : decode (ab_C 22) 18 = .ok (.iload_n 1, 1) := by decide +kernel
theorem e22_18 {d : Nat} {l0 : Option Value} {x : Int32} {σ : ab_St} {Q : Option Value → ab_St → Prop} : Ev d 22 18 [l0, some (.int x)] [] σ Q = Ev d 22 19 [l0, some (.int x)] [.int x] σ Q := ev_A1 d22_18 rfl
theorem d22_19 : decode (ab_C 22) 19 = .ok (.bipush 65, 2) := by decide +kernel
theorem e22_19 {d : Nat} {l0 l1 : Option Value} {s0 : Int32} {σ : ab_St} {Q : Option Value → ab_St → Prop} : Ev d 22 19 [l0, l1] [.int s0] σ Q = Ev d 22 21 [l0, l1] [.int 65, .int s0] σ Q := ev_A1 d22_19 rfl
theorem d22_21 : decode (ab_C 22) 21 = .ok (.if_icmp .eq 5, 3) := by decide +kernel
theorem e22_21 {d : Nat} {l0 l1 : Option Value} {s0 : Int32} {s1 : Int32} {σ : ab_St} {Q : Option Value → ab_St → Prop} : Ev d 22 21 [l0, l1] [.int s0, .int s1] σ Q = if s1 = s0 then Ev d 22 26 [l0, l1] [] σ Q else Ev d 22 24 [l0, l1] [] σ Q := ev_B (c := s1 = s0) d22_21 rfl rfl rfl rfl rfl
theorem d22_24 : decode (ab_C 22) 24 = .ok (.iconst 0, 1) := by decide +kernel
theorem e22_24 {d : Nat} {l0 l1 : Option Value} {σ : ab_St} {Q : Option Value → ab_St → Prop} : Ev d 22 24 [l0, l1] [] σ Q = Ev d 22 25 [l0, l1] [.int 0] σ Q := ev_A1 d22_24 rfl
theorem d22_25 : decode (ab_C 22) 25 = .ok (.ireturn, 1) := by decide +kernel
theorem e22_25 {d : Nat} {l0 l1 : Option Value} {s0 : Int32} {σ : ab_St} {Q : Option Value → ab_St → Prop} : Ev d 22 25 [l0, l1] [.int s0] σ Q = ((s0 = 0 ∨ s0 = 1) ∧ Q (some (.int s0)) σ) := ev_Z d22_25 rfl
theorem d22_26 : decode (ab_C 22) 26 = .ok (.iload_n 1, 1) := by decide +kernel
theorem e22_26 {d : Nat} {l0 : Option Value} {x : Int32} {σ : ab_St} {Q : Option Value → ab_St → Prop} : Ev d 22 26 [l0, some (.int x)] [] σ Q = Ev d 22 27 [l0, some (.int x)] [.int x] σ Q := ev_A1 d22_26 rfl
theorem d22_27 : decode (ab_C 22) 27 = .ok (.bipush 80, 2) := by decide +kernel
theorem e22_27 {d : Nat} {l0 l1 : Option Value} {s0 : Int32} {σ : ab_St} {Q : Option Value → ab_St → Prop} : Ev d 22 27 [l0, l1] [.int s0] σ Q = Ev d 22 29 [l0, l1] [.int 80, .int s0] σ Q := ev_A1 d22_27 rfl
theorem d22_29 : decode (ab_C 22) 29 = .ok (.if_icmp .ne 24, 3) := by decide +kernel
theorem e22_29 {d : Nat} {l0 l1 : Option Value} {s0 : Int32} {s1 : Int32} {σ : ab_St} {Q : Option Value → ab_St → Prop} : Ev d 22 29 [l0, l1] [.int s0, .int s1] σ Q = if s1 = s0 then Ev d 22 32 [l0, l1] [] σ Q else Ev d 22 53 [l0, l1] [] σ Q := ev_B (c := s1 = s0) d22_29 rfl rfl rfl rfl rfl
theorem d22_32 : decode (ab_C 22) 32 = .ok (.aload_n 0, 1) := by decide +kernel
theorem e22_32 {d : Nat} {l1 : Option Value} {x : Nat} {σ : ab_St} {Q : Option Value → ab_St → Prop} : Ev d 22 32 [some (.ref x), l1] [] σ Q = Ev d 22 33 [some (.ref x), l1] [.ref x] σ Q := ev_A1 d22_32 rfl
theorem d22_33 : decode (ab_C 22) 33 = .ok (.getfield 21, 3) := by decide +kernel
theorem e22_33 {d : Nat} {l0 l1 : Option Value} {s0 : Nat} {σ : ab_St} {Q : Option Value → ab_St → Prop} : Ev d 22 33 [l0, l1] [.ref s0] σ Q = (ab_k s0 = 2 ∧ Ev d 22 36 [l0, l1] [.ref (ab_r s0 1)] σ Q) := ev_Hc (c := ab_k s0 = 2) d22_33 rfl rfl rfl rfl rfl rfl rfl rfl
theorem d22_36 : decode (ab_C 22) 36 = .ok (.dup, 1) := by decide +kernel
theorem e22_36 {d : Nat} {l0 l1 : Option Value} {s0 : Nat} {σ : ab_St} {Q : Option Value → ab_St → Prop} : Ev d 22 36 [l0, l1] [.ref s0] σ Q = Ev d 22 37 [l0, l1] [.ref s0, .ref s0] σ Q := ev_A1 d22_36 rfl
theorem d22_37 : decode (ab_C 22) 37 = .ok (.getfield 61, 3) := by decide +kernel
theorem e22_37 {d : Nat} {l0 l1 : Option Value} {s0 : Nat} {s1 : Nat} {σ : ab_St} {Q : Option Value → ab_St → Prop} : Ev d 22 37 [l0, l1] [.ref s0, .ref s1] σ Q = (ab_k s0 = 4 ∧ Ev d 22 40 [l0, l1] [.int (σ.1 s0 1), .ref s1] σ Q) := ev_Hc (c := ab_k s0 = 4) d22_37 rfl rfl rfl rfl rfl rfl rfl rfl
theorem d22_40 : decode (ab_C 22) 40 = .ok (.iconst 1, 1) := by decide +kernel
theorem e22_40 {d : Nat} {l0 l1 : Option Value} {s0 : Int32} {s1 : Nat} {σ : ab_St} {Q : Option Value → ab_St → Prop} : Ev d 22 40 [l0, l1] [.int s0, .ref s1] σ Q = Ev d 22 41 [l0, l1] [.int 1, .int s0, .ref s1] σ Q := ev_A1 d22_40 rfl
theorem d22_41 : decode (ab_C 22) 41 = .ok (.aload_n 0, 1) := by decide +kernel
theorem e22_41 {d : Nat} {l1 : Option Value} {x : Nat} {s0 : Int32} {s1 : Int32} {s2 : Nat} {σ : ab_St} {Q : Option Value → ab_St → Prop} : Ev d 22 41 [some (.ref x), l1] [.int s0, .int s1, .ref s2] σ Q = Ev d 22 42 [some (.ref x), l1] [.ref x, .int s0, .int s1, .ref s2] σ Q := ev_A1 d22_41 rfl
theorem d22_42 : decode (ab_C 22) 42 = .ok (.getfield 12, 3) := by decide +kernel
theorem e22_42 {d : Nat} {l0 l1 : Option Value} {s0 : Nat} {s1 : Int32} {s2 : Int32} {s3 : Nat} {σ : ab_St} {Q : Option Value → ab_St → Prop} : Ev d 22 42 [l0, l1] [.ref s0, .int s1, .int s2, .ref s3] σ Q = (ab_k s0 = 2 ∧ Ev d 22 45 [l0, l1] [.ref (ab_r s0 0), .int s1, .int s2, .ref s3] σ Q) := ev_Hc (c := ab_k s0 = 2) d22_42 rfl rfl rfl rfl rfl rfl rfl rfl
theorem d22_45 : decode (ab_C 22) 45 = .ok (.getfield 45, 3) := by decide +kernel
theorem e22_45 {d : Nat} {l0 l1 : Option Value} {s0 : Nat} {s1 : Int32} {s2 : Int32} {s3 : Nat} {σ : ab_St} {Q : Option Value → ab_St → Prop} : Ev d 22 45 [l0, l1] [.ref s0, .int s1, .int s2, .ref s3] σ Q = (ab_k s0 = 3 ∧ Ev d 22 48 [l0, l1] [.int (σ.1 s0 4), .int s1, .int s2, .ref s3] σ Q) := ev_Hc (c := ab_k s0 = 3) d22_45 rfl rfl rfl rfl rfl rfl rfl rfl
theorem d22_48 : decode (ab_C 22) 48 = .ok (.ishl, 1) := by decide +kernel
theorem e22_48 {d : Nat} {l0 l1 : Option Value} {s0 : Int32} {s1 : Int32} {s2 : Int32} {s3 : Nat} {σ : ab_St} {Q : Option Value → ab_St → Prop} : Ev d 22 48 [l0, l1] [.int s0, .int s1, .int s2, .ref s3] σ Q = Ev d 22 49 [l0, l1] [.int (s1 <<< (s0 &&& 31)), .int s2, .ref s3] σ Q := ev_A2 d22_48 rfl rfl
theorem d22_49 : decode (ab_C 22) 49 = .ok (.ior, 1) := by decide +kernel
theorem e22_49 {d : Nat} {l0 l1 : Option Value} {s0 : Int32} {s1 : Int32} {s2 : Nat} {σ : ab_St} {Q : Option Value → ab_St → Prop} : Ev d 22 49 [l0, l1] [.int s0, .int s1, .ref s2] σ Q = Ev d 22 50 [l0, l1] [.int (s1 ||| s0), .ref s2] σ Q := ev_A2 d22_49 rfl rfl
theorem d22_50 : decode (ab_C 22) 50 = .ok (.putfield 61, 3) := by decide +kernel
theorem e22_50 {d : Nat} {l0 l1 : Option Value} {s0 : Int32} {s1 : Nat} {σ : ab_St} {Q : Option Value → ab_St → Prop} : Ev d 22 50 [l0, l1] [.int s0, .ref s1] σ Q = (ab_k s1 = 4 ∧ Ev d 22 53 [l0, l1] [] (ab_wI σ s1 (upd (σ.1 s1) 1 s0)) Q) := ev_Hc (c := ab_k s1 = 4) d22_50 rfl rfl rfl rfl rfl rfl rfl rfl
theorem d22_53 : decode (ab_C 22) 53 = .ok (.aload_n 0, 1) := by decide +kernel
theorem e22_53 {d : Nat} {l1 : Option Value} {x : Nat} {σ : ab_St} {Q : Option Value → ab_St → Prop} : Ev d 22 53 [some (.ref x), l1] [] σ Q = Ev d 22 54 [some (.ref x), l1] [.ref x] σ Q := ev_A1 d22_53 rfl
theorem d22_54 : decode (ab_C 22) 54 = .ok (.iconst 3, 1) := by decide +kernel
theorem e22_54 {d : Nat} {l0 l1 : Option Value} {s0 : Nat} {σ : ab_St} {Q : Option Value → ab_St → Prop} : Ev d 22 54 [l0, l1] [.ref s0] σ Q = Ev d 22 55 [l0, l1] [.int 3, .ref s0] σ Q := ev_A1 d22_54 rfl
theorem d22_55 : decode (ab_C 22) 55 = .ok (.putfield 42, 3) := by decide +kernel
theorem e22_55 {d : Nat} {l0 l1 : Option Value} {s0 : Int32} {s1 : Nat} {σ : ab_St} {Q : Option Value → ab_St → Prop} : Ev d 22 55 [l0, l1] [.int s0, .ref s1] σ Q = (ab_k s1 = 2 ∧ Ev d 22 58 [l0, l1] [] (ab_wI σ s1 (upd (σ.1 s1) 2 s0)) Q) := ev_Hc (c := ab_k s1 = 2) d22_55 rfl rfl rfl rfl rfl rfl rfl rfl
theorem d22_58 : decode (ab_C 22) 58 = .ok (.iconst 1, 1) := by decide +kernel
theorem e22_58 {d : Nat} {l0 l1 : Option Value} {σ : ab_St} {Q : Option Value → ab_St → Prop} : Ev d 22 58 [l0, l1] [] σ Q = Ev d 22 59 [l0, l1] [.int 1] σ Q := ev_A1 d22_58 rfl
theorem d22_59 : decode (ab_C 22) 59 = .ok (.ireturn, 1) := by decide +kernel
theorem e22_59 {d : Nat} {l0 l1 : Option Value} {s0 : Int32} {σ : ab_St} {Q : Option Value → ab_St → Prop} : Ev d 22 59 [l0, l1] [.int s0] σ Q = ((s0 = 0 ∨ s0 = 1) ∧ Q (some (.int s0)) σ) := ev_Z d22_59 rfl
/-! SaidLeast$Reader.takesTens(I)Z -/
theorem d23_0 : decode (ab_C 23) 0 = .ok (.iload_n 1, 1) := by decide +kernel
theorem e23_0 {d : Nat} {l0 : Option Value} {x : Int32} {σ : ab_St} {Q : Option Value → ab_St → Prop} : Ev d 23 0 [l0, some (.int x)] [] σ Q = Ev d 23 1 [l0, some (.int x)] [.int x] σ Q := ev_A1 d23_0 rfl
theorem d23_1 : decode (ab_C 23) 1 = .ok (.ifCond .lt 21, 3) := by decide +kernel
theorem e23_1 {d : Nat} {l0 l1 : Option Value} {s0 : Int32} {σ : ab_St} {Q : Option Value → ab_St → Prop} : Ev d 23 1 [l0, l1] [.int s0] σ Q = if s0 < 0 then Ev d 23 22 [l0, l1] [] σ Q else Ev d 23 4 [l0, l1] [] σ Q := ev_B (c := s0 < 0) d23_1 rfl rfl rfl rfl rfl
theorem d23_4 : decode (ab_C 23) 4 = .ok (.iload_n 1, 1) := by decide +kernel
theorem e23_4 {d : Nat} {l0 : Option Value} {x : Int32} {σ : ab_St} {Q : Option Value → ab_St → Prop} : Ev d 23 4 [l0, some (.int x)] [] σ Q = Ev d 23 5 [l0, some (.int x)] [.int x] σ Q := ev_A1 d23_4 rfl
theorem d23_5 : decode (ab_C 23) 5 = .ok (.bipush 9, 2) := by decide +kernel
theorem e23_5 {d : Nat} {l0 l1 : Option Value} {s0 : Int32} {σ : ab_St} {Q : Option Value → ab_St → Prop} : Ev d 23 5 [l0, l1] [.int s0] σ Q = Ev d 23 7 [l0, l1] [.int 9, .int s0] σ Q := ev_A1 d23_5 rfl
theorem d23_7 : decode (ab_C 23) 7 = .ok (.if_icmp .gt 15, 3) := by decide +kernel
theorem e23_7 {d : Nat} {l0 l1 : Option Value} {s0 : Int32} {s1 : Int32} {σ : ab_St} {Q : Option Value → ab_St → Prop} : Ev d 23 7 [l0, l1] [.int s0, .int s1] σ Q = if s0 < s1 then Ev d 23 22 [l0, l1] [] σ Q else Ev d 23 10 [l0, l1] [] σ Q := ev_B (c := s0 < s1) d23_7 rfl rfl rfl rfl rfl
theorem d23_10 : decode (ab_C 23) 10 = .ok (.aload_n 0, 1) := by decide +kernel
theorem e23_10 {d : Nat} {l1 : Option Value} {x : Nat} {σ : ab_St} {Q : Option Value → ab_St → Prop} : Ev d 23 10 [some (.ref x), l1] [] σ Q = Ev d 23 11 [some (.ref x), l1] [.ref x] σ Q := ev_A1 d23_10 rfl
theorem d23_11 : decode (ab_C 23) 11 = .ok (.getfield 12, 3) := by decide +kernel
theorem e23_11 {d : Nat} {l0 l1 : Option Value} {s0 : Nat} {σ : ab_St} {Q : Option Value → ab_St → Prop} : Ev d 23 11 [l0, l1] [.ref s0] σ Q = (ab_k s0 = 2 ∧ Ev d 23 14 [l0, l1] [.ref (ab_r s0 0)] σ Q) := ev_Hc (c := ab_k s0 = 2) d23_11 rfl rfl rfl rfl rfl rfl rfl rfl
theorem d23_14 : decode (ab_C 23) 14 = .ok (.getfield 45, 3) := by decide +kernel
theorem e23_14 {d : Nat} {l0 l1 : Option Value} {s0 : Nat} {σ : ab_St} {Q : Option Value → ab_St → Prop} : Ev d 23 14 [l0, l1] [.ref s0] σ Q = (ab_k s0 = 3 ∧ Ev d 23 17 [l0, l1] [.int (σ.1 s0 4)] σ Q) := ev_Hc (c := ab_k s0 = 3) d23_14 rfl rfl rfl rfl rfl rfl rfl rfl
theorem d23_17 : decode (ab_C 23) 17 = .ok (.bipush 6, 2) := by decide +kernel
theorem e23_17 {d : Nat} {l0 l1 : Option Value} {s0 : Int32} {σ : ab_St} {Q : Option Value → ab_St → Prop} : Ev d 23 17 [l0, l1] [.int s0] σ Q = Ev d 23 19 [l0, l1] [.int 6, .int s0] σ Q := ev_A1 d23_17 rfl
theorem d23_19 : decode (ab_C 23) 19 = .ok (.if_icmp .lt 5, 3) := by decide +kernel
theorem e23_19 {d : Nat} {l0 l1 : Option Value} {s0 : Int32} {s1 : Int32} {σ : ab_St} {Q : Option Value → ab_St → Prop} : Ev d 23 19 [l0, l1] [.int s0, .int s1] σ Q = if s1 < s0 then Ev d 23 24 [l0, l1] [] σ Q else Ev d 23 22 [l0, l1] [] σ Q := ev_B (c := s1 < s0) d23_19 rfl rfl rfl rfl rfl
theorem d23_22 : decode (ab_C 23) 22 = .ok (.iconst 0, 1) := by decide +kernel
theorem e23_22 {d : Nat} {l0 l1 : Option Value} {σ : ab_St} {Q : Option Value → ab_St → Prop} : Ev d 23 22 [l0, l1] [] σ Q = Ev d 23 23 [l0, l1] [.int 0] σ Q := ev_A1 d23_22 rfl
theorem d23_23 : decode (ab_C 23) 23 = .ok (.ireturn, 1) := by decide +kernel
theorem e23_23 {d : Nat} {l0 l1 : Option Value} {s0 : Int32} {σ : ab_St} {Q : Option Value → ab_St → Prop} : Ev d 23 23 [l0, l1] [.int s0] σ Q = ((s0 = 0 ∨ s0 = 1) ∧ Q (some (.int s0)) σ) := ev_Z d23_23 rfl
theorem d23_24 : decode (ab_C 23) 24 = .ok (.aload_n 0, 1) := by decide +kernel
theorem e23_24 {d : Nat} {l1 : Option Value} {x : Nat} {σ : ab_St} {Q : Option Value → ab_St → Prop} : Ev d 23 24 [some (.ref x), l1] [] σ Q = Ev d 23 25 [some (.ref x), l1] [.ref x] σ Q := ev_A1 d23_24 rfl
theorem d23_25 : decode (ab_C 23) 25 = .ok (.getfield 21, 3) := by decide +kernel
theorem e23_25 {d : Nat} {l0 l1 : Option Value} {s0 : Nat} {σ : ab_St} {Q : Option Value → ab_St → Prop} : Ev d 23 25 [l0, l1] [.ref s0] σ Q = (ab_k s0 = 2 ∧ Ev d 23 28 [l0, l1] [.ref (ab_r s0 1)] σ Q) := ev_Hc (c := ab_k s0 = 2) d23_25 rfl rfl rfl rfl rfl rfl rfl rfl
theorem d23_28 : decode (ab_C 23) 28 = .ok (.getfield 51, 3) := by decide +kernel
theorem e23_28 {d : Nat} {l0 l1 : Option Value} {s0 : Nat} {σ : ab_St} {Q : Option Value → ab_St → Prop} : Ev d 23 28 [l0, l1] [.ref s0] σ Q = (ab_k s0 = 4 ∧ Ev d 23 31 [l0, l1] [.ref (ab_r s0 0)] σ Q) := ev_Hc (c := ab_k s0 = 4) d23_28 rfl rfl rfl rfl rfl rfl rfl rfl
theorem d23_31 : decode (ab_C 23) 31 = .ok (.aload_n 0, 1) := by decide +kernel
theorem e23_31 {d : Nat} {l1 : Option Value} {x : Nat} {s0 : Nat} {σ : ab_St} {Q : Option Value → ab_St → Prop} : Ev d 23 31 [some (.ref x), l1] [.ref s0] σ Q = Ev d 23 32 [some (.ref x), l1] [.ref x, .ref s0] σ Q := ev_A1 d23_31 rfl
theorem d23_32 : decode (ab_C 23) 32 = .ok (.getfield 12, 3) := by decide +kernel
theorem e23_32 {d : Nat} {l0 l1 : Option Value} {s0 : Nat} {s1 : Nat} {σ : ab_St} {Q : Option Value → ab_St → Prop} : Ev d 23 32 [l0, l1] [.ref s0, .ref s1] σ Q = (ab_k s0 = 2 ∧ Ev d 23 35 [l0, l1] [.ref (ab_r s0 0), .ref s1] σ Q) := ev_Hc (c := ab_k s0 = 2) d23_32 rfl rfl rfl rfl rfl rfl rfl rfl
theorem d23_35 : decode (ab_C 23) 35 = .ok (.getfield 45, 3) := by decide +kernel
theorem e23_35 {d : Nat} {l0 l1 : Option Value} {s0 : Nat} {s1 : Nat} {σ : ab_St} {Q : Option Value → ab_St → Prop} : Ev d 23 35 [l0, l1] [.ref s0, .ref s1] σ Q = (ab_k s0 = 3 ∧ Ev d 23 38 [l0, l1] [.int (σ.1 s0 4), .ref s1] σ Q) := ev_Hc (c := ab_k s0 = 3) d23_35 rfl rfl rfl rfl rfl rfl rfl rfl
theorem d23_38 : decode (ab_C 23) 38 = .ok (.bipush 10, 2) := by decide +kernel
theorem e23_38 {d : Nat} {l0 l1 : Option Value} {s0 : Int32} {s1 : Nat} {σ : ab_St} {Q : Option Value → ab_St → Prop} : Ev d 23 38 [l0, l1] [.int s0, .ref s1] σ Q = Ev d 23 40 [l0, l1] [.int 10, .int s0, .ref s1] σ Q := ev_A1 d23_38 rfl
theorem d23_40 : decode (ab_C 23) 40 = .ok (.iload_n 1, 1) := by decide +kernel
theorem e23_40 {d : Nat} {l0 : Option Value} {x : Int32} {s0 : Int32} {s1 : Int32} {s2 : Nat} {σ : ab_St} {Q : Option Value → ab_St → Prop} : Ev d 23 40 [l0, some (.int x)] [.int s0, .int s1, .ref s2] σ Q = Ev d 23 41 [l0, some (.int x)] [.int x, .int s0, .int s1, .ref s2] σ Q := ev_A1 d23_40 rfl
theorem d23_41 : decode (ab_C 23) 41 = .ok (.imul, 1) := by decide +kernel
theorem e23_41 {d : Nat} {l0 l1 : Option Value} {s0 : Int32} {s1 : Int32} {s2 : Int32} {s3 : Nat} {σ : ab_St} {Q : Option Value → ab_St → Prop} : Ev d 23 41 [l0, l1] [.int s0, .int s1, .int s2, .ref s3] σ Q = Ev d 23 42 [l0, l1] [.int (s1 * s0), .int s2, .ref s3] σ Q := ev_A2 d23_41 rfl rfl
theorem d23_42 : decode (ab_C 23) 42 = .ok (.iastore, 1) := by decide +kernel
theorem e23_42 {d : Nat} {l0 l1 : Option Value} {s0 : Int32} {s1 : Int32} {s2 : Nat} {σ : ab_St} {Q : Option Value → ab_St → Prop} : Ev d 23 42 [l0, l1] [.int s0, .int s1, .ref s2] σ Q = ((ab_k s2 = 100 ∧ ab_in s1 (ab_n s2)) ∧ Ev d 23 43 [l0, l1] [] (ab_wI σ s2 (upd (σ.1 s2) s1.toNatClampNeg s0)) Q) := ev_Hc (c := ab_k s2 = 100 ∧ ab_in s1 (ab_n s2)) d23_42 rfl rfl rfl rfl rfl rfl rfl rfl
theorem d23_43 : decode (ab_C 23) 43 = .ok (.aload_n 0, 1) := by decide +kernel
theorem e23_43 {d : Nat} {l1 : Option Value} {x : Nat} {σ : ab_St} {Q : Option Value → ab_St → Prop} : Ev d 23 43 [some (.ref x), l1] [] σ Q = Ev d 23 44 [some (.ref x), l1] [.ref x] σ Q := ev_A1 d23_43 rfl
theorem d23_44 : decode (ab_C 23) 44 = .ok (.iconst 4, 1) := by decide +kernel
theorem e23_44 {d : Nat} {l0 l1 : Option Value} {s0 : Nat} {σ : ab_St} {Q : Option Value → ab_St → Prop} : Ev d 23 44 [l0, l1] [.ref s0] σ Q = Ev d 23 45 [l0, l1] [.int 4, .ref s0] σ Q := ev_A1 d23_44 rfl
theorem d23_45 : decode (ab_C 23) 45 = .ok (.putfield 42, 3) := by decide +kernel
theorem e23_45 {d : Nat} {l0 l1 : Option Value} {s0 : Int32} {s1 : Nat} {σ : ab_St} {Q : Option Value → ab_St → Prop} : Ev d 23 45 [l0, l1] [.int s0, .ref s1] σ Q = (ab_k s1 = 2 ∧ Ev d 23 48 [l0, l1] [] (ab_wI σ s1 (upd (σ.1 s1) 2 s0)) Q) := ev_Hc (c := ab_k s1 = 2) d23_45 rfl rfl rfl rfl rfl rfl rfl rfl
theorem d23_48 : decode (ab_C 23) 48 = .ok (.iconst 1, 1) := by decide +kernel
theorem e23_48 {d : Nat} {l0 l1 : Option Value} {σ : ab_St} {Q : Option Value → ab_St → Prop} : Ev d 23 48 [l0, l1] [] σ Q = Ev d 23 49 [l0, l1] [.int 1] σ Q := ev_A1 d23_48 rfl
theorem d23_49 : decode (ab_C 23) 49 = .ok (.ireturn, 1) := by decide +kernel
theorem e23_49 {d : Nat} {l0 l1 : Option Value} {s0 : Int32} {σ : ab_St} {Q : Option Value → ab_St → Prop} : Ev d 23 49 [l0, l1] [.int s0] σ Q = ((s0 = 0 ∨ s0 = 1) ∧ Q (some (.int s0)) σ) := ev_Z d23_49 rfl
/-! SaidLeast$Reader.takesOnes(I)Z -/
theorem d24_0 : decode (ab_C 24) 0 = .ok (.iload_n 1, 1) := by decide +kernel
theorem e24_0 {d : Nat} {l0 : Option Value} {x : Int32} {σ : ab_St} {Q : Option Value → ab_St → Prop} : Ev d 24 0 [l0, some (.int x)] [] σ Q = Ev d 24 1 [l0, some (.int x)] [.int x] σ Q := ev_A1 d24_0 rfl
theorem d24_1 : decode (ab_C 24) 1 = .ok (.ifCond .lt 21, 3) := by decide +kernel
theorem e24_1 {d : Nat} {l0 l1 : Option Value} {s0 : Int32} {σ : ab_St} {Q : Option Value → ab_St → Prop} : Ev d 24 1 [l0, l1] [.int s0] σ Q = if s0 < 0 then Ev d 24 22 [l0, l1] [] σ Q else Ev d 24 4 [l0, l1] [] σ Q := ev_B (c := s0 < 0) d24_1 rfl rfl rfl rfl rfl
theorem d24_4 : decode (ab_C 24) 4 = .ok (.iload_n 1, 1) := by decide +kernel
theorem e24_4 {d : Nat} {l0 : Option Value} {x : Int32} {σ : ab_St} {Q : Option Value → ab_St → Prop} : Ev d 24 4 [l0, some (.int x)] [] σ Q = Ev d 24 5 [l0, some (.int x)] [.int x] σ Q := ev_A1 d24_4 rfl
theorem d24_5 : decode (ab_C 24) 5 = .ok (.bipush 9, 2) := by decide +kernel
theorem e24_5 {d : Nat} {l0 l1 : Option Value} {s0 : Int32} {σ : ab_St} {Q : Option Value → ab_St → Prop} : Ev d 24 5 [l0, l1] [.int s0] σ Q = Ev d 24 7 [l0, l1] [.int 9, .int s0] σ Q := ev_A1 d24_5 rfl
theorem d24_7 : decode (ab_C 24) 7 = .ok (.if_icmp .gt 15, 3) := by decide +kernel
theorem e24_7 {d : Nat} {l0 l1 : Option Value} {s0 : Int32} {s1 : Int32} {σ : ab_St} {Q : Option Value → ab_St → Prop} : Ev d 24 7 [l0, l1] [.int s0, .int s1] σ Q = if s0 < s1 then Ev d 24 22 [l0, l1] [] σ Q else Ev d 24 10 [l0, l1] [] σ Q := ev_B (c := s0 < s1) d24_7 rfl rfl rfl rfl rfl
theorem d24_10 : decode (ab_C 24) 10 = .ok (.aload_n 0, 1) := by decide +kernel
theorem e24_10 {d : Nat} {l1 : Option Value} {x : Nat} {σ : ab_St} {Q : Option Value → ab_St → Prop} : Ev d 24 10 [some (.ref x), l1] [] σ Q = Ev d 24 11 [some (.ref x), l1] [.ref x] σ Q := ev_A1 d24_10 rfl
theorem d24_11 : decode (ab_C 24) 11 = .ok (.getfield 12, 3) := by decide +kernel
theorem e24_11 {d : Nat} {l0 l1 : Option Value} {s0 : Nat} {σ : ab_St} {Q : Option Value → ab_St → Prop} : Ev d 24 11 [l0, l1] [.ref s0] σ Q = (ab_k s0 = 2 ∧ Ev d 24 14 [l0, l1] [.ref (ab_r s0 0)] σ Q) := ev_Hc (c := ab_k s0 = 2) d24_11 rfl rfl rfl rfl rfl rfl rfl rfl
theorem d24_14 : decode (ab_C 24) 14 = .ok (.getfield 45, 3) := by decide +kernel
theorem e24_14 {d : Nat} {l0 l1 : Option Value} {s0 : Nat} {σ : ab_St} {Q : Option Value → ab_St → Prop} : Ev d 24 14 [l0, l1] [.ref s0] σ Q = (ab_k s0 = 3 ∧ Ev d 24 17 [l0, l1] [.int (σ.1 s0 4)] σ Q) := ev_Hc (c := ab_k s0 = 3) d24_14 rfl rfl rfl rfl rfl rfl rfl rfl
theorem d24_17 : decode (ab_C 24) 17 = .ok (.bipush 6, 2) := by decide +kernel
theorem e24_17 {d : Nat} {l0 l1 : Option Value} {s0 : Int32} {σ : ab_St} {Q : Option Value → ab_St → Prop} : Ev d 24 17 [l0, l1] [.int s0] σ Q = Ev d 24 19 [l0, l1] [.int 6, .int s0] σ Q := ev_A1 d24_17 rfl
theorem d24_19 : decode (ab_C 24) 19 = .ok (.if_icmp .lt 5, 3) := by decide +kernel
theorem e24_19 {d : Nat} {l0 l1 : Option Value} {s0 : Int32} {s1 : Int32} {σ : ab_St} {Q : Option Value → ab_St → Prop} : Ev d 24 19 [l0, l1] [.int s0, .int s1] σ Q = if s1 < s0 then Ev d 24 24 [l0, l1] [] σ Q else Ev d 24 22 [l0, l1] [] σ Q := ev_B (c := s1 < s0) d24_19 rfl rfl rfl rfl rfl
theorem d24_22 : decode (ab_C 24) 22 = .ok (.iconst 0, 1) := by decide +kernel
theorem e24_22 {d : Nat} {l0 l1 : Option Value} {σ : ab_St} {Q : Option Value → ab_St → Prop} : Ev d 24 22 [l0, l1] [] σ Q = Ev d 24 23 [l0, l1] [.int 0] σ Q := ev_A1 d24_22 rfl
theorem d24_23 : decode (ab_C 24) 23 = .ok (.ireturn, 1) := by decide +kernel
theorem e24_23 {d : Nat} {l0 l1 : Option Value} {s0 : Int32} {σ : ab_St} {Q : Option Value → ab_St → Prop} : Ev d 24 23 [l0, l1] [.int s0] σ Q = ((s0 = 0 ∨ s0 = 1) ∧ Q (some (.int s0)) σ) := ev_Z d24_23 rfl
theorem d24_24 : decode (ab_C 24) 24 = .ok (.aload_n 0, 1) := by decide +kernel
theorem e24_24 {d : Nat} {l1 : Option Value} {x : Nat} {σ : ab_St} {Q : Option Value → ab_St → Prop} : Ev d 24 24 [some (.ref x), l1] [] σ Q = Ev d 24 25 [some (.ref x), l1] [.ref x] σ Q := ev_A1 d24_24 rfl
theorem d24_25 : decode (ab_C 24) 25 = .ok (.getfield 21, 3) := by decide +kernel
theorem e24_25 {d : Nat} {l0 l1 : Option Value} {s0 : Nat} {σ : ab_St} {Q : Option Value → ab_St → Prop} : Ev d 24 25 [l0, l1] [.ref s0] σ Q = (ab_k s0 = 2 ∧ Ev d 24 28 [l0, l1] [.ref (ab_r s0 1)] σ Q) := ev_Hc (c := ab_k s0 = 2) d24_25 rfl rfl rfl rfl rfl rfl rfl rfl
theorem d24_28 : decode (ab_C 24) 28 = .ok (.getfield 51, 3) := by decide +kernel
theorem e24_28 {d : Nat} {l0 l1 : Option Value} {s0 : Nat} {σ : ab_St} {Q : Option Value → ab_St → Prop} : Ev d 24 28 [l0, l1] [.ref s0] σ Q = (ab_k s0 = 4 ∧ Ev d 24 31 [l0, l1] [.ref (ab_r s0 0)] σ Q) := ev_Hc (c := ab_k s0 = 4) d24_28 rfl rfl rfl rfl rfl rfl rfl rfl
theorem d24_31 : decode (ab_C 24) 31 = .ok (.aload_n 0, 1) := by decide +kernel
theorem e24_31 {d : Nat} {l1 : Option Value} {x : Nat} {s0 : Nat} {σ : ab_St} {Q : Option Value → ab_St → Prop} : Ev d 24 31 [some (.ref x), l1] [.ref s0] σ Q = Ev d 24 32 [some (.ref x), l1] [.ref x, .ref s0] σ Q := ev_A1 d24_31 rfl
theorem d24_32 : decode (ab_C 24) 32 = .ok (.getfield 12, 3) := by decide +kernel
theorem e24_32 {d : Nat} {l0 l1 : Option Value} {s0 : Nat} {s1 : Nat} {σ : ab_St} {Q : Option Value → ab_St → Prop} : Ev d 24 32 [l0, l1] [.ref s0, .ref s1] σ Q = (ab_k s0 = 2 ∧ Ev d 24 35 [l0, l1] [.ref (ab_r s0 0), .ref s1] σ Q) := ev_Hc (c := ab_k s0 = 2) d24_32 rfl rfl rfl rfl rfl rfl rfl rfl
theorem d24_35 : decode (ab_C 24) 35 = .ok (.getfield 45, 3) := by decide +kernel
theorem e24_35 {d : Nat} {l0 l1 : Option Value} {s0 : Nat} {s1 : Nat} {σ : ab_St} {Q : Option Value → ab_St → Prop} : Ev d 24 35 [l0, l1] [.ref s0, .ref s1] σ Q = (ab_k s0 = 3 ∧ Ev d 24 38 [l0, l1] [.int (σ.1 s0 4), .ref s1] σ Q) := ev_Hc (c := ab_k s0 = 3) d24_35 rfl rfl rfl rfl rfl rfl rfl rfl
theorem d24_38 : decode (ab_C 24) 38 = .ok (.dup2, 1) := by decide +kernel
theorem e24_38 {d : Nat} {l0 l1 : Option Value} {s0 : Int32} {s1 : Nat} {σ : ab_St} {Q : Option Value → ab_St → Prop} : Ev d 24 38 [l0, l1] [.int s0, .ref s1] σ Q = Ev d 24 39 [l0, l1] [.int s0, .ref s1, .int s0, .ref s1] σ Q := ev_A1 d24_38 rfl
theorem d24_39 : decode (ab_C 24) 39 = .ok (.iaload, 1) := by decide +kernel
theorem e24_39 {d : Nat} {l0 l1 : Option Value} {s0 : Int32} {s1 : Nat} {s2 : Int32} {s3 : Nat} {σ : ab_St} {Q : Option Value → ab_St → Prop} : Ev d 24 39 [l0, l1] [.int s0, .ref s1, .int s2, .ref s3] σ Q = ((ab_k s1 = 100 ∧ ab_in s0 (ab_n s1)) ∧ Ev d 24 40 [l0, l1] [.int (σ.1 s1 s0.toNatClampNeg), .int s2, .ref s3] σ Q) := ev_Hc (c := ab_k s1 = 100 ∧ ab_in s0 (ab_n s1)) d24_39 rfl rfl rfl rfl rfl rfl rfl rfl
theorem d24_40 : decode (ab_C 24) 40 = .ok (.iload_n 1, 1) := by decide +kernel
theorem e24_40 {d : Nat} {l0 : Option Value} {x : Int32} {s0 : Int32} {s1 : Int32} {s2 : Nat} {σ : ab_St} {Q : Option Value → ab_St → Prop} : Ev d 24 40 [l0, some (.int x)] [.int s0, .int s1, .ref s2] σ Q = Ev d 24 41 [l0, some (.int x)] [.int x, .int s0, .int s1, .ref s2] σ Q := ev_A1 d24_40 rfl
theorem d24_41 : decode (ab_C 24) 41 = .ok (.iadd, 1) := by decide +kernel
theorem e24_41 {d : Nat} {l0 l1 : Option Value} {s0 : Int32} {s1 : Int32} {s2 : Int32} {s3 : Nat} {σ : ab_St} {Q : Option Value → ab_St → Prop} : Ev d 24 41 [l0, l1] [.int s0, .int s1, .int s2, .ref s3] σ Q = Ev d 24 42 [l0, l1] [.int (s1 + s0), .int s2, .ref s3] σ Q := ev_A2 d24_41 rfl rfl
theorem d24_42 : decode (ab_C 24) 42 = .ok (.iastore, 1) := by decide +kernel
theorem e24_42 {d : Nat} {l0 l1 : Option Value} {s0 : Int32} {s1 : Int32} {s2 : Nat} {σ : ab_St} {Q : Option Value → ab_St → Prop} : Ev d 24 42 [l0, l1] [.int s0, .int s1, .ref s2] σ Q = ((ab_k s2 = 100 ∧ ab_in s1 (ab_n s2)) ∧ Ev d 24 43 [l0, l1] [] (ab_wI σ s2 (upd (σ.1 s2) s1.toNatClampNeg s0)) Q) := ev_Hc (c := ab_k s2 = 100 ∧ ab_in s1 (ab_n s2)) d24_42 rfl rfl rfl rfl rfl rfl rfl rfl
theorem d24_43 : decode (ab_C 24) 43 = .ok (.aload_n 0, 1) := by decide +kernel
theorem e24_43 {d : Nat} {l1 : Option Value} {x : Nat} {σ : ab_St} {Q : Option Value → ab_St → Prop} : Ev d 24 43 [some (.ref x), l1] [] σ Q = Ev d 24 44 [some (.ref x), l1] [.ref x] σ Q := ev_A1 d24_43 rfl
theorem d24_44 : decode (ab_C 24) 44 = .ok (.getfield 12, 3) := by decide +kernel
theorem e24_44 {d : Nat} {l0 l1 : Option Value} {s0 : Nat} {σ : ab_St} {Q : Option Value → ab_St → Prop} : Ev d 24 44 [l0, l1] [.ref s0] σ Q = (ab_k s0 = 2 ∧ Ev d 24 47 [l0, l1] [.ref (ab_r s0 0)] σ Q) := ev_Hc (c := ab_k s0 = 2) d24_44 rfl rfl rfl rfl rfl rfl rfl rfl
theorem d24_47 : decode (ab_C 24) 47 = .ok (.dup, 1) := by decide +kernel
theorem e24_47 {d : Nat} {l0 l1 : Option Value} {s0 : Nat} {σ : ab_St} {Q : Option Value → ab_St → Prop} : Ev d 24 47 [l0, l1] [.ref s0] σ Q = Ev d 24 48 [l0, l1] [.ref s0, .ref s0] σ Q := ev_A1 d24_47 rfl
theorem d24_48 : decode (ab_C 24) 48 = .ok (.getfield 45, 3) := by decide +kernel
theorem e24_48 {d : Nat} {l0 l1 : Option Value} {s0 : Nat} {s1 : Nat} {σ : ab_St} {Q : Option Value → ab_St → Prop} : Ev d 24 48 [l0, l1] [.ref s0, .ref s1] σ Q = (ab_k s0 = 3 ∧ Ev d 24 51 [l0, l1] [.int (σ.1 s0 4), .ref s1] σ Q) := ev_Hc (c := ab_k s0 = 3) d24_48 rfl rfl rfl rfl rfl rfl rfl rfl
theorem d24_51 : decode (ab_C 24) 51 = .ok (.iconst 1, 1) := by decide +kernel
theorem e24_51 {d : Nat} {l0 l1 : Option Value} {s0 : Int32} {s1 : Nat} {σ : ab_St} {Q : Option Value → ab_St → Prop} : Ev d 24 51 [l0, l1] [.int s0, .ref s1] σ Q = Ev d 24 52 [l0, l1] [.int 1, .int s0, .ref s1] σ Q := ev_A1 d24_51 rfl
theorem d24_52 : decode (ab_C 24) 52 = .ok (.iadd, 1) := by decide +kernel
theorem e24_52 {d : Nat} {l0 l1 : Option Value} {s0 : Int32} {s1 : Int32} {s2 : Nat} {σ : ab_St} {Q : Option Value → ab_St → Prop} : Ev d 24 52 [l0, l1] [.int s0, .int s1, .ref s2] σ Q = Ev d 24 53 [l0, l1] [.int (s1 + s0), .ref s2] σ Q := ev_A2 d24_52 rfl rfl
theorem d24_53 : decode (ab_C 24) 53 = .ok (.putfield 45, 3) := by decide +kernel
theorem e24_53 {d : Nat} {l0 l1 : Option Value} {s0 : Int32} {s1 : Nat} {σ : ab_St} {Q : Option Value → ab_St → Prop} : Ev d 24 53 [l0, l1] [.int s0, .ref s1] σ Q = (ab_k s1 = 3 ∧ Ev d 24 56 [l0, l1] [] (ab_wI σ s1 (upd (σ.1 s1) 4 s0)) Q) := ev_Hc (c := ab_k s1 = 3) d24_53 rfl rfl rfl rfl rfl rfl rfl rfl
theorem d24_56 : decode (ab_C 24) 56 = .ok (.aload_n 0, 1) := by decide +kernel
theorem e24_56 {d : Nat} {l1 : Option Value} {x : Nat} {σ : ab_St} {Q : Option Value → ab_St → Prop} : Ev d 24 56 [some (.ref x), l1] [] σ Q = Ev d 24 57 [some (.ref x), l1] [.ref x] σ Q := ev_A1 d24_56 rfl
theorem d24_57 : decode (ab_C 24) 57 = .ok (.iconst 2, 1) := by decide +kernel
theorem e24_57 {d : Nat} {l0 l1 : Option Value} {s0 : Nat} {σ : ab_St} {Q : Option Value → ab_St → Prop} : Ev d 24 57 [l0, l1] [.ref s0] σ Q = Ev d 24 58 [l0, l1] [.int 2, .ref s0] σ Q := ev_A1 d24_57 rfl
theorem d24_58 : decode (ab_C 24) 58 = .ok (.putfield 42, 3) := by decide +kernel
theorem e24_58 {d : Nat} {l0 l1 : Option Value} {s0 : Int32} {s1 : Nat} {σ : ab_St} {Q : Option Value → ab_St → Prop} : Ev d 24 58 [l0, l1] [.int s0, .ref s1] σ Q = (ab_k s1 = 2 ∧ Ev d 24 61 [l0, l1] [] (ab_wI σ s1 (upd (σ.1 s1) 2 s0)) Q) := ev_Hc (c := ab_k s1 = 2) d24_58 rfl rfl rfl rfl rfl rfl rfl rfl
theorem d24_61 : decode (ab_C 24) 61 = .ok (.iconst 1, 1) := by decide +kernel
theorem e24_61 {d : Nat} {l0 l1 : Option Value} {σ : ab_St} {Q : Option Value → ab_St → Prop} : Ev d 24 61 [l0, l1] [] σ Q = Ev d 24 62 [l0, l1] [.int 1] σ Q := ev_A1 d24_61 rfl
theorem d24_62 : decode (ab_C 24) 62 = .ok (.ireturn, 1) := by decide +kernel
theorem e24_62 {d : Nat} {l0 l1 : Option Value} {s0 : Int32} {σ : ab_St} {Q : Option Value → ab_St → Prop} : Ev d 24 62 [l0, l1] [.int s0] σ Q = ((s0 = 0 ∨ s0 = 1) ∧ Q (some (.int s0)) σ) := ev_Z d24_62 rfl
/-! SaidLeast$Reader.takesSpeaker(I)Z -/
theorem d25_0 : decode (ab_C 25) 0 = .ok (.aload_n 0, 1) := by decide +kernel
theorem e25_0 {d : Nat} {l1 : Option Value} {x : Nat} {σ : ab_St} {Q : Option Value → ab_St → Prop} : Ev d 25 0 [some (.ref x), l1] [] σ Q = Ev d 25 1 [some (.ref x), l1] [.ref x] σ Q := ev_A1 d25_0 rfl
theorem d25_1 : decode (ab_C 25) 1 = .ok (.getfield 12, 3) := by decide +kernel
theorem e25_1 {d : Nat} {l0 l1 : Option Value} {s0 : Nat} {σ : ab_St} {Q : Option Value → ab_St → Prop} : Ev d 25 1 [l0, l1] [.ref s0] σ Q = (ab_k s0 = 2 ∧ Ev d 25 4 [l0, l1] [.ref (ab_r s0 0)] σ Q) := ev_Hc (c := ab_k s0 = 2) d25_1 rfl rfl rfl rfl rfl rfl rfl rfl
theorem d25_4 : decode (ab_C 25) 4 = .ok (.iload_n 1, 1) := by decide +kernel
theorem e25_4 {d : Nat} {l0 : Option Value} {x : Int32} {s0 : Nat} {σ : ab_St} {Q : Option Value → ab_St → Prop} : Ev d 25 4 [l0, some (.int x)] [.ref s0] σ Q = Ev d 25 5 [l0, some (.int x)] [.int x, .ref s0] σ Q := ev_A1 d25_4 rfl
theorem d25_5 : decode (ab_C 25) 5 = .ok (.invokevirtual 104, 3) := by decide +kernel
theorem e25_5 {d : Nat} {l0 l1 : Option Value} {s0 : Int32} {s1 : Nat} {σ : ab_St} {Q : Option Value → ab_St → Prop} : Ev (d + 1) 25 5 [l0, l1] [.int s0, .ref s1] σ Q = (ab_k s1 = 3 ∧ Ev d 26 0 [some (.ref s1), some (.int s0)] [] σ (fun r σ2 => Ev (d + 1) 25 8 [l0, l1] (r.toList ++ []) σ2 Q)) := ev_KV (b := s1) (ls := [l0, l1]) (st := [.int s0, .ref s1]) (as := [.int s0]) (rest := []) d25_5 rfl rfl rfl (Nat.le_of_ble_eq_true rfl) (Nat.le_of_ble_eq_true rfl) (Nat.le_of_ble_eq_true rfl) rfl rfl rfl rfl rfl rfl rfl
theorem d25_8 : decode (ab_C 25) 8 = .ok (.ifCond .eq 15, 3) := by decide +kernel
theorem e25_8 {d : Nat} {l0 l1 : Option Value} {s0 : Int32} {σ : ab_St} {Q : Option Value → ab_St → Prop} : Ev d 25 8 [l0, l1] [.int s0] σ Q = if s0 = 0 then Ev d 25 23 [l0, l1] [] σ Q else Ev d 25 11 [l0, l1] [] σ Q := ev_B (c := s0 = 0) d25_8 rfl rfl rfl rfl rfl
theorem d25_11 : decode (ab_C 25) 11 = .ok (.aload_n 0, 1) := by decide +kernel
theorem e25_11 {d : Nat} {l1 : Option Value} {x : Nat} {σ : ab_St} {Q : Option Value → ab_St → Prop} : Ev d 25 11 [some (.ref x), l1] [] σ Q = Ev d 25 12 [some (.ref x), l1] [.ref x] σ Q := ev_A1 d25_11 rfl
theorem d25_12 : decode (ab_C 25) 12 = .ok (.getfield 12, 3) := by decide +kernel
theorem e25_12 {d : Nat} {l0 l1 : Option Value} {s0 : Nat} {σ : ab_St} {Q : Option Value → ab_St → Prop} : Ev d 25 12 [l0, l1] [.ref s0] σ Q = (ab_k s0 = 2 ∧ Ev d 25 15 [l0, l1] [.ref (ab_r s0 0)] σ Q) := ev_Hc (c := ab_k s0 = 2) d25_12 rfl rfl rfl rfl rfl rfl rfl rfl
theorem d25_15 : decode (ab_C 25) 15 = .ok (.getfield 48, 3) := by decide +kernel
theorem e25_15 {d : Nat} {l0 l1 : Option Value} {s0 : Nat} {σ : ab_St} {Q : Option Value → ab_St → Prop} : Ev d 25 15 [l0, l1] [.ref s0] σ Q = (ab_k s0 = 3 ∧ Ev d 25 18 [l0, l1] [.int (σ.1 s0 5)] σ Q) := ev_Hc (c := ab_k s0 = 3) d25_15 rfl rfl rfl rfl rfl rfl rfl rfl
theorem d25_18 : decode (ab_C 25) 18 = .ok (.bipush 8, 2) := by decide +kernel
theorem e25_18 {d : Nat} {l0 l1 : Option Value} {s0 : Int32} {σ : ab_St} {Q : Option Value → ab_St → Prop} : Ev d 25 18 [l0, l1] [.int s0] σ Q = Ev d 25 20 [l0, l1] [.int 8, .int s0] σ Q := ev_A1 d25_18 rfl
theorem d25_20 : decode (ab_C 25) 20 = .ok (.if_icmp .lt 5, 3) := by decide +kernel
theorem e25_20 {d : Nat} {l0 l1 : Option Value} {s0 : Int32} {s1 : Int32} {σ : ab_St} {Q : Option Value → ab_St → Prop} : Ev d 25 20 [l0, l1] [.int s0, .int s1] σ Q = if s1 < s0 then Ev d 25 25 [l0, l1] [] σ Q else Ev d 25 23 [l0, l1] [] σ Q := ev_B (c := s1 < s0) d25_20 rfl rfl rfl rfl rfl
theorem d25_23 : decode (ab_C 25) 23 = .ok (.iconst 0, 1) := by decide +kernel
theorem e25_23 {d : Nat} {l0 l1 : Option Value} {σ : ab_St} {Q : Option Value → ab_St → Prop} : Ev d 25 23 [l0, l1] [] σ Q = Ev d 25 24 [l0, l1] [.int 0] σ Q := ev_A1 d25_23 rfl
theorem d25_24 : decode (ab_C 25) 24 = .ok (.ireturn, 1) := by decide +kernel
theorem e25_24 {d : Nat} {l0 l1 : Option Value} {s0 : Int32} {σ : ab_St} {Q : Option Value → ab_St → Prop} : Ev d 25 24 [l0, l1] [.int s0] σ Q = ((s0 = 0 ∨ s0 = 1) ∧ Q (some (.int s0)) σ) := ev_Z d25_24 rfl
theorem d25_25 : decode (ab_C 25) 25 = .ok (.aload_n 0, 1) := by decide +kernel
theorem e25_25 {d : Nat} {l1 : Option Value} {x : Nat} {σ : ab_St} {Q : Option Value → ab_St → Prop} : Ev d 25 25 [some (.ref x), l1] [] σ Q = Ev d 25 26 [some (.ref x), l1] [.ref x] σ Q := ev_A1 d25_25 rfl
theorem d25_26 : decode (ab_C 25) 26 = .ok (.getfield 12, 3) := by decide +kernel
theorem e25_26 {d : Nat} {l0 l1 : Option Value} {s0 : Nat} {σ : ab_St} {Q : Option Value → ab_St → Prop} : Ev d 25 26 [l0, l1] [.ref s0] σ Q = (ab_k s0 = 2 ∧ Ev d 25 29 [l0, l1] [.ref (ab_r s0 0)] σ Q) := ev_Hc (c := ab_k s0 = 2) d25_26 rfl rfl rfl rfl rfl rfl rfl rfl
theorem d25_29 : decode (ab_C 25) 29 = .ok (.getfield 107, 3) := by decide +kernel
theorem e25_29 {d : Nat} {l0 l1 : Option Value} {s0 : Nat} {σ : ab_St} {Q : Option Value → ab_St → Prop} : Ev d 25 29 [l0, l1] [.ref s0] σ Q = (ab_k s0 = 3 ∧ Ev d 25 32 [l0, l1] [.ref (ab_r s0 0)] σ Q) := ev_Hc (c := ab_k s0 = 3) d25_29 rfl rfl rfl rfl rfl rfl rfl rfl
theorem d25_32 : decode (ab_C 25) 32 = .ok (.aload_n 0, 1) := by decide +kernel
theorem e25_32 {d : Nat} {l1 : Option Value} {x : Nat} {s0 : Nat} {σ : ab_St} {Q : Option Value → ab_St → Prop} : Ev d 25 32 [some (.ref x), l1] [.ref s0] σ Q = Ev d 25 33 [some (.ref x), l1] [.ref x, .ref s0] σ Q := ev_A1 d25_32 rfl
theorem d25_33 : decode (ab_C 25) 33 = .ok (.getfield 12, 3) := by decide +kernel
theorem e25_33 {d : Nat} {l0 l1 : Option Value} {s0 : Nat} {s1 : Nat} {σ : ab_St} {Q : Option Value → ab_St → Prop} : Ev d 25 33 [l0, l1] [.ref s0, .ref s1] σ Q = (ab_k s0 = 2 ∧ Ev d 25 36 [l0, l1] [.ref (ab_r s0 0), .ref s1] σ Q) := ev_Hc (c := ab_k s0 = 2) d25_33 rfl rfl rfl rfl rfl rfl rfl rfl
theorem d25_36 : decode (ab_C 25) 36 = .ok (.getfield 48, 3) := by decide +kernel
theorem e25_36 {d : Nat} {l0 l1 : Option Value} {s0 : Nat} {s1 : Nat} {σ : ab_St} {Q : Option Value → ab_St → Prop} : Ev d 25 36 [l0, l1] [.ref s0, .ref s1] σ Q = (ab_k s0 = 3 ∧ Ev d 25 39 [l0, l1] [.int (σ.1 s0 5), .ref s1] σ Q) := ev_Hc (c := ab_k s0 = 3) d25_36 rfl rfl rfl rfl rfl rfl rfl rfl
theorem d25_39 : decode (ab_C 25) 39 = .ok (.iload_n 1, 1) := by decide +kernel
theorem e25_39 {d : Nat} {l0 : Option Value} {x : Int32} {s0 : Int32} {s1 : Nat} {σ : ab_St} {Q : Option Value → ab_St → Prop} : Ev d 25 39 [l0, some (.int x)] [.int s0, .ref s1] σ Q = Ev d 25 40 [l0, some (.int x)] [.int x, .int s0, .ref s1] σ Q := ev_A1 d25_39 rfl
theorem d25_40 : decode (ab_C 25) 40 = .ok (.iastore, 1) := by decide +kernel
theorem e25_40 {d : Nat} {l0 l1 : Option Value} {s0 : Int32} {s1 : Int32} {s2 : Nat} {σ : ab_St} {Q : Option Value → ab_St → Prop} : Ev d 25 40 [l0, l1] [.int s0, .int s1, .ref s2] σ Q = ((ab_k s2 = 100 ∧ ab_in s1 (ab_n s2)) ∧ Ev d 25 41 [l0, l1] [] (ab_wI σ s2 (upd (σ.1 s2) s1.toNatClampNeg s0)) Q) := ev_Hc (c := ab_k s2 = 100 ∧ ab_in s1 (ab_n s2)) d25_40 rfl rfl rfl rfl rfl rfl rfl rfl
theorem d25_41 : decode (ab_C 25) 41 = .ok (.aload_n 0, 1) := by decide +kernel
theorem e25_41 {d : Nat} {l1 : Option Value} {x : Nat} {σ : ab_St} {Q : Option Value → ab_St → Prop} : Ev d 25 41 [some (.ref x), l1] [] σ Q = Ev d 25 42 [some (.ref x), l1] [.ref x] σ Q := ev_A1 d25_41 rfl
theorem d25_42 : decode (ab_C 25) 42 = .ok (.bipush 6, 2) := by decide +kernel
theorem e25_42 {d : Nat} {l0 l1 : Option Value} {s0 : Nat} {σ : ab_St} {Q : Option Value → ab_St → Prop} : Ev d 25 42 [l0, l1] [.ref s0] σ Q = Ev d 25 44 [l0, l1] [.int 6, .ref s0] σ Q := ev_A1 d25_42 rfl
theorem d25_44 : decode (ab_C 25) 44 = .ok (.putfield 42, 3) := by decide +kernel
theorem e25_44 {d : Nat} {l0 l1 : Option Value} {s0 : Int32} {s1 : Nat} {σ : ab_St} {Q : Option Value → ab_St → Prop} : Ev d 25 44 [l0, l1] [.int s0, .ref s1] σ Q = (ab_k s1 = 2 ∧ Ev d 25 47 [l0, l1] [] (ab_wI σ s1 (upd (σ.1 s1) 2 s0)) Q) := ev_Hc (c := ab_k s1 = 2) d25_44 rfl rfl rfl rfl rfl rfl rfl rfl
theorem d25_47 : decode (ab_C 25) 47 = .ok (.iconst 1, 1) := by decide +kernel
theorem e25_47 {d : Nat} {l0 l1 : Option Value} {σ : ab_St} {Q : Option Value → ab_St → Prop} : Ev d 25 47 [l0, l1] [] σ Q = Ev d 25 48 [l0, l1] [.int 1] σ Q := ev_A1 d25_47 rfl
theorem d25_48 : decode (ab_C 25) 48 = .ok (.ireturn, 1) := by decide +kernel
theorem e25_48 {d : Nat} {l0 l1 : Option Value} {s0 : Int32} {σ : ab_St} {Q : Option Value → ab_St → Prop} : Ev d 25 48 [l0, l1] [.int s0] σ Q = ((s0 = 0 ∨ s0 = 1) ∧ Q (some (.int s0)) σ) := ev_Z d25_48 rfl
/-! SaidLeast$Told.hasPerson(I)Z -/
theorem d26_0 : decode (ab_C 26) 0 = .ok (.iload_n 1, 1) := by decide +kernel
theorem e26_0 {d : Nat} {l0 : Option Value} {x : Int32} {σ : ab_St} {Q : Option Value → ab_St → Prop} : Ev d 26 0 [l0, some (.int x)] [] σ Q = Ev d 26 1 [l0, some (.int x)] [.int x] σ Q := ev_A1 d26_0 rfl
theorem d26_1 : decode (ab_C 26) 1 = .ok (.ifCond .lt 15, 3) := by decide +kernel
theorem e26_1 {d : Nat} {l0 l1 : Option Value} {s0 : Int32} {σ : ab_St} {Q : Option Value → ab_St → Prop} : Ev d 26 1 [l0, l1] [.int s0] σ Q = if s0 < 0 then Ev d 26 16 [l0, l1] [] σ Q else Ev d 26 4 [l0, l1] [] σ Q := ev_B (c := s0 < 0) d26_1 rfl rfl rfl rfl rfl
theorem d26_4 : decode (ab_C 26) 4 = .ok (.iload_n 1, 1) := by decide +kernel
theorem e26_4 {d : Nat} {l0 : Option Value} {x : Int32} {σ : ab_St} {Q : Option Value → ab_St → Prop} : Ev d 26 4 [l0, some (.int x)] [] σ Q = Ev d 26 5 [l0, some (.int x)] [.int x] σ Q := ev_A1 d26_4 rfl
theorem d26_5 : decode (ab_C 26) 5 = .ok (.aload_n 0, 1) := by decide +kernel
theorem e26_5 {d : Nat} {l1 : Option Value} {x : Nat} {s0 : Int32} {σ : ab_St} {Q : Option Value → ab_St → Prop} : Ev d 26 5 [some (.ref x), l1] [.int s0] σ Q = Ev d 26 6 [some (.ref x), l1] [.ref x, .int s0] σ Q := ev_A1 d26_5 rfl
theorem d26_6 : decode (ab_C 26) 6 = .ok (.getfield 30, 3) := by decide +kernel
theorem e26_6 {d : Nat} {l0 l1 : Option Value} {s0 : Nat} {s1 : Int32} {σ : ab_St} {Q : Option Value → ab_St → Prop} : Ev d 26 6 [l0, l1] [.ref s0, .int s1] σ Q = (ab_k s0 = 3 ∧ Ev d 26 9 [l0, l1] [.int (σ.1 s0 4), .int s1] σ Q) := ev_Hc (c := ab_k s0 = 3) d26_6 rfl rfl rfl rfl rfl rfl rfl rfl
theorem d26_9 : decode (ab_C 26) 9 = .ok (.if_icmp .ge 7, 3) := by decide +kernel
theorem e26_9 {d : Nat} {l0 l1 : Option Value} {s0 : Int32} {s1 : Int32} {σ : ab_St} {Q : Option Value → ab_St → Prop} : Ev d 26 9 [l0, l1] [.int s0, .int s1] σ Q = if s0 ≤ s1 then Ev d 26 16 [l0, l1] [] σ Q else Ev d 26 12 [l0, l1] [] σ Q := ev_B (c := s0 ≤ s1) d26_9 rfl rfl rfl rfl rfl
theorem d26_12 : decode (ab_C 26) 12 = .ok (.iconst 1, 1) := by decide +kernel
theorem e26_12 {d : Nat} {l0 l1 : Option Value} {σ : ab_St} {Q : Option Value → ab_St → Prop} : Ev d 26 12 [l0, l1] [] σ Q = Ev d 26 13 [l0, l1] [.int 1] σ Q := ev_A1 d26_12 rfl
theorem d26_13 : decode (ab_C 26) 13 = .ok (.goto 4, 3) := by decide +kernel
theorem e26_13 {d : Nat} {l0 l1 : Option Value} {s0 : Int32} {σ : ab_St} {Q : Option Value → ab_St → Prop} : Ev d 26 13 [l0, l1] [.int s0] σ Q = Ev d 26 17 [l0, l1] [.int s0] σ Q := ev_J d26_13 rfl rfl rfl rfl rfl
theorem d26_16 : decode (ab_C 26) 16 = .ok (.iconst 0, 1) := by decide +kernel
theorem e26_16 {d : Nat} {l0 l1 : Option Value} {σ : ab_St} {Q : Option Value → ab_St → Prop} : Ev d 26 16 [l0, l1] [] σ Q = Ev d 26 17 [l0, l1] [.int 0] σ Q := ev_A1 d26_16 rfl
theorem d26_17 : decode (ab_C 26) 17 = .ok (.ireturn, 1) := by decide +kernel
theorem e26_17 {d : Nat} {l0 l1 : Option Value} {s0 : Int32} {σ : ab_St} {Q : Option Value → ab_St → Prop} : Ev d 26 17 [l0, l1] [.int s0] σ Q = ((s0 = 0 ∨ s0 = 1) ∧ Q (some (.int s0)) σ) := ev_Z d26_17 rfl
/-! SaidLeast$Reader.takesWords(I)Z -/
theorem d27_0 : decode (ab_C 27) 0 = .ok (.iload_n 1, 1) := by decide +kernel
theorem e27_0 {d : Nat} {l0 : Option Value} {x : Int32} {σ : ab_St} {Q : Option Value → ab_St → Prop} : Ev d 27 0 [l0, some (.int x)] [] σ Q = Ev d 27 1 [l0, some (.int x)] [.int x] σ Q := ev_A1 d27_0 rfl
theorem d27_1 : decode (ab_C 27) 1 = .ok (.iconst 1, 1) := by decide +kernel
theorem e27_1 {d : Nat} {l0 l1 : Option Value} {s0 : Int32} {σ : ab_St} {Q : Option Value → ab_St → Prop} : Ev d 27 1 [l0, l1] [.int s0] σ Q = Ev d 27 2 [l0, l1] [.int 1, .int s0] σ Q := ev_A1 d27_1 rfl
theorem d27_2 : decode (ab_C 27) 2 = .ok (.if_icmp .lt 21, 3) := by decide +kernel
theorem e27_2 {d : Nat} {l0 l1 : Option Value} {s0 : Int32} {s1 : Int32} {σ : ab_St} {Q : Option Value → ab_St → Prop} : Ev d 27 2 [l0, l1] [.int s0, .int s1] σ Q = if s1 < s0 then Ev d 27 23 [l0, l1] [] σ Q else Ev d 27 5 [l0, l1] [] σ Q := ev_B (c := s1 < s0) d27_2 rfl rfl rfl rfl rfl
theorem d27_5 : decode (ab_C 27) 5 = .ok (.iload_n 1, 1) := by decide +kernel
theorem e27_5 {d : Nat} {l0 : Option Value} {x : Int32} {σ : ab_St} {Q : Option Value → ab_St → Prop} : Ev d 27 5 [l0, some (.int x)] [] σ Q = Ev d 27 6 [l0, some (.int x)] [.int x] σ Q := ev_A1 d27_5 rfl
theorem d27_6 : decode (ab_C 27) 6 = .ok (.bipush 9, 2) := by decide +kernel
theorem e27_6 {d : Nat} {l0 l1 : Option Value} {s0 : Int32} {σ : ab_St} {Q : Option Value → ab_St → Prop} : Ev d 27 6 [l0, l1] [.int s0] σ Q = Ev d 27 8 [l0, l1] [.int 9, .int s0] σ Q := ev_A1 d27_6 rfl
theorem d27_8 : decode (ab_C 27) 8 = .ok (.if_icmp .gt 15, 3) := by decide +kernel
theorem e27_8 {d : Nat} {l0 l1 : Option Value} {s0 : Int32} {s1 : Int32} {σ : ab_St} {Q : Option Value → ab_St → Prop} : Ev d 27 8 [l0, l1] [.int s0, .int s1] σ Q = if s0 < s1 then Ev d 27 23 [l0, l1] [] σ Q else Ev d 27 11 [l0, l1] [] σ Q := ev_B (c := s0 < s1) d27_8 rfl rfl rfl rfl rfl
theorem d27_11 : decode (ab_C 27) 11 = .ok (.aload_n 0, 1) := by decide +kernel
theorem e27_11 {d : Nat} {l1 : Option Value} {x : Nat} {σ : ab_St} {Q : Option Value → ab_St → Prop} : Ev d 27 11 [some (.ref x), l1] [] σ Q = Ev d 27 12 [some (.ref x), l1] [.ref x] σ Q := ev_A1 d27_11 rfl
theorem d27_12 : decode (ab_C 27) 12 = .ok (.getfield 12, 3) := by decide +kernel
theorem e27_12 {d : Nat} {l0 l1 : Option Value} {s0 : Nat} {σ : ab_St} {Q : Option Value → ab_St → Prop} : Ev d 27 12 [l0, l1] [.ref s0] σ Q = (ab_k s0 = 2 ∧ Ev d 27 15 [l0, l1] [.ref (ab_r s0 0)] σ Q) := ev_Hc (c := ab_k s0 = 2) d27_12 rfl rfl rfl rfl rfl rfl rfl rfl
theorem d27_15 : decode (ab_C 27) 15 = .ok (.getfield 48, 3) := by decide +kernel
theorem e27_15 {d : Nat} {l0 l1 : Option Value} {s0 : Nat} {σ : ab_St} {Q : Option Value → ab_St → Prop} : Ev d 27 15 [l0, l1] [.ref s0] σ Q = (ab_k s0 = 3 ∧ Ev d 27 18 [l0, l1] [.int (σ.1 s0 5)] σ Q) := ev_Hc (c := ab_k s0 = 3) d27_15 rfl rfl rfl rfl rfl rfl rfl rfl
theorem d27_18 : decode (ab_C 27) 18 = .ok (.bipush 8, 2) := by decide +kernel
theorem e27_18 {d : Nat} {l0 l1 : Option Value} {s0 : Int32} {σ : ab_St} {Q : Option Value → ab_St → Prop} : Ev d 27 18 [l0, l1] [.int s0] σ Q = Ev d 27 20 [l0, l1] [.int 8, .int s0] σ Q := ev_A1 d27_18 rfl
theorem d27_20 : decode (ab_C 27) 20 = .ok (.if_icmp .lt 5, 3) := by decide +kernel
theorem e27_20 {d : Nat} {l0 l1 : Option Value} {s0 : Int32} {s1 : Int32} {σ : ab_St} {Q : Option Value → ab_St → Prop} : Ev d 27 20 [l0, l1] [.int s0, .int s1] σ Q = if s1 < s0 then Ev d 27 25 [l0, l1] [] σ Q else Ev d 27 23 [l0, l1] [] σ Q := ev_B (c := s1 < s0) d27_20 rfl rfl rfl rfl rfl
theorem d27_23 : decode (ab_C 27) 23 = .ok (.iconst 0, 1) := by decide +kernel
theorem e27_23 {d : Nat} {l0 l1 : Option Value} {σ : ab_St} {Q : Option Value → ab_St → Prop} : Ev d 27 23 [l0, l1] [] σ Q = Ev d 27 24 [l0, l1] [.int 0] σ Q := ev_A1 d27_23 rfl
theorem d27_24 : decode (ab_C 27) 24 = .ok (.ireturn, 1) := by decide +kernel
theorem e27_24 {d : Nat} {l0 l1 : Option Value} {s0 : Int32} {σ : ab_St} {Q : Option Value → ab_St → Prop} : Ev d 27 24 [l0, l1] [.int s0] σ Q = ((s0 = 0 ∨ s0 = 1) ∧ Q (some (.int s0)) σ) := ev_Z d27_24 rfl
theorem d27_25 : decode (ab_C 27) 25 = .ok (.aload_n 0, 1) := by decide +kernel
theorem e27_25 {d : Nat} {l1 : Option Value} {x : Nat} {σ : ab_St} {Q : Option Value → ab_St → Prop} : Ev d 27 25 [some (.ref x), l1] [] σ Q = Ev d 27 26 [some (.ref x), l1] [.ref x] σ Q := ev_A1 d27_25 rfl
theorem d27_26 : decode (ab_C 27) 26 = .ok (.getfield 12, 3) := by decide +kernel
theorem e27_26 {d : Nat} {l0 l1 : Option Value} {s0 : Nat} {σ : ab_St} {Q : Option Value → ab_St → Prop} : Ev d 27 26 [l0, l1] [.ref s0] σ Q = (ab_k s0 = 2 ∧ Ev d 27 29 [l0, l1] [.ref (ab_r s0 0)] σ Q) := ev_Hc (c := ab_k s0 = 2) d27_26 rfl rfl rfl rfl rfl rfl rfl rfl
theorem d27_29 : decode (ab_C 27) 29 = .ok (.getfield 110, 3) := by decide +kernel
theorem e27_29 {d : Nat} {l0 l1 : Option Value} {s0 : Nat} {σ : ab_St} {Q : Option Value → ab_St → Prop} : Ev d 27 29 [l0, l1] [.ref s0] σ Q = (ab_k s0 = 3 ∧ Ev d 27 32 [l0, l1] [.ref (ab_r s0 1)] σ Q) := ev_Hc (c := ab_k s0 = 3) d27_29 rfl rfl rfl rfl rfl rfl rfl rfl
theorem d27_32 : decode (ab_C 27) 32 = .ok (.aload_n 0, 1) := by decide +kernel
theorem e27_32 {d : Nat} {l1 : Option Value} {x : Nat} {s0 : Nat} {σ : ab_St} {Q : Option Value → ab_St → Prop} : Ev d 27 32 [some (.ref x), l1] [.ref s0] σ Q = Ev d 27 33 [some (.ref x), l1] [.ref x, .ref s0] σ Q := ev_A1 d27_32 rfl
theorem d27_33 : decode (ab_C 27) 33 = .ok (.getfield 12, 3) := by decide +kernel
theorem e27_33 {d : Nat} {l0 l1 : Option Value} {s0 : Nat} {s1 : Nat} {σ : ab_St} {Q : Option Value → ab_St → Prop} : Ev d 27 33 [l0, l1] [.ref s0, .ref s1] σ Q = (ab_k s0 = 2 ∧ Ev d 27 36 [l0, l1] [.ref (ab_r s0 0), .ref s1] σ Q) := ev_Hc (c := ab_k s0 = 2) d27_33 rfl rfl rfl rfl rfl rfl rfl rfl
theorem d27_36 : decode (ab_C 27) 36 = .ok (.getfield 48, 3) := by decide +kernel
theorem e27_36 {d : Nat} {l0 l1 : Option Value} {s0 : Nat} {s1 : Nat} {σ : ab_St} {Q : Option Value → ab_St → Prop} : Ev d 27 36 [l0, l1] [.ref s0, .ref s1] σ Q = (ab_k s0 = 3 ∧ Ev d 27 39 [l0, l1] [.int (σ.1 s0 5), .ref s1] σ Q) := ev_Hc (c := ab_k s0 = 3) d27_36 rfl rfl rfl rfl rfl rfl rfl rfl
theorem d27_39 : decode (ab_C 27) 39 = .ok (.iload_n 1, 1) := by decide +kernel
theorem e27_39 {d : Nat} {l0 : Option Value} {x : Int32} {s0 : Int32} {s1 : Nat} {σ : ab_St} {Q : Option Value → ab_St → Prop} : Ev d 27 39 [l0, some (.int x)] [.int s0, .ref s1] σ Q = Ev d 27 40 [l0, some (.int x)] [.int x, .int s0, .ref s1] σ Q := ev_A1 d27_39 rfl
theorem d27_40 : decode (ab_C 27) 40 = .ok (.iastore, 1) := by decide +kernel
theorem e27_40 {d : Nat} {l0 l1 : Option Value} {s0 : Int32} {s1 : Int32} {s2 : Nat} {σ : ab_St} {Q : Option Value → ab_St → Prop} : Ev d 27 40 [l0, l1] [.int s0, .int s1, .ref s2] σ Q = ((ab_k s2 = 100 ∧ ab_in s1 (ab_n s2)) ∧ Ev d 27 41 [l0, l1] [] (ab_wI σ s2 (upd (σ.1 s2) s1.toNatClampNeg s0)) Q) := ev_Hc (c := ab_k s2 = 100 ∧ ab_in s1 (ab_n s2)) d27_40 rfl rfl rfl rfl rfl rfl rfl rfl
theorem d27_41 : decode (ab_C 27) 41 = .ok (.aload_n 0, 1) := by decide +kernel
theorem e27_41 {d : Nat} {l1 : Option Value} {x : Nat} {σ : ab_St} {Q : Option Value → ab_St → Prop} : Ev d 27 41 [some (.ref x), l1] [] σ Q = Ev d 27 42 [some (.ref x), l1] [.ref x] σ Q := ev_A1 d27_41 rfl
theorem d27_42 : decode (ab_C 27) 42 = .ok (.bipush 7, 2) := by decide +kernel
theorem e27_42 {d : Nat} {l0 l1 : Option Value} {s0 : Nat} {σ : ab_St} {Q : Option Value → ab_St → Prop} : Ev d 27 42 [l0, l1] [.ref s0] σ Q = Ev d 27 44 [l0, l1] [.int 7, .ref s0] σ Q := ev_A1 d27_42 rfl
theorem d27_44 : decode (ab_C 27) 44 = .ok (.putfield 42, 3) := by decide +kernel
theorem e27_44 {d : Nat} {l0 l1 : Option Value} {s0 : Int32} {s1 : Nat} {σ : ab_St} {Q : Option Value → ab_St → Prop} : Ev d 27 44 [l0, l1] [.int s0, .ref s1] σ Q = (ab_k s1 = 2 ∧ Ev d 27 47 [l0, l1] [] (ab_wI σ s1 (upd (σ.1 s1) 2 s0)) Q) := ev_Hc (c := ab_k s1 = 2) d27_44 rfl rfl rfl rfl rfl rfl rfl rfl
theorem d27_47 : decode (ab_C 27) 47 = .ok (.iconst 1, 1) := by decide +kernel
theorem e27_47 {d : Nat} {l0 l1 : Option Value} {σ : ab_St} {Q : Option Value → ab_St → Prop} : Ev d 27 47 [l0, l1] [] σ Q = Ev d 27 48 [l0, l1] [.int 1] σ Q := ev_A1 d27_47 rfl
theorem d27_48 : decode (ab_C 27) 48 = .ok (.ireturn, 1) := by decide +kernel
theorem e27_48 {d : Nat} {l0 l1 : Option Value} {s0 : Int32} {σ : ab_St} {Q : Option Value → ab_St → Prop} : Ev d 27 48 [l0, l1] [.int s0] σ Q = ((s0 = 0 ∨ s0 = 1) ∧ Q (some (.int s0)) σ) := ev_Z d27_48 rfl
/-! SaidLeast$Reader.takesWorth(I)Z -/
theorem d28_0 : decode (ab_C 28) 0 = .ok (.iload_n 1, 1) := by decide +kernel
theorem e28_0 {d : Nat} {l0 : Option Value} {x : Int32} {σ : ab_St} {Q : Option Value → ab_St → Prop} : Ev d 28 0 [l0, some (.int x)] [] σ Q = Ev d 28 1 [l0, some (.int x)] [.int x] σ Q := ev_A1 d28_0 rfl
theorem d28_1 : decode (ab_C 28) 1 = .ok (.ifCond .lt 21, 3) := by decide +kernel
theorem e28_1 {d : Nat} {l0 l1 : Option Value} {s0 : Int32} {σ : ab_St} {Q : Option Value → ab_St → Prop} : Ev d 28 1 [l0, l1] [.int s0] σ Q = if s0 < 0 then Ev d 28 22 [l0, l1] [] σ Q else Ev d 28 4 [l0, l1] [] σ Q := ev_B (c := s0 < 0) d28_1 rfl rfl rfl rfl rfl
theorem d28_4 : decode (ab_C 28) 4 = .ok (.iload_n 1, 1) := by decide +kernel
theorem e28_4 {d : Nat} {l0 : Option Value} {x : Int32} {σ : ab_St} {Q : Option Value → ab_St → Prop} : Ev d 28 4 [l0, some (.int x)] [] σ Q = Ev d 28 5 [l0, some (.int x)] [.int x] σ Q := ev_A1 d28_4 rfl
theorem d28_5 : decode (ab_C 28) 5 = .ok (.bipush 9, 2) := by decide +kernel
theorem e28_5 {d : Nat} {l0 l1 : Option Value} {s0 : Int32} {σ : ab_St} {Q : Option Value → ab_St → Prop} : Ev d 28 5 [l0, l1] [.int s0] σ Q = Ev d 28 7 [l0, l1] [.int 9, .int s0] σ Q := ev_A1 d28_5 rfl
theorem d28_7 : decode (ab_C 28) 7 = .ok (.if_icmp .gt 15, 3) := by decide +kernel
theorem e28_7 {d : Nat} {l0 l1 : Option Value} {s0 : Int32} {s1 : Int32} {σ : ab_St} {Q : Option Value → ab_St → Prop} : Ev d 28 7 [l0, l1] [.int s0, .int s1] σ Q = if s0 < s1 then Ev d 28 22 [l0, l1] [] σ Q else Ev d 28 10 [l0, l1] [] σ Q := ev_B (c := s0 < s1) d28_7 rfl rfl rfl rfl rfl
theorem d28_10 : decode (ab_C 28) 10 = .ok (.aload_n 0, 1) := by decide +kernel
theorem e28_10 {d : Nat} {l1 : Option Value} {x : Nat} {σ : ab_St} {Q : Option Value → ab_St → Prop} : Ev d 28 10 [some (.ref x), l1] [] σ Q = Ev d 28 11 [some (.ref x), l1] [.ref x] σ Q := ev_A1 d28_10 rfl
theorem d28_11 : decode (ab_C 28) 11 = .ok (.getfield 12, 3) := by decide +kernel
theorem e28_11 {d : Nat} {l0 l1 : Option Value} {s0 : Nat} {σ : ab_St} {Q : Option Value → ab_St → Prop} : Ev d 28 11 [l0, l1] [.ref s0] σ Q = (ab_k s0 = 2 ∧ Ev d 28 14 [l0, l1] [.ref (ab_r s0 0)] σ Q) := ev_Hc (c := ab_k s0 = 2) d28_11 rfl rfl rfl rfl rfl rfl rfl rfl
theorem d28_14 : decode (ab_C 28) 14 = .ok (.getfield 48, 3) := by decide +kernel
theorem e28_14 {d : Nat} {l0 l1 : Option Value} {s0 : Nat} {σ : ab_St} {Q : Option Value → ab_St → Prop} : Ev d 28 14 [l0, l1] [.ref s0] σ Q = (ab_k s0 = 3 ∧ Ev d 28 17 [l0, l1] [.int (σ.1 s0 5)] σ Q) := ev_Hc (c := ab_k s0 = 3) d28_14 rfl rfl rfl rfl rfl rfl rfl rfl
theorem d28_17 : decode (ab_C 28) 17 = .ok (.bipush 8, 2) := by decide +kernel
theorem e28_17 {d : Nat} {l0 l1 : Option Value} {s0 : Int32} {σ : ab_St} {Q : Option Value → ab_St → Prop} : Ev d 28 17 [l0, l1] [.int s0] σ Q = Ev d 28 19 [l0, l1] [.int 8, .int s0] σ Q := ev_A1 d28_17 rfl
theorem d28_19 : decode (ab_C 28) 19 = .ok (.if_icmp .lt 5, 3) := by decide +kernel
theorem e28_19 {d : Nat} {l0 l1 : Option Value} {s0 : Int32} {s1 : Int32} {σ : ab_St} {Q : Option Value → ab_St → Prop} : Ev d 28 19 [l0, l1] [.int s0, .int s1] σ Q = if s1 < s0 then Ev d 28 24 [l0, l1] [] σ Q else Ev d 28 22 [l0, l1] [] σ Q := ev_B (c := s1 < s0) d28_19 rfl rfl rfl rfl rfl
theorem d28_22 : decode (ab_C 28) 22 = .ok (.iconst 0, 1) := by decide +kernel
theorem e28_22 {d : Nat} {l0 l1 : Option Value} {σ : ab_St} {Q : Option Value → ab_St → Prop} : Ev d 28 22 [l0, l1] [] σ Q = Ev d 28 23 [l0, l1] [.int 0] σ Q := ev_A1 d28_22 rfl
theorem d28_23 : decode (ab_C 28) 23 = .ok (.ireturn, 1) := by decide +kernel
theorem e28_23 {d : Nat} {l0 l1 : Option Value} {s0 : Int32} {σ : ab_St} {Q : Option Value → ab_St → Prop} : Ev d 28 23 [l0, l1] [.int s0] σ Q = ((s0 = 0 ∨ s0 = 1) ∧ Q (some (.int s0)) σ) := ev_Z d28_23 rfl
theorem d28_24 : decode (ab_C 28) 24 = .ok (.aload_n 0, 1) := by decide +kernel
theorem e28_24 {d : Nat} {l1 : Option Value} {x : Nat} {σ : ab_St} {Q : Option Value → ab_St → Prop} : Ev d 28 24 [some (.ref x), l1] [] σ Q = Ev d 28 25 [some (.ref x), l1] [.ref x] σ Q := ev_A1 d28_24 rfl
theorem d28_25 : decode (ab_C 28) 25 = .ok (.getfield 12, 3) := by decide +kernel
theorem e28_25 {d : Nat} {l0 l1 : Option Value} {s0 : Nat} {σ : ab_St} {Q : Option Value → ab_St → Prop} : Ev d 28 25 [l0, l1] [.ref s0] σ Q = (ab_k s0 = 2 ∧ Ev d 28 28 [l0, l1] [.ref (ab_r s0 0)] σ Q) := ev_Hc (c := ab_k s0 = 2) d28_25 rfl rfl rfl rfl rfl rfl rfl rfl
theorem d28_28 : decode (ab_C 28) 28 = .ok (.getfield 111, 3) := by decide +kernel
theorem e28_28 {d : Nat} {l0 l1 : Option Value} {s0 : Nat} {σ : ab_St} {Q : Option Value → ab_St → Prop} : Ev d 28 28 [l0, l1] [.ref s0] σ Q = (ab_k s0 = 3 ∧ Ev d 28 31 [l0, l1] [.ref (ab_r s0 2)] σ Q) := ev_Hc (c := ab_k s0 = 3) d28_28 rfl rfl rfl rfl rfl rfl rfl rfl
theorem d28_31 : decode (ab_C 28) 31 = .ok (.aload_n 0, 1) := by decide +kernel
theorem e28_31 {d : Nat} {l1 : Option Value} {x : Nat} {s0 : Nat} {σ : ab_St} {Q : Option Value → ab_St → Prop} : Ev d 28 31 [some (.ref x), l1] [.ref s0] σ Q = Ev d 28 32 [some (.ref x), l1] [.ref x, .ref s0] σ Q := ev_A1 d28_31 rfl
theorem d28_32 : decode (ab_C 28) 32 = .ok (.getfield 12, 3) := by decide +kernel
theorem e28_32 {d : Nat} {l0 l1 : Option Value} {s0 : Nat} {s1 : Nat} {σ : ab_St} {Q : Option Value → ab_St → Prop} : Ev d 28 32 [l0, l1] [.ref s0, .ref s1] σ Q = (ab_k s0 = 2 ∧ Ev d 28 35 [l0, l1] [.ref (ab_r s0 0), .ref s1] σ Q) := ev_Hc (c := ab_k s0 = 2) d28_32 rfl rfl rfl rfl rfl rfl rfl rfl
theorem d28_35 : decode (ab_C 28) 35 = .ok (.getfield 48, 3) := by decide +kernel
theorem e28_35 {d : Nat} {l0 l1 : Option Value} {s0 : Nat} {s1 : Nat} {σ : ab_St} {Q : Option Value → ab_St → Prop} : Ev d 28 35 [l0, l1] [.ref s0, .ref s1] σ Q = (ab_k s0 = 3 ∧ Ev d 28 38 [l0, l1] [.int (σ.1 s0 5), .ref s1] σ Q) := ev_Hc (c := ab_k s0 = 3) d28_35 rfl rfl rfl rfl rfl rfl rfl rfl
theorem d28_38 : decode (ab_C 28) 38 = .ok (.iload_n 1, 1) := by decide +kernel
theorem e28_38 {d : Nat} {l0 : Option Value} {x : Int32} {s0 : Int32} {s1 : Nat} {σ : ab_St} {Q : Option Value → ab_St → Prop} : Ev d 28 38 [l0, some (.int x)] [.int s0, .ref s1] σ Q = Ev d 28 39 [l0, some (.int x)] [.int x, .int s0, .ref s1] σ Q := ev_A1 d28_38 rfl
theorem d28_39 : decode (ab_C 28) 39 = .ok (.iastore, 1) := by decide +kernel
theorem e28_39 {d : Nat} {l0 l1 : Option Value} {s0 : Int32} {s1 : Int32} {s2 : Nat} {σ : ab_St} {Q : Option Value → ab_St → Prop} : Ev d 28 39 [l0, l1] [.int s0, .int s1, .ref s2] σ Q = ((ab_k s2 = 100 ∧ ab_in s1 (ab_n s2)) ∧ Ev d 28 40 [l0, l1] [] (ab_wI σ s2 (upd (σ.1 s2) s1.toNatClampNeg s0)) Q) := ev_Hc (c := ab_k s2 = 100 ∧ ab_in s1 (ab_n s2)) d28_39 rfl rfl rfl rfl rfl rfl rfl rfl
theorem d28_40 : decode (ab_C 28) 40 = .ok (.aload_n 0, 1) := by decide +kernel
theorem e28_40 {d : Nat} {l1 : Option Value} {x : Nat} {σ : ab_St} {Q : Option Value → ab_St → Prop} : Ev d 28 40 [some (.ref x), l1] [] σ Q = Ev d 28 41 [some (.ref x), l1] [.ref x] σ Q := ev_A1 d28_40 rfl
theorem d28_41 : decode (ab_C 28) 41 = .ok (.bipush 8, 2) := by decide +kernel
theorem e28_41 {d : Nat} {l0 l1 : Option Value} {s0 : Nat} {σ : ab_St} {Q : Option Value → ab_St → Prop} : Ev d 28 41 [l0, l1] [.ref s0] σ Q = Ev d 28 43 [l0, l1] [.int 8, .ref s0] σ Q := ev_A1 d28_41 rfl
theorem d28_43 : decode (ab_C 28) 43 = .ok (.putfield 42, 3) := by decide +kernel
theorem e28_43 {d : Nat} {l0 l1 : Option Value} {s0 : Int32} {s1 : Nat} {σ : ab_St} {Q : Option Value → ab_St → Prop} : Ev d 28 43 [l0, l1] [.int s0, .ref s1] σ Q = (ab_k s1 = 2 ∧ Ev d 28 46 [l0, l1] [] (ab_wI σ s1 (upd (σ.1 s1) 2 s0)) Q) := ev_Hc (c := ab_k s1 = 2) d28_43 rfl rfl rfl rfl rfl rfl rfl rfl
theorem d28_46 : decode (ab_C 28) 46 = .ok (.iconst 1, 1) := by decide +kernel
theorem e28_46 {d : Nat} {l0 l1 : Option Value} {σ : ab_St} {Q : Option Value → ab_St → Prop} : Ev d 28 46 [l0, l1] [] σ Q = Ev d 28 47 [l0, l1] [.int 1] σ Q := ev_A1 d28_46 rfl
theorem d28_47 : decode (ab_C 28) 47 = .ok (.ireturn, 1) := by decide +kernel
theorem e28_47 {d : Nat} {l0 l1 : Option Value} {s0 : Int32} {σ : ab_St} {Q : Option Value → ab_St → Prop} : Ev d 28 47 [l0, l1] [.int s0] σ Q = ((s0 = 0 ∨ s0 = 1) ∧ Q (some (.int s0)) σ) := ev_Z d28_47 rfl
/-! SaidLeast$Reader.closesSaying(I)Z -/
theorem d29_0 : decode (ab_C 29) 0 = .ok (.aload_n 0, 1) := by decide +kernel
theorem e29_0 {d : Nat} {l1 : Option Value} {x : Nat} {σ : ab_St} {Q : Option Value → ab_St → Prop} : Ev d 29 0 [some (.ref x), l1] [] σ Q = Ev d 29 1 [some (.ref x), l1] [.ref x] σ Q := ev_A1 d29_0 rfl
theorem d29_1 : decode (ab_C 29) 1 = .ok (.getfield 12, 3) := by decide +kernel
theorem e29_1 {d : Nat} {l0 l1 : Option Value} {s0 : Nat} {σ : ab_St} {Q : Option Value → ab_St → Prop} : Ev d 29 1 [l0, l1] [.ref s0] σ Q = (ab_k s0 = 2 ∧ Ev d 29 4 [l0, l1] [.ref (ab_r s0 0)] σ Q) := ev_Hc (c := ab_k s0 = 2) d29_1 rfl rfl rfl rfl rfl rfl rfl rfl
theorem d29_4 : decode (ab_C 29) 4 = .ok (.getfield 48, 3) := by decide +kernel
theorem e29_4 {d : Nat} {l0 l1 : Option Value} {s0 : Nat} {σ : ab_St} {Q : Option Value → ab_St → Prop} : Ev d 29 4 [l0, l1] [.ref s0] σ Q = (ab_k s0 = 3 ∧ Ev d 29 7 [l0, l1] [.int (σ.1 s0 5)] σ Q) := ev_Hc (c := ab_k s0 = 3) d29_4 rfl rfl rfl rfl rfl rfl rfl rfl
theorem d29_7 : decode (ab_C 29) 7 = .ok (.bipush 8, 2) := by decide +kernel
theorem e29_7 {d : Nat} {l0 l1 : Option Value} {s0 : Int32} {σ : ab_St} {Q : Option Value → ab_St → Prop} : Ev d 29 7 [l0, l1] [.int s0] σ Q = Ev d 29 9 [l0, l1] [.int 8, .int s0] σ Q := ev_A1 d29_7 rfl
theorem d29_9 : decode (ab_C 29) 9 = .ok (.if_icmp .lt 5, 3) := by decide +kernel
theorem e29_9 {d : Nat} {l0 l1 : Option Value} {s0 : Int32} {s1 : Int32} {σ : ab_St} {Q : Option Value → ab_St → Prop} : Ev d 29 9 [l0, l1] [.int s0, .int s1] σ Q = if s1 < s0 then Ev d 29 14 [l0, l1] [] σ Q else Ev d 29 12 [l0, l1] [] σ Q := ev_B (c := s1 < s0) d29_9 rfl rfl rfl rfl rfl
theorem d29_12 : decode (ab_C 29) 12 = .ok (.iconst 0, 1) := by decide +kernel
theorem e29_12 {d : Nat} {l0 l1 : Option Value} {σ : ab_St} {Q : Option Value → ab_St → Prop} : Ev d 29 12 [l0, l1] [] σ Q = Ev d 29 13 [l0, l1] [.int 0] σ Q := ev_A1 d29_12 rfl
theorem d29_13 : decode (ab_C 29) 13 = .ok (.ireturn, 1) := by decide +kernel
theorem e29_13 {d : Nat} {l0 l1 : Option Value} {s0 : Int32} {σ : ab_St} {Q : Option Value → ab_St → Prop} : Ev d 29 13 [l0, l1] [.int s0] σ Q = ((s0 = 0 ∨ s0 = 1) ∧ Q (some (.int s0)) σ) := ev_Z d29_13 rfl
theorem d29_14 : decode (ab_C 29) 14 = .ok (.aload_n 0, 1) := by decide +kernel
theorem e29_14 {d : Nat} {l1 : Option Value} {x : Nat} {σ : ab_St} {Q : Option Value → ab_St → Prop} : Ev d 29 14 [some (.ref x), l1] [] σ Q = Ev d 29 15 [some (.ref x), l1] [.ref x] σ Q := ev_A1 d29_14 rfl
theorem d29_15 : decode (ab_C 29) 15 = .ok (.getfield 12, 3) := by decide +kernel
theorem e29_15 {d : Nat} {l0 l1 : Option Value} {s0 : Nat} {σ : ab_St} {Q : Option Value → ab_St → Prop} : Ev d 29 15 [l0, l1] [.ref s0] σ Q = (ab_k s0 = 2 ∧ Ev d 29 18 [l0, l1] [.ref (ab_r s0 0)] σ Q) := ev_Hc (c := ab_k s0 = 2) d29_15 rfl rfl rfl rfl rfl rfl rfl rfl
theorem d29_18 : decode (ab_C 29) 18 = .ok (.getfield 121, 3) := by decide +kernel
theorem e29_18 {d : Nat} {l0 l1 : Option Value} {s0 : Nat} {σ : ab_St} {Q : Option Value → ab_St → Prop} : Ev d 29 18 [l0, l1] [.ref s0] σ Q = (ab_k s0 = 3 ∧ Ev d 29 21 [l0, l1] [.ref (ab_r s0 3)] σ Q) := ev_Hc (c := ab_k s0 = 3) d29_18 rfl rfl rfl rfl rfl rfl rfl rfl
theorem d29_21 : decode (ab_C 29) 21 = .ok (.aload_n 0, 1) := by decide +kernel
theorem e29_21 {d : Nat} {l1 : Option Value} {x : Nat} {s0 : Nat} {σ : ab_St} {Q : Option Value → ab_St → Prop} : Ev d 29 21 [some (.ref x), l1] [.ref s0] σ Q = Ev d 29 22 [some (.ref x), l1] [.ref x, .ref s0] σ Q := ev_A1 d29_21 rfl
theorem d29_22 : decode (ab_C 29) 22 = .ok (.getfield 12, 3) := by decide +kernel
theorem e29_22 {d : Nat} {l0 l1 : Option Value} {s0 : Nat} {s1 : Nat} {σ : ab_St} {Q : Option Value → ab_St → Prop} : Ev d 29 22 [l0, l1] [.ref s0, .ref s1] σ Q = (ab_k s0 = 2 ∧ Ev d 29 25 [l0, l1] [.ref (ab_r s0 0), .ref s1] σ Q) := ev_Hc (c := ab_k s0 = 2) d29_22 rfl rfl rfl rfl rfl rfl rfl rfl
theorem d29_25 : decode (ab_C 29) 25 = .ok (.getfield 48, 3) := by decide +kernel
theorem e29_25 {d : Nat} {l0 l1 : Option Value} {s0 : Nat} {s1 : Nat} {σ : ab_St} {Q : Option Value → ab_St → Prop} : Ev d 29 25 [l0, l1] [.ref s0, .ref s1] σ Q = (ab_k s0 = 3 ∧ Ev d 29 28 [l0, l1] [.int (σ.1 s0 5), .ref s1] σ Q) := ev_Hc (c := ab_k s0 = 3) d29_25 rfl rfl rfl rfl rfl rfl rfl rfl
theorem d29_28 : decode (ab_C 29) 28 = .ok (.iload_n 1, 1) := by decide +kernel
theorem e29_28 {d : Nat} {l0 : Option Value} {x : Int32} {s0 : Int32} {s1 : Nat} {σ : ab_St} {Q : Option Value → ab_St → Prop} : Ev d 29 28 [l0, some (.int x)] [.int s0, .ref s1] σ Q = Ev d 29 29 [l0, some (.int x)] [.int x, .int s0, .ref s1] σ Q := ev_A1 d29_28 rfl
theorem d29_29 : decode (ab_C 29) 29 = .ok (.iastore, 1) := by decide +kernel
theorem e29_29 {d : Nat} {l0 l1 : Option Value} {s0 : Int32} {s1 : Int32} {s2 : Nat} {σ : ab_St} {Q : Option Value → ab_St → Prop} : Ev d 29 29 [l0, l1] [.int s0, .int s1, .ref s2] σ Q = ((ab_k s2 = 100 ∧ ab_in s1 (ab_n s2)) ∧ Ev d 29 30 [l0, l1] [] (ab_wI σ s2 (upd (σ.1 s2) s1.toNatClampNeg s0)) Q) := ev_Hc (c := ab_k s2 = 100 ∧ ab_in s1 (ab_n s2)) d29_29 rfl rfl rfl rfl rfl rfl rfl rfl
theorem d29_30 : decode (ab_C 29) 30 = .ok (.aload_n 0, 1) := by decide +kernel
theorem e29_30 {d : Nat} {l1 : Option Value} {x : Nat} {σ : ab_St} {Q : Option Value → ab_St → Prop} : Ev d 29 30 [some (.ref x), l1] [] σ Q = Ev d 29 31 [some (.ref x), l1] [.ref x] σ Q := ev_A1 d29_30 rfl
theorem d29_31 : decode (ab_C 29) 31 = .ok (.getfield 12, 3) := by decide +kernel
theorem e29_31 {d : Nat} {l0 l1 : Option Value} {s0 : Nat} {σ : ab_St} {Q : Option Value → ab_St → Prop} : Ev d 29 31 [l0, l1] [.ref s0] σ Q = (ab_k s0 = 2 ∧ Ev d 29 34 [l0, l1] [.ref (ab_r s0 0)] σ Q) := ev_Hc (c := ab_k s0 = 2) d29_31 rfl rfl rfl rfl rfl rfl rfl rfl
theorem d29_34 : decode (ab_C 29) 34 = .ok (.dup, 1) := by decide +kernel
theorem e29_34 {d : Nat} {l0 l1 : Option Value} {s0 : Nat} {σ : ab_St} {Q : Option Value → ab_St → Prop} : Ev d 29 34 [l0, l1] [.ref s0] σ Q = Ev d 29 35 [l0, l1] [.ref s0, .ref s0] σ Q := ev_A1 d29_34 rfl
theorem d29_35 : decode (ab_C 29) 35 = .ok (.getfield 48, 3) := by decide +kernel
theorem e29_35 {d : Nat} {l0 l1 : Option Value} {s0 : Nat} {s1 : Nat} {σ : ab_St} {Q : Option Value → ab_St → Prop} : Ev d 29 35 [l0, l1] [.ref s0, .ref s1] σ Q = (ab_k s0 = 3 ∧ Ev d 29 38 [l0, l1] [.int (σ.1 s0 5), .ref s1] σ Q) := ev_Hc (c := ab_k s0 = 3) d29_35 rfl rfl rfl rfl rfl rfl rfl rfl
theorem d29_38 : decode (ab_C 29) 38 = .ok (.iconst 1, 1) := by decide +kernel
theorem e29_38 {d : Nat} {l0 l1 : Option Value} {s0 : Int32} {s1 : Nat} {σ : ab_St} {Q : Option Value → ab_St → Prop} : Ev d 29 38 [l0, l1] [.int s0, .ref s1] σ Q = Ev d 29 39 [l0, l1] [.int 1, .int s0, .ref s1] σ Q := ev_A1 d29_38 rfl
theorem d29_39 : decode (ab_C 29) 39 = .ok (.iadd, 1) := by decide +kernel
theorem e29_39 {d : Nat} {l0 l1 : Option Value} {s0 : Int32} {s1 : Int32} {s2 : Nat} {σ : ab_St} {Q : Option Value → ab_St → Prop} : Ev d 29 39 [l0, l1] [.int s0, .int s1, .ref s2] σ Q = Ev d 29 40 [l0, l1] [.int (s1 + s0), .ref s2] σ Q := ev_A2 d29_39 rfl rfl
theorem d29_40 : decode (ab_C 29) 40 = .ok (.putfield 48, 3) := by decide +kernel
theorem e29_40 {d : Nat} {l0 l1 : Option Value} {s0 : Int32} {s1 : Nat} {σ : ab_St} {Q : Option Value → ab_St → Prop} : Ev d 29 40 [l0, l1] [.int s0, .ref s1] σ Q = (ab_k s1 = 3 ∧ Ev d 29 43 [l0, l1] [] (ab_wI σ s1 (upd (σ.1 s1) 5 s0)) Q) := ev_Hc (c := ab_k s1 = 3) d29_40 rfl rfl rfl rfl rfl rfl rfl rfl
theorem d29_43 : decode (ab_C 29) 43 = .ok (.aload_n 0, 1) := by decide +kernel
theorem e29_43 {d : Nat} {l1 : Option Value} {x : Nat} {σ : ab_St} {Q : Option Value → ab_St → Prop} : Ev d 29 43 [some (.ref x), l1] [] σ Q = Ev d 29 44 [some (.ref x), l1] [.ref x] σ Q := ev_A1 d29_43 rfl
theorem d29_44 : decode (ab_C 29) 44 = .ok (.iconst 2, 1) := by decide +kernel
theorem e29_44 {d : Nat} {l0 l1 : Option Value} {s0 : Nat} {σ : ab_St} {Q : Option Value → ab_St → Prop} : Ev d 29 44 [l0, l1] [.ref s0] σ Q = Ev d 29 45 [l0, l1] [.int 2, .ref s0] σ Q := ev_A1 d29_44 rfl
theorem d29_45 : decode (ab_C 29) 45 = .ok (.putfield 42, 3) := by decide +kernel
theorem e29_45 {d : Nat} {l0 l1 : Option Value} {s0 : Int32} {s1 : Nat} {σ : ab_St} {Q : Option Value → ab_St → Prop} : Ev d 29 45 [l0, l1] [.int s0, .ref s1] σ Q = (ab_k s1 = 2 ∧ Ev d 29 48 [l0, l1] [] (ab_wI σ s1 (upd (σ.1 s1) 2 s0)) Q) := ev_Hc (c := ab_k s1 = 2) d29_45 rfl rfl rfl rfl rfl rfl rfl rfl
theorem d29_48 : decode (ab_C 29) 48 = .ok (.iconst 1, 1) := by decide +kernel
theorem e29_48 {d : Nat} {l0 l1 : Option Value} {σ : ab_St} {Q : Option Value → ab_St → Prop} : Ev d 29 48 [l0, l1] [] σ Q = Ev d 29 49 [l0, l1] [.int 1] σ Q := ev_A1 d29_48 rfl
theorem d29_49 : decode (ab_C 29) 49 = .ok (.ireturn, 1) := by decide +kernel
theorem e29_49 {d : Nat} {l0 l1 : Option Value} {s0 : Int32} {σ : ab_St} {Q : Option Value → ab_St → Prop} : Ev d 29 49 [l0, l1] [.int s0] σ Q = ((s0 = 0 ∨ s0 = 1) ∧ Q (some (.int s0)) σ) := ev_Z d29_49 rfl
/-! SaidLeast$Reader.takesAnswered(I)Z -/
theorem d30_0 : decode (ab_C 30) 0 = .ok (.aload_n 0, 1) := by decide +kernel
theorem e30_0 {d : Nat} {l1 : Option Value} {x : Nat} {σ : ab_St} {Q : Option Value → ab_St → Prop} : Ev d 30 0 [some (.ref x), l1] [] σ Q = Ev d 30 1 [some (.ref x), l1] [.ref x] σ Q := ev_A1 d30_0 rfl
theorem d30_1 : decode (ab_C 30) 1 = .ok (.getfield 12, 3) := by decide +kernel
theorem e30_1 {d : Nat} {l0 l1 : Option Value} {s0 : Nat} {σ : ab_St} {Q : Option Value → ab_St → Prop} : Ev d 30 1 [l0, l1] [.ref s0] σ Q = (ab_k s0 = 2 ∧ Ev d 30 4 [l0, l1] [.ref (ab_r s0 0)] σ Q) := ev_Hc (c := ab_k s0 = 2) d30_1 rfl rfl rfl rfl rfl rfl rfl rfl
theorem d30_4 : decode (ab_C 30) 4 = .ok (.iload_n 1, 1) := by decide +kernel
theorem e30_4 {d : Nat} {l0 : Option Value} {x : Int32} {s0 : Nat} {σ : ab_St} {Q : Option Value → ab_St → Prop} : Ev d 30 4 [l0, some (.int x)] [.ref s0] σ Q = Ev d 30 5 [l0, some (.int x)] [.int x, .ref s0] σ Q := ev_A1 d30_4 rfl
theorem d30_5 : decode (ab_C 30) 5 = .ok (.invokevirtual 114, 3) := by decide +kernel
theorem e30_5 {d : Nat} {l0 l1 : Option Value} {s0 : Int32} {s1 : Nat} {σ : ab_St} {Q : Option Value → ab_St → Prop} : Ev (d + 1) 30 5 [l0, l1] [.int s0, .ref s1] σ Q = (ab_k s1 = 3 ∧ Ev d 31 0 [some (.ref s1), some (.int s0)] [] σ (fun r σ2 => Ev (d + 1) 30 8 [l0, l1] (r.toList ++ []) σ2 Q)) := ev_KV (b := s1) (ls := [l0, l1]) (st := [.int s0, .ref s1]) (as := [.int s0]) (rest := []) d30_5 rfl rfl rfl (Nat.le_of_ble_eq_true rfl) (Nat.le_of_ble_eq_true rfl) (Nat.le_of_ble_eq_true rfl) rfl rfl rfl rfl rfl rfl rfl
theorem d30_8 : decode (ab_C 30) 8 = .ok (.ifCond .eq 14, 3) := by decide +kernel
theorem e30_8 {d : Nat} {l0 l1 : Option Value} {s0 : Int32} {σ : ab_St} {Q : Option Value → ab_St → Prop} : Ev d 30 8 [l0, l1] [.int s0] σ Q = if s0 = 0 then Ev d 30 22 [l0, l1] [] σ Q else Ev d 30 11 [l0, l1] [] σ Q := ev_B (c := s0 = 0) d30_8 rfl rfl rfl rfl rfl
theorem d30_11 : decode (ab_C 30) 11 = .ok (.aload_n 0, 1) := by decide +kernel
theorem e30_11 {d : Nat} {l1 : Option Value} {x : Nat} {σ : ab_St} {Q : Option Value → ab_St → Prop} : Ev d 30 11 [some (.ref x), l1] [] σ Q = Ev d 30 12 [some (.ref x), l1] [.ref x] σ Q := ev_A1 d30_11 rfl
theorem d30_12 : decode (ab_C 30) 12 = .ok (.getfield 67, 3) := by decide +kernel
theorem e30_12 {d : Nat} {l0 l1 : Option Value} {s0 : Nat} {σ : ab_St} {Q : Option Value → ab_St → Prop} : Ev d 30 12 [l0, l1] [.ref s0] σ Q = (ab_k s0 = 2 ∧ Ev d 30 15 [l0, l1] [.int (σ.1 s0 3)] σ Q) := ev_Hc (c := ab_k s0 = 2) d30_12 rfl rfl rfl rfl rfl rfl rfl rfl
theorem d30_15 : decode (ab_C 30) 15 = .ok (.iload_n 1, 1) := by decide +kernel
theorem e30_15 {d : Nat} {l0 : Option Value} {x : Int32} {s0 : Int32} {σ : ab_St} {Q : Option Value → ab_St → Prop} : Ev d 30 15 [l0, some (.int x)] [.int s0] σ Q = Ev d 30 16 [l0, some (.int x)] [.int x, .int s0] σ Q := ev_A1 d30_15 rfl
theorem d30_16 : decode (ab_C 30) 16 = .ok (.invokestatic 117, 3) := by decide +kernel
theorem e30_16 {d : Nat} {l0 l1 : Option Value} {s0 : Int32} {s1 : Int32} {σ : ab_St} {Q : Option Value → ab_St → Prop} : Ev (d + 1) 30 16 [l0, l1] [.int s0, .int s1] σ Q = Ev d 32 0 [some (.int s1), some (.int s0)] [] σ (fun r σ2 => Ev (d + 1) 30 19 [l0, l1] (r.toList ++ []) σ2 Q) := ev_K0 (y := 32) (ls := [l0, l1]) (st := [.int s0, .int s1]) (as := [.int s1, .int s0]) (rest := []) d30_16 rfl rfl rfl rfl rfl rfl rfl rfl
theorem d30_19 : decode (ab_C 30) 19 = .ok (.ifCond .eq 5, 3) := by decide +kernel
theorem e30_19 {d : Nat} {l0 l1 : Option Value} {s0 : Int32} {σ : ab_St} {Q : Option Value → ab_St → Prop} : Ev d 30 19 [l0, l1] [.int s0] σ Q = if s0 = 0 then Ev d 30 24 [l0, l1] [] σ Q else Ev d 30 22 [l0, l1] [] σ Q := ev_B (c := s0 = 0) d30_19 rfl rfl rfl rfl rfl
theorem d30_22 : decode (ab_C 30) 22 = .ok (.iconst 0, 1) := by decide +kernel
theorem e30_22 {d : Nat} {l0 l1 : Option Value} {σ : ab_St} {Q : Option Value → ab_St → Prop} : Ev d 30 22 [l0, l1] [] σ Q = Ev d 30 23 [l0, l1] [.int 0] σ Q := ev_A1 d30_22 rfl
theorem d30_23 : decode (ab_C 30) 23 = .ok (.ireturn, 1) := by decide +kernel
theorem e30_23 {d : Nat} {l0 l1 : Option Value} {s0 : Int32} {σ : ab_St} {Q : Option Value → ab_St → Prop} : Ev d 30 23 [l0, l1] [.int s0] σ Q = ((s0 = 0 ∨ s0 = 1) ∧ Q (some (.int s0)) σ) := ev_Z d30_23 rfl
theorem d30_24 : decode (ab_C 30) 24 = .ok (.aload_n 0, 1) := by decide +kernel
theorem e30_24 {d : Nat} {l1 : Option Value} {x : Nat} {σ : ab_St} {Q : Option Value → ab_St → Prop} : Ev d 30 24 [some (.ref x), l1] [] σ Q = Ev d 30 25 [some (.ref x), l1] [.ref x] σ Q := ev_A1 d30_24 rfl
theorem d30_25 : decode (ab_C 30) 25 = .ok (.dup, 1) := by decide +kernel
theorem e30_25 {d : Nat} {l0 l1 : Option Value} {s0 : Nat} {σ : ab_St} {Q : Option Value → ab_St → Prop} : Ev d 30 25 [l0, l1] [.ref s0] σ Q = Ev d 30 26 [l0, l1] [.ref s0, .ref s0] σ Q := ev_A1 d30_25 rfl
theorem d30_26 : decode (ab_C 30) 26 = .ok (.getfield 67, 3) := by decide +kernel
theorem e30_26 {d : Nat} {l0 l1 : Option Value} {s0 : Nat} {s1 : Nat} {σ : ab_St} {Q : Option Value → ab_St → Prop} : Ev d 30 26 [l0, l1] [.ref s0, .ref s1] σ Q = (ab_k s0 = 2 ∧ Ev d 30 29 [l0, l1] [.int (σ.1 s0 3), .ref s1] σ Q) := ev_Hc (c := ab_k s0 = 2) d30_26 rfl rfl rfl rfl rfl rfl rfl rfl
theorem d30_29 : decode (ab_C 30) 29 = .ok (.iconst 1, 1) := by decide +kernel
theorem e30_29 {d : Nat} {l0 l1 : Option Value} {s0 : Int32} {s1 : Nat} {σ : ab_St} {Q : Option Value → ab_St → Prop} : Ev d 30 29 [l0, l1] [.int s0, .ref s1] σ Q = Ev d 30 30 [l0, l1] [.int 1, .int s0, .ref s1] σ Q := ev_A1 d30_29 rfl
theorem d30_30 : decode (ab_C 30) 30 = .ok (.iload_n 1, 1) := by decide +kernel
theorem e30_30 {d : Nat} {l0 : Option Value} {x : Int32} {s0 : Int32} {s1 : Int32} {s2 : Nat} {σ : ab_St} {Q : Option Value → ab_St → Prop} : Ev d 30 30 [l0, some (.int x)] [.int s0, .int s1, .ref s2] σ Q = Ev d 30 31 [l0, some (.int x)] [.int x, .int s0, .int s1, .ref s2] σ Q := ev_A1 d30_30 rfl
theorem d30_31 : decode (ab_C 30) 31 = .ok (.ishl, 1) := by decide +kernel
theorem e30_31 {d : Nat} {l0 l1 : Option Value} {s0 : Int32} {s1 : Int32} {s2 : Int32} {s3 : Nat} {σ : ab_St} {Q : Option Value → ab_St → Prop} : Ev d 30 31 [l0, l1] [.int s0, .int s1, .int s2, .ref s3] σ Q = Ev d 30 32 [l0, l1] [.int (s1 <<< (s0 &&& 31)), .int s2, .ref s3] σ Q := ev_A2 d30_31 rfl rfl
theorem d30_32 : decode (ab_C 30) 32 = .ok (.ior, 1) := by decide +kernel
theorem e30_32 {d : Nat} {l0 l1 : Option Value} {s0 : Int32} {s1 : Int32} {s2 : Nat} {σ : ab_St} {Q : Option Value → ab_St → Prop} : Ev d 30 32 [l0, l1] [.int s0, .int s1, .ref s2] σ Q = Ev d 30 33 [l0, l1] [.int (s1 ||| s0), .ref s2] σ Q := ev_A2 d30_32 rfl rfl
theorem d30_33 : decode (ab_C 30) 33 = .ok (.putfield 67, 3) := by decide +kernel
theorem e30_33 {d : Nat} {l0 l1 : Option Value} {s0 : Int32} {s1 : Nat} {σ : ab_St} {Q : Option Value → ab_St → Prop} : Ev d 30 33 [l0, l1] [.int s0, .ref s1] σ Q = (ab_k s1 = 2 ∧ Ev d 30 36 [l0, l1] [] (ab_wI σ s1 (upd (σ.1 s1) 3 s0)) Q) := ev_Hc (c := ab_k s1 = 2) d30_33 rfl rfl rfl rfl rfl rfl rfl rfl
theorem d30_36 : decode (ab_C 30) 36 = .ok (.aload_n 0, 1) := by decide +kernel
theorem e30_36 {d : Nat} {l1 : Option Value} {x : Nat} {σ : ab_St} {Q : Option Value → ab_St → Prop} : Ev d 30 36 [some (.ref x), l1] [] σ Q = Ev d 30 37 [some (.ref x), l1] [.ref x] σ Q := ev_A1 d30_36 rfl
theorem d30_37 : decode (ab_C 30) 37 = .ok (.iload_n 1, 1) := by decide +kernel
theorem e30_37 {d : Nat} {l0 : Option Value} {x : Int32} {s0 : Nat} {σ : ab_St} {Q : Option Value → ab_St → Prop} : Ev d 30 37 [l0, some (.int x)] [.ref s0] σ Q = Ev d 30 38 [l0, some (.int x)] [.int x, .ref s0] σ Q := ev_A1 d30_37 rfl
theorem d30_38 : decode (ab_C 30) 38 = .ok (.invokevirtual 98, 3) := by decide +kernel
theorem e30_38 {d : Nat} {l0 l1 : Option Value} {s0 : Int32} {s1 : Nat} {σ : ab_St} {Q : Option Value → ab_St → Prop} : Ev (d + 1) 30 38 [l0, l1] [.int s0, .ref s1] σ Q = (ab_k s1 = 2 ∧ Ev d 29 0 [some (.ref s1), some (.int s0)] [] σ (fun r σ2 => Ev (d + 1) 30 41 [l0, l1] (r.toList ++ []) σ2 Q)) := ev_KV (b := s1) (ls := [l0, l1]) (st := [.int s0, .ref s1]) (as := [.int s0]) (rest := []) d30_38 rfl rfl rfl (Nat.le_of_ble_eq_true rfl) (Nat.le_of_ble_eq_true rfl) (Nat.le_of_ble_eq_true rfl) rfl rfl rfl rfl rfl rfl rfl
theorem d30_41 : decode (ab_C 30) 41 = .ok (.ireturn, 1) := by decide +kernel
theorem e30_41 {d : Nat} {l0 l1 : Option Value} {s0 : Int32} {σ : ab_St} {Q : Option Value → ab_St → Prop} : Ev d 30 41 [l0, l1] [.int s0] σ Q = ((s0 = 0 ∨ s0 = 1) ∧ Q (some (.int s0)) σ) := ev_Z d30_41 rfl
/-! SaidLeast$Told.hasSaying(I)Z -/
theorem d31_0 : decode (ab_C 31) 0 = .ok (.iload_n 1, 1) := by decide +kernel
theorem e31_0 {d : Nat} {l0 : Option Value} {x : Int32} {σ : ab_St} {Q : Option Value → ab_St → Prop} : Ev d 31 0 [l0, some (.int x)] [] σ Q = Ev d 31 1 [l0, some (.int x)] [.int x] σ Q := ev_A1 d31_0 rfl
theorem d31_1 : decode (ab_C 31) 1 = .ok (.ifCond .lt 15, 3) := by decide +kernel
theorem e31_1 {d : Nat} {l0 l1 : Option Value} {s0 : Int32} {σ : ab_St} {Q : Option Value → ab_St → Prop} : Ev d 31 1 [l0, l1] [.int s0] σ Q = if s0 < 0 then Ev d 31 16 [l0, l1] [] σ Q else Ev d 31 4 [l0, l1] [] σ Q := ev_B (c := s0 < 0) d31_1 rfl rfl rfl rfl rfl
theorem d31_4 : decode (ab_C 31) 4 = .ok (.iload_n 1, 1) := by decide +kernel
theorem e31_4 {d : Nat} {l0 : Option Value} {x : Int32} {σ : ab_St} {Q : Option Value → ab_St → Prop} : Ev d 31 4 [l0, some (.int x)] [] σ Q = Ev d 31 5 [l0, some (.int x)] [.int x] σ Q := ev_A1 d31_4 rfl
theorem d31_5 : decode (ab_C 31) 5 = .ok (.aload_n 0, 1) := by decide +kernel
theorem e31_5 {d : Nat} {l1 : Option Value} {x : Nat} {s0 : Int32} {σ : ab_St} {Q : Option Value → ab_St → Prop} : Ev d 31 5 [some (.ref x), l1] [.int s0] σ Q = Ev d 31 6 [some (.ref x), l1] [.ref x, .int s0] σ Q := ev_A1 d31_5 rfl
theorem d31_6 : decode (ab_C 31) 6 = .ok (.getfield 34, 3) := by decide +kernel
theorem e31_6 {d : Nat} {l0 l1 : Option Value} {s0 : Nat} {s1 : Int32} {σ : ab_St} {Q : Option Value → ab_St → Prop} : Ev d 31 6 [l0, l1] [.ref s0, .int s1] σ Q = (ab_k s0 = 3 ∧ Ev d 31 9 [l0, l1] [.int (σ.1 s0 5), .int s1] σ Q) := ev_Hc (c := ab_k s0 = 3) d31_6 rfl rfl rfl rfl rfl rfl rfl rfl
theorem d31_9 : decode (ab_C 31) 9 = .ok (.if_icmp .ge 7, 3) := by decide +kernel
theorem e31_9 {d : Nat} {l0 l1 : Option Value} {s0 : Int32} {s1 : Int32} {σ : ab_St} {Q : Option Value → ab_St → Prop} : Ev d 31 9 [l0, l1] [.int s0, .int s1] σ Q = if s0 ≤ s1 then Ev d 31 16 [l0, l1] [] σ Q else Ev d 31 12 [l0, l1] [] σ Q := ev_B (c := s0 ≤ s1) d31_9 rfl rfl rfl rfl rfl
theorem d31_12 : decode (ab_C 31) 12 = .ok (.iconst 1, 1) := by decide +kernel
theorem e31_12 {d : Nat} {l0 l1 : Option Value} {σ : ab_St} {Q : Option Value → ab_St → Prop} : Ev d 31 12 [l0, l1] [] σ Q = Ev d 31 13 [l0, l1] [.int 1] σ Q := ev_A1 d31_12 rfl
theorem d31_13 : decode (ab_C 31) 13 = .ok (.goto 4, 3) := by decide +kernel
theorem e31_13 {d : Nat} {l0 l1 : Option Value} {s0 : Int32} {σ : ab_St} {Q : Option Value → ab_St → Prop} : Ev d 31 13 [l0, l1] [.int s0] σ Q = Ev d 31 17 [l0, l1] [.int s0] σ Q := ev_J d31_13 rfl rfl rfl rfl rfl
theorem d31_16 : decode (ab_C 31) 16 = .ok (.iconst 0, 1) := by decide +kernel
theorem e31_16 {d : Nat} {l0 l1 : Option Value} {σ : ab_St} {Q : Option Value → ab_St → Prop} : Ev d 31 16 [l0, l1] [] σ Q = Ev d 31 17 [l0, l1] [.int 0] σ Q := ev_A1 d31_16 rfl
theorem d31_17 : decode (ab_C 31) 17 = .ok (.ireturn, 1) := by decide +kernel
theorem e31_17 {d : Nat} {l0 l1 : Option Value} {s0 : Int32} {σ : ab_St} {Q : Option Value → ab_St → Prop} : Ev d 31 17 [l0, l1] [.int s0] σ Q = ((s0 = 0 ∨ s0 = 1) ∧ Q (some (.int s0)) σ) := ev_Z d31_17 rfl
/-! SaidLeast.has(II)Z -/
theorem d32_0 : decode (ab_C 32) 0 = .ok (.iload_n 0, 1) := by decide +kernel
theorem e32_0 {d : Nat} {l1 : Option Value} {x : Int32} {σ : ab_St} {Q : Option Value → ab_St → Prop} : Ev d 32 0 [some (.int x), l1] [] σ Q = Ev d 32 1 [some (.int x), l1] [.int x] σ Q := ev_A1 d32_0 rfl
theorem d32_1 : decode (ab_C 32) 1 = .ok (.iload_n 1, 1) := by decide +kernel
theorem e32_1 {d : Nat} {l0 : Option Value} {x : Int32} {s0 : Int32} {σ : ab_St} {Q : Option Value → ab_St → Prop} : Ev d 32 1 [l0, some (.int x)] [.int s0] σ Q = Ev d 32 2 [l0, some (.int x)] [.int x, .int s0] σ Q := ev_A1 d32_1 rfl
theorem d32_2 : decode (ab_C 32) 2 = .ok (.ishr, 1) := by decide +kernel
theorem e32_2 {d : Nat} {l0 l1 : Option Value} {s0 : Int32} {s1 : Int32} {σ : ab_St} {Q : Option Value → ab_St → Prop} : Ev d 32 2 [l0, l1] [.int s0, .int s1] σ Q = Ev d 32 3 [l0, l1] [.int (s1 >>> (s0 &&& 31))] σ Q := ev_A2 d32_2 rfl rfl
theorem d32_3 : decode (ab_C 32) 3 = .ok (.iconst 1, 1) := by decide +kernel
theorem e32_3 {d : Nat} {l0 l1 : Option Value} {s0 : Int32} {σ : ab_St} {Q : Option Value → ab_St → Prop} : Ev d 32 3 [l0, l1] [.int s0] σ Q = Ev d 32 4 [l0, l1] [.int 1, .int s0] σ Q := ev_A1 d32_3 rfl
theorem d32_4 : decode (ab_C 32) 4 = .ok (.iand, 1) := by decide +kernel
theorem e32_4 {d : Nat} {l0 l1 : Option Value} {s0 : Int32} {s1 : Int32} {σ : ab_St} {Q : Option Value → ab_St → Prop} : Ev d 32 4 [l0, l1] [.int s0, .int s1] σ Q = Ev d 32 5 [l0, l1] [.int (s1 &&& s0)] σ Q := ev_A2 d32_4 rfl rfl
theorem d32_5 : decode (ab_C 32) 5 = .ok (.ifCond .eq 7, 3) := by decide +kernel
theorem e32_5 {d : Nat} {l0 l1 : Option Value} {s0 : Int32} {σ : ab_St} {Q : Option Value → ab_St → Prop} : Ev d 32 5 [l0, l1] [.int s0] σ Q = if s0 = 0 then Ev d 32 12 [l0, l1] [] σ Q else Ev d 32 8 [l0, l1] [] σ Q := ev_B (c := s0 = 0) d32_5 rfl rfl rfl rfl rfl
theorem d32_8 : decode (ab_C 32) 8 = .ok (.iconst 1, 1) := by decide +kernel
theorem e32_8 {d : Nat} {l0 l1 : Option Value} {σ : ab_St} {Q : Option Value → ab_St → Prop} : Ev d 32 8 [l0, l1] [] σ Q = Ev d 32 9 [l0, l1] [.int 1] σ Q := ev_A1 d32_8 rfl
theorem d32_9 : decode (ab_C 32) 9 = .ok (.goto 4, 3) := by decide +kernel
theorem e32_9 {d : Nat} {l0 l1 : Option Value} {s0 : Int32} {σ : ab_St} {Q : Option Value → ab_St → Prop} : Ev d 32 9 [l0, l1] [.int s0] σ Q = Ev d 32 13 [l0, l1] [.int s0] σ Q := ev_J d32_9 rfl rfl rfl rfl rfl
theorem d32_12 : decode (ab_C 32) 12 = .ok (.iconst 0, 1) := by decide +kernel
theorem e32_12 {d : Nat} {l0 l1 : Option Value} {σ : ab_St} {Q : Option Value → ab_St → Prop} : Ev d 32 12 [l0, l1] [] σ Q = Ev d 32 13 [l0, l1] [.int 0] σ Q := ev_A1 d32_12 rfl
theorem d32_13 : decode (ab_C 32) 13 = .ok (.ireturn, 1) := by decide +kernel
theorem e32_13 {d : Nat} {l0 l1 : Option Value} {s0 : Int32} {σ : ab_St} {Q : Option Value → ab_St → Prop} : Ev d 32 13 [l0, l1] [.int s0] σ Q = ((s0 = 0 ∨ s0 = 1) ∧ Q (some (.int s0)) σ) := ev_Z d32_13 rfl
/-! SaidLeast.parlour()I -/
theorem d33_0 : decode (ab_C 33) 0 = .ok (.aload_n 0, 1) := by decide +kernel
theorem e33_0 {d : Nat} {x : Nat} {σ : ab_St} {Q : Option Value → ab_St → Prop} : Ev d 33 0 [some (.ref x)] [] σ Q = Ev d 33 1 [some (.ref x)] [.ref x] σ Q := ev_A1 d33_0 rfl
theorem d33_1 : decode (ab_C 33) 1 = .ok (.getfield 19, 3) := by decide +kernel
theorem e33_1 {d : Nat} {l0 : Option Value} {s0 : Nat} {σ : ab_St} {Q : Option Value → ab_St → Prop} : Ev d 33 1 [l0] [.ref s0] σ Q = (ab_k s0 = 0 ∧ Ev d 33 4 [l0] [.ref (ab_r s0 1)] σ Q) := ev_Hc (c := ab_k s0 = 0) d33_1 rfl rfl rfl rfl rfl rfl rfl rfl
theorem d33_4 : decode (ab_C 33) 4 = .ok (.aload_n 0, 1) := by decide +kernel
theorem e33_4 {d : Nat} {x : Nat} {s0 : Nat} {σ : ab_St} {Q : Option Value → ab_St → Prop} : Ev d 33 4 [some (.ref x)] [.ref s0] σ Q = Ev d 33 5 [some (.ref x)] [.ref x, .ref s0] σ Q := ev_A1 d33_4 rfl
theorem d33_5 : decode (ab_C 33) 5 = .ok (.getfield 12, 3) := by decide +kernel
theorem e33_5 {d : Nat} {l0 : Option Value} {s0 : Nat} {s1 : Nat} {σ : ab_St} {Q : Option Value → ab_St → Prop} : Ev d 33 5 [l0] [.ref s0, .ref s1] σ Q = (ab_k s0 = 0 ∧ Ev d 33 8 [l0] [.ref (ab_r s0 0), .ref s1] σ Q) := ev_Hc (c := ab_k s0 = 0) d33_5 rfl rfl rfl rfl rfl rfl rfl rfl
theorem d33_8 : decode (ab_C 33) 8 = .ok (.invokevirtual 80, 3) := by decide +kernel
theorem e33_8 {d : Nat} {l0 : Option Value} {s0 : Nat} {s1 : Nat} {σ : ab_St} {Q : Option Value → ab_St → Prop} : Ev (d + 1) 33 8 [l0] [.ref s0, .ref s1] σ Q = (ab_k s1 = 2 ∧ Ev d 15 0 [some (.ref s1), some (.ref s0), none] [] σ (fun r σ2 => Ev (d + 1) 33 11 [l0] (r.toList ++ []) σ2 Q)) := ev_KV (b := s1) (ls := [l0]) (st := [.ref s0, .ref s1]) (as := [.ref s0]) (rest := []) d33_8 rfl rfl rfl (Nat.le_of_ble_eq_true rfl) (Nat.le_of_ble_eq_true rfl) (Nat.le_of_ble_eq_true rfl) rfl rfl rfl rfl rfl rfl rfl
theorem d33_11 : decode (ab_C 33) 11 = .ok (.bipush (-9), 2) := by decide +kernel
theorem e33_11 {d : Nat} {l0 : Option Value} {s0 : Int32} {σ : ab_St} {Q : Option Value → ab_St → Prop} : Ev d 33 11 [l0] [.int s0] σ Q = Ev d 33 13 [l0] [.int (-9), .int s0] σ Q := ev_A1 d33_11 rfl
theorem d33_13 : decode (ab_C 33) 13 = .ok (.if_icmp .eq 6, 3) := by decide +kernel
theorem e33_13 {d : Nat} {l0 : Option Value} {s0 : Int32} {s1 : Int32} {σ : ab_St} {Q : Option Value → ab_St → Prop} : Ev d 33 13 [l0] [.int s0, .int s1] σ Q = if s1 = s0 then Ev d 33 19 [l0] [] σ Q else Ev d 33 16 [l0] [] σ Q := ev_B (c := s1 = s0) d33_13 rfl rfl rfl rfl rfl
theorem d33_16 : decode (ab_C 33) 16 = .ok (.bipush (-3), 2) := by decide +kernel
theorem e33_16 {d : Nat} {l0 : Option Value} {σ : ab_St} {Q : Option Value → ab_St → Prop} : Ev d 33 16 [l0] [] σ Q = Ev d 33 18 [l0] [.int (-3)] σ Q := ev_A1 d33_16 rfl
theorem d33_18 : decode (ab_C 33) 18 = .ok (.ireturn, 1) := by decide +kernel
theorem e33_18 {d : Nat} {l0 : Option Value} {s0 : Int32} {σ : ab_St} {Q : Option Value → ab_St → Prop} : Ev d 33 18 [l0] [.int s0] σ Q = Q (some (.int s0)) σ := ev_E d33_18 rfl rfl rfl rfl rfl rfl rfl
theorem d33_19 : decode (ab_C 33) 19 = .ok (.aload_n 0, 1) := by decide +kernel
theorem e33_19 {d : Nat} {x : Nat} {σ : ab_St} {Q : Option Value → ab_St → Prop} : Ev d 33 19 [some (.ref x)] [] σ Q = Ev d 33 20 [some (.ref x)] [.ref x] σ Q := ev_A1 d33_19 rfl
theorem d33_20 : decode (ab_C 33) 20 = .ok (.getfield 26, 3) := by decide +kernel
theorem e33_20 {d : Nat} {l0 : Option Value} {s0 : Nat} {σ : ab_St} {Q : Option Value → ab_St → Prop} : Ev d 33 20 [l0] [.ref s0] σ Q = (ab_k s0 = 0 ∧ Ev d 33 23 [l0] [.ref (ab_r s0 2)] σ Q) := ev_Hc (c := ab_k s0 = 0) d33_20 rfl rfl rfl rfl rfl rfl rfl rfl
theorem d33_23 : decode (ab_C 33) 23 = .ok (.aload_n 0, 1) := by decide +kernel
theorem e33_23 {d : Nat} {x : Nat} {s0 : Nat} {σ : ab_St} {Q : Option Value → ab_St → Prop} : Ev d 33 23 [some (.ref x)] [.ref s0] σ Q = Ev d 33 24 [some (.ref x)] [.ref x, .ref s0] σ Q := ev_A1 d33_23 rfl
theorem d33_24 : decode (ab_C 33) 24 = .ok (.getfield 19, 3) := by decide +kernel
theorem e33_24 {d : Nat} {l0 : Option Value} {s0 : Nat} {s1 : Nat} {σ : ab_St} {Q : Option Value → ab_St → Prop} : Ev d 33 24 [l0] [.ref s0, .ref s1] σ Q = (ab_k s0 = 0 ∧ Ev d 33 27 [l0] [.ref (ab_r s0 1), .ref s1] σ Q) := ev_Hc (c := ab_k s0 = 0) d33_24 rfl rfl rfl rfl rfl rfl rfl rfl
theorem d33_27 : decode (ab_C 33) 27 = .ok (.getfield 84, 3) := by decide +kernel
theorem e33_27 {d : Nat} {l0 : Option Value} {s0 : Nat} {s1 : Nat} {σ : ab_St} {Q : Option Value → ab_St → Prop} : Ev d 33 27 [l0] [.ref s0, .ref s1] σ Q = (ab_k s0 = 2 ∧ Ev d 33 30 [l0] [.ref (ab_r s0 0), .ref s1] σ Q) := ev_Hc (c := ab_k s0 = 2) d33_27 rfl rfl rfl rfl rfl rfl rfl rfl
theorem d33_30 : decode (ab_C 33) 30 = .ok (.invokevirtual 85, 3) := by decide +kernel
theorem e33_30 {d : Nat} {l0 : Option Value} {s0 : Nat} {s1 : Nat} {σ : ab_St} {Q : Option Value → ab_St → Prop} : Ev (d + 1) 33 30 [l0] [.ref s0, .ref s1] σ Q = (ab_k s1 = 3 ∧ Ev d 34 0 [some (.ref s1), some (.ref s0)] [] σ (fun r σ2 => Ev (d + 1) 33 33 [l0] (r.toList ++ []) σ2 Q)) := ev_KV (b := s1) (ls := [l0]) (st := [.ref s0, .ref s1]) (as := [.ref s0]) (rest := []) d33_30 rfl rfl rfl (Nat.le_of_ble_eq_true rfl) (Nat.le_of_ble_eq_true rfl) (Nat.le_of_ble_eq_true rfl) rfl rfl rfl rfl rfl rfl rfl
theorem d33_33 : decode (ab_C 33) 33 = .ok (.aload_n 0, 1) := by decide +kernel
theorem e33_33 {d : Nat} {x : Nat} {σ : ab_St} {Q : Option Value → ab_St → Prop} : Ev d 33 33 [some (.ref x)] [] σ Q = Ev d 33 34 [some (.ref x)] [.ref x] σ Q := ev_A1 d33_33 rfl
theorem d33_34 : decode (ab_C 33) 34 = .ok (.getfield 33, 3) := by decide +kernel
theorem e33_34 {d : Nat} {l0 : Option Value} {s0 : Nat} {σ : ab_St} {Q : Option Value → ab_St → Prop} : Ev d 33 34 [l0] [.ref s0] σ Q = (ab_k s0 = 0 ∧ Ev d 33 37 [l0] [.ref (ab_r s0 3)] σ Q) := ev_Hc (c := ab_k s0 = 0) d33_34 rfl rfl rfl rfl rfl rfl rfl rfl
theorem d33_37 : decode (ab_C 33) 37 = .ok (.aload_n 0, 1) := by decide +kernel
theorem e33_37 {d : Nat} {x : Nat} {s0 : Nat} {σ : ab_St} {Q : Option Value → ab_St → Prop} : Ev d 33 37 [some (.ref x)] [.ref s0] σ Q = Ev d 33 38 [some (.ref x)] [.ref x, .ref s0] σ Q := ev_A1 d33_37 rfl
theorem d33_38 : decode (ab_C 33) 38 = .ok (.getfield 19, 3) := by decide +kernel
theorem e33_38 {d : Nat} {l0 : Option Value} {s0 : Nat} {s1 : Nat} {σ : ab_St} {Q : Option Value → ab_St → Prop} : Ev d 33 38 [l0] [.ref s0, .ref s1] σ Q = (ab_k s0 = 0 ∧ Ev d 33 41 [l0] [.ref (ab_r s0 1), .ref s1] σ Q) := ev_Hc (c := ab_k s0 = 0) d33_38 rfl rfl rfl rfl rfl rfl rfl rfl
theorem d33_41 : decode (ab_C 33) 41 = .ok (.getfield 89, 3) := by decide +kernel
theorem e33_41 {d : Nat} {l0 : Option Value} {s0 : Nat} {s1 : Nat} {σ : ab_St} {Q : Option Value → ab_St → Prop} : Ev d 33 41 [l0] [.ref s0, .ref s1] σ Q = (ab_k s0 = 2 ∧ Ev d 33 44 [l0] [.ref (ab_r s0 1), .ref s1] σ Q) := ev_Hc (c := ab_k s0 = 2) d33_41 rfl rfl rfl rfl rfl rfl rfl rfl
theorem d33_44 : decode (ab_C 33) 44 = .ok (.invokevirtual 92, 3) := by decide +kernel
theorem e33_44 {d : Nat} {l0 : Option Value} {s0 : Nat} {s1 : Nat} {σ : ab_St} {Q : Option Value → ab_St → Prop} : Ev (d + 1) 33 44 [l0] [.ref s0, .ref s1] σ Q = (ab_k s1 = 4 ∧ Ev d 35 0 [some (.ref s1), some (.ref s0)] [] σ (fun r σ2 => Ev (d + 1) 33 47 [l0] (r.toList ++ []) σ2 Q)) := ev_KV (b := s1) (ls := [l0]) (st := [.ref s0, .ref s1]) (as := [.ref s0]) (rest := []) d33_44 rfl rfl rfl (Nat.le_of_ble_eq_true rfl) (Nat.le_of_ble_eq_true rfl) (Nat.le_of_ble_eq_true rfl) rfl rfl rfl rfl rfl rfl rfl
theorem d33_47 : decode (ab_C 33) 47 = .ok (.aload_n 0, 1) := by decide +kernel
theorem e33_47 {d : Nat} {x : Nat} {σ : ab_St} {Q : Option Value → ab_St → Prop} : Ev d 33 47 [some (.ref x)] [] σ Q = Ev d 33 48 [some (.ref x)] [.ref x] σ Q := ev_A1 d33_47 rfl
theorem d33_48 : decode (ab_C 33) 48 = .ok (.getfield 43, 3) := by decide +kernel
theorem e33_48 {d : Nat} {l0 : Option Value} {s0 : Nat} {σ : ab_St} {Q : Option Value → ab_St → Prop} : Ev d 33 48 [l0] [.ref s0] σ Q = (ab_k s0 = 0 ∧ Ev d 33 51 [l0] [.ref (ab_r s0 5)] σ Q) := ev_Hc (c := ab_k s0 = 0) d33_48 rfl rfl rfl rfl rfl rfl rfl rfl
theorem d33_51 : decode (ab_C 33) 51 = .ok (.invokevirtual 95, 3) := by decide +kernel
theorem e33_51 {d : Nat} {l0 : Option Value} {s0 : Nat} {σ : ab_St} {Q : Option Value → ab_St → Prop} : Ev (d + 1) 33 51 [l0] [.ref s0] σ Q = (ab_k s0 = 5 ∧ Ev d 36 0 [some (.ref s0)] [] σ (fun r σ2 => Ev (d + 1) 33 54 [l0] (r.toList ++ []) σ2 Q)) := ev_KV (b := s0) (ls := [l0]) (st := [.ref s0]) (as := []) (rest := []) d33_51 rfl rfl rfl (Nat.le_of_ble_eq_true rfl) (Nat.le_of_ble_eq_true rfl) (Nat.le_of_ble_eq_true rfl) rfl rfl rfl rfl rfl rfl rfl
theorem d33_54 : decode (ab_C 33) 54 = .ok (.aload_n 0, 1) := by decide +kernel
theorem e33_54 {d : Nat} {x : Nat} {σ : ab_St} {Q : Option Value → ab_St → Prop} : Ev d 33 54 [some (.ref x)] [] σ Q = Ev d 33 55 [some (.ref x)] [.ref x] σ Q := ev_A1 d33_54 rfl
theorem d33_55 : decode (ab_C 33) 55 = .ok (.iconst 0, 1) := by decide +kernel
theorem e33_55 {d : Nat} {l0 : Option Value} {s0 : Nat} {σ : ab_St} {Q : Option Value → ab_St → Prop} : Ev d 33 55 [l0] [.ref s0] σ Q = Ev d 33 56 [l0] [.int 0, .ref s0] σ Q := ev_A1 d33_55 rfl
theorem d33_56 : decode (ab_C 33) 56 = .ok (.putfield 98, 3) := by decide +kernel
theorem e33_56 {d : Nat} {l0 : Option Value} {s0 : Int32} {s1 : Nat} {σ : ab_St} {Q : Option Value → ab_St → Prop} : Ev d 33 56 [l0] [.int s0, .ref s1] σ Q = (ab_k s1 = 0 ∧ Ev d 33 59 [l0] [] (ab_wI σ s1 (upd (σ.1 s1) 10 s0)) Q) := ev_Hc (c := ab_k s1 = 0) d33_56 rfl rfl rfl rfl rfl rfl rfl rfl
theorem d33_59 : decode (ab_C 33) 59 = .ok (.aload_n 0, 1) := by decide +kernel
theorem e33_59 {d : Nat} {x : Nat} {σ : ab_St} {Q : Option Value → ab_St → Prop} : Ev d 33 59 [some (.ref x)] [] σ Q = Ev d 33 60 [some (.ref x)] [.ref x] σ Q := ev_A1 d33_59 rfl
theorem d33_60 : decode (ab_C 33) 60 = .ok (.getfield 26, 3) := by decide +kernel
theorem e33_60 {d : Nat} {l0 : Option Value} {s0 : Nat} {σ : ab_St} {Q : Option Value → ab_St → Prop} : Ev d 33 60 [l0] [.ref s0] σ Q = (ab_k s0 = 0 ∧ Ev d 33 63 [l0] [.ref (ab_r s0 2)] σ Q) := ev_Hc (c := ab_k s0 = 0) d33_60 rfl rfl rfl rfl rfl rfl rfl rfl
theorem d33_63 : decode (ab_C 33) 63 = .ok (.getfield 101, 3) := by decide +kernel
theorem e33_63 {d : Nat} {l0 : Option Value} {s0 : Nat} {σ : ab_St} {Q : Option Value → ab_St → Prop} : Ev d 33 63 [l0] [.ref s0] σ Q = (ab_k s0 = 3 ∧ Ev d 33 66 [l0] [.int (σ.1 s0 4)] σ Q) := ev_Hc (c := ab_k s0 = 3) d33_63 rfl rfl rfl rfl rfl rfl rfl rfl
theorem d33_66 : decode (ab_C 33) 66 = .ok (.ireturn, 1) := by decide +kernel
theorem e33_66 {d : Nat} {l0 : Option Value} {s0 : Int32} {σ : ab_St} {Q : Option Value → ab_St → Prop} : Ev d 33 66 [l0] [.int s0] σ Q = Q (some (.int s0)) σ := ev_E d33_66 rfl rfl rfl rfl rfl rfl rfl
/-! SaidLeast$Told.copyFrom(LSaidLeast$Told;)V -/
theorem d34_0 : decode (ab_C 34) 0 = .ok (.aload_n 1, 1) := by decide +kernel
theorem e34_0 {d : Nat} {l0 : Option Value} {x : Nat} {σ : ab_St} {Q : Option Value → ab_St → Prop} : Ev d 34 0 [l0, some (.ref x)] [] σ Q = Ev d 34 1 [l0, some (.ref x)] [.ref x] σ Q := ev_A1 d34_0 rfl
theorem d34_1 : decode (ab_C 34) 1 = .ok (.getfield 9, 3) := by decide +kernel
theorem e34_1 {d : Nat} {l0 l1 : Option Value} {s0 : Nat} {σ : ab_St} {Q : Option Value → ab_St → Prop} : Ev d 34 1 [l0, l1] [.ref s0] σ Q = (ab_k s0 = 3 ∧ Ev d 34 4 [l0, l1] [.ref (ab_r s0 0)] σ Q) := ev_Hc (c := ab_k s0 = 3) d34_1 rfl rfl rfl rfl rfl rfl rfl rfl
theorem d34_4 : decode (ab_C 34) 4 = .ok (.iconst 0, 1) := by decide +kernel
theorem e34_4 {d : Nat} {l0 l1 : Option Value} {s0 : Nat} {σ : ab_St} {Q : Option Value → ab_St → Prop} : Ev d 34 4 [l0, l1] [.ref s0] σ Q = Ev d 34 5 [l0, l1] [.int 0, .ref s0] σ Q := ev_A1 d34_4 rfl
theorem d34_5 : decode (ab_C 34) 5 = .ok (.aload_n 0, 1) := by decide +kernel
theorem e34_5 {d : Nat} {l1 : Option Value} {x : Nat} {s0 : Int32} {s1 : Nat} {σ : ab_St} {Q : Option Value → ab_St → Prop} : Ev d 34 5 [some (.ref x), l1] [.int s0, .ref s1] σ Q = Ev d 34 6 [some (.ref x), l1] [.ref x, .int s0, .ref s1] σ Q := ev_A1 d34_5 rfl
theorem d34_6 : decode (ab_C 34) 6 = .ok (.getfield 9, 3) := by decide +kernel
theorem e34_6 {d : Nat} {l0 l1 : Option Value} {s0 : Nat} {s1 : Int32} {s2 : Nat} {σ : ab_St} {Q : Option Value → ab_St → Prop} : Ev d 34 6 [l0, l1] [.ref s0, .int s1, .ref s2] σ Q = (ab_k s0 = 3 ∧ Ev d 34 9 [l0, l1] [.ref (ab_r s0 0), .int s1, .ref s2] σ Q) := ev_Hc (c := ab_k s0 = 3) d34_6 rfl rfl rfl rfl rfl rfl rfl rfl
theorem d34_9 : decode (ab_C 34) 9 = .ok (.iconst 0, 1) := by decide +kernel
theorem e34_9 {d : Nat} {l0 l1 : Option Value} {s0 : Nat} {s1 : Int32} {s2 : Nat} {σ : ab_St} {Q : Option Value → ab_St → Prop} : Ev d 34 9 [l0, l1] [.ref s0, .int s1, .ref s2] σ Q = Ev d 34 10 [l0, l1] [.int 0, .ref s0, .int s1, .ref s2] σ Q := ev_A1 d34_9 rfl
theorem d34_10 : decode (ab_C 34) 10 = .ok (.bipush 8, 2) := by decide +kernel
theorem e34_10 {d : Nat} {l0 l1 : Option Value} {s0 : Int32} {s1 : Nat} {s2 : Int32} {s3 : Nat} {σ : ab_St} {Q : Option Value → ab_St → Prop} : Ev d 34 10 [l0, l1] [.int s0, .ref s1, .int s2, .ref s3] σ Q = Ev d 34 12 [l0, l1] [.int 8, .int s0, .ref s1, .int s2, .ref s3] σ Q := ev_A1 d34_10 rfl
theorem d34_12 : decode (ab_C 34) 12 = .ok (.invokestatic 24, 3) := by decide +kernel
theorem e34_12 {d : Nat} {l0 l1 : Option Value} {s0 : Int32} {s1 : Int32} {s2 : Nat} {s3 : Int32} {s4 : Nat} {σ : ab_St} {Q : Option Value → ab_St → Prop} : Ev (d + 1) 34 12 [l0, l1] [.int s0, .int s1, .ref s2, .int s3, .ref s4] σ Q = (((ab_k s4 = 100 ∧ ab_k s2 = 100) ∧ (¬ s3 < 0 ∧ ¬ s1 < 0 ∧ ¬ s0 < 0) ∧ s3.toNatClampNeg + s0.toNatClampNeg ≤ ab_n s4 ∧ s1.toNatClampNeg + s0.toNatClampNeg ≤ ab_n s2) ∧ Ev (d + 1) 34 15 [l0, l1] [] (ab_wI σ s2 (va_cpy (σ.1 s4) (σ.1 s2) s3.toNatClampNeg s1.toNatClampNeg s0.toNatClampNeg)) Q) := ev_ac d34_12 rfl (Nat.le_of_ble_eq_true rfl) rfl rfl
theorem d34_15 : decode (ab_C 34) 15 = .ok (.aload_n 1, 1) := by decide +kernel
theorem e34_15 {d : Nat} {l0 : Option Value} {x : Nat} {σ : ab_St} {Q : Option Value → ab_St → Prop} : Ev d 34 15 [l0, some (.ref x)] [] σ Q = Ev d 34 16 [l0, some (.ref x)] [.ref x] σ Q := ev_A1 d34_15 rfl
theorem d34_16 : decode (ab_C 34) 16 = .ok (.getfield 15, 3) := by decide +kernel
theorem e34_16 {d : Nat} {l0 l1 : Option Value} {s0 : Nat} {σ : ab_St} {Q : Option Value → ab_St → Prop} : Ev d 34 16 [l0, l1] [.ref s0] σ Q = (ab_k s0 = 3 ∧ Ev d 34 19 [l0, l1] [.ref (ab_r s0 1)] σ Q) := ev_Hc (c := ab_k s0 = 3) d34_16 rfl rfl rfl rfl rfl rfl rfl rfl
theorem d34_19 : decode (ab_C 34) 19 = .ok (.iconst 0, 1) := by decide +kernel
theorem e34_19 {d : Nat} {l0 l1 : Option Value} {s0 : Nat} {σ : ab_St} {Q : Option Value → ab_St → Prop} : Ev d 34 19 [l0, l1] [.ref s0] σ Q = Ev d 34 20 [l0, l1] [.int 0, .ref s0] σ Q := ev_A1 d34_19 rfl
theorem d34_20 : decode (ab_C 34) 20 = .ok (.aload_n 0, 1) := by decide +kernel
theorem e34_20 {d : Nat} {l1 : Option Value} {x : Nat} {s0 : Int32} {s1 : Nat} {σ : ab_St} {Q : Option Value → ab_St → Prop} : Ev d 34 20 [some (.ref x), l1] [.int s0, .ref s1] σ Q = Ev d 34 21 [some (.ref x), l1] [.ref x, .int s0, .ref s1] σ Q := ev_A1 d34_20 rfl
theorem d34_21 : decode (ab_C 34) 21 = .ok (.getfield 15, 3) := by decide +kernel
theorem e34_21 {d : Nat} {l0 l1 : Option Value} {s0 : Nat} {s1 : Int32} {s2 : Nat} {σ : ab_St} {Q : Option Value → ab_St → Prop} : Ev d 34 21 [l0, l1] [.ref s0, .int s1, .ref s2] σ Q = (ab_k s0 = 3 ∧ Ev d 34 24 [l0, l1] [.ref (ab_r s0 1), .int s1, .ref s2] σ Q) := ev_Hc (c := ab_k s0 = 3) d34_21 rfl rfl rfl rfl rfl rfl rfl rfl
theorem d34_24 : decode (ab_C 34) 24 = .ok (.iconst 0, 1) := by decide +kernel
theorem e34_24 {d : Nat} {l0 l1 : Option Value} {s0 : Nat} {s1 : Int32} {s2 : Nat} {σ : ab_St} {Q : Option Value → ab_St → Prop} : Ev d 34 24 [l0, l1] [.ref s0, .int s1, .ref s2] σ Q = Ev d 34 25 [l0, l1] [.int 0, .ref s0, .int s1, .ref s2] σ Q := ev_A1 d34_24 rfl
theorem d34_25 : decode (ab_C 34) 25 = .ok (.bipush 8, 2) := by decide +kernel
theorem e34_25 {d : Nat} {l0 l1 : Option Value} {s0 : Int32} {s1 : Nat} {s2 : Int32} {s3 : Nat} {σ : ab_St} {Q : Option Value → ab_St → Prop} : Ev d 34 25 [l0, l1] [.int s0, .ref s1, .int s2, .ref s3] σ Q = Ev d 34 27 [l0, l1] [.int 8, .int s0, .ref s1, .int s2, .ref s3] σ Q := ev_A1 d34_25 rfl
theorem d34_27 : decode (ab_C 34) 27 = .ok (.invokestatic 24, 3) := by decide +kernel
theorem e34_27 {d : Nat} {l0 l1 : Option Value} {s0 : Int32} {s1 : Int32} {s2 : Nat} {s3 : Int32} {s4 : Nat} {σ : ab_St} {Q : Option Value → ab_St → Prop} : Ev (d + 1) 34 27 [l0, l1] [.int s0, .int s1, .ref s2, .int s3, .ref s4] σ Q = (((ab_k s4 = 100 ∧ ab_k s2 = 100) ∧ (¬ s3 < 0 ∧ ¬ s1 < 0 ∧ ¬ s0 < 0) ∧ s3.toNatClampNeg + s0.toNatClampNeg ≤ ab_n s4 ∧ s1.toNatClampNeg + s0.toNatClampNeg ≤ ab_n s2) ∧ Ev (d + 1) 34 30 [l0, l1] [] (ab_wI σ s2 (va_cpy (σ.1 s4) (σ.1 s2) s3.toNatClampNeg s1.toNatClampNeg s0.toNatClampNeg)) Q) := ev_ac d34_27 rfl (Nat.le_of_ble_eq_true rfl) rfl rfl
theorem d34_30 : decode (ab_C 34) 30 = .ok (.aload_n 1, 1) := by decide +kernel
theorem e34_30 {d : Nat} {l0 : Option Value} {x : Nat} {σ : ab_St} {Q : Option Value → ab_St → Prop} : Ev d 34 30 [l0, some (.ref x)] [] σ Q = Ev d 34 31 [l0, some (.ref x)] [.ref x] σ Q := ev_A1 d34_30 rfl
theorem d34_31 : decode (ab_C 34) 31 = .ok (.getfield 18, 3) := by decide +kernel
theorem e34_31 {d : Nat} {l0 l1 : Option Value} {s0 : Nat} {σ : ab_St} {Q : Option Value → ab_St → Prop} : Ev d 34 31 [l0, l1] [.ref s0] σ Q = (ab_k s0 = 3 ∧ Ev d 34 34 [l0, l1] [.ref (ab_r s0 2)] σ Q) := ev_Hc (c := ab_k s0 = 3) d34_31 rfl rfl rfl rfl rfl rfl rfl rfl
theorem d34_34 : decode (ab_C 34) 34 = .ok (.iconst 0, 1) := by decide +kernel
theorem e34_34 {d : Nat} {l0 l1 : Option Value} {s0 : Nat} {σ : ab_St} {Q : Option Value → ab_St → Prop} : Ev d 34 34 [l0, l1] [.ref s0] σ Q = Ev d 34 35 [l0, l1] [.int 0, .ref s0] σ Q := ev_A1 d34_34 rfl
theorem d34_35 : decode (ab_C 34) 35 = .ok (.aload_n 0, 1) := by decide +kernel
theorem e34_35 {d : Nat} {l1 : Option Value} {x : Nat} {s0 : Int32} {s1 : Nat} {σ : ab_St} {Q : Option Value → ab_St → Prop} : Ev d 34 35 [some (.ref x), l1] [.int s0, .ref s1] σ Q = Ev d 34 36 [some (.ref x), l1] [.ref x, .int s0, .ref s1] σ Q := ev_A1 d34_35 rfl
theorem d34_36 : decode (ab_C 34) 36 = .ok (.getfield 18, 3) := by decide +kernel
theorem e34_36 {d : Nat} {l0 l1 : Option Value} {s0 : Nat} {s1 : Int32} {s2 : Nat} {σ : ab_St} {Q : Option Value → ab_St → Prop} : Ev d 34 36 [l0, l1] [.ref s0, .int s1, .ref s2] σ Q = (ab_k s0 = 3 ∧ Ev d 34 39 [l0, l1] [.ref (ab_r s0 2), .int s1, .ref s2] σ Q) := ev_Hc (c := ab_k s0 = 3) d34_36 rfl rfl rfl rfl rfl rfl rfl rfl
theorem d34_39 : decode (ab_C 34) 39 = .ok (.iconst 0, 1) := by decide +kernel
theorem e34_39 {d : Nat} {l0 l1 : Option Value} {s0 : Nat} {s1 : Int32} {s2 : Nat} {σ : ab_St} {Q : Option Value → ab_St → Prop} : Ev d 34 39 [l0, l1] [.ref s0, .int s1, .ref s2] σ Q = Ev d 34 40 [l0, l1] [.int 0, .ref s0, .int s1, .ref s2] σ Q := ev_A1 d34_39 rfl
theorem d34_40 : decode (ab_C 34) 40 = .ok (.bipush 8, 2) := by decide +kernel
theorem e34_40 {d : Nat} {l0 l1 : Option Value} {s0 : Int32} {s1 : Nat} {s2 : Int32} {s3 : Nat} {σ : ab_St} {Q : Option Value → ab_St → Prop} : Ev d 34 40 [l0, l1] [.int s0, .ref s1, .int s2, .ref s3] σ Q = Ev d 34 42 [l0, l1] [.int 8, .int s0, .ref s1, .int s2, .ref s3] σ Q := ev_A1 d34_40 rfl
theorem d34_42 : decode (ab_C 34) 42 = .ok (.invokestatic 24, 3) := by decide +kernel
theorem e34_42 {d : Nat} {l0 l1 : Option Value} {s0 : Int32} {s1 : Int32} {s2 : Nat} {s3 : Int32} {s4 : Nat} {σ : ab_St} {Q : Option Value → ab_St → Prop} : Ev (d + 1) 34 42 [l0, l1] [.int s0, .int s1, .ref s2, .int s3, .ref s4] σ Q = (((ab_k s4 = 100 ∧ ab_k s2 = 100) ∧ (¬ s3 < 0 ∧ ¬ s1 < 0 ∧ ¬ s0 < 0) ∧ s3.toNatClampNeg + s0.toNatClampNeg ≤ ab_n s4 ∧ s1.toNatClampNeg + s0.toNatClampNeg ≤ ab_n s2) ∧ Ev (d + 1) 34 45 [l0, l1] [] (ab_wI σ s2 (va_cpy (σ.1 s4) (σ.1 s2) s3.toNatClampNeg s1.toNatClampNeg s0.toNatClampNeg)) Q) := ev_ac d34_42 rfl (Nat.le_of_ble_eq_true rfl) rfl rfl
theorem d34_45 : decode (ab_C 34) 45 = .ok (.aload_n 1, 1) := by decide +kernel
theorem e34_45 {d : Nat} {l0 : Option Value} {x : Nat} {σ : ab_St} {Q : Option Value → ab_St → Prop} : Ev d 34 45 [l0, some (.ref x)] [] σ Q = Ev d 34 46 [l0, some (.ref x)] [.ref x] σ Q := ev_A1 d34_45 rfl
theorem d34_46 : decode (ab_C 34) 46 = .ok (.getfield 21, 3) := by decide +kernel
theorem e34_46 {d : Nat} {l0 l1 : Option Value} {s0 : Nat} {σ : ab_St} {Q : Option Value → ab_St → Prop} : Ev d 34 46 [l0, l1] [.ref s0] σ Q = (ab_k s0 = 3 ∧ Ev d 34 49 [l0, l1] [.ref (ab_r s0 3)] σ Q) := ev_Hc (c := ab_k s0 = 3) d34_46 rfl rfl rfl rfl rfl rfl rfl rfl
theorem d34_49 : decode (ab_C 34) 49 = .ok (.iconst 0, 1) := by decide +kernel
theorem e34_49 {d : Nat} {l0 l1 : Option Value} {s0 : Nat} {σ : ab_St} {Q : Option Value → ab_St → Prop} : Ev d 34 49 [l0, l1] [.ref s0] σ Q = Ev d 34 50 [l0, l1] [.int 0, .ref s0] σ Q := ev_A1 d34_49 rfl
theorem d34_50 : decode (ab_C 34) 50 = .ok (.aload_n 0, 1) := by decide +kernel
theorem e34_50 {d : Nat} {l1 : Option Value} {x : Nat} {s0 : Int32} {s1 : Nat} {σ : ab_St} {Q : Option Value → ab_St → Prop} : Ev d 34 50 [some (.ref x), l1] [.int s0, .ref s1] σ Q = Ev d 34 51 [some (.ref x), l1] [.ref x, .int s0, .ref s1] σ Q := ev_A1 d34_50 rfl
theorem d34_51 : decode (ab_C 34) 51 = .ok (.getfield 21, 3) := by decide +kernel
theorem e34_51 {d : Nat} {l0 l1 : Option Value} {s0 : Nat} {s1 : Int32} {s2 : Nat} {σ : ab_St} {Q : Option Value → ab_St → Prop} : Ev d 34 51 [l0, l1] [.ref s0, .int s1, .ref s2] σ Q = (ab_k s0 = 3 ∧ Ev d 34 54 [l0, l1] [.ref (ab_r s0 3), .int s1, .ref s2] σ Q) := ev_Hc (c := ab_k s0 = 3) d34_51 rfl rfl rfl rfl rfl rfl rfl rfl
theorem d34_54 : decode (ab_C 34) 54 = .ok (.iconst 0, 1) := by decide +kernel
theorem e34_54 {d : Nat} {l0 l1 : Option Value} {s0 : Nat} {s1 : Int32} {s2 : Nat} {σ : ab_St} {Q : Option Value → ab_St → Prop} : Ev d 34 54 [l0, l1] [.ref s0, .int s1, .ref s2] σ Q = Ev d 34 55 [l0, l1] [.int 0, .ref s0, .int s1, .ref s2] σ Q := ev_A1 d34_54 rfl
theorem d34_55 : decode (ab_C 34) 55 = .ok (.bipush 8, 2) := by decide +kernel
theorem e34_55 {d : Nat} {l0 l1 : Option Value} {s0 : Int32} {s1 : Nat} {s2 : Int32} {s3 : Nat} {σ : ab_St} {Q : Option Value → ab_St → Prop} : Ev d 34 55 [l0, l1] [.int s0, .ref s1, .int s2, .ref s3] σ Q = Ev d 34 57 [l0, l1] [.int 8, .int s0, .ref s1, .int s2, .ref s3] σ Q := ev_A1 d34_55 rfl
theorem d34_57 : decode (ab_C 34) 57 = .ok (.invokestatic 24, 3) := by decide +kernel
theorem e34_57 {d : Nat} {l0 l1 : Option Value} {s0 : Int32} {s1 : Int32} {s2 : Nat} {s3 : Int32} {s4 : Nat} {σ : ab_St} {Q : Option Value → ab_St → Prop} : Ev (d + 1) 34 57 [l0, l1] [.int s0, .int s1, .ref s2, .int s3, .ref s4] σ Q = (((ab_k s4 = 100 ∧ ab_k s2 = 100) ∧ (¬ s3 < 0 ∧ ¬ s1 < 0 ∧ ¬ s0 < 0) ∧ s3.toNatClampNeg + s0.toNatClampNeg ≤ ab_n s4 ∧ s1.toNatClampNeg + s0.toNatClampNeg ≤ ab_n s2) ∧ Ev (d + 1) 34 60 [l0, l1] [] (ab_wI σ s2 (va_cpy (σ.1 s4) (σ.1 s2) s3.toNatClampNeg s1.toNatClampNeg s0.toNatClampNeg)) Q) := ev_ac d34_57 rfl (Nat.le_of_ble_eq_true rfl) rfl rfl
theorem d34_60 : decode (ab_C 34) 60 = .ok (.aload_n 0, 1) := by decide +kernel
theorem e34_60 {d : Nat} {l1 : Option Value} {x : Nat} {σ : ab_St} {Q : Option Value → ab_St → Prop} : Ev d 34 60 [some (.ref x), l1] [] σ Q = Ev d 34 61 [some (.ref x), l1] [.ref x] σ Q := ev_A1 d34_60 rfl
theorem d34_61 : decode (ab_C 34) 61 = .ok (.aload_n 1, 1) := by decide +kernel
theorem e34_61 {d : Nat} {l0 : Option Value} {x : Nat} {s0 : Nat} {σ : ab_St} {Q : Option Value → ab_St → Prop} : Ev d 34 61 [l0, some (.ref x)] [.ref s0] σ Q = Ev d 34 62 [l0, some (.ref x)] [.ref x, .ref s0] σ Q := ev_A1 d34_61 rfl
theorem d34_62 : decode (ab_C 34) 62 = .ok (.getfield 30, 3) := by decide +kernel
theorem e34_62 {d : Nat} {l0 l1 : Option Value} {s0 : Nat} {s1 : Nat} {σ : ab_St} {Q : Option Value → ab_St → Prop} : Ev d 34 62 [l0, l1] [.ref s0, .ref s1] σ Q = (ab_k s0 = 3 ∧ Ev d 34 65 [l0, l1] [.int (σ.1 s0 4), .ref s1] σ Q) := ev_Hc (c := ab_k s0 = 3) d34_62 rfl rfl rfl rfl rfl rfl rfl rfl
theorem d34_65 : decode (ab_C 34) 65 = .ok (.putfield 30, 3) := by decide +kernel
theorem e34_65 {d : Nat} {l0 l1 : Option Value} {s0 : Int32} {s1 : Nat} {σ : ab_St} {Q : Option Value → ab_St → Prop} : Ev d 34 65 [l0, l1] [.int s0, .ref s1] σ Q = (ab_k s1 = 3 ∧ Ev d 34 68 [l0, l1] [] (ab_wI σ s1 (upd (σ.1 s1) 4 s0)) Q) := ev_Hc (c := ab_k s1 = 3) d34_65 rfl rfl rfl rfl rfl rfl rfl rfl
theorem d34_68 : decode (ab_C 34) 68 = .ok (.aload_n 0, 1) := by decide +kernel
theorem e34_68 {d : Nat} {l1 : Option Value} {x : Nat} {σ : ab_St} {Q : Option Value → ab_St → Prop} : Ev d 34 68 [some (.ref x), l1] [] σ Q = Ev d 34 69 [some (.ref x), l1] [.ref x] σ Q := ev_A1 d34_68 rfl
theorem d34_69 : decode (ab_C 34) 69 = .ok (.aload_n 1, 1) := by decide +kernel
theorem e34_69 {d : Nat} {l0 : Option Value} {x : Nat} {s0 : Nat} {σ : ab_St} {Q : Option Value → ab_St → Prop} : Ev d 34 69 [l0, some (.ref x)] [.ref s0] σ Q = Ev d 34 70 [l0, some (.ref x)] [.ref x, .ref s0] σ Q := ev_A1 d34_69 rfl
theorem d34_70 : decode (ab_C 34) 70 = .ok (.getfield 34, 3) := by decide +kernel
theorem e34_70 {d : Nat} {l0 l1 : Option Value} {s0 : Nat} {s1 : Nat} {σ : ab_St} {Q : Option Value → ab_St → Prop} : Ev d 34 70 [l0, l1] [.ref s0, .ref s1] σ Q = (ab_k s0 = 3 ∧ Ev d 34 73 [l0, l1] [.int (σ.1 s0 5), .ref s1] σ Q) := ev_Hc (c := ab_k s0 = 3) d34_70 rfl rfl rfl rfl rfl rfl rfl rfl
theorem d34_73 : decode (ab_C 34) 73 = .ok (.putfield 34, 3) := by decide +kernel
theorem e34_73 {d : Nat} {l0 l1 : Option Value} {s0 : Int32} {s1 : Nat} {σ : ab_St} {Q : Option Value → ab_St → Prop} : Ev d 34 73 [l0, l1] [.int s0, .ref s1] σ Q = (ab_k s1 = 3 ∧ Ev d 34 76 [l0, l1] [] (ab_wI σ s1 (upd (σ.1 s1) 5 s0)) Q) := ev_Hc (c := ab_k s1 = 3) d34_73 rfl rfl rfl rfl rfl rfl rfl rfl
theorem d34_76 : decode (ab_C 34) 76 = .ok (.return_, 1) := by decide +kernel
theorem e34_76 {d : Nat} {l0 l1 : Option Value} {σ : ab_St} {Q : Option Value → ab_St → Prop} : Ev d 34 76 [l0, l1] [] σ Q = Q none σ := ev_E d34_76 rfl rfl rfl rfl rfl rfl rfl
/-! SaidLeast$State.copyFrom(LSaidLeast$State;)V -/
theorem d35_0 : decode (ab_C 35) 0 = .ok (.aload_n 1, 1) := by decide +kernel
theorem e35_0 {d : Nat} {l0 : Option Value} {x : Nat} {σ : ab_St} {Q : Option Value → ab_St → Prop} : Ev d 35 0 [l0, some (.ref x)] [] σ Q = Ev d 35 1 [l0, some (.ref x)] [.ref x] σ Q := ev_A1 d35_0 rfl
theorem d35_1 : decode (ab_C 35) 1 = .ok (.getfield 9, 3) := by decide +kernel
theorem e35_1 {d : Nat} {l0 l1 : Option Value} {s0 : Nat} {σ : ab_St} {Q : Option Value → ab_St → Prop} : Ev d 35 1 [l0, l1] [.ref s0] σ Q = (ab_k s0 = 4 ∧ Ev d 35 4 [l0, l1] [.ref (ab_r s0 0)] σ Q) := ev_Hc (c := ab_k s0 = 4) d35_1 rfl rfl rfl rfl rfl rfl rfl rfl
theorem d35_4 : decode (ab_C 35) 4 = .ok (.iconst 0, 1) := by decide +kernel
theorem e35_4 {d : Nat} {l0 l1 : Option Value} {s0 : Nat} {σ : ab_St} {Q : Option Value → ab_St → Prop} : Ev d 35 4 [l0, l1] [.ref s0] σ Q = Ev d 35 5 [l0, l1] [.int 0, .ref s0] σ Q := ev_A1 d35_4 rfl
theorem d35_5 : decode (ab_C 35) 5 = .ok (.aload_n 0, 1) := by decide +kernel
theorem e35_5 {d : Nat} {l1 : Option Value} {x : Nat} {s0 : Int32} {s1 : Nat} {σ : ab_St} {Q : Option Value → ab_St → Prop} : Ev d 35 5 [some (.ref x), l1] [.int s0, .ref s1] σ Q = Ev d 35 6 [some (.ref x), l1] [.ref x, .int s0, .ref s1] σ Q := ev_A1 d35_5 rfl
theorem d35_6 : decode (ab_C 35) 6 = .ok (.getfield 9, 3) := by decide +kernel
theorem e35_6 {d : Nat} {l0 l1 : Option Value} {s0 : Nat} {s1 : Int32} {s2 : Nat} {σ : ab_St} {Q : Option Value → ab_St → Prop} : Ev d 35 6 [l0, l1] [.ref s0, .int s1, .ref s2] σ Q = (ab_k s0 = 4 ∧ Ev d 35 9 [l0, l1] [.ref (ab_r s0 0), .int s1, .ref s2] σ Q) := ev_Hc (c := ab_k s0 = 4) d35_6 rfl rfl rfl rfl rfl rfl rfl rfl
theorem d35_9 : decode (ab_C 35) 9 = .ok (.iconst 0, 1) := by decide +kernel
theorem e35_9 {d : Nat} {l0 l1 : Option Value} {s0 : Nat} {s1 : Int32} {s2 : Nat} {σ : ab_St} {Q : Option Value → ab_St → Prop} : Ev d 35 9 [l0, l1] [.ref s0, .int s1, .ref s2] σ Q = Ev d 35 10 [l0, l1] [.int 0, .ref s0, .int s1, .ref s2] σ Q := ev_A1 d35_9 rfl
theorem d35_10 : decode (ab_C 35) 10 = .ok (.bipush 6, 2) := by decide +kernel
theorem e35_10 {d : Nat} {l0 l1 : Option Value} {s0 : Int32} {s1 : Nat} {s2 : Int32} {s3 : Nat} {σ : ab_St} {Q : Option Value → ab_St → Prop} : Ev d 35 10 [l0, l1] [.int s0, .ref s1, .int s2, .ref s3] σ Q = Ev d 35 12 [l0, l1] [.int 6, .int s0, .ref s1, .int s2, .ref s3] σ Q := ev_A1 d35_10 rfl
theorem d35_12 : decode (ab_C 35) 12 = .ok (.invokestatic 19, 3) := by decide +kernel
theorem e35_12 {d : Nat} {l0 l1 : Option Value} {s0 : Int32} {s1 : Int32} {s2 : Nat} {s3 : Int32} {s4 : Nat} {σ : ab_St} {Q : Option Value → ab_St → Prop} : Ev (d + 1) 35 12 [l0, l1] [.int s0, .int s1, .ref s2, .int s3, .ref s4] σ Q = (((ab_k s4 = 100 ∧ ab_k s2 = 100) ∧ (¬ s3 < 0 ∧ ¬ s1 < 0 ∧ ¬ s0 < 0) ∧ s3.toNatClampNeg + s0.toNatClampNeg ≤ ab_n s4 ∧ s1.toNatClampNeg + s0.toNatClampNeg ≤ ab_n s2) ∧ Ev (d + 1) 35 15 [l0, l1] [] (ab_wI σ s2 (va_cpy (σ.1 s4) (σ.1 s2) s3.toNatClampNeg s1.toNatClampNeg s0.toNatClampNeg)) Q) := ev_ac d35_12 rfl (Nat.le_of_ble_eq_true rfl) rfl rfl
theorem d35_15 : decode (ab_C 35) 15 = .ok (.aload_n 0, 1) := by decide +kernel
theorem e35_15 {d : Nat} {l1 : Option Value} {x : Nat} {σ : ab_St} {Q : Option Value → ab_St → Prop} : Ev d 35 15 [some (.ref x), l1] [] σ Q = Ev d 35 16 [some (.ref x), l1] [.ref x] σ Q := ev_A1 d35_15 rfl
theorem d35_16 : decode (ab_C 35) 16 = .ok (.aload_n 1, 1) := by decide +kernel
theorem e35_16 {d : Nat} {l0 : Option Value} {x : Nat} {s0 : Nat} {σ : ab_St} {Q : Option Value → ab_St → Prop} : Ev d 35 16 [l0, some (.ref x)] [.ref s0] σ Q = Ev d 35 17 [l0, some (.ref x)] [.ref x, .ref s0] σ Q := ev_A1 d35_16 rfl
theorem d35_17 : decode (ab_C 35) 17 = .ok (.getfield 25, 3) := by decide +kernel
theorem e35_17 {d : Nat} {l0 l1 : Option Value} {s0 : Nat} {s1 : Nat} {σ : ab_St} {Q : Option Value → ab_St → Prop} : Ev d 35 17 [l0, l1] [.ref s0, .ref s1] σ Q = (ab_k s0 = 4 ∧ Ev d 35 20 [l0, l1] [.int (σ.1 s0 1), .ref s1] σ Q) := ev_Hc (c := ab_k s0 = 4) d35_17 rfl rfl rfl rfl rfl rfl rfl rfl
theorem d35_20 : decode (ab_C 35) 20 = .ok (.putfield 25, 3) := by decide +kernel
theorem e35_20 {d : Nat} {l0 l1 : Option Value} {s0 : Int32} {s1 : Nat} {σ : ab_St} {Q : Option Value → ab_St → Prop} : Ev d 35 20 [l0, l1] [.int s0, .ref s1] σ Q = (ab_k s1 = 4 ∧ Ev d 35 23 [l0, l1] [] (ab_wI σ s1 (upd (σ.1 s1) 1 s0)) Q) := ev_Hc (c := ab_k s1 = 4) d35_20 rfl rfl rfl rfl rfl rfl rfl rfl
theorem d35_23 : decode (ab_C 35) 23 = .ok (.aload_n 0, 1) := by decide +kernel
theorem e35_23 {d : Nat} {l1 : Option Value} {x : Nat} {σ : ab_St} {Q : Option Value → ab_St → Prop} : Ev d 35 23 [some (.ref x), l1] [] σ Q = Ev d 35 24 [some (.ref x), l1] [.ref x] σ Q := ev_A1 d35_23 rfl
theorem d35_24 : decode (ab_C 35) 24 = .ok (.aload_n 1, 1) := by decide +kernel
theorem e35_24 {d : Nat} {l0 : Option Value} {x : Nat} {s0 : Nat} {σ : ab_St} {Q : Option Value → ab_St → Prop} : Ev d 35 24 [l0, some (.ref x)] [.ref s0] σ Q = Ev d 35 25 [l0, some (.ref x)] [.ref x, .ref s0] σ Q := ev_A1 d35_24 rfl
theorem d35_25 : decode (ab_C 35) 25 = .ok (.getfield 28, 3) := by decide +kernel
theorem e35_25 {d : Nat} {l0 l1 : Option Value} {s0 : Nat} {s1 : Nat} {σ : ab_St} {Q : Option Value → ab_St → Prop} : Ev d 35 25 [l0, l1] [.ref s0, .ref s1] σ Q = (ab_k s0 = 4 ∧ Ev d 35 28 [l0, l1] [.int (σ.1 s0 2), .ref s1] σ Q) := ev_Hc (c := ab_k s0 = 4) d35_25 rfl rfl rfl rfl rfl rfl rfl rfl
theorem d35_28 : decode (ab_C 35) 28 = .ok (.putfield 28, 3) := by decide +kernel
theorem e35_28 {d : Nat} {l0 l1 : Option Value} {s0 : Int32} {s1 : Nat} {σ : ab_St} {Q : Option Value → ab_St → Prop} : Ev d 35 28 [l0, l1] [.int s0, .ref s1] σ Q = (ab_k s1 = 4 ∧ Ev d 35 31 [l0, l1] [] (ab_wI σ s1 (upd (σ.1 s1) 2 s0)) Q) := ev_Hc (c := ab_k s1 = 4) d35_28 rfl rfl rfl rfl rfl rfl rfl rfl
theorem d35_31 : decode (ab_C 35) 31 = .ok (.aload_n 0, 1) := by decide +kernel
theorem e35_31 {d : Nat} {l1 : Option Value} {x : Nat} {σ : ab_St} {Q : Option Value → ab_St → Prop} : Ev d 35 31 [some (.ref x), l1] [] σ Q = Ev d 35 32 [some (.ref x), l1] [.ref x] σ Q := ev_A1 d35_31 rfl
theorem d35_32 : decode (ab_C 35) 32 = .ok (.aload_n 1, 1) := by decide +kernel
theorem e35_32 {d : Nat} {l0 : Option Value} {x : Nat} {s0 : Nat} {σ : ab_St} {Q : Option Value → ab_St → Prop} : Ev d 35 32 [l0, some (.ref x)] [.ref s0] σ Q = Ev d 35 33 [l0, some (.ref x)] [.ref x, .ref s0] σ Q := ev_A1 d35_32 rfl
theorem d35_33 : decode (ab_C 35) 33 = .ok (.getfield 15, 3) := by decide +kernel
theorem e35_33 {d : Nat} {l0 l1 : Option Value} {s0 : Nat} {s1 : Nat} {σ : ab_St} {Q : Option Value → ab_St → Prop} : Ev d 35 33 [l0, l1] [.ref s0, .ref s1] σ Q = (ab_k s0 = 4 ∧ Ev d 35 36 [l0, l1] [.int (σ.1 s0 3), .ref s1] σ Q) := ev_Hc (c := ab_k s0 = 4) d35_33 rfl rfl rfl rfl rfl rfl rfl rfl
theorem d35_36 : decode (ab_C 35) 36 = .ok (.putfield 15, 3) := by decide +kernel
theorem e35_36 {d : Nat} {l0 l1 : Option Value} {s0 : Int32} {s1 : Nat} {σ : ab_St} {Q : Option Value → ab_St → Prop} : Ev d 35 36 [l0, l1] [.int s0, .ref s1] σ Q = (ab_k s1 = 4 ∧ Ev d 35 39 [l0, l1] [] (ab_wI σ s1 (upd (σ.1 s1) 3 s0)) Q) := ev_Hc (c := ab_k s1 = 4) d35_36 rfl rfl rfl rfl rfl rfl rfl rfl
theorem d35_39 : decode (ab_C 35) 39 = .ok (.aload_n 0, 1) := by decide +kernel
theorem e35_39 {d : Nat} {l1 : Option Value} {x : Nat} {σ : ab_St} {Q : Option Value → ab_St → Prop} : Ev d 35 39 [some (.ref x), l1] [] σ Q = Ev d 35 40 [some (.ref x), l1] [.ref x] σ Q := ev_A1 d35_39 rfl
theorem d35_40 : decode (ab_C 35) 40 = .ok (.aload_n 1, 1) := by decide +kernel
theorem e35_40 {d : Nat} {l0 : Option Value} {x : Nat} {s0 : Nat} {σ : ab_St} {Q : Option Value → ab_St → Prop} : Ev d 35 40 [l0, some (.ref x)] [.ref s0] σ Q = Ev d 35 41 [l0, some (.ref x)] [.ref x, .ref s0] σ Q := ev_A1 d35_40 rfl
theorem d35_41 : decode (ab_C 35) 41 = .ok (.getfield 31, 3) := by decide +kernel
theorem e35_41 {d : Nat} {l0 l1 : Option Value} {s0 : Nat} {s1 : Nat} {σ : ab_St} {Q : Option Value → ab_St → Prop} : Ev d 35 41 [l0, l1] [.ref s0, .ref s1] σ Q = (ab_k s0 = 4 ∧ Ev d 35 44 [l0, l1] [.int (σ.1 s0 4), .ref s1] σ Q) := ev_Hc (c := ab_k s0 = 4) d35_41 rfl rfl rfl rfl rfl rfl rfl rfl
theorem d35_44 : decode (ab_C 35) 44 = .ok (.putfield 31, 3) := by decide +kernel
theorem e35_44 {d : Nat} {l0 l1 : Option Value} {s0 : Int32} {s1 : Nat} {σ : ab_St} {Q : Option Value → ab_St → Prop} : Ev d 35 44 [l0, l1] [.int s0, .ref s1] σ Q = (ab_k s1 = 4 ∧ Ev d 35 47 [l0, l1] [] (ab_wI σ s1 (upd (σ.1 s1) 4 s0)) Q) := ev_Hc (c := ab_k s1 = 4) d35_44 rfl rfl rfl rfl rfl rfl rfl rfl
theorem d35_47 : decode (ab_C 35) 47 = .ok (.return_, 1) := by decide +kernel
theorem e35_47 {d : Nat} {l0 l1 : Option Value} {σ : ab_St} {Q : Option Value → ab_St → Prop} : Ev d 35 47 [l0, l1] [] σ Q = Q none σ := ev_E d35_47 rfl rfl rfl rfl rfl rfl rfl
end
