section
-- ===== PART A: goes FIRST, ahead of the names: the tables' words, and 'selects' of the private methods out of them =====
/-- a private method of a class that the tables say can be made, by its rows of tables_1 -/
def lw_okq (q : MethodName × Nat) : Prop := (q.1.cls ≠ "java/lang/invoke/MethodHandle" ∧ q.1.cls ≠ "java/lang/invoke/VarHandle") ∧ Cond.instantiable q.1.cls q.2 ∈ tables_1 ∧ Cond.privateMethod q.1 ∈ tables_1 ∧ Cond.instanceMethod q.1 ∈ tables_1
theorem lw_p0 : lw_okq (⟨"TownLisp", "sheetAt", "(I)LTownLisp$Sheet;"⟩, 7) := ⟨⟨by decide +kernel, by decide +kernel⟩, List.mem_of_getElem? (i := 10) (by decide +kernel), List.mem_of_getElem? (i := 121) (by decide +kernel), List.mem_of_getElem? (i := 122) (by decide +kernel)⟩
theorem lw_p1 : lw_okq (⟨"TownLisp", "faulty", "(I)I"⟩, 7) := ⟨⟨by decide +kernel, by decide +kernel⟩, List.mem_of_getElem? (i := 10) (by decide +kernel), List.mem_of_getElem? (i := 136) (by decide +kernel), List.mem_of_getElem? (i := 137) (by decide +kernel)⟩
theorem lw_p2 : lw_okq (⟨"TownLisp", "act", "(II)I"⟩, 7) := ⟨⟨by decide +kernel, by decide +kernel⟩, List.mem_of_getElem? (i := 10) (by decide +kernel), List.mem_of_getElem? (i := 218) (by decide +kernel), List.mem_of_getElem? (i := 219) (by decide +kernel)⟩
theorem lw_p3 : lw_okq (⟨"TownLisp$Town", "shareFrom", "(I)I"⟩, 6) := ⟨⟨by decide +kernel, by decide +kernel⟩, List.mem_of_getElem? (i := 20) (by decide +kernel), List.mem_of_getElem? (i := 226) (by decide +kernel), List.mem_of_getElem? (i := 227) (by decide +kernel)⟩
theorem lw_p4 : lw_okq (⟨"TownLisp$Town", "handOut", "(II)V"⟩, 6) := ⟨⟨by decide +kernel, by decide +kernel⟩, List.mem_of_getElem? (i := 20) (by decide +kernel), List.mem_of_getElem? (i := 241) (by decide +kernel), List.mem_of_getElem? (i := 242) (by decide +kernel)⟩
theorem lw_p5 : lw_okq (⟨"TownLisp$Town", "goOut", "(I)I"⟩, 6) := ⟨⟨by decide +kernel, by decide +kernel⟩, List.mem_of_getElem? (i := 20) (by decide +kernel), List.mem_of_getElem? (i := 245) (by decide +kernel), List.mem_of_getElem? (i := 246) (by decide +kernel)⟩
theorem lw_p6 : lw_okq (⟨"TownLisp$Town", "giveTo", "(I)I"⟩, 6) := ⟨⟨by decide +kernel, by decide +kernel⟩, List.mem_of_getElem? (i := 20) (by decide +kernel), List.mem_of_getElem? (i := 249) (by decide +kernel), List.mem_of_getElem? (i := 250) (by decide +kernel)⟩
theorem lw_p7 : lw_okq (⟨"TownLisp$Town", "emptyTinFor", "(I)I"⟩, 6) := ⟨⟨by decide +kernel, by decide +kernel⟩, List.mem_of_getElem? (i := 20) (by decide +kernel), List.mem_of_getElem? (i := 253) (by decide +kernel), List.mem_of_getElem? (i := 254) (by decide +kernel)⟩
theorem lw_p8 : lw_okq (⟨"TownLisp", "refusalOfPairs", "(LTownLisp$Sheet;II)I"⟩, 7) := ⟨⟨by decide +kernel, by decide +kernel⟩, List.mem_of_getElem? (i := 10) (by decide +kernel), List.mem_of_getElem? (i := 284) (by decide +kernel), List.mem_of_getElem? (i := 285) (by decide +kernel)⟩
theorem lw_p9 : lw_okq (⟨"TownLisp", "firstWrongOf", "(LTownLisp$Sheet;II)I"⟩, 7) := ⟨⟨by decide +kernel, by decide +kernel⟩, List.mem_of_getElem? (i := 10) (by decide +kernel), List.mem_of_getElem? (i := 288) (by decide +kernel), List.mem_of_getElem? (i := 289) (by decide +kernel)⟩
theorem lw_p10 : lw_okq (⟨"TownLisp", "behindYear", "(I)I"⟩, 7) := ⟨⟨by decide +kernel, by decide +kernel⟩, List.mem_of_getElem? (i := 10) (by decide +kernel), List.mem_of_getElem? (i := 296) (by decide +kernel), List.mem_of_getElem? (i := 297) (by decide +kernel)⟩
theorem lw_p11 : lw_okq (⟨"TownLisp", "bestAsked", "(II)I"⟩, 7) := ⟨⟨by decide +kernel, by decide +kernel⟩, List.mem_of_getElem? (i := 10) (by decide +kernel), List.mem_of_getElem? (i := 304) (by decide +kernel), List.mem_of_getElem? (i := 305) (by decide +kernel)⟩
theorem lw_p12 : lw_okq (⟨"TownLisp", "ordersDecidedBy", "(I)I"⟩, 7) := ⟨⟨by decide +kernel, by decide +kernel⟩, List.mem_of_getElem? (i := 10) (by decide +kernel), List.mem_of_getElem? (i := 350) (by decide +kernel), List.mem_of_getElem? (i := 351) (by decide +kernel)⟩
theorem lw_p13 : lw_okq (⟨"TownLisp", "grownTells", "(I)I"⟩, 7) := ⟨⟨by decide +kernel, by decide +kernel⟩, List.mem_of_getElem? (i := 10) (by decide +kernel), List.mem_of_getElem? (i := 435) (by decide +kernel), List.mem_of_getElem? (i := 436) (by decide +kernel)⟩
theorem lw_p14 : lw_okq (⟨"TownLisp", "begin", "(I)V"⟩, 7) := ⟨⟨by decide +kernel, by decide +kernel⟩, List.mem_of_getElem? (i := 10) (by decide +kernel), List.mem_of_getElem? (i := 439) (by decide +kernel), List.mem_of_getElem? (i := 440) (by decide +kernel)⟩
theorem lw_p15 : lw_okq (⟨"TownLisp", "shyTells", "(I)I"⟩, 7) := ⟨⟨by decide +kernel, by decide +kernel⟩, List.mem_of_getElem? (i := 10) (by decide +kernel), List.mem_of_getElem? (i := 443) (by decide +kernel), List.mem_of_getElem? (i := 444) (by decide +kernel)⟩
def lw_privs_1 : List (MethodName × Nat) := [(⟨"TownLisp", "sheetAt", "(I)LTownLisp$Sheet;"⟩, 7), (⟨"TownLisp", "faulty", "(I)I"⟩, 7), (⟨"TownLisp", "act", "(II)I"⟩, 7), (⟨"TownLisp$Town", "shareFrom", "(I)I"⟩, 6), (⟨"TownLisp$Town", "handOut", "(II)V"⟩, 6), (⟨"TownLisp$Town", "goOut", "(I)I"⟩, 6), (⟨"TownLisp$Town", "giveTo", "(I)I"⟩, 6), (⟨"TownLisp$Town", "emptyTinFor", "(I)I"⟩, 6), (⟨"TownLisp", "refusalOfPairs", "(LTownLisp$Sheet;II)I"⟩, 7), (⟨"TownLisp", "firstWrongOf", "(LTownLisp$Sheet;II)I"⟩, 7), (⟨"TownLisp", "behindYear", "(I)I"⟩, 7), (⟨"TownLisp", "bestAsked", "(II)I"⟩, 7), (⟨"TownLisp", "ordersDecidedBy", "(I)I"⟩, 7), (⟨"TownLisp", "grownTells", "(I)I"⟩, 7), (⟨"TownLisp", "begin", "(I)V"⟩, 7), (⟨"TownLisp", "shyTells", "(I)I"⟩, 7)]
theorem lw_r1 : ∀ q ∈ lw_privs_1, lw_okq q := List.forall_mem_cons.mpr ⟨lw_p0, List.forall_mem_cons.mpr ⟨lw_p1, List.forall_mem_cons.mpr ⟨lw_p2, List.forall_mem_cons.mpr ⟨lw_p3, List.forall_mem_cons.mpr ⟨lw_p4, List.forall_mem_cons.mpr ⟨lw_p5, List.forall_mem_cons.mpr ⟨lw_p6, List.forall_mem_cons.mpr ⟨lw_p7, List.forall_mem_cons.mpr ⟨lw_p8, List.forall_mem_cons.mpr ⟨lw_p9, List.forall_mem_cons.mpr ⟨lw_p10, List.forall_mem_cons.mpr ⟨lw_p11, List.forall_mem_cons.mpr ⟨lw_p12, List.forall_mem_cons.mpr ⟨lw_p13, List.forall_mem_cons.mpr ⟨lw_p14, List.forall_mem_cons.mpr ⟨lw_p15, fun _ h => absurd h List.not_mem_nil⟩⟩⟩⟩⟩⟩⟩⟩⟩⟩⟩⟩⟩⟩⟩⟩
theorem lw_p16 : lw_okq (⟨"TownLisp", "childTells", "(I)I"⟩, 7) := ⟨⟨by decide +kernel, by decide +kernel⟩, List.mem_of_getElem? (i := 10) (by decide +kernel), List.mem_of_getElem? (i := 447) (by decide +kernel), List.mem_of_getElem? (i := 448) (by decide +kernel)⟩
theorem lw_p17 : lw_okq (⟨"TownLisp", "childIsCalled", "()I"⟩, 7) := ⟨⟨by decide +kernel, by decide +kernel⟩, List.mem_of_getElem? (i := 10) (by decide +kernel), List.mem_of_getElem? (i := 455) (by decide +kernel), List.mem_of_getElem? (i := 456) (by decide +kernel)⟩
theorem lw_p18 : lw_okq (⟨"TownLisp", "lentIsCalled", "(I)I"⟩, 7) := ⟨⟨by decide +kernel, by decide +kernel⟩, List.mem_of_getElem? (i := 10) (by decide +kernel), List.mem_of_getElem? (i := 459) (by decide +kernel), List.mem_of_getElem? (i := 460) (by decide +kernel)⟩
theorem lw_p19 : lw_okq (⟨"TownLispModel", "against", "(IIII)I"⟩, 24) := ⟨⟨by decide +kernel, by decide +kernel⟩, List.mem_of_getElem? (i := 479) (by decide +kernel), List.mem_of_getElem? (i := 571) (by decide +kernel), List.mem_of_getElem? (i := 572) (by decide +kernel)⟩
theorem lw_p20 : lw_okq (⟨"TownLispModel", "fails", "(I)I"⟩, 24) := ⟨⟨by decide +kernel, by decide +kernel⟩, List.mem_of_getElem? (i := 479) (by decide +kernel), List.mem_of_getElem? (i := 575) (by decide +kernel), List.mem_of_getElem? (i := 576) (by decide +kernel)⟩
theorem lw_p21 : lw_okq (⟨"TownLispModel", "readTown", "(I)Z"⟩, 24) := ⟨⟨by decide +kernel, by decide +kernel⟩, List.mem_of_getElem? (i := 479) (by decide +kernel), List.mem_of_getElem? (i := 579) (by decide +kernel), List.mem_of_getElem? (i := 580) (by decide +kernel)⟩
theorem lw_p22 : lw_okq (⟨"TownLispModel", "isSign", "(II)Z"⟩, 24) := ⟨⟨by decide +kernel, by decide +kernel⟩, List.mem_of_getElem? (i := 479) (by decide +kernel), List.mem_of_getElem? (i := 583) (by decide +kernel), List.mem_of_getElem? (i := 584) (by decide +kernel)⟩
theorem lw_p23 : lw_okq (⟨"TownLispModel", "twoDigits", "(II)I"⟩, 24) := ⟨⟨by decide +kernel, by decide +kernel⟩, List.mem_of_getElem? (i := 479) (by decide +kernel), List.mem_of_getElem? (i := 587) (by decide +kernel), List.mem_of_getElem? (i := 588) (by decide +kernel)⟩
theorem lw_p24 : lw_okq (⟨"TownLispModel", "digit", "(III)I"⟩, 24) := ⟨⟨by decide +kernel, by decide +kernel⟩, List.mem_of_getElem? (i := 479) (by decide +kernel), List.mem_of_getElem? (i := 591) (by decide +kernel), List.mem_of_getElem? (i := 592) (by decide +kernel)⟩
theorem lw_p25 : lw_okq (⟨"TownLispModel", "readPerson", "(I)Z"⟩, 24) := ⟨⟨by decide +kernel, by decide +kernel⟩, List.mem_of_getElem? (i := 479) (by decide +kernel), List.mem_of_getElem? (i := 595) (by decide +kernel), List.mem_of_getElem? (i := 596) (by decide +kernel)⟩
theorem lw_p26 : lw_okq (⟨"TownLispModel", "takeTown", "()V"⟩, 24) := ⟨⟨by decide +kernel, by decide +kernel⟩, List.mem_of_getElem? (i := 479) (by decide +kernel), List.mem_of_getElem? (i := 599) (by decide +kernel), List.mem_of_getElem? (i := 600) (by decide +kernel)⟩
theorem lw_p27 : lw_okq (⟨"TownLispModel", "isPerson", "(I)Z"⟩, 24) := ⟨⟨by decide +kernel, by decide +kernel⟩, List.mem_of_getElem? (i := 479) (by decide +kernel), List.mem_of_getElem? (i := 607) (by decide +kernel), List.mem_of_getElem? (i := 608) (by decide +kernel)⟩
theorem lw_p28 : lw_okq (⟨"TownLispModel", "saysBy", "(II)I"⟩, 24) := ⟨⟨by decide +kernel, by decide +kernel⟩, List.mem_of_getElem? (i := 479) (by decide +kernel), List.mem_of_getElem? (i := 611) (by decide +kernel), List.mem_of_getElem? (i := 612) (by decide +kernel)⟩
theorem lw_p29 : lw_okq (⟨"TownLispModel", "saidNow", "()I"⟩, 24) := ⟨⟨by decide +kernel, by decide +kernel⟩, List.mem_of_getElem? (i := 479) (by decide +kernel), List.mem_of_getElem? (i := 623) (by decide +kernel), List.mem_of_getElem? (i := 624) (by decide +kernel)⟩
theorem lw_p30 : lw_okq (⟨"TownLispModel", "partsOf", "(I)I"⟩, 24) := ⟨⟨by decide +kernel, by decide +kernel⟩, List.mem_of_getElem? (i := 479) (by decide +kernel), List.mem_of_getElem? (i := 630) (by decide +kernel), List.mem_of_getElem? (i := 631) (by decide +kernel)⟩
theorem lw_p31 : lw_okq (⟨"TownLispModel", "doDay", "(I)V"⟩, 24) := ⟨⟨by decide +kernel, by decide +kernel⟩, List.mem_of_getElem? (i := 479) (by decide +kernel), List.mem_of_getElem? (i := 641) (by decide +kernel), List.mem_of_getElem? (i := 642) (by decide +kernel)⟩
def lw_privs_2 : List (MethodName × Nat) := [(⟨"TownLisp", "childTells", "(I)I"⟩, 7), (⟨"TownLisp", "childIsCalled", "()I"⟩, 7), (⟨"TownLisp", "lentIsCalled", "(I)I"⟩, 7), (⟨"TownLispModel", "against", "(IIII)I"⟩, 24), (⟨"TownLispModel", "fails", "(I)I"⟩, 24), (⟨"TownLispModel", "readTown", "(I)Z"⟩, 24), (⟨"TownLispModel", "isSign", "(II)Z"⟩, 24), (⟨"TownLispModel", "twoDigits", "(II)I"⟩, 24), (⟨"TownLispModel", "digit", "(III)I"⟩, 24), (⟨"TownLispModel", "readPerson", "(I)Z"⟩, 24), (⟨"TownLispModel", "takeTown", "()V"⟩, 24), (⟨"TownLispModel", "isPerson", "(I)Z"⟩, 24), (⟨"TownLispModel", "saysBy", "(II)I"⟩, 24), (⟨"TownLispModel", "saidNow", "()I"⟩, 24), (⟨"TownLispModel", "partsOf", "(I)I"⟩, 24), (⟨"TownLispModel", "doDay", "(I)V"⟩, 24)]
theorem lw_r2 : ∀ q ∈ lw_privs_2, lw_okq q := List.forall_mem_cons.mpr ⟨lw_p16, List.forall_mem_cons.mpr ⟨lw_p17, List.forall_mem_cons.mpr ⟨lw_p18, List.forall_mem_cons.mpr ⟨lw_p19, List.forall_mem_cons.mpr ⟨lw_p20, List.forall_mem_cons.mpr ⟨lw_p21, List.forall_mem_cons.mpr ⟨lw_p22, List.forall_mem_cons.mpr ⟨lw_p23, List.forall_mem_cons.mpr ⟨lw_p24, List.forall_mem_cons.mpr ⟨lw_p25, List.forall_mem_cons.mpr ⟨lw_p26, List.forall_mem_cons.mpr ⟨lw_p27, List.forall_mem_cons.mpr ⟨lw_p28, List.forall_mem_cons.mpr ⟨lw_p29, List.forall_mem_cons.mpr ⟨lw_p30, List.forall_mem_cons.mpr ⟨lw_p31, fun _ h => absurd h List.not_mem_nil⟩⟩⟩⟩⟩⟩⟩⟩⟩⟩⟩⟩⟩⟩⟩⟩
theorem lw_p32 : lw_okq (⟨"TownLispModel", "shareOf", "(III)I"⟩, 24) := ⟨⟨by decide +kernel, by decide +kernel⟩, List.mem_of_getElem? (i := 479) (by decide +kernel), List.mem_of_getElem? (i := 645) (by decide +kernel), List.mem_of_getElem? (i := 646) (by decide +kernel)⟩
theorem lw_p33 : lw_okq (⟨"TownLispModel", "doLeave", "(I)V"⟩, 24) := ⟨⟨by decide +kernel, by decide +kernel⟩, List.mem_of_getElem? (i := 479) (by decide +kernel), List.mem_of_getElem? (i := 653) (by decide +kernel), List.mem_of_getElem? (i := 654) (by decide +kernel)⟩
theorem lw_p34 : lw_okq (⟨"TownLispModel", "doGather", "(I)I"⟩, 24) := ⟨⟨by decide +kernel, by decide +kernel⟩, List.mem_of_getElem? (i := 479) (by decide +kernel), List.mem_of_getElem? (i := 665) (by decide +kernel), List.mem_of_getElem? (i := 666) (by decide +kernel)⟩
theorem lw_p35 : lw_okq (⟨"TownLispModel", "doOpen", "(I)I"⟩, 24) := ⟨⟨by decide +kernel, by decide +kernel⟩, List.mem_of_getElem? (i := 479) (by decide +kernel), List.mem_of_getElem? (i := 677) (by decide +kernel), List.mem_of_getElem? (i := 678) (by decide +kernel)⟩
theorem lw_p36 : lw_okq (⟨"TownLispModel", "keep", "()V"⟩, 24) := ⟨⟨by decide +kernel, by decide +kernel⟩, List.mem_of_getElem? (i := 479) (by decide +kernel), List.mem_of_getElem? (i := 685) (by decide +kernel), List.mem_of_getElem? (i := 686) (by decide +kernel)⟩
theorem lw_p37 : lw_okq (⟨"TownLispModel", "goYear", "(II)I"⟩, 24) := ⟨⟨by decide +kernel, by decide +kernel⟩, List.mem_of_getElem? (i := 479) (by decide +kernel), List.mem_of_getElem? (i := 689) (by decide +kernel), List.mem_of_getElem? (i := 690) (by decide +kernel)⟩
theorem lw_p38 : lw_okq (⟨"TownLispModel", "canBe", "(II)Z"⟩, 24) := ⟨⟨by decide +kernel, by decide +kernel⟩, List.mem_of_getElem? (i := 479) (by decide +kernel), List.mem_of_getElem? (i := 693) (by decide +kernel), List.mem_of_getElem? (i := 694) (by decide +kernel)⟩
theorem lw_p39 : lw_okq (⟨"TownLispModel", "does", "(II)V"⟩, 24) := ⟨⟨by decide +kernel, by decide +kernel⟩, List.mem_of_getElem? (i := 479) (by decide +kernel), List.mem_of_getElem? (i := 697) (by decide +kernel), List.mem_of_getElem? (i := 698) (by decide +kernel)⟩
theorem lw_p40 : lw_okq (⟨"TownLispModel", "tellYear", "(I)I"⟩, 24) := ⟨⟨by decide +kernel, by decide +kernel⟩, List.mem_of_getElem? (i := 479) (by decide +kernel), List.mem_of_getElem? (i := 701) (by decide +kernel), List.mem_of_getElem? (i := 702) (by decide +kernel)⟩
theorem lw_p41 : lw_okq (⟨"TownLispModel", "putBack", "()V"⟩, 24) := ⟨⟨by decide +kernel, by decide +kernel⟩, List.mem_of_getElem? (i := 479) (by decide +kernel), List.mem_of_getElem? (i := 705) (by decide +kernel), List.mem_of_getElem? (i := 706) (by decide +kernel)⟩
theorem lw_p42 : lw_okq (⟨"TownLispModel", "missingTo", "(I)I"⟩, 24) := ⟨⟨by decide +kernel, by decide +kernel⟩, List.mem_of_getElem? (i := 479) (by decide +kernel), List.mem_of_getElem? (i := 721) (by decide +kernel), List.mem_of_getElem? (i := 722) (by decide +kernel)⟩
theorem lw_p43 : lw_okq (⟨"TownLispModel", "areSo", "()Z"⟩, 24) := ⟨⟨by decide +kernel, by decide +kernel⟩, List.mem_of_getElem? (i := 479) (by decide +kernel), List.mem_of_getElem? (i := 760) (by decide +kernel), List.mem_of_getElem? (i := 761) (by decide +kernel)⟩
theorem lw_p44 : lw_okq (⟨"TownLispModel", "lost", "(I)J"⟩, 24) := ⟨⟨by decide +kernel, by decide +kernel⟩, List.mem_of_getElem? (i := 479) (by decide +kernel), List.mem_of_getElem? (i := 788) (by decide +kernel), List.mem_of_getElem? (i := 789) (by decide +kernel)⟩
theorem lw_p45 : lw_okq (⟨"TownLispModel", "begins", "(I)V"⟩, 24) := ⟨⟨by decide +kernel, by decide +kernel⟩, List.mem_of_getElem? (i := 479) (by decide +kernel), List.mem_of_getElem? (i := 800) (by decide +kernel), List.mem_of_getElem? (i := 801) (by decide +kernel)⟩
def lw_privs_3 : List (MethodName × Nat) := [(⟨"TownLispModel", "shareOf", "(III)I"⟩, 24), (⟨"TownLispModel", "doLeave", "(I)V"⟩, 24), (⟨"TownLispModel", "doGather", "(I)I"⟩, 24), (⟨"TownLispModel", "doOpen", "(I)I"⟩, 24), (⟨"TownLispModel", "keep", "()V"⟩, 24), (⟨"TownLispModel", "goYear", "(II)I"⟩, 24), (⟨"TownLispModel", "canBe", "(II)Z"⟩, 24), (⟨"TownLispModel", "does", "(II)V"⟩, 24), (⟨"TownLispModel", "tellYear", "(I)I"⟩, 24), (⟨"TownLispModel", "putBack", "()V"⟩, 24), (⟨"TownLispModel", "missingTo", "(I)I"⟩, 24), (⟨"TownLispModel", "areSo", "()Z"⟩, 24), (⟨"TownLispModel", "lost", "(I)J"⟩, 24), (⟨"TownLispModel", "begins", "(I)V"⟩, 24)]
theorem lw_r3 : ∀ q ∈ lw_privs_3, lw_okq q := List.forall_mem_cons.mpr ⟨lw_p32, List.forall_mem_cons.mpr ⟨lw_p33, List.forall_mem_cons.mpr ⟨lw_p34, List.forall_mem_cons.mpr ⟨lw_p35, List.forall_mem_cons.mpr ⟨lw_p36, List.forall_mem_cons.mpr ⟨lw_p37, List.forall_mem_cons.mpr ⟨lw_p38, List.forall_mem_cons.mpr ⟨lw_p39, List.forall_mem_cons.mpr ⟨lw_p40, List.forall_mem_cons.mpr ⟨lw_p41, List.forall_mem_cons.mpr ⟨lw_p42, List.forall_mem_cons.mpr ⟨lw_p43, List.forall_mem_cons.mpr ⟨lw_p44, List.forall_mem_cons.mpr ⟨lw_p45, fun _ h => absurd h List.not_mem_nil⟩⟩⟩⟩⟩⟩⟩⟩⟩⟩⟩⟩⟩⟩
def lw_privs : List (MethodName × Nat) := lw_privs_1 ++ (lw_privs_2 ++ (lw_privs_3))
def lw_tbl : List Cond := k2_sels lw_privs ++ tables_1
theorem lw_privs_ok : ∀ q ∈ lw_privs, lw_okq q := by
  show ∀ q ∈ lw_privs_1 ++ (lw_privs_2 ++ (lw_privs_3)), lw_okq q
  exact List.forall_mem_append.mpr ⟨lw_r1, List.forall_mem_append.mpr ⟨lw_r2, lw_r3⟩⟩
end
section
/-! ===== BEGIN words of one list among another's, by their places ===== -/
theorem goodIn_r {big : List Cond} (ws : List Cond) (ps : List Nat) (hp : ws = ps.filterMap (fun i => big[i]?)) (h : ws.all goodWord = true) : GoodIn big ws := by
  intro w hw
  have h1 := List.all_eq_true.mp h w hw
  rw [hp] at hw
  obtain ⟨i, -, hi⟩ := List.mem_filterMap.mp hw
  have hm : w ∈ big := by first | exact List.mem_of_getElem? hi | exact List.getElem?_mem hi
  exact ⟨hm, good_of_word h1⟩
theorem goodIn_app {big a b : List Cond} (ha : GoodIn big a) (hb : GoodIn big b) : GoodIn big (a ++ b) := fun w h => (List.mem_append.mp h).elim (ha w) (hb w)
theorem goodIn_ca {big a b : List Cond} {c : Cond} (ha : GoodIn big (c :: a)) (hb : GoodIn big b) : GoodIn big (c :: (a ++ b)) := fun w h => (List.mem_cons.mp h).elim (fun e => ha w (List.mem_cons.mpr (Or.inl e))) (fun h => (List.mem_append.mp h).elim (fun h => ha w (List.mem_cons.mpr (Or.inr h))) (hb w))
theorem goodIn_sub {big ws : List Cond} (hm : ∀ w ∈ ws, w ∈ big) (h : ws.all goodWord = true) : GoodIn big ws := fun w hw => ⟨hm w hw, good_of_word (List.all_eq_true.mp h w hw)⟩
/-! ===== END ===== -/

/-! ===== BEGIN printed: names, fields, word lists, decode rows ===== -/
def RX0 : String := "TownLisp$Readings"
def TX0 : u_T := fun k => match k with
  | 0 => ("TownLisp$Readings", "person", "[I", true)
  | 1 => ("TownLisp$Readings", "parts", "[I", true)
  | 2 => ("TownLisp$Readings", "amount", "[I", true)
  | _ => ("TownLisp$Readings", "count", "I", false)
def tyX0 : Nat → FieldType := fun k => match k with
  | 0 => .array .int
  | 1 => .array .int
  | 2 => .array .int
  | _ => .int
abbrev wsX00 : List Cond := u_ws RX0 TX0 4
theorem nmX0 : ∀ a, a < 4 → ∀ b, b < 4 → a ≠ b → (TX0 a).2.1 ≠ (TX0 b).2.1 := by decide +kernel
theorem tyX0_ok : ∀ k, k < 4 → parseFieldDescriptor (TX0 k).2.2.1 = some (tyX0 k) := by decide +kernel
abbrev cX0_init : ByteArray := prog_2_method_1_code
def yX0_init : MethodName := ⟨RX0, "<init>", "()V"⟩
abbrev cX0_take : ByteArray := prog_2_method_2_code
def yX0_take : MethodName := ⟨RX0, "take", "(III)I"⟩
abbrev cX0_areSo : ByteArray := prog_2_method_3_code
def yX0_areSo : MethodName := ⟨RX0, "areSo", "(LTownLisp$Town;III)Z"⟩
def RX1 : String := "TownLisp$Sheet"
def TX1 : u_T := fun k => match k with
  | 0 => ("TownLisp$Sheet", "cells", "[I", true)
  | 1 => ("TownLisp$Sheet", "lane", "I", false)
  | 2 => ("TownLisp$Sheet", "length", "I", false)
  | _ => ("TownLisp$Sheet", "held", "Z", false)
def tyX1 : Nat → FieldType := fun k => match k with
  | 0 => .array .int
  | 1 => .int
  | 2 => .int
  | _ => .boolean
abbrev wsX10 : List Cond := u_ws RX1 TX1 4
theorem nmX1 : ∀ a, a < 4 → ∀ b, b < 4 → a ≠ b → (TX1 a).2.1 ≠ (TX1 b).2.1 := by decide +kernel
theorem tyX1_ok : ∀ k, k < 4 → parseFieldDescriptor (TX1 k).2.2.1 = some (tyX1 k) := by decide +kernel
abbrev cX1_init : ByteArray := prog_3_method_1_code
def yX1_init : MethodName := ⟨RX1, "<init>", "()V"⟩
abbrev cX1_renew : ByteArray := prog_3_method_2_code
def yX1_renew : MethodName := ⟨RX1, "renew", "(II)V"⟩
abbrev cX1_at : ByteArray := prog_3_method_3_code
def yX1_at : MethodName := ⟨RX1, "at", "(I)I"⟩
abbrev cX1_spans : ByteArray := prog_3_method_4_code
def yX1_spans : MethodName := ⟨RX1, "spans", "(II)Z"⟩
abbrev cX1_faultOf : ByteArray := prog_3_method_5_code
def yX1_faultOf : MethodName := ⟨RX1, "faultOf", "(III)I"⟩
abbrev cX1_cut : ByteArray := prog_3_method_6_code
def yX1_cut : MethodName := ⟨RX1, "cut", "(I)I"⟩
def RX2 : String := "TownLisp$Town"
def TX2 : u_T := fun k => match k with
  | 0 => ("TownLisp$Town", "kind", "[I", true)
  | 1 => ("TownLisp$Town", "parts", "[I", true)
  | 2 => ("TownLisp$Town", "thick", "[I", true)
  | 3 => ("TownLisp$Town", "count", "I", false)
  | 4 => ("TownLisp$Town", "inside", "I", false)
  | _ => ("TownLisp$Town", "tin", "I", false)
def tyX2 : Nat → FieldType := fun k => match k with
  | 0 => .array .int
  | 1 => .array .int
  | 2 => .array .int
  | 3 => .int
  | 4 => .int
  | _ => .int
abbrev wsX20 : List Cond := u_ws RX2 TX2 6
theorem nmX2 : ∀ a, a < 6 → ∀ b, b < 6 → a ≠ b → (TX2 a).2.1 ≠ (TX2 b).2.1 := by decide +kernel
theorem tyX2_ok : ∀ k, k < 6 → parseFieldDescriptor (TX2 k).2.2.1 = some (tyX2 k) := by decide +kernel
abbrev cX2_init : ByteArray := prog_4_method_1_code
def yX2_init : MethodName := ⟨RX2, "<init>", "()V"⟩
abbrev cX2_become : ByteArray := prog_4_method_2_code
def yX2_become : MethodName := ⟨RX2, "become", "(LTownLisp$Sheet;II)V"⟩
abbrev cX2_kindOf : ByteArray := prog_4_method_3_code
def yX2_kindOf : MethodName := ⟨RX2, "kindOf", "(I)I"⟩
abbrev cX2_twoDigits : ByteArray := prog_4_method_4_code
def yX2_twoDigits : MethodName := ⟨RX2, "twoDigits", "(LTownLisp$Sheet;I)I"⟩
abbrev cX2_becomeLike : ByteArray := prog_4_method_5_code
def yX2_becomeLike : MethodName := ⟨RX2, "becomeLike", "(LTownLisp$Town;)V"⟩
abbrev cX2_has : ByteArray := prog_4_method_6_code
def yX2_has : MethodName := ⟨RX2, "has", "(I)Z"⟩
abbrev cX2_isIn : ByteArray := prog_4_method_7_code
def yX2_isIn : MethodName := ⟨RX2, "isIn", "(I)Z"⟩
abbrev cX2_heads : ByteArray := prog_4_method_8_code
def yX2_heads : MethodName := ⟨RX2, "heads", "()I"⟩
abbrev cX2_allSets : ByteArray := prog_4_method_9_code
def yX2_allSets : MethodName := ⟨RX2, "allSets", "()I"⟩
abbrev cX2_partsOf : ByteArray := prog_4_method_10_code
def yX2_partsOf : MethodName := ⟨RX2, "partsOf", "(I)I"⟩
abbrev cX2_saysNow : ByteArray := prog_4_method_11_code
def yX2_saysNow : MethodName := ⟨RX2, "saysNow", "(I)I"⟩
abbrev cX2_allSay : ByteArray := prog_4_method_12_code
def yX2_allSay : MethodName := ⟨RX2, "allSay", "()I"⟩
abbrev cX2_acts : ByteArray := prog_4_method_13_code
def yX2_acts : MethodName := ⟨RX2, "acts", "(II)I"⟩
abbrev cX2_shareFrom : ByteArray := prog_4_method_14_code
def yX2_shareFrom : MethodName := ⟨RX2, "shareFrom", "(I)I"⟩
abbrev cX2_goOut : ByteArray := prog_4_method_15_code
def yX2_goOut : MethodName := ⟨RX2, "goOut", "(I)I"⟩
abbrev cX2_handOut : ByteArray := prog_4_method_16_code
def yX2_handOut : MethodName := ⟨RX2, "handOut", "(II)V"⟩
abbrev cX2_giveTo : ByteArray := prog_4_method_17_code
def yX2_giveTo : MethodName := ⟨RX2, "giveTo", "(I)I"⟩
abbrev cX2_emptyTinFor : ByteArray := prog_4_method_18_code
def yX2_emptyTinFor : MethodName := ⟨RX2, "emptyTinFor", "(I)I"⟩
abbrev cX2_partsBehindGatherings : ByteArray := prog_4_method_19_code
def yX2_partsBehindGatherings : MethodName := ⟨RX2, "partsBehindGatherings", "(II)I"⟩
abbrev cX2_lackingUpTo : ByteArray := prog_4_method_20_code
def yX2_lackingUpTo : MethodName := ⟨RX2, "lackingUpTo", "(I)I"⟩
abbrev cX2_partsBehindDay : ByteArray := prog_4_method_21_code
def yX2_partsBehindDay : MethodName := ⟨RX2, "partsBehindDay", "(II)I"⟩
def RX3 : String := "TownLisp"
def TX3 : u_T := fun k => match k with
  | 0 => ("TownLisp", "sheets", "[LTownLisp$Sheet;", true)
  | 1 => ("TownLisp", "now", "LTownLisp$Town;", true)
  | 2 => ("TownLisp", "then", "LTownLisp$Town;", true)
  | 3 => ("TownLisp", "said", "LTownLisp$Readings;", true)
  | 4 => ("TownLisp", "daysGone", "I", false)
  | 5 => ("TownLisp", "traced", "I", false)
  | _ => ("TownLisp", "latestFault", "I", false)
def tyX3 : Nat → FieldType := fun k => match k with
  | 0 => .array (.object "TownLisp$Sheet")
  | 1 => .object "TownLisp$Town"
  | 2 => .object "TownLisp$Town"
  | 3 => .object "TownLisp$Readings"
  | 4 => .int
  | 5 => .int
  | _ => .int
abbrev wsX30 : List Cond := u_ws RX3 TX3 7
theorem nmX3 : ∀ a, a < 7 → ∀ b, b < 7 → a ≠ b → (TX3 a).2.1 ≠ (TX3 b).2.1 := by decide +kernel
theorem tyX3_ok : ∀ k, k < 7 → parseFieldDescriptor (TX3 k).2.2.1 = some (tyX3 k) := by decide +kernel
abbrev cX3_init : ByteArray := prog_1_method_1_code
def yX3_init : MethodName := ⟨RX3, "<init>", "()V"⟩
abbrev cX3_town : ByteArray := prog_1_method_2_code
def yX3_town : MethodName := ⟨RX3, "town", "(IIII)I"⟩
abbrev cX3_ofPerson : ByteArray := prog_1_method_3_code
def yX3_ofPerson : MethodName := ⟨RX3, "ofPerson", "(II)I"⟩
abbrev cX3_tune : ByteArray := prog_1_method_4_code
def yX3_tune : MethodName := ⟨RX3, "tune", "(II)I"⟩
abbrev cX3_heard : ByteArray := prog_1_method_5_code
def yX3_heard : MethodName := ⟨RX3, "heard", "(I)I"⟩
abbrev cX3_day : ByteArray := prog_1_method_6_code
def yX3_day : MethodName := ⟨RX3, "day", "(I)I"⟩
abbrev cX3_leave : ByteArray := prog_1_method_7_code
def yX3_leave : MethodName := ⟨RX3, "leave", "(I)I"⟩
abbrev cX3_come : ByteArray := prog_1_method_8_code
def yX3_come : MethodName := ⟨RX3, "come", "(I)I"⟩
abbrev cX3_gather : ByteArray := prog_1_method_9_code
def yX3_gather : MethodName := ⟨RX3, "gather", "(I)I"⟩
abbrev cX3_pack : ByteArray := prog_1_method_10_code
def yX3_pack : MethodName := ⟨RX3, "pack", "(II)I"⟩
abbrev cX3_open : ByteArray := prog_1_method_11_code
def yX3_open : MethodName := ⟨RX3, "open", "(I)I"⟩
abbrev cX3_year : ByteArray := prog_1_method_12_code
def yX3_year : MethodName := ⟨RX3, "year", "(IIIII)I"⟩
abbrev cX3_asked : ByteArray := prog_1_method_13_code
def yX3_asked : MethodName := ⟨RX3, "asked", "(III)I"⟩
abbrev cX3_gatherings : ByteArray := prog_1_method_14_code
def yX3_gatherings : MethodName := ⟨RX3, "gatherings", "(II)I"⟩
abbrev cX3_level : ByteArray := prog_1_method_15_code
def yX3_level : MethodName := ⟨RX3, "level", "(I)I"⟩
abbrev cX3_were : ByteArray := prog_1_method_16_code
def yX3_were : MethodName := ⟨RX3, "were", "(III)I"⟩
abbrev cX3_rounds : ByteArray := prog_1_method_17_code
def yX3_rounds : MethodName := ⟨RX3, "rounds", "(II)I"⟩
abbrev cX3_worth : ByteArray := prog_1_method_18_code
def yX3_worth : MethodName := ⟨RX3, "worth", "(II)J"⟩
abbrev cX3_mean : ByteArray := prog_1_method_19_code
def yX3_mean : MethodName := ⟨RX3, "mean", "(I)J"⟩
abbrev cX3_reading : ByteArray := prog_1_method_20_code
def yX3_reading : MethodName := ⟨RX3, "reading", "(III)I"⟩
abbrev cX3_back : ByteArray := prog_1_method_21_code
def yX3_back : MethodName := ⟨RX3, "back", "(I)I"⟩
abbrev cX3_ears : ByteArray := prog_1_method_22_code
def yX3_ears : MethodName := ⟨RX3, "ears", "(I)I"⟩
abbrev cX3_kinds : ByteArray := prog_1_method_23_code
def yX3_kinds : MethodName := ⟨RX3, "kinds", "(I)I"⟩
abbrev cX3_odds : ByteArray := prog_1_method_24_code
def yX3_odds : MethodName := ⟨RX3, "odds", "(III)J"⟩
abbrev cX3_sheet : ByteArray := prog_1_method_25_code
def yX3_sheet : MethodName := ⟨RX3, "sheet", "(III)I"⟩
abbrev cX3_lose : ByteArray := prog_1_method_26_code
def yX3_lose : MethodName := ⟨RX3, "lose", "(I)I"⟩
abbrev cX3_put : ByteArray := prog_1_method_27_code
def yX3_put : MethodName := ⟨RX3, "put", "(III)I"⟩
abbrev cX3_cell : ByteArray := prog_1_method_28_code
def yX3_cell : MethodName := ⟨RX3, "cell", "(III)J"⟩
abbrev cX3_copy : ByteArray := prog_1_method_29_code
def yX3_copy : MethodName := ⟨RX3, "copy", "(IIIII)I"⟩
abbrev cX3_tell : ByteArray := prog_1_method_30_code
def yX3_tell : MethodName := ⟨RX3, "tell", "(I)I"⟩
abbrev cX3_call : ByteArray := prog_1_method_31_code
def yX3_call : MethodName := ⟨RX3, "call", "(I)I"⟩
abbrev cX3_as : ByteArray := prog_1_method_32_code
def yX3_as : MethodName := ⟨RX3, "as", "(II)I"⟩
abbrev cX3_trace : ByteArray := prog_1_method_33_code
def yX3_trace : MethodName := ⟨RX3, "trace", "()I"⟩
abbrev cX3_fault : ByteArray := prog_1_method_34_code
def yX3_fault : MethodName := ⟨RX3, "fault", "()I"⟩
abbrev cX3_many : ByteArray := prog_1_method_35_code
def yX3_many : MethodName := ⟨RX3, "many", "(I)I"⟩
abbrev cX3_sheetAt : ByteArray := prog_1_method_36_code
def yX3_sheetAt : MethodName := ⟨RX3, "sheetAt", "(I)LTownLisp$Sheet;"⟩
abbrev cX3_faulty : ByteArray := prog_1_method_37_code
def yX3_faulty : MethodName := ⟨RX3, "faulty", "(I)I"⟩
abbrev cX3_isLane : ByteArray := prog_1_method_38_code
def yX3_isLane : MethodName := ⟨RX3, "isLane", "(I)Z"⟩
abbrev cX3_isHalfOfShare : ByteArray := prog_1_method_39_code
def yX3_isHalfOfShare : MethodName := ⟨RX3, "isHalfOfShare", "(I)Z"⟩
abbrev cX3_isMember : ByteArray := prog_1_method_40_code
def yX3_isMember : MethodName := ⟨RX3, "isMember", "(II)Z"⟩
abbrev cX3_says : ByteArray := prog_1_method_41_code
def yX3_says : MethodName := ⟨RX3, "says", "(III)I"⟩
abbrev cX3_shareOf : ByteArray := prog_1_method_42_code
def yX3_shareOf : MethodName := ⟨RX3, "shareOf", "(III)J"⟩
abbrev cX3_firstFaultOf : ByteArray := prog_1_method_43_code
def yX3_firstFaultOf : MethodName := ⟨RX3, "firstFaultOf", "(LTownLisp$Sheet;II)I"⟩
abbrev cX3_goesOn : ByteArray := prog_1_method_44_code
def yX3_goesOn : MethodName := ⟨RX3, "goesOn", "(II)Z"⟩
abbrev cX3_personGoesOn : ByteArray := prog_1_method_45_code
def yX3_personGoesOn : MethodName := ⟨RX3, "personGoesOn", "(II)Z"⟩
abbrev cX3_isBetween : ByteArray := prog_1_method_46_code
def yX3_isBetween : MethodName := ⟨RX3, "isBetween", "(III)Z"⟩
abbrev cX3_act : ByteArray := prog_1_method_47_code
def yX3_act : MethodName := ⟨RX3, "act", "(II)I"⟩
abbrev cX3_isAskedOfYear : ByteArray := prog_1_method_48_code
def yX3_isAskedOfYear : MethodName := ⟨RX3, "isAskedOfYear", "(I)Z"⟩
abbrev cX3_refusalOfPairs : ByteArray := prog_1_method_49_code
def yX3_refusalOfPairs : MethodName := ⟨RX3, "refusalOfPairs", "(LTownLisp$Sheet;II)I"⟩
abbrev cX3_firstWrongOf : ByteArray := prog_1_method_50_code
def yX3_firstWrongOf : MethodName := ⟨RX3, "firstWrongOf", "(LTownLisp$Sheet;II)I"⟩
abbrev cX3_behindYear : ByteArray := prog_1_method_51_code
def yX3_behindYear : MethodName := ⟨RX3, "behindYear", "(I)I"⟩
abbrev cX3_bestAsked : ByteArray := prog_1_method_52_code
def yX3_bestAsked : MethodName := ⟨RX3, "bestAsked", "(II)I"⟩
abbrev cX3_ordersDecidedBy : ByteArray := prog_1_method_53_code
def yX3_ordersDecidedBy : MethodName := ⟨RX3, "ordersDecidedBy", "(I)I"⟩
abbrev cX3_ordersOf : ByteArray := prog_1_method_54_code
def yX3_ordersOf : MethodName := ⟨RX3, "ordersOf", "(I)I"⟩
abbrev cX3_begin : ByteArray := prog_1_method_55_code
def yX3_begin : MethodName := ⟨RX3, "begin", "(I)V"⟩
abbrev cX3_grownTells : ByteArray := prog_1_method_56_code
def yX3_grownTells : MethodName := ⟨RX3, "grownTells", "(I)I"⟩
abbrev cX3_shyTells : ByteArray := prog_1_method_57_code
def yX3_shyTells : MethodName := ⟨RX3, "shyTells", "(I)I"⟩
abbrev cX3_childTells : ByteArray := prog_1_method_58_code
def yX3_childTells : MethodName := ⟨RX3, "childTells", "(I)I"⟩
abbrev cX3_lentIsCalled : ByteArray := prog_1_method_59_code
def yX3_lentIsCalled : MethodName := ⟨RX3, "lentIsCalled", "(I)I"⟩
abbrev cX3_childIsCalled : ByteArray := prog_1_method_60_code
def yX3_childIsCalled : MethodName := ⟨RX3, "childIsCalled", "()I"⟩
def RX4 : String := "TownLispModel"
def TX4 : u_T := fun k => match k with
  | 0 => ("TownLispModel", "fault", "I", false)
  | 1 => ("TownLispModel", "trace", "I", false)
  | 2 => ("TownLispModel", "sorts", "[I", true)
  | 3 => ("TownLispModel", "sheetLong", "[I", true)
  | 4 => ("TownLispModel", "cells", "[I", true)
  | 5 => ("TownLispModel", "people", "I", false)
  | 6 => ("TownLispModel", "tin", "I", false)
  | 7 => ("TownLispModel", "isIn", "I", false)
  | 8 => ("TownLispModel", "days", "I", false)
  | 9 => ("TownLispModel", "kind", "[I", true)
  | 10 => ("TownLispModel", "parts", "[I", true)
  | 11 => ("TownLispModel", "thick", "[I", true)
  | 12 => ("TownLispModel", "at", "I", false)
  | 13 => ("TownLispModel", "readTin", "I", false)
  | 14 => ("TownLispModel", "readPeople", "I", false)
  | 15 => ("TownLispModel", "read", "[I", true)
  | 16 => ("TownLispModel", "shared", "[I", true)
  | 17 => ("TownLispModel", "keptParts", "[I", true)
  | 18 => ("TownLispModel", "keptTin", "I", false)
  | 19 => ("TownLispModel", "keptIn", "I", false)
  | 20 => ("TownLispModel", "readings", "I", false)
  | 21 => ("TownLispModel", "readWho", "[I", true)
  | 22 => ("TownLispModel", "readParts", "[I", true)
  | _ => ("TownLispModel", "readSaid", "[I", true)
def tyX4 : Nat → FieldType := fun k => match k with
  | 0 => .int
  | 1 => .int
  | 2 => .array .int
  | 3 => .array .int
  | 4 => .array .int
  | 5 => .int
  | 6 => .int
  | 7 => .int
  | 8 => .int
  | 9 => .array .int
  | 10 => .array .int
  | 11 => .array .int
  | 12 => .int
  | 13 => .int
  | 14 => .int
  | 15 => .array .int
  | 16 => .array .int
  | 17 => .array .int
  | 18 => .int
  | 19 => .int
  | 20 => .int
  | 21 => .array .int
  | 22 => .array .int
  | _ => .array .int
abbrev wsX40 : List Cond := u_ws RX4 TX4 24
theorem nmX4 : ∀ a, a < 24 → ∀ b, b < 24 → a ≠ b → (TX4 a).2.1 ≠ (TX4 b).2.1 := by decide +kernel
theorem tyX4_ok : ∀ k, k < 24 → parseFieldDescriptor (TX4 k).2.2.1 = some (tyX4 k) := by decide +kernel
abbrev cX4_init : ByteArray := prog_6_method_1_code
def yX4_init : MethodName := ⟨RX4, "<init>", "()V"⟩
abbrev cX4_fails : ByteArray := prog_6_method_3_code
def yX4_fails : MethodName := ⟨RX4, "fails", "(I)I"⟩
abbrev cX4_lost : ByteArray := prog_6_method_4_code
def yX4_lost : MethodName := ⟨RX4, "lost", "(I)J"⟩
abbrev cX4_within : ByteArray := prog_6_method_5_code
def yX4_within : MethodName := ⟨RX4, "within", "(III)Z"⟩
abbrev cX4_isSheet : ByteArray := prog_6_method_6_code
def yX4_isSheet : MethodName := ⟨RX4, "isSheet", "(I)Z"⟩
abbrev cX4_isSort : ByteArray := prog_6_method_7_code
def yX4_isSort : MethodName := ⟨RX4, "isSort", "(I)Z"⟩
abbrev cX4_against : ByteArray := prog_6_method_8_code
def yX4_against : MethodName := ⟨RX4, "against", "(IIII)I"⟩
abbrev cX4_isPerson : ByteArray := prog_6_method_9_code
def yX4_isPerson : MethodName := ⟨RX4, "isPerson", "(I)Z"⟩
abbrev cX4_isOf : ByteArray := prog_6_method_10_code
def yX4_isOf : MethodName := ⟨RX4, "isOf", "(II)Z"⟩
abbrev cX4_size : ByteArray := prog_6_method_11_code
def yX4_size : MethodName := ⟨RX4, "size", "(I)I"⟩
abbrev cX4_digit : ByteArray := prog_6_method_12_code
def yX4_digit : MethodName := ⟨RX4, "digit", "(III)I"⟩
abbrev cX4_twoDigits : ByteArray := prog_6_method_13_code
def yX4_twoDigits : MethodName := ⟨RX4, "twoDigits", "(II)I"⟩
abbrev cX4_isSign : ByteArray := prog_6_method_14_code
def yX4_isSign : MethodName := ⟨RX4, "isSign", "(II)Z"⟩
abbrev cX4_town : ByteArray := prog_6_method_15_code
def yX4_town : MethodName := ⟨RX4, "town", "(IIII)I"⟩
abbrev cX4_takeTown : ByteArray := prog_6_method_16_code
def yX4_takeTown : MethodName := ⟨RX4, "takeTown", "()V"⟩
abbrev cX4_readTown : ByteArray := prog_6_method_17_code
def yX4_readTown : MethodName := ⟨RX4, "readTown", "(I)Z"⟩
abbrev cX4_readPerson : ByteArray := prog_6_method_18_code
def yX4_readPerson : MethodName := ⟨RX4, "readPerson", "(I)Z"⟩
abbrev cX4_saysBy : ByteArray := prog_6_method_19_code
def yX4_saysBy : MethodName := ⟨RX4, "saysBy", "(II)I"⟩
abbrev cX4_ofPerson : ByteArray := prog_6_method_20_code
def yX4_ofPerson : MethodName := ⟨RX4, "ofPerson", "(II)I"⟩
abbrev cX4_tune : ByteArray := prog_6_method_21_code
def yX4_tune : MethodName := ⟨RX4, "tune", "(II)I"⟩
abbrev cX4_saidNow : ByteArray := prog_6_method_22_code
def yX4_saidNow : MethodName := ⟨RX4, "saidNow", "()I"⟩
abbrev cX4_partsOf : ByteArray := prog_6_method_23_code
def yX4_partsOf : MethodName := ⟨RX4, "partsOf", "(I)I"⟩
abbrev cX4_heard : ByteArray := prog_6_method_24_code
def yX4_heard : MethodName := ⟨RX4, "heard", "(I)I"⟩
abbrev cX4_shareOf : ByteArray := prog_6_method_25_code
def yX4_shareOf : MethodName := ⟨RX4, "shareOf", "(III)I"⟩
abbrev cX4_doDay : ByteArray := prog_6_method_26_code
def yX4_doDay : MethodName := ⟨RX4, "doDay", "(I)V"⟩
abbrev cX4_day : ByteArray := prog_6_method_27_code
def yX4_day : MethodName := ⟨RX4, "day", "(I)I"⟩
abbrev cX4_doLeave : ByteArray := prog_6_method_28_code
def yX4_doLeave : MethodName := ⟨RX4, "doLeave", "(I)V"⟩
abbrev cX4_leave : ByteArray := prog_6_method_29_code
def yX4_leave : MethodName := ⟨RX4, "leave", "(I)I"⟩
abbrev cX4_come : ByteArray := prog_6_method_30_code
def yX4_come : MethodName := ⟨RX4, "come", "(I)I"⟩
abbrev cX4_doGather : ByteArray := prog_6_method_31_code
def yX4_doGather : MethodName := ⟨RX4, "doGather", "(I)I"⟩
abbrev cX4_gather : ByteArray := prog_6_method_32_code
def yX4_gather : MethodName := ⟨RX4, "gather", "(I)I"⟩
abbrev cX4_pack : ByteArray := prog_6_method_33_code
def yX4_pack : MethodName := ⟨RX4, "pack", "(II)I"⟩
abbrev cX4_doOpen : ByteArray := prog_6_method_34_code
def yX4_doOpen : MethodName := ⟨RX4, "doOpen", "(I)I"⟩
abbrev cX4_open : ByteArray := prog_6_method_35_code
def yX4_open : MethodName := ⟨RX4, "open", "(I)I"⟩
abbrev cX4_keep : ByteArray := prog_6_method_36_code
def yX4_keep : MethodName := ⟨RX4, "keep", "()V"⟩
abbrev cX4_putBack : ByteArray := prog_6_method_37_code
def yX4_putBack : MethodName := ⟨RX4, "putBack", "()V"⟩
abbrev cX4_canBe : ByteArray := prog_6_method_38_code
def yX4_canBe : MethodName := ⟨RX4, "canBe", "(II)Z"⟩
abbrev cX4_does : ByteArray := prog_6_method_39_code
def yX4_does : MethodName := ⟨RX4, "does", "(II)V"⟩
abbrev cX4_goYear : ByteArray := prog_6_method_40_code
def yX4_goYear : MethodName := ⟨RX4, "goYear", "(II)I"⟩
abbrev cX4_year : ByteArray := prog_6_method_41_code
def yX4_year : MethodName := ⟨RX4, "year", "(IIIII)I"⟩
abbrev cX4_tellYear : ByteArray := prog_6_method_42_code
def yX4_tellYear : MethodName := ⟨RX4, "tellYear", "(I)I"⟩
abbrev cX4_asked : ByteArray := prog_6_method_43_code
def yX4_asked : MethodName := ⟨RX4, "asked", "(III)I"⟩
abbrev cX4_gatherings : ByteArray := prog_6_method_44_code
def yX4_gatherings : MethodName := ⟨RX4, "gatherings", "(II)I"⟩
abbrev cX4_missingTo : ByteArray := prog_6_method_45_code
def yX4_missingTo : MethodName := ⟨RX4, "missingTo", "(I)I"⟩
abbrev cX4_level : ByteArray := prog_6_method_46_code
def yX4_level : MethodName := ⟨RX4, "level", "(I)I"⟩
abbrev cX4_were : ByteArray := prog_6_method_47_code
def yX4_were : MethodName := ⟨RX4, "were", "(III)I"⟩
abbrev cX4_rounds : ByteArray := prog_6_method_48_code
def yX4_rounds : MethodName := ⟨RX4, "rounds", "(II)I"⟩
abbrev cX4_factorial : ByteArray := prog_6_method_49_code
def yX4_factorial : MethodName := ⟨RX4, "factorial", "(I)J"⟩
abbrev cX4_worth : ByteArray := prog_6_method_50_code
def yX4_worth : MethodName := ⟨RX4, "worth", "(II)J"⟩
abbrev cX4_mean : ByteArray := prog_6_method_51_code
def yX4_mean : MethodName := ⟨RX4, "mean", "(I)J"⟩
abbrev cX4_inLeastTerms : ByteArray := prog_6_method_52_code
def yX4_inLeastTerms : MethodName := ⟨RX4, "inLeastTerms", "(JJI)J"⟩
abbrev cX4_reading : ByteArray := prog_6_method_53_code
def yX4_reading : MethodName := ⟨RX4, "reading", "(III)I"⟩
abbrev cX4_back : ByteArray := prog_6_method_54_code
def yX4_back : MethodName := ⟨RX4, "back", "(I)I"⟩
abbrev cX4_areSo : ByteArray := prog_6_method_55_code
def yX4_areSo : MethodName := ⟨RX4, "areSo", "()Z"⟩
abbrev cX4_ears : ByteArray := prog_6_method_56_code
def yX4_ears : MethodName := ⟨RX4, "ears", "(I)I"⟩
abbrev cX4_kinds : ByteArray := prog_6_method_57_code
def yX4_kinds : MethodName := ⟨RX4, "kinds", "(I)I"⟩
abbrev cX4_odds : ByteArray := prog_6_method_58_code
def yX4_odds : MethodName := ⟨RX4, "odds", "(III)J"⟩
abbrev cX4_sheet : ByteArray := prog_6_method_59_code
def yX4_sheet : MethodName := ⟨RX4, "sheet", "(III)I"⟩
abbrev cX4_lose : ByteArray := prog_6_method_60_code
def yX4_lose : MethodName := ⟨RX4, "lose", "(I)I"⟩
abbrev cX4_put : ByteArray := prog_6_method_61_code
def yX4_put : MethodName := ⟨RX4, "put", "(III)I"⟩
abbrev cX4_cell : ByteArray := prog_6_method_62_code
def yX4_cell : MethodName := ⟨RX4, "cell", "(III)J"⟩
abbrev cX4_copy : ByteArray := prog_6_method_63_code
def yX4_copy : MethodName := ⟨RX4, "copy", "(IIIII)I"⟩
abbrev cX4_begins : ByteArray := prog_6_method_64_code
def yX4_begins : MethodName := ⟨RX4, "begins", "(I)V"⟩
abbrev cX4_tell : ByteArray := prog_6_method_65_code
def yX4_tell : MethodName := ⟨RX4, "tell", "(I)I"⟩
abbrev cX4_call : ByteArray := prog_6_method_66_code
def yX4_call : MethodName := ⟨RX4, "call", "(I)I"⟩
abbrev cX4_as : ByteArray := prog_6_method_67_code
def yX4_as : MethodName := ⟨RX4, "as", "(II)I"⟩
abbrev cX4_trace : ByteArray := prog_6_method_68_code
def yX4_trace : MethodName := ⟨RX4, "trace", "()I"⟩
abbrev cX4_fault : ByteArray := prog_6_method_69_code
def yX4_fault : MethodName := ⟨RX4, "fault", "()I"⟩
abbrev cX4_many : ByteArray := prog_6_method_70_code
def yX4_many : MethodName := ⟨RX4, "many", "(I)I"⟩
def RJ6 : String := "java/lang/Integer"
def TJ6 : u_T := fun k => match k with
  | _ => ("", "", "", false)
def tyJ6 : Nat → FieldType := fun k => match k with
  | _ => .int
abbrev wsJ60 : List Cond := u_ws RJ6 TJ6 0
theorem nmJ6 : ∀ a, a < 0 → ∀ b, b < 0 → a ≠ b → (TJ6 a).2.1 ≠ (TJ6 b).2.1 := by decide +kernel
theorem tyJ6_ok : ∀ k, k < 0 → parseFieldDescriptor (TJ6 k).2.2.1 = some (tyJ6 k) := by decide +kernel
abbrev cJ6_bitCount_0f7a4 : ByteArray := prog_7_method_49_code
def yJ6_bitCount_0f7a4 : MethodName := ⟨RJ6, "bitCount", "(I)I"⟩
def RJ9 : String := "java/lang/Math"
def TJ9 : u_T := fun k => match k with
  | _ => ("", "", "", false)
def tyJ9 : Nat → FieldType := fun k => match k with
  | _ => .int
abbrev wsJ90 : List Cond := u_ws RJ9 TJ9 0
theorem nmJ9 : ∀ a, a < 0 → ∀ b, b < 0 → a ≠ b → (TJ9 a).2.1 ≠ (TJ9 b).2.1 := by decide +kernel
theorem tyJ9_ok : ∀ k, k < 0 → parseFieldDescriptor (TJ9 k).2.2.1 = some (tyJ9 k) := by decide +kernel
abbrev cJ9_max_7cf53 : ByteArray := prog_8_method_65_code
def yJ9_max_7cf53 : MethodName := ⟨RJ9, "max", "(II)I"⟩
abbrev cJ9_min_7cf53 : ByteArray := prog_8_method_69_code
def yJ9_min_7cf53 : MethodName := ⟨RJ9, "min", "(II)I"⟩
def RJ10 : String := "java/lang/System"
def TJ10 : u_T := fun k => match k with
  | _ => ("", "", "", false)
def tyJ10 : Nat → FieldType := fun k => match k with
  | _ => .int
abbrev wsJ100 : List Cond := u_ws RJ10 TJ10 0
theorem nmJ10 : ∀ a, a < 0 → ∀ b, b < 0 → a ≠ b → (TJ10 a).2.1 ≠ (TJ10 b).2.1 := by decide +kernel
theorem tyJ10_ok : ∀ k, k < 0 → parseFieldDescriptor (TJ10 k).2.2.1 = some (tyJ10 k) := by decide +kernel
def RL : String := "TownLispLaw"
abbrev cL_law : ByteArray := code
def yL_law : MethodName := ⟨RL, "law", "([I)Z"⟩
def wsX0_init : List Cond := .code yX0_init cX0_init 1 none :: ([.methodLink RX0 3 objectInit, .instanceMethod objectInit, .code objectInit ⟨#[0xb1]⟩ 1 none, .arrayClass .int, .fieldLink RX0 9 "TownLisp$Readings" "person" "[I", .fieldLink RX0 15 "TownLisp$Readings" "parts" "[I", .fieldLink RX0 18 "TownLisp$Readings" "amount" "[I"] ++ wsX00)
def wsX0_take : List Cond := .code yX0_take cX0_take 4 (some .int) :: ([.fieldLink RX0 9 "TownLisp$Readings" "person" "[I", .fieldLink RX0 21 "TownLisp$Readings" "count" "I", .fieldLink RX0 15 "TownLisp$Readings" "parts" "[I", .fieldLink RX0 18 "TownLisp$Readings" "amount" "[I"] ++ wsX00)
def wsX3_says : List Cond := .code yX3_says cX3_says 4 (some .int) :: ([.methodLink RX3 212 Lib.Math.max.name, .static Lib.Math.max.name, .initialized "java/lang/Math", .code Lib.Math.max.name Lib.Math.max.code 2 (some .int)])
def wsX0_areSo : List Cond := .code yX0_areSo cX0_areSo 8 (some .boolean) :: ([.fieldLink RX0 21 "TownLisp$Readings" "count" "I", .fieldLink RX0 9 "TownLisp$Readings" "person" "[I", .fieldLink RX0 15 "TownLisp$Readings" "parts" "[I", .fieldLink RX0 29 "TownLisp$Town" "kind" "[I", .fieldLink RX0 34 "TownLisp$Town" "thick" "[I", .fieldLink RX0 18 "TownLisp$Readings" "amount" "[I", .static yX3_says, .initialized RX3, .code yX3_says cX3_says 4 (some .int), .methodLink RX3 212 Lib.Math.max.name, .static Lib.Math.max.name, .initialized "java/lang/Math", .code Lib.Math.max.name Lib.Math.max.code 2 (some .int)] ++ wsX00 ++ wsX20)
def wsX1_init : List Cond := .code yX1_init cX1_init 1 none :: ([.methodLink RX1 3 objectInit, .instanceMethod objectInit, .code objectInit ⟨#[0xb1]⟩ 1 none, .arrayClass .int, .fieldLink RX1 9 "TownLisp$Sheet" "cells" "[I"] ++ wsX10)
def wsX1_renew : List Cond := .code yX1_renew cX1_renew 4 none :: ([.fieldLink RX1 15 "TownLisp$Sheet" "lane" "I", .fieldLink RX1 9 "TownLisp$Sheet" "cells" "[I", .methodLink RX1 19 Lib.Math.min.name, .static Lib.Math.min.name, .initialized "java/lang/Math", .code Lib.Math.min.name Lib.Math.min.code 2 (some .int), .methodLink RX1 25 Lib.Math.max.name, .static Lib.Math.max.name, .code Lib.Math.max.name Lib.Math.max.code 2 (some .int), .fieldLink RX1 28 "TownLisp$Sheet" "length" "I", .fieldLink RX1 31 "TownLisp$Sheet" "held" "Z"] ++ wsX10)
def wsX1_at : List Cond := .code yX1_at cX1_at 2 (some .int) :: ([.fieldLink RX1 9 "TownLisp$Sheet" "cells" "[I"] ++ wsX10)
def wsX1_spans : List Cond := .code yX1_spans cX1_spans 3 (some .boolean) :: ([.fieldLink RX1 28 "TownLisp$Sheet" "length" "I"] ++ wsX10)
def wsX1_faultOf : List Cond := .code yX1_faultOf cX1_faultOf 4 (some .int) :: ([.fieldLink RX1 31 "TownLisp$Sheet" "held" "Z", .fieldLink RX1 15 "TownLisp$Sheet" "lane" "I", .methodLink RX1 35 yX1_spans, .instanceMethod yX1_spans, .selects RX1 yX1_spans yX1_spans, .initialized RX1, .code yX1_spans cX1_spans 3 (some .boolean), .fieldLink RX1 28 "TownLisp$Sheet" "length" "I"] ++ wsX10)
def wsX1_cut : List Cond := .code yX1_cut cX1_cut 2 (some .int) :: ([.fieldLink RX1 15 "TownLisp$Sheet" "lane" "I"] ++ wsX10)
def wsX2_init : List Cond := .code yX2_init cX2_init 1 none :: ([.methodLink RX2 3 objectInit, .instanceMethod objectInit, .code objectInit ⟨#[0xb1]⟩ 1 none, .arrayClass .int, .fieldLink RX2 9 "TownLisp$Town" "kind" "[I", .fieldLink RX2 15 "TownLisp$Town" "parts" "[I", .fieldLink RX2 18 "TownLisp$Town" "thick" "[I"] ++ wsX20)
def wsX2_twoDigits : List Cond := .code yX2_twoDigits cX2_twoDigits 2 (some .int) :: ([.methodLink RX2 44 yX1_at, .instanceMethod yX1_at, .selects RX1 yX1_at yX1_at, .initialized RX1, .code yX1_at cX1_at 2 (some .int), .fieldLink RX1 9 "TownLisp$Sheet" "cells" "[I"] ++ wsX10)
def wsX2_kindOf : List Cond := .code yX2_kindOf cX2_kindOf 1 (some .int) :: ([])
def wsX2_become_r1 : List Cond := [Cond.methodLink RX2 21 Lib.Math.min.name, Cond.static Lib.Math.min.name, Cond.initialized "java/lang/Math", Cond.code Lib.Math.min.name Lib.Math.min.code 2 (some .int), Cond.methodLink RX2 27 Lib.Math.max.name, Cond.static Lib.Math.max.name, Cond.code Lib.Math.max.name Lib.Math.max.code 2 (some .int), Cond.fieldLink RX2 30 "TownLisp$Town" "count" "I", Cond.fieldLink RX2 38 "TownLisp$Town" "tin" "I", Cond.fieldLink RX2 41 "TownLisp$Town" "inside" "I", Cond.fieldLink RX2 9 "TownLisp$Town" "kind" "[I", Cond.fieldLink RX2 15 "TownLisp$Town" "parts" "[I", Cond.fieldLink RX2 18 "TownLisp$Town" "thick" "[I", Cond.methodLink RX2 34 yX2_twoDigits, Cond.static yX2_twoDigits, Cond.initialized RX2, Cond.code yX2_twoDigits cX2_twoDigits 2 (some .int), Cond.methodLink RX2 44 yX1_at, Cond.instanceMethod yX1_at, Cond.selects RX1 yX1_at yX1_at, Cond.initialized RX1, Cond.code yX1_at cX1_at 2 (some .int), Cond.fieldLink RX1 9 "TownLisp$Sheet" "cells" "[I", Cond.methodLink RX2 50 yX2_kindOf]
def wsX2_become_r2 : List Cond := [Cond.static yX2_kindOf, Cond.code yX2_kindOf cX2_kindOf 1 (some .int)]
def wsX2_become : List Cond := .code yX2_become cX2_become 6 none :: ((wsX2_become_r1 ++ wsX2_become_r2) ++ wsX20 ++ wsX10)
def wsX2_becomeLike : List Cond := .code yX2_becomeLike cX2_becomeLike 3 none :: ([.fieldLink RX2 30 "TownLisp$Town" "count" "I", .fieldLink RX2 41 "TownLisp$Town" "inside" "I", .fieldLink RX2 38 "TownLisp$Town" "tin" "I", .fieldLink RX2 9 "TownLisp$Town" "kind" "[I", .fieldLink RX2 15 "TownLisp$Town" "parts" "[I", .fieldLink RX2 18 "TownLisp$Town" "thick" "[I"] ++ wsX20)
def wsX2_has : List Cond := .code yX2_has cX2_has 2 (some .boolean) :: ([.fieldLink RX2 30 "TownLisp$Town" "count" "I"] ++ wsX20)
def wsX3_isMember : List Cond := .code yX3_isMember cX3_isMember 2 (some .boolean) :: ([])
def wsX2_isIn : List Cond := .code yX2_isIn cX2_isIn 2 (some .boolean) :: ([.fieldLink RX2 41 "TownLisp$Town" "inside" "I", .static yX3_isMember, .initialized RX3, .code yX3_isMember cX3_isMember 2 (some .boolean)] ++ wsX20)
def wsJ6_bitCount_0f7a4 : List Cond := .code yJ6_bitCount_0f7a4 cJ6_bitCount_0f7a4 1 (some .int) :: ([.constant RJ6 265 (1431655765), .constant RJ6 266 (858993459), .constant RJ6 267 (252645135)])
def wsX2_heads : List Cond := .code yX2_heads cX2_heads 1 (some .int) :: ([.fieldLink RX2 41 "TownLisp$Town" "inside" "I", .methodLink RX2 57 yJ6_bitCount_0f7a4, .static yJ6_bitCount_0f7a4, .initialized RJ6, .code yJ6_bitCount_0f7a4 cJ6_bitCount_0f7a4 1 (some .int), .constant RJ6 265 (1431655765), .constant RJ6 266 (858993459), .constant RJ6 267 (252645135)] ++ wsX20)
def wsX2_allSets : List Cond := .code yX2_allSets cX2_allSets 1 (some .int) :: ([.fieldLink RX2 30 "TownLisp$Town" "count" "I"] ++ wsX20)
def wsX2_partsOf : List Cond := .code yX2_partsOf cX2_partsOf 4 (some .int) :: ([.fieldLink RX2 30 "TownLisp$Town" "count" "I", .fieldLink RX2 15 "TownLisp$Town" "parts" "[I", .static yX3_isMember, .initialized RX3, .code yX3_isMember cX3_isMember 2 (some .boolean)] ++ wsX20)
def wsX2_saysNow : List Cond := .code yX2_saysNow cX2_saysNow 2 (some .int) :: ([.fieldLink RX2 9 "TownLisp$Town" "kind" "[I", .fieldLink RX2 15 "TownLisp$Town" "parts" "[I", .fieldLink RX2 18 "TownLisp$Town" "thick" "[I", .static yX3_says, .initialized RX3, .code yX3_says cX3_says 4 (some .int), .methodLink RX3 212 Lib.Math.max.name, .static Lib.Math.max.name, .initialized "java/lang/Math", .code Lib.Math.max.name Lib.Math.max.code 2 (some .int)] ++ wsX20)
def wsX2_allSay : List Cond := .code yX2_allSay cX2_allSay 3 (some .int) :: ([.fieldLink RX2 30 "TownLisp$Town" "count" "I", .methodLink RX2 66 yX2_isIn, .instanceMethod yX2_isIn, .selects RX2 yX2_isIn yX2_isIn, .initialized RX2, .code yX2_isIn cX2_isIn 2 (some .boolean), .fieldLink RX2 41 "TownLisp$Town" "inside" "I", .static yX3_isMember, .initialized RX3, .code yX3_isMember cX3_isMember 2 (some .boolean), .methodLink RX2 70 yX2_saysNow, .instanceMethod yX2_saysNow, .selects RX2 yX2_saysNow yX2_saysNow, .code yX2_saysNow cX2_saysNow 2 (some .int), .fieldLink RX2 9 "TownLisp$Town" "kind" "[I", .fieldLink RX2 15 "TownLisp$Town" "parts" "[I", .fieldLink RX2 18 "TownLisp$Town" "thick" "[I", .static yX3_says, .code yX3_says cX3_says 4 (some .int), .methodLink RX3 212 Lib.Math.max.name, .static Lib.Math.max.name, .initialized "java/lang/Math", .code Lib.Math.max.name Lib.Math.max.code 2 (some .int)] ++ wsX20)
def wsX2_handOut : List Cond := .code yX2_handOut cX2_handOut 7 none :: ([.fieldLink RX2 38 "TownLisp$Town" "tin" "I", .fieldLink RX2 30 "TownLisp$Town" "count" "I", .fieldLink RX2 15 "TownLisp$Town" "parts" "[I", .methodLink RX2 79 yX2_heads, .instanceMethod yX2_heads, .selects RX2 yX2_heads yX2_heads, .initialized RX2, .code yX2_heads cX2_heads 1 (some .int), .fieldLink RX2 41 "TownLisp$Town" "inside" "I", .methodLink RX2 57 yJ6_bitCount_0f7a4, .static yJ6_bitCount_0f7a4, .initialized RJ6, .code yJ6_bitCount_0f7a4 cJ6_bitCount_0f7a4 1 (some .int), .constant RJ6 265 (1431655765), .constant RJ6 266 (858993459), .constant RJ6 267 (252645135), .methodLink RX2 66 yX2_isIn, .instanceMethod yX2_isIn, .selects RX2 yX2_isIn yX2_isIn, .code yX2_isIn cX2_isIn 2 (some .boolean), .static yX3_isMember, .initialized RX3, .code yX3_isMember cX3_isMember 2 (some .boolean)] ++ wsX20)
def wsX2_shareFrom_r1 : List Cond := [Cond.fieldLink RX2 41 "TownLisp$Town" "inside" "I", Cond.fieldLink RX2 30 "TownLisp$Town" "count" "I", Cond.fieldLink RX2 15 "TownLisp$Town" "parts" "[I", Cond.methodLink RX2 89 yX2_partsOf, Cond.instanceMethod yX2_partsOf, Cond.selects RX2 yX2_partsOf yX2_partsOf, Cond.initialized RX2, Cond.code yX2_partsOf cX2_partsOf 4 (some .int), Cond.static yX3_isMember, Cond.initialized RX3, Cond.code yX3_isMember cX3_isMember 2 (some .boolean), Cond.methodLink RX2 79 yX2_heads, Cond.instanceMethod yX2_heads, Cond.selects RX2 yX2_heads yX2_heads, Cond.code yX2_heads cX2_heads 1 (some .int), Cond.methodLink RX2 57 yJ6_bitCount_0f7a4, Cond.static yJ6_bitCount_0f7a4, Cond.initialized RJ6, Cond.code yJ6_bitCount_0f7a4 cJ6_bitCount_0f7a4 1 (some .int), Cond.constant RJ6 265 (1431655765), Cond.constant RJ6 266 (858993459), Cond.constant RJ6 267 (252645135), Cond.methodLink RX2 66 yX2_isIn, Cond.instanceMethod yX2_isIn]
def wsX2_shareFrom_r2 : List Cond := [Cond.selects RX2 yX2_isIn yX2_isIn, Cond.code yX2_isIn cX2_isIn 2 (some .boolean), Cond.methodLink RX2 92 yX2_handOut, Cond.instanceMethod yX2_handOut, Cond.selects RX2 yX2_handOut yX2_handOut, Cond.code yX2_handOut cX2_handOut 7 none, Cond.fieldLink RX2 38 "TownLisp$Town" "tin" "I"]
def wsX2_shareFrom : List Cond := .code yX2_shareFrom cX2_shareFrom 5 (some .int) :: ((wsX2_shareFrom_r1 ++ wsX2_shareFrom_r2) ++ wsX20)
def wsX2_goOut_r1 : List Cond := [Cond.fieldLink RX2 15 "TownLisp$Town" "parts" "[I", Cond.fieldLink RX2 41 "TownLisp$Town" "inside" "I", Cond.methodLink RX2 92 yX2_handOut, Cond.instanceMethod yX2_handOut, Cond.selects RX2 yX2_handOut yX2_handOut, Cond.initialized RX2, Cond.code yX2_handOut cX2_handOut 7 none, Cond.fieldLink RX2 38 "TownLisp$Town" "tin" "I", Cond.fieldLink RX2 30 "TownLisp$Town" "count" "I", Cond.methodLink RX2 79 yX2_heads, Cond.instanceMethod yX2_heads, Cond.selects RX2 yX2_heads yX2_heads, Cond.code yX2_heads cX2_heads 1 (some .int), Cond.methodLink RX2 57 yJ6_bitCount_0f7a4, Cond.static yJ6_bitCount_0f7a4, Cond.initialized RJ6, Cond.code yJ6_bitCount_0f7a4 cJ6_bitCount_0f7a4 1 (some .int), Cond.constant RJ6 265 (1431655765), Cond.constant RJ6 266 (858993459), Cond.constant RJ6 267 (252645135), Cond.methodLink RX2 66 yX2_isIn, Cond.instanceMethod yX2_isIn, Cond.selects RX2 yX2_isIn yX2_isIn, Cond.code yX2_isIn cX2_isIn 2 (some .boolean)]
def wsX2_goOut_r2 : List Cond := [Cond.static yX3_isMember, Cond.initialized RX3, Cond.code yX3_isMember cX3_isMember 2 (some .boolean)]
def wsX2_goOut : List Cond := .code yX2_goOut cX2_goOut 3 (some .int) :: ((wsX2_goOut_r1 ++ wsX2_goOut_r2) ++ wsX20)
def wsX2_giveTo : List Cond := .code yX2_giveTo cX2_giveTo 4 (some .int) :: ([.fieldLink RX2 30 "TownLisp$Town" "count" "I", .fieldLink RX2 15 "TownLisp$Town" "parts" "[I", .methodLink RX2 66 yX2_isIn, .instanceMethod yX2_isIn, .selects RX2 yX2_isIn yX2_isIn, .initialized RX2, .code yX2_isIn cX2_isIn 2 (some .boolean), .fieldLink RX2 41 "TownLisp$Town" "inside" "I", .static yX3_isMember, .initialized RX3, .code yX3_isMember cX3_isMember 2 (some .boolean)] ++ wsX20)
def wsX2_emptyTinFor : List Cond := .code yX2_emptyTinFor cX2_emptyTinFor 3 (some .int) :: ([.fieldLink RX2 38 "TownLisp$Town" "tin" "I", .fieldLink RX2 15 "TownLisp$Town" "parts" "[I"] ++ wsX20)
def wsX2_acts_r1 : List Cond := [Cond.fieldLink RX2 41 "TownLisp$Town" "inside" "I", Cond.fieldLink RX2 38 "TownLisp$Town" "tin" "I", Cond.methodLink RX2 66 yX2_isIn, Cond.instanceMethod yX2_isIn, Cond.selects RX2 yX2_isIn yX2_isIn, Cond.initialized RX2, Cond.code yX2_isIn cX2_isIn 2 (some .boolean), Cond.static yX3_isMember, Cond.initialized RX3, Cond.code yX3_isMember cX3_isMember 2 (some .boolean), Cond.methodLink RX2 73 yX2_shareFrom, Cond.instanceMethod yX2_shareFrom, Cond.selects RX2 yX2_shareFrom yX2_shareFrom, Cond.code yX2_shareFrom cX2_shareFrom 5 (some .int), Cond.fieldLink RX2 30 "TownLisp$Town" "count" "I", Cond.fieldLink RX2 15 "TownLisp$Town" "parts" "[I", Cond.methodLink RX2 89 yX2_partsOf, Cond.instanceMethod yX2_partsOf, Cond.selects RX2 yX2_partsOf yX2_partsOf, Cond.code yX2_partsOf cX2_partsOf 4 (some .int), Cond.methodLink RX2 79 yX2_heads, Cond.instanceMethod yX2_heads, Cond.selects RX2 yX2_heads yX2_heads, Cond.code yX2_heads cX2_heads 1 (some .int)]
def wsX2_acts_r2 : List Cond := [Cond.methodLink RX2 57 yJ6_bitCount_0f7a4, Cond.static yJ6_bitCount_0f7a4, Cond.initialized RJ6, Cond.code yJ6_bitCount_0f7a4 cJ6_bitCount_0f7a4 1 (some .int), Cond.constant RJ6 265 (1431655765), Cond.constant RJ6 266 (858993459), Cond.constant RJ6 267 (252645135), Cond.methodLink RX2 92 yX2_handOut, Cond.instanceMethod yX2_handOut, Cond.selects RX2 yX2_handOut yX2_handOut, Cond.code yX2_handOut cX2_handOut 7 none, Cond.methodLink RX2 76 yX2_goOut, Cond.instanceMethod yX2_goOut, Cond.selects RX2 yX2_goOut yX2_goOut, Cond.code yX2_goOut cX2_goOut 3 (some .int), Cond.methodLink RX2 83 yX2_giveTo, Cond.instanceMethod yX2_giveTo, Cond.selects RX2 yX2_giveTo yX2_giveTo, Cond.code yX2_giveTo cX2_giveTo 4 (some .int), Cond.methodLink RX2 86 yX2_emptyTinFor, Cond.instanceMethod yX2_emptyTinFor, Cond.selects RX2 yX2_emptyTinFor yX2_emptyTinFor, Cond.code yX2_emptyTinFor cX2_emptyTinFor 3 (some .int)]
def wsX2_acts : List Cond := .code yX2_acts cX2_acts 4 (some .int) :: ((wsX2_acts_r1 ++ wsX2_acts_r2) ++ wsX20)
def wsX2_partsBehindGatherings : List Cond := .code yX2_partsBehindGatherings cX2_partsBehindGatherings 5 (some .int) :: ([.fieldLink RX2 15 "TownLisp$Town" "parts" "[I", .fieldLink RX2 30 "TownLisp$Town" "count" "I", .methodLink RX2 21 Lib.Math.min.name, .static Lib.Math.min.name, .initialized "java/lang/Math", .code Lib.Math.min.name Lib.Math.min.code 2 (some .int), .methodLink RX2 66 yX2_isIn, .instanceMethod yX2_isIn, .selects RX2 yX2_isIn yX2_isIn, .initialized RX2, .code yX2_isIn cX2_isIn 2 (some .boolean), .fieldLink RX2 41 "TownLisp$Town" "inside" "I", .static yX3_isMember, .initialized RX3, .code yX3_isMember cX3_isMember 2 (some .boolean)] ++ wsX20)
def wsX2_lackingUpTo : List Cond := .code yX2_lackingUpTo cX2_lackingUpTo 4 (some .int) :: ([.fieldLink RX2 30 "TownLisp$Town" "count" "I", .fieldLink RX2 15 "TownLisp$Town" "parts" "[I", .methodLink RX2 27 Lib.Math.max.name, .static Lib.Math.max.name, .initialized "java/lang/Math", .code Lib.Math.max.name Lib.Math.max.code 2 (some .int), .methodLink RX2 66 yX2_isIn, .instanceMethod yX2_isIn, .selects RX2 yX2_isIn yX2_isIn, .initialized RX2, .code yX2_isIn cX2_isIn 2 (some .boolean), .fieldLink RX2 41 "TownLisp$Town" "inside" "I", .static yX3_isMember, .initialized RX3, .code yX3_isMember cX3_isMember 2 (some .boolean)] ++ wsX20)
def wsX2_partsBehindDay : List Cond := .code yX2_partsBehindDay cX2_partsBehindDay 6 (some .int) :: ([.fieldLink RX2 15 "TownLisp$Town" "parts" "[I", .methodLink RX2 57 yJ6_bitCount_0f7a4, .static yJ6_bitCount_0f7a4, .initialized RJ6, .code yJ6_bitCount_0f7a4 cJ6_bitCount_0f7a4 1 (some .int), .constant RJ6 265 (1431655765), .constant RJ6 266 (858993459), .constant RJ6 267 (252645135), .methodLink RX2 89 yX2_partsOf, .instanceMethod yX2_partsOf, .selects RX2 yX2_partsOf yX2_partsOf, .initialized RX2, .code yX2_partsOf cX2_partsOf 4 (some .int), .fieldLink RX2 30 "TownLisp$Town" "count" "I", .static yX3_isMember, .initialized RX3, .code yX3_isMember cX3_isMember 2 (some .boolean)] ++ wsX20)
def wsX3_init_r1 : List Cond := [Cond.methodLink RX3 3 objectInit, Cond.instanceMethod objectInit, Cond.code objectInit ⟨#[0xb1]⟩ 1 none, Cond.classLink RX3 11 RX1, Cond.fieldLink RX3 13 "TownLisp" "sheets" "[LTownLisp$Sheet;", Cond.classLink RX3 17 RX2, Cond.instantiable RX2 6, Cond.initialized RX2, Cond.fieldLink RX3 20 "TownLisp" "now" "LTownLisp$Town;", Cond.fieldLink RX3 24 "TownLisp" "then" "LTownLisp$Town;", Cond.classLink RX3 27 RX0, Cond.instantiable RX0 4, Cond.initialized RX0, Cond.fieldLink RX3 30 "TownLisp" "said" "LTownLisp$Readings;", Cond.instantiable RX1 4, Cond.initialized RX1, Cond.instanceMethod yX2_init, Cond.code yX2_init cX2_init 1 none, Cond.methodLink RX2 3 objectInit, Cond.arrayClass .int, Cond.fieldLink RX2 9 "TownLisp$Town" "kind" "[I", Cond.fieldLink RX2 15 "TownLisp$Town" "parts" "[I", Cond.fieldLink RX2 18 "TownLisp$Town" "thick" "[I", Cond.instanceMethod yX0_init]
def wsX3_init_r2 : List Cond := [Cond.code yX0_init cX0_init 1 none, Cond.methodLink RX0 3 objectInit, Cond.fieldLink RX0 9 "TownLisp$Readings" "person" "[I", Cond.fieldLink RX0 15 "TownLisp$Readings" "parts" "[I", Cond.fieldLink RX0 18 "TownLisp$Readings" "amount" "[I", Cond.instanceMethod yX1_init, Cond.code yX1_init cX1_init 1 none, Cond.methodLink RX1 3 objectInit, Cond.fieldLink RX1 9 "TownLisp$Sheet" "cells" "[I"]
def wsX3_init : List Cond := .code yX3_init cX3_init 2 none :: ((wsX3_init_r1 ++ wsX3_init_r2) ++ wsX30 ++ wsX20 ++ wsX00 ++ wsX10)
def wsX3_sheetAt : List Cond := .code yX3_sheetAt cX3_sheetAt 2 (some (.object "TownLisp$Sheet")) :: ([.fieldLink RX3 13 "TownLisp" "sheets" "[LTownLisp$Sheet;"] ++ wsX30)
def wsX3_isLane : List Cond := .code yX3_isLane cX3_isLane 1 (some .boolean) :: ([])
def wsX3_faulty : List Cond := .code yX3_faulty cX3_faulty 2 (some .int) :: ([.fieldLink RX3 35 "TownLisp" "latestFault" "I"] ++ wsX30)
def wsX3_isBetween : List Cond := .code yX3_isBetween cX3_isBetween 3 (some .boolean) :: ([])
def wsX3_personGoesOn : List Cond := .code yX3_personGoesOn cX3_personGoesOn 2 (some .boolean) :: ([.methodLink RX3 220 yX3_isBetween, .static yX3_isBetween, .initialized RX3, .code yX3_isBetween cX3_isBetween 3 (some .boolean)])
def wsX3_goesOn : List Cond := .code yX3_goesOn cX3_goesOn 2 (some .boolean) :: ([.methodLink RX3 220 yX3_isBetween, .static yX3_isBetween, .initialized RX3, .code yX3_isBetween cX3_isBetween 3 (some .boolean), .methodLink RX3 224 yX3_personGoesOn, .static yX3_personGoesOn, .code yX3_personGoesOn cX3_personGoesOn 2 (some .boolean)])
def wsX3_firstFaultOf : List Cond := .code yX3_firstFaultOf cX3_firstFaultOf 4 (some .int) :: ([.methodLink RX3 182 yX1_at, .instanceMethod yX1_at, .selects RX1 yX1_at yX1_at, .initialized RX1, .code yX1_at cX1_at 2 (some .int), .fieldLink RX1 9 "TownLisp$Sheet" "cells" "[I", .methodLink RX3 217 yX3_goesOn, .static yX3_goesOn, .initialized RX3, .code yX3_goesOn cX3_goesOn 2 (some .boolean), .methodLink RX3 220 yX3_isBetween, .static yX3_isBetween, .code yX3_isBetween cX3_isBetween 3 (some .boolean), .methodLink RX3 224 yX3_personGoesOn, .static yX3_personGoesOn, .code yX3_personGoesOn cX3_personGoesOn 2 (some .boolean)] ++ wsX10)
def wsX3_town_r1 : List Cond := [Cond.fieldLink RX3 35 "TownLisp" "latestFault" "I", Cond.fieldLink RX3 20 "TownLisp" "now" "LTownLisp$Town;", Cond.fieldLink RX3 30 "TownLisp" "said" "LTownLisp$Readings;", Cond.fieldLink RX3 63 "TownLisp$Readings" "count" "I", Cond.fieldLink RX3 66 "TownLisp" "daysGone" "I", Cond.fieldLink RX3 69 "TownLisp$Town" "count" "I", Cond.methodLink RX3 39 yX3_sheetAt, Cond.instanceMethod yX3_sheetAt, Cond.selects RX3 yX3_sheetAt yX3_sheetAt, Cond.initialized RX3, Cond.code yX3_sheetAt cX3_sheetAt 2 (some (.object "TownLisp$Sheet")), Cond.fieldLink RX3 13 "TownLisp" "sheets" "[LTownLisp$Sheet;", Cond.methodLink RX3 43 yX3_isLane, Cond.static yX3_isLane, Cond.code yX3_isLane cX3_isLane 1 (some .boolean), Cond.methodLink RX3 47 yX1_faultOf, Cond.instanceMethod yX1_faultOf, Cond.selects RX1 yX1_faultOf yX1_faultOf, Cond.initialized RX1, Cond.code yX1_faultOf cX1_faultOf 4 (some .int), Cond.fieldLink RX1 31 "TownLisp$Sheet" "held" "Z", Cond.fieldLink RX1 15 "TownLisp$Sheet" "lane" "I", Cond.methodLink RX1 35 yX1_spans, Cond.instanceMethod yX1_spans]
def wsX3_town_r2 : List Cond := [Cond.selects RX1 yX1_spans yX1_spans, Cond.code yX1_spans cX1_spans 3 (some .boolean), Cond.fieldLink RX1 28 "TownLisp$Sheet" "length" "I", Cond.methodLink RX3 51 yX3_faulty, Cond.instanceMethod yX3_faulty, Cond.selects RX3 yX3_faulty yX3_faulty, Cond.code yX3_faulty cX3_faulty 2 (some .int), Cond.methodLink RX3 55 yX3_firstFaultOf, Cond.static yX3_firstFaultOf, Cond.code yX3_firstFaultOf cX3_firstFaultOf 4 (some .int), Cond.methodLink RX3 182 yX1_at, Cond.instanceMethod yX1_at, Cond.selects RX1 yX1_at yX1_at, Cond.code yX1_at cX1_at 2 (some .int), Cond.fieldLink RX1 9 "TownLisp$Sheet" "cells" "[I", Cond.methodLink RX3 217 yX3_goesOn, Cond.static yX3_goesOn, Cond.code yX3_goesOn cX3_goesOn 2 (some .boolean), Cond.methodLink RX3 220 yX3_isBetween, Cond.static yX3_isBetween, Cond.code yX3_isBetween cX3_isBetween 3 (some .boolean), Cond.methodLink RX3 224 yX3_personGoesOn, Cond.static yX3_personGoesOn, Cond.code yX3_personGoesOn cX3_personGoesOn 2 (some .boolean)]
def wsX3_town_r3 : List Cond := [Cond.methodLink RX3 59 yX2_become, Cond.instanceMethod yX2_become, Cond.selects RX2 yX2_become yX2_become, Cond.initialized RX2, Cond.code yX2_become cX2_become 6 none, Cond.methodLink RX2 21 Lib.Math.min.name, Cond.static Lib.Math.min.name, Cond.initialized "java/lang/Math", Cond.code Lib.Math.min.name Lib.Math.min.code 2 (some .int), Cond.methodLink RX2 27 Lib.Math.max.name, Cond.static Lib.Math.max.name, Cond.code Lib.Math.max.name Lib.Math.max.code 2 (some .int), Cond.fieldLink RX2 30 "TownLisp$Town" "count" "I", Cond.fieldLink RX2 38 "TownLisp$Town" "tin" "I", Cond.fieldLink RX2 41 "TownLisp$Town" "inside" "I", Cond.fieldLink RX2 9 "TownLisp$Town" "kind" "[I", Cond.fieldLink RX2 15 "TownLisp$Town" "parts" "[I", Cond.fieldLink RX2 18 "TownLisp$Town" "thick" "[I", Cond.methodLink RX2 34 yX2_twoDigits, Cond.static yX2_twoDigits, Cond.code yX2_twoDigits cX2_twoDigits 2 (some .int), Cond.methodLink RX2 44 yX1_at, Cond.methodLink RX2 50 yX2_kindOf, Cond.static yX2_kindOf]
def wsX3_town_r4 : List Cond := [Cond.code yX2_kindOf cX2_kindOf 1 (some .int)]
def wsX3_town : List Cond := .code yX3_town cX3_town 8 (some .int) :: ((wsX3_town_r1 ++ (wsX3_town_r2 ++ (wsX3_town_r3 ++ wsX3_town_r4))) ++ wsX30 ++ wsX00 ++ wsX20 ++ wsX10)
def wsX3_ofPerson_r1 : List Cond := [Cond.fieldLink RX3 20 "TownLisp" "now" "LTownLisp$Town;", Cond.fieldLink RX3 73 "TownLisp$Town" "kind" "[I", Cond.fieldLink RX3 77 "TownLisp$Town" "parts" "[I", Cond.fieldLink RX3 80 "TownLisp$Town" "thick" "[I", Cond.methodLink RX3 70 yX2_has, Cond.instanceMethod yX2_has, Cond.selects RX2 yX2_has yX2_has, Cond.initialized RX2, Cond.code yX2_has cX2_has 2 (some .boolean), Cond.fieldLink RX2 30 "TownLisp$Town" "count" "I", Cond.methodLink RX3 83 yX2_isIn, Cond.instanceMethod yX2_isIn, Cond.selects RX2 yX2_isIn yX2_isIn, Cond.code yX2_isIn cX2_isIn 2 (some .boolean), Cond.fieldLink RX2 41 "TownLisp$Town" "inside" "I", Cond.static yX3_isMember, Cond.initialized RX3, Cond.code yX3_isMember cX3_isMember 2 (some .boolean), Cond.methodLink RX3 86 yX2_saysNow, Cond.instanceMethod yX2_saysNow, Cond.selects RX2 yX2_saysNow yX2_saysNow, Cond.code yX2_saysNow cX2_saysNow 2 (some .int), Cond.fieldLink RX2 9 "TownLisp$Town" "kind" "[I", Cond.fieldLink RX2 15 "TownLisp$Town" "parts" "[I"]
def wsX3_ofPerson_r2 : List Cond := [Cond.fieldLink RX2 18 "TownLisp$Town" "thick" "[I", Cond.static yX3_says, Cond.code yX3_says cX3_says 4 (some .int), Cond.methodLink RX3 212 Lib.Math.max.name, Cond.static Lib.Math.max.name, Cond.initialized "java/lang/Math", Cond.code Lib.Math.max.name Lib.Math.max.code 2 (some .int)]
def wsX3_ofPerson : List Cond := .code yX3_ofPerson cX3_ofPerson 3 (some .int) :: ((wsX3_ofPerson_r1 ++ wsX3_ofPerson_r2) ++ wsX30 ++ wsX20)
def wsX3_tune : List Cond := .code yX3_tune cX3_tune 4 (some .int) :: ([.fieldLink RX3 20 "TownLisp" "now" "LTownLisp$Town;", .fieldLink RX3 80 "TownLisp$Town" "thick" "[I", .methodLink RX3 70 yX2_has, .instanceMethod yX2_has, .selects RX2 yX2_has yX2_has, .initialized RX2, .code yX2_has cX2_has 2 (some .boolean), .fieldLink RX2 30 "TownLisp$Town" "count" "I"] ++ wsX30 ++ wsX20)
def wsX3_heard_r1 : List Cond := [Cond.fieldLink RX3 20 "TownLisp" "now" "LTownLisp$Town;", Cond.fieldLink RX3 69 "TownLisp$Town" "count" "I", Cond.fieldLink RX3 93 "TownLisp$Town" "inside" "I", Cond.methodLink RX3 89 yX2_allSay, Cond.instanceMethod yX2_allSay, Cond.selects RX2 yX2_allSay yX2_allSay, Cond.initialized RX2, Cond.code yX2_allSay cX2_allSay 3 (some .int), Cond.fieldLink RX2 30 "TownLisp$Town" "count" "I", Cond.methodLink RX2 66 yX2_isIn, Cond.instanceMethod yX2_isIn, Cond.selects RX2 yX2_isIn yX2_isIn, Cond.code yX2_isIn cX2_isIn 2 (some .boolean), Cond.fieldLink RX2 41 "TownLisp$Town" "inside" "I", Cond.static yX3_isMember, Cond.initialized RX3, Cond.code yX3_isMember cX3_isMember 2 (some .boolean), Cond.methodLink RX2 70 yX2_saysNow, Cond.instanceMethod yX2_saysNow, Cond.selects RX2 yX2_saysNow yX2_saysNow, Cond.code yX2_saysNow cX2_saysNow 2 (some .int), Cond.fieldLink RX2 9 "TownLisp$Town" "kind" "[I", Cond.fieldLink RX2 15 "TownLisp$Town" "parts" "[I", Cond.fieldLink RX2 18 "TownLisp$Town" "thick" "[I"]
def wsX3_heard_r2 : List Cond := [Cond.static yX3_says, Cond.code yX3_says cX3_says 4 (some .int), Cond.methodLink RX3 212 Lib.Math.max.name, Cond.static Lib.Math.max.name, Cond.initialized "java/lang/Math", Cond.code Lib.Math.max.name Lib.Math.max.code 2 (some .int), Cond.methodLink RX3 96 yX2_partsOf, Cond.instanceMethod yX2_partsOf, Cond.selects RX2 yX2_partsOf yX2_partsOf, Cond.code yX2_partsOf cX2_partsOf 4 (some .int)]
def wsX3_heard : List Cond := .code yX3_heard cX3_heard 2 (some .int) :: ((wsX3_heard_r1 ++ wsX3_heard_r2) ++ wsX30 ++ wsX20)
def wsX3_act_r1 : List Cond := [Cond.fieldLink RX3 20 "TownLisp" "now" "LTownLisp$Town;", Cond.methodLink RX3 70 yX2_has, Cond.instanceMethod yX2_has, Cond.selects RX2 yX2_has yX2_has, Cond.initialized RX2, Cond.code yX2_has cX2_has 2 (some .boolean), Cond.fieldLink RX2 30 "TownLisp$Town" "count" "I", Cond.methodLink RX3 227 yX2_acts, Cond.instanceMethod yX2_acts, Cond.selects RX2 yX2_acts yX2_acts, Cond.code yX2_acts cX2_acts 4 (some .int), Cond.fieldLink RX2 41 "TownLisp$Town" "inside" "I", Cond.fieldLink RX2 38 "TownLisp$Town" "tin" "I", Cond.methodLink RX2 66 yX2_isIn, Cond.instanceMethod yX2_isIn, Cond.selects RX2 yX2_isIn yX2_isIn, Cond.code yX2_isIn cX2_isIn 2 (some .boolean), Cond.static yX3_isMember, Cond.initialized RX3, Cond.code yX3_isMember cX3_isMember 2 (some .boolean), Cond.methodLink RX2 73 yX2_shareFrom, Cond.instanceMethod yX2_shareFrom, Cond.selects RX2 yX2_shareFrom yX2_shareFrom, Cond.code yX2_shareFrom cX2_shareFrom 5 (some .int)]
def wsX3_act_r2 : List Cond := [Cond.fieldLink RX2 15 "TownLisp$Town" "parts" "[I", Cond.methodLink RX2 89 yX2_partsOf, Cond.instanceMethod yX2_partsOf, Cond.selects RX2 yX2_partsOf yX2_partsOf, Cond.code yX2_partsOf cX2_partsOf 4 (some .int), Cond.methodLink RX2 79 yX2_heads, Cond.instanceMethod yX2_heads, Cond.selects RX2 yX2_heads yX2_heads, Cond.code yX2_heads cX2_heads 1 (some .int), Cond.methodLink RX2 57 yJ6_bitCount_0f7a4, Cond.static yJ6_bitCount_0f7a4, Cond.initialized RJ6, Cond.code yJ6_bitCount_0f7a4 cJ6_bitCount_0f7a4 1 (some .int), Cond.constant RJ6 265 (1431655765), Cond.constant RJ6 266 (858993459), Cond.constant RJ6 267 (252645135), Cond.methodLink RX2 92 yX2_handOut, Cond.instanceMethod yX2_handOut, Cond.selects RX2 yX2_handOut yX2_handOut, Cond.code yX2_handOut cX2_handOut 7 none, Cond.methodLink RX2 76 yX2_goOut, Cond.instanceMethod yX2_goOut, Cond.selects RX2 yX2_goOut yX2_goOut, Cond.code yX2_goOut cX2_goOut 3 (some .int)]
def wsX3_act_r3 : List Cond := [Cond.methodLink RX2 83 yX2_giveTo, Cond.instanceMethod yX2_giveTo, Cond.selects RX2 yX2_giveTo yX2_giveTo, Cond.code yX2_giveTo cX2_giveTo 4 (some .int), Cond.methodLink RX2 86 yX2_emptyTinFor, Cond.instanceMethod yX2_emptyTinFor, Cond.selects RX2 yX2_emptyTinFor yX2_emptyTinFor, Cond.code yX2_emptyTinFor cX2_emptyTinFor 3 (some .int)]
def wsX3_act : List Cond := .code yX3_act cX3_act 3 (some .int) :: ((wsX3_act_r1 ++ (wsX3_act_r2 ++ wsX3_act_r3)) ++ wsX30 ++ wsX20)
def wsX3_day_r1 : List Cond := [Cond.fieldLink RX3 66 "TownLisp" "daysGone" "I", Cond.methodLink RX3 99 yX3_act, Cond.instanceMethod yX3_act, Cond.selects RX3 yX3_act yX3_act, Cond.initialized RX3, Cond.code yX3_act cX3_act 3 (some .int), Cond.fieldLink RX3 20 "TownLisp" "now" "LTownLisp$Town;", Cond.methodLink RX3 70 yX2_has, Cond.instanceMethod yX2_has, Cond.selects RX2 yX2_has yX2_has, Cond.initialized RX2, Cond.code yX2_has cX2_has 2 (some .boolean), Cond.fieldLink RX2 30 "TownLisp$Town" "count" "I", Cond.methodLink RX3 227 yX2_acts, Cond.instanceMethod yX2_acts, Cond.selects RX2 yX2_acts yX2_acts, Cond.code yX2_acts cX2_acts 4 (some .int), Cond.fieldLink RX2 41 "TownLisp$Town" "inside" "I", Cond.fieldLink RX2 38 "TownLisp$Town" "tin" "I", Cond.methodLink RX2 66 yX2_isIn, Cond.instanceMethod yX2_isIn, Cond.selects RX2 yX2_isIn yX2_isIn, Cond.code yX2_isIn cX2_isIn 2 (some .boolean), Cond.static yX3_isMember]
def wsX3_day_r2 : List Cond := [Cond.code yX3_isMember cX3_isMember 2 (some .boolean), Cond.methodLink RX2 73 yX2_shareFrom, Cond.instanceMethod yX2_shareFrom, Cond.selects RX2 yX2_shareFrom yX2_shareFrom, Cond.code yX2_shareFrom cX2_shareFrom 5 (some .int), Cond.fieldLink RX2 15 "TownLisp$Town" "parts" "[I", Cond.methodLink RX2 89 yX2_partsOf, Cond.instanceMethod yX2_partsOf, Cond.selects RX2 yX2_partsOf yX2_partsOf, Cond.code yX2_partsOf cX2_partsOf 4 (some .int), Cond.methodLink RX2 79 yX2_heads, Cond.instanceMethod yX2_heads, Cond.selects RX2 yX2_heads yX2_heads, Cond.code yX2_heads cX2_heads 1 (some .int), Cond.methodLink RX2 57 yJ6_bitCount_0f7a4, Cond.static yJ6_bitCount_0f7a4, Cond.initialized RJ6, Cond.code yJ6_bitCount_0f7a4 cJ6_bitCount_0f7a4 1 (some .int), Cond.constant RJ6 265 (1431655765), Cond.constant RJ6 266 (858993459), Cond.constant RJ6 267 (252645135), Cond.methodLink RX2 92 yX2_handOut, Cond.instanceMethod yX2_handOut, Cond.selects RX2 yX2_handOut yX2_handOut]
def wsX3_day_r3 : List Cond := [Cond.code yX2_handOut cX2_handOut 7 none, Cond.methodLink RX2 76 yX2_goOut, Cond.instanceMethod yX2_goOut, Cond.selects RX2 yX2_goOut yX2_goOut, Cond.code yX2_goOut cX2_goOut 3 (some .int), Cond.methodLink RX2 83 yX2_giveTo, Cond.instanceMethod yX2_giveTo, Cond.selects RX2 yX2_giveTo yX2_giveTo, Cond.code yX2_giveTo cX2_giveTo 4 (some .int), Cond.methodLink RX2 86 yX2_emptyTinFor, Cond.instanceMethod yX2_emptyTinFor, Cond.selects RX2 yX2_emptyTinFor yX2_emptyTinFor, Cond.code yX2_emptyTinFor cX2_emptyTinFor 3 (some .int)]
def wsX3_day : List Cond := .code yX3_day cX3_day 3 (some .int) :: ((wsX3_day_r1 ++ (wsX3_day_r2 ++ wsX3_day_r3)) ++ wsX30 ++ wsX20)
def wsX3_leave_r1 : List Cond := [Cond.methodLink RX3 99 yX3_act, Cond.instanceMethod yX3_act, Cond.selects RX3 yX3_act yX3_act, Cond.initialized RX3, Cond.code yX3_act cX3_act 3 (some .int), Cond.fieldLink RX3 20 "TownLisp" "now" "LTownLisp$Town;", Cond.methodLink RX3 70 yX2_has, Cond.instanceMethod yX2_has, Cond.selects RX2 yX2_has yX2_has, Cond.initialized RX2, Cond.code yX2_has cX2_has 2 (some .boolean), Cond.fieldLink RX2 30 "TownLisp$Town" "count" "I", Cond.methodLink RX3 227 yX2_acts, Cond.instanceMethod yX2_acts, Cond.selects RX2 yX2_acts yX2_acts, Cond.code yX2_acts cX2_acts 4 (some .int), Cond.fieldLink RX2 41 "TownLisp$Town" "inside" "I", Cond.fieldLink RX2 38 "TownLisp$Town" "tin" "I", Cond.methodLink RX2 66 yX2_isIn, Cond.instanceMethod yX2_isIn, Cond.selects RX2 yX2_isIn yX2_isIn, Cond.code yX2_isIn cX2_isIn 2 (some .boolean), Cond.static yX3_isMember, Cond.code yX3_isMember cX3_isMember 2 (some .boolean)]
def wsX3_leave_r2 : List Cond := [Cond.methodLink RX2 73 yX2_shareFrom, Cond.instanceMethod yX2_shareFrom, Cond.selects RX2 yX2_shareFrom yX2_shareFrom, Cond.code yX2_shareFrom cX2_shareFrom 5 (some .int), Cond.fieldLink RX2 15 "TownLisp$Town" "parts" "[I", Cond.methodLink RX2 89 yX2_partsOf, Cond.instanceMethod yX2_partsOf, Cond.selects RX2 yX2_partsOf yX2_partsOf, Cond.code yX2_partsOf cX2_partsOf 4 (some .int), Cond.methodLink RX2 79 yX2_heads, Cond.instanceMethod yX2_heads, Cond.selects RX2 yX2_heads yX2_heads, Cond.code yX2_heads cX2_heads 1 (some .int), Cond.methodLink RX2 57 yJ6_bitCount_0f7a4, Cond.static yJ6_bitCount_0f7a4, Cond.initialized RJ6, Cond.code yJ6_bitCount_0f7a4 cJ6_bitCount_0f7a4 1 (some .int), Cond.constant RJ6 265 (1431655765), Cond.constant RJ6 266 (858993459), Cond.constant RJ6 267 (252645135), Cond.methodLink RX2 92 yX2_handOut, Cond.instanceMethod yX2_handOut, Cond.selects RX2 yX2_handOut yX2_handOut, Cond.code yX2_handOut cX2_handOut 7 none]
def wsX3_leave_r3 : List Cond := [Cond.methodLink RX2 76 yX2_goOut, Cond.instanceMethod yX2_goOut, Cond.selects RX2 yX2_goOut yX2_goOut, Cond.code yX2_goOut cX2_goOut 3 (some .int), Cond.methodLink RX2 83 yX2_giveTo, Cond.instanceMethod yX2_giveTo, Cond.selects RX2 yX2_giveTo yX2_giveTo, Cond.code yX2_giveTo cX2_giveTo 4 (some .int), Cond.methodLink RX2 86 yX2_emptyTinFor, Cond.instanceMethod yX2_emptyTinFor, Cond.selects RX2 yX2_emptyTinFor yX2_emptyTinFor, Cond.code yX2_emptyTinFor cX2_emptyTinFor 3 (some .int)]
def wsX3_leave : List Cond := .code yX3_leave cX3_leave 2 (some .int) :: ((wsX3_leave_r1 ++ (wsX3_leave_r2 ++ wsX3_leave_r3)) ++ wsX30 ++ wsX20)
def wsX3_come_r1 : List Cond := [Cond.methodLink RX3 99 yX3_act, Cond.instanceMethod yX3_act, Cond.selects RX3 yX3_act yX3_act, Cond.initialized RX3, Cond.code yX3_act cX3_act 3 (some .int), Cond.fieldLink RX3 20 "TownLisp" "now" "LTownLisp$Town;", Cond.methodLink RX3 70 yX2_has, Cond.instanceMethod yX2_has, Cond.selects RX2 yX2_has yX2_has, Cond.initialized RX2, Cond.code yX2_has cX2_has 2 (some .boolean), Cond.fieldLink RX2 30 "TownLisp$Town" "count" "I", Cond.methodLink RX3 227 yX2_acts, Cond.instanceMethod yX2_acts, Cond.selects RX2 yX2_acts yX2_acts, Cond.code yX2_acts cX2_acts 4 (some .int), Cond.fieldLink RX2 41 "TownLisp$Town" "inside" "I", Cond.fieldLink RX2 38 "TownLisp$Town" "tin" "I", Cond.methodLink RX2 66 yX2_isIn, Cond.instanceMethod yX2_isIn, Cond.selects RX2 yX2_isIn yX2_isIn, Cond.code yX2_isIn cX2_isIn 2 (some .boolean), Cond.static yX3_isMember, Cond.code yX3_isMember cX3_isMember 2 (some .boolean)]
def wsX3_come_r2 : List Cond := [Cond.methodLink RX2 73 yX2_shareFrom, Cond.instanceMethod yX2_shareFrom, Cond.selects RX2 yX2_shareFrom yX2_shareFrom, Cond.code yX2_shareFrom cX2_shareFrom 5 (some .int), Cond.fieldLink RX2 15 "TownLisp$Town" "parts" "[I", Cond.methodLink RX2 89 yX2_partsOf, Cond.instanceMethod yX2_partsOf, Cond.selects RX2 yX2_partsOf yX2_partsOf, Cond.code yX2_partsOf cX2_partsOf 4 (some .int), Cond.methodLink RX2 79 yX2_heads, Cond.instanceMethod yX2_heads, Cond.selects RX2 yX2_heads yX2_heads, Cond.code yX2_heads cX2_heads 1 (some .int), Cond.methodLink RX2 57 yJ6_bitCount_0f7a4, Cond.static yJ6_bitCount_0f7a4, Cond.initialized RJ6, Cond.code yJ6_bitCount_0f7a4 cJ6_bitCount_0f7a4 1 (some .int), Cond.constant RJ6 265 (1431655765), Cond.constant RJ6 266 (858993459), Cond.constant RJ6 267 (252645135), Cond.methodLink RX2 92 yX2_handOut, Cond.instanceMethod yX2_handOut, Cond.selects RX2 yX2_handOut yX2_handOut, Cond.code yX2_handOut cX2_handOut 7 none]
def wsX3_come_r3 : List Cond := [Cond.methodLink RX2 76 yX2_goOut, Cond.instanceMethod yX2_goOut, Cond.selects RX2 yX2_goOut yX2_goOut, Cond.code yX2_goOut cX2_goOut 3 (some .int), Cond.methodLink RX2 83 yX2_giveTo, Cond.instanceMethod yX2_giveTo, Cond.selects RX2 yX2_giveTo yX2_giveTo, Cond.code yX2_giveTo cX2_giveTo 4 (some .int), Cond.methodLink RX2 86 yX2_emptyTinFor, Cond.instanceMethod yX2_emptyTinFor, Cond.selects RX2 yX2_emptyTinFor yX2_emptyTinFor, Cond.code yX2_emptyTinFor cX2_emptyTinFor 3 (some .int)]
def wsX3_come : List Cond := .code yX3_come cX3_come 2 (some .int) :: ((wsX3_come_r1 ++ (wsX3_come_r2 ++ wsX3_come_r3)) ++ wsX30 ++ wsX20)
def wsX3_gather_r1 : List Cond := [Cond.methodLink RX3 99 yX3_act, Cond.instanceMethod yX3_act, Cond.selects RX3 yX3_act yX3_act, Cond.initialized RX3, Cond.code yX3_act cX3_act 3 (some .int), Cond.fieldLink RX3 20 "TownLisp" "now" "LTownLisp$Town;", Cond.methodLink RX3 70 yX2_has, Cond.instanceMethod yX2_has, Cond.selects RX2 yX2_has yX2_has, Cond.initialized RX2, Cond.code yX2_has cX2_has 2 (some .boolean), Cond.fieldLink RX2 30 "TownLisp$Town" "count" "I", Cond.methodLink RX3 227 yX2_acts, Cond.instanceMethod yX2_acts, Cond.selects RX2 yX2_acts yX2_acts, Cond.code yX2_acts cX2_acts 4 (some .int), Cond.fieldLink RX2 41 "TownLisp$Town" "inside" "I", Cond.fieldLink RX2 38 "TownLisp$Town" "tin" "I", Cond.methodLink RX2 66 yX2_isIn, Cond.instanceMethod yX2_isIn, Cond.selects RX2 yX2_isIn yX2_isIn, Cond.code yX2_isIn cX2_isIn 2 (some .boolean), Cond.static yX3_isMember, Cond.code yX3_isMember cX3_isMember 2 (some .boolean)]
def wsX3_gather_r2 : List Cond := [Cond.methodLink RX2 73 yX2_shareFrom, Cond.instanceMethod yX2_shareFrom, Cond.selects RX2 yX2_shareFrom yX2_shareFrom, Cond.code yX2_shareFrom cX2_shareFrom 5 (some .int), Cond.fieldLink RX2 15 "TownLisp$Town" "parts" "[I", Cond.methodLink RX2 89 yX2_partsOf, Cond.instanceMethod yX2_partsOf, Cond.selects RX2 yX2_partsOf yX2_partsOf, Cond.code yX2_partsOf cX2_partsOf 4 (some .int), Cond.methodLink RX2 79 yX2_heads, Cond.instanceMethod yX2_heads, Cond.selects RX2 yX2_heads yX2_heads, Cond.code yX2_heads cX2_heads 1 (some .int), Cond.methodLink RX2 57 yJ6_bitCount_0f7a4, Cond.static yJ6_bitCount_0f7a4, Cond.initialized RJ6, Cond.code yJ6_bitCount_0f7a4 cJ6_bitCount_0f7a4 1 (some .int), Cond.constant RJ6 265 (1431655765), Cond.constant RJ6 266 (858993459), Cond.constant RJ6 267 (252645135), Cond.methodLink RX2 92 yX2_handOut, Cond.instanceMethod yX2_handOut, Cond.selects RX2 yX2_handOut yX2_handOut, Cond.code yX2_handOut cX2_handOut 7 none]
def wsX3_gather_r3 : List Cond := [Cond.methodLink RX2 76 yX2_goOut, Cond.instanceMethod yX2_goOut, Cond.selects RX2 yX2_goOut yX2_goOut, Cond.code yX2_goOut cX2_goOut 3 (some .int), Cond.methodLink RX2 83 yX2_giveTo, Cond.instanceMethod yX2_giveTo, Cond.selects RX2 yX2_giveTo yX2_giveTo, Cond.code yX2_giveTo cX2_giveTo 4 (some .int), Cond.methodLink RX2 86 yX2_emptyTinFor, Cond.instanceMethod yX2_emptyTinFor, Cond.selects RX2 yX2_emptyTinFor yX2_emptyTinFor, Cond.code yX2_emptyTinFor cX2_emptyTinFor 3 (some .int)]
def wsX3_gather : List Cond := .code yX3_gather cX3_gather 2 (some .int) :: ((wsX3_gather_r1 ++ (wsX3_gather_r2 ++ wsX3_gather_r3)) ++ wsX30 ++ wsX20)
def wsX3_pack : List Cond := .code yX3_pack cX3_pack 3 (some .int) :: ([.fieldLink RX3 20 "TownLisp" "now" "LTownLisp$Town;", .fieldLink RX3 77 "TownLisp$Town" "parts" "[I", .fieldLink RX3 103 "TownLisp$Town" "tin" "I", .methodLink RX3 70 yX2_has, .instanceMethod yX2_has, .selects RX2 yX2_has yX2_has, .initialized RX2, .code yX2_has cX2_has 2 (some .boolean), .fieldLink RX2 30 "TownLisp$Town" "count" "I"] ++ wsX30 ++ wsX20)
def wsX3_open_r1 : List Cond := [Cond.methodLink RX3 99 yX3_act, Cond.instanceMethod yX3_act, Cond.selects RX3 yX3_act yX3_act, Cond.initialized RX3, Cond.code yX3_act cX3_act 3 (some .int), Cond.fieldLink RX3 20 "TownLisp" "now" "LTownLisp$Town;", Cond.methodLink RX3 70 yX2_has, Cond.instanceMethod yX2_has, Cond.selects RX2 yX2_has yX2_has, Cond.initialized RX2, Cond.code yX2_has cX2_has 2 (some .boolean), Cond.fieldLink RX2 30 "TownLisp$Town" "count" "I", Cond.methodLink RX3 227 yX2_acts, Cond.instanceMethod yX2_acts, Cond.selects RX2 yX2_acts yX2_acts, Cond.code yX2_acts cX2_acts 4 (some .int), Cond.fieldLink RX2 41 "TownLisp$Town" "inside" "I", Cond.fieldLink RX2 38 "TownLisp$Town" "tin" "I", Cond.methodLink RX2 66 yX2_isIn, Cond.instanceMethod yX2_isIn, Cond.selects RX2 yX2_isIn yX2_isIn, Cond.code yX2_isIn cX2_isIn 2 (some .boolean), Cond.static yX3_isMember, Cond.code yX3_isMember cX3_isMember 2 (some .boolean)]
def wsX3_open_r2 : List Cond := [Cond.methodLink RX2 73 yX2_shareFrom, Cond.instanceMethod yX2_shareFrom, Cond.selects RX2 yX2_shareFrom yX2_shareFrom, Cond.code yX2_shareFrom cX2_shareFrom 5 (some .int), Cond.fieldLink RX2 15 "TownLisp$Town" "parts" "[I", Cond.methodLink RX2 89 yX2_partsOf, Cond.instanceMethod yX2_partsOf, Cond.selects RX2 yX2_partsOf yX2_partsOf, Cond.code yX2_partsOf cX2_partsOf 4 (some .int), Cond.methodLink RX2 79 yX2_heads, Cond.instanceMethod yX2_heads, Cond.selects RX2 yX2_heads yX2_heads, Cond.code yX2_heads cX2_heads 1 (some .int), Cond.methodLink RX2 57 yJ6_bitCount_0f7a4, Cond.static yJ6_bitCount_0f7a4, Cond.initialized RJ6, Cond.code yJ6_bitCount_0f7a4 cJ6_bitCount_0f7a4 1 (some .int), Cond.constant RJ6 265 (1431655765), Cond.constant RJ6 266 (858993459), Cond.constant RJ6 267 (252645135), Cond.methodLink RX2 92 yX2_handOut, Cond.instanceMethod yX2_handOut, Cond.selects RX2 yX2_handOut yX2_handOut, Cond.code yX2_handOut cX2_handOut 7 none]
def wsX3_open_r3 : List Cond := [Cond.methodLink RX2 76 yX2_goOut, Cond.instanceMethod yX2_goOut, Cond.selects RX2 yX2_goOut yX2_goOut, Cond.code yX2_goOut cX2_goOut 3 (some .int), Cond.methodLink RX2 83 yX2_giveTo, Cond.instanceMethod yX2_giveTo, Cond.selects RX2 yX2_giveTo yX2_giveTo, Cond.code yX2_giveTo cX2_giveTo 4 (some .int), Cond.methodLink RX2 86 yX2_emptyTinFor, Cond.instanceMethod yX2_emptyTinFor, Cond.selects RX2 yX2_emptyTinFor yX2_emptyTinFor, Cond.code yX2_emptyTinFor cX2_emptyTinFor 3 (some .int)]
def wsX3_open : List Cond := .code yX3_open cX3_open 2 (some .int) :: ((wsX3_open_r1 ++ (wsX3_open_r2 ++ wsX3_open_r3)) ++ wsX30 ++ wsX20)
def wsX3_isAskedOfYear : List Cond := .code yX3_isAskedOfYear cX3_isAskedOfYear 1 (some .boolean) :: ([])
def wsX3_refusalOfPairs : List Cond := .code yX3_refusalOfPairs cX3_refusalOfPairs 5 (some .int) :: ([.fieldLink RX3 20 "TownLisp" "now" "LTownLisp$Town;", .methodLink RX3 182 yX1_at, .instanceMethod yX1_at, .selects RX1 yX1_at yX1_at, .initialized RX1, .code yX1_at cX1_at 2 (some .int), .fieldLink RX1 9 "TownLisp$Sheet" "cells" "[I", .methodLink RX3 70 yX2_has, .instanceMethod yX2_has, .selects RX2 yX2_has yX2_has, .initialized RX2, .code yX2_has cX2_has 2 (some .boolean), .fieldLink RX2 30 "TownLisp$Town" "count" "I", .methodLink RX3 220 yX3_isBetween, .static yX3_isBetween, .initialized RX3, .code yX3_isBetween cX3_isBetween 3 (some .boolean)] ++ wsX30 ++ wsX10 ++ wsX20)
def wsX3_firstWrongOf_r1 : List Cond := [Cond.fieldLink RX3 24 "TownLisp" "then" "LTownLisp$Town;", Cond.fieldLink RX3 20 "TownLisp" "now" "LTownLisp$Town;", Cond.methodLink RX3 230 yX2_becomeLike, Cond.instanceMethod yX2_becomeLike, Cond.selects RX2 yX2_becomeLike yX2_becomeLike, Cond.initialized RX2, Cond.code yX2_becomeLike cX2_becomeLike 3 none, Cond.fieldLink RX2 30 "TownLisp$Town" "count" "I", Cond.fieldLink RX2 41 "TownLisp$Town" "inside" "I", Cond.fieldLink RX2 38 "TownLisp$Town" "tin" "I", Cond.fieldLink RX2 9 "TownLisp$Town" "kind" "[I", Cond.fieldLink RX2 15 "TownLisp$Town" "parts" "[I", Cond.fieldLink RX2 18 "TownLisp$Town" "thick" "[I", Cond.methodLink RX3 182 yX1_at, Cond.instanceMethod yX1_at, Cond.selects RX1 yX1_at yX1_at, Cond.initialized RX1, Cond.code yX1_at cX1_at 2 (some .int), Cond.fieldLink RX1 9 "TownLisp$Sheet" "cells" "[I", Cond.methodLink RX3 227 yX2_acts, Cond.instanceMethod yX2_acts, Cond.selects RX2 yX2_acts yX2_acts, Cond.code yX2_acts cX2_acts 4 (some .int), Cond.methodLink RX2 66 yX2_isIn]
def wsX3_firstWrongOf_r2 : List Cond := [Cond.instanceMethod yX2_isIn, Cond.selects RX2 yX2_isIn yX2_isIn, Cond.code yX2_isIn cX2_isIn 2 (some .boolean), Cond.static yX3_isMember, Cond.initialized RX3, Cond.code yX3_isMember cX3_isMember 2 (some .boolean), Cond.methodLink RX2 73 yX2_shareFrom, Cond.instanceMethod yX2_shareFrom, Cond.selects RX2 yX2_shareFrom yX2_shareFrom, Cond.code yX2_shareFrom cX2_shareFrom 5 (some .int), Cond.methodLink RX2 89 yX2_partsOf, Cond.instanceMethod yX2_partsOf, Cond.selects RX2 yX2_partsOf yX2_partsOf, Cond.code yX2_partsOf cX2_partsOf 4 (some .int), Cond.methodLink RX2 79 yX2_heads, Cond.instanceMethod yX2_heads, Cond.selects RX2 yX2_heads yX2_heads, Cond.code yX2_heads cX2_heads 1 (some .int), Cond.methodLink RX2 57 yJ6_bitCount_0f7a4, Cond.static yJ6_bitCount_0f7a4, Cond.initialized RJ6, Cond.code yJ6_bitCount_0f7a4 cJ6_bitCount_0f7a4 1 (some .int), Cond.constant RJ6 265 (1431655765), Cond.constant RJ6 266 (858993459)]
def wsX3_firstWrongOf_r3 : List Cond := [Cond.constant RJ6 267 (252645135), Cond.methodLink RX2 92 yX2_handOut, Cond.instanceMethod yX2_handOut, Cond.selects RX2 yX2_handOut yX2_handOut, Cond.code yX2_handOut cX2_handOut 7 none, Cond.methodLink RX2 76 yX2_goOut, Cond.instanceMethod yX2_goOut, Cond.selects RX2 yX2_goOut yX2_goOut, Cond.code yX2_goOut cX2_goOut 3 (some .int), Cond.methodLink RX2 83 yX2_giveTo, Cond.instanceMethod yX2_giveTo, Cond.selects RX2 yX2_giveTo yX2_giveTo, Cond.code yX2_giveTo cX2_giveTo 4 (some .int), Cond.methodLink RX2 86 yX2_emptyTinFor, Cond.instanceMethod yX2_emptyTinFor, Cond.selects RX2 yX2_emptyTinFor yX2_emptyTinFor, Cond.code yX2_emptyTinFor cX2_emptyTinFor 3 (some .int)]
def wsX3_firstWrongOf : List Cond := .code yX3_firstWrongOf cX3_firstWrongOf 5 (some .int) :: ((wsX3_firstWrongOf_r1 ++ (wsX3_firstWrongOf_r2 ++ wsX3_firstWrongOf_r3)) ++ wsX30 ++ wsX20 ++ wsX10)
def wsX3_behindYear_r1 : List Cond := [Cond.fieldLink RX3 24 "TownLisp" "then" "LTownLisp$Town;", Cond.fieldLink RX3 103 "TownLisp$Town" "tin" "I", Cond.fieldLink RX3 93 "TownLisp$Town" "inside" "I", Cond.fieldLink RX3 77 "TownLisp$Town" "parts" "[I", Cond.methodLink RX3 89 yX2_allSay, Cond.instanceMethod yX2_allSay, Cond.selects RX2 yX2_allSay yX2_allSay, Cond.initialized RX2, Cond.code yX2_allSay cX2_allSay 3 (some .int), Cond.fieldLink RX2 30 "TownLisp$Town" "count" "I", Cond.methodLink RX2 66 yX2_isIn, Cond.instanceMethod yX2_isIn, Cond.selects RX2 yX2_isIn yX2_isIn, Cond.code yX2_isIn cX2_isIn 2 (some .boolean), Cond.fieldLink RX2 41 "TownLisp$Town" "inside" "I", Cond.static yX3_isMember, Cond.initialized RX3, Cond.code yX3_isMember cX3_isMember 2 (some .boolean), Cond.methodLink RX2 70 yX2_saysNow, Cond.instanceMethod yX2_saysNow, Cond.selects RX2 yX2_saysNow yX2_saysNow, Cond.code yX2_saysNow cX2_saysNow 2 (some .int), Cond.fieldLink RX2 9 "TownLisp$Town" "kind" "[I", Cond.fieldLink RX2 15 "TownLisp$Town" "parts" "[I"]
def wsX3_behindYear_r2 : List Cond := [Cond.fieldLink RX2 18 "TownLisp$Town" "thick" "[I", Cond.static yX3_says, Cond.code yX3_says cX3_says 4 (some .int), Cond.methodLink RX3 212 Lib.Math.max.name, Cond.static Lib.Math.max.name, Cond.initialized "java/lang/Math", Cond.code Lib.Math.max.name Lib.Math.max.code 2 (some .int), Cond.methodLink RX3 70 yX2_has, Cond.instanceMethod yX2_has, Cond.selects RX2 yX2_has yX2_has, Cond.code yX2_has cX2_has 2 (some .boolean)]
def wsX3_behindYear : List Cond := .code yX3_behindYear cX3_behindYear 2 (some .int) :: ((wsX3_behindYear_r1 ++ wsX3_behindYear_r2) ++ wsX30 ++ wsX20)
def wsX3_year_r1 : List Cond := [Cond.fieldLink RX3 35 "TownLisp" "latestFault" "I", Cond.fieldLink RX3 20 "TownLisp" "now" "LTownLisp$Town;", Cond.fieldLink RX3 69 "TownLisp$Town" "count" "I", Cond.methodLink RX3 39 yX3_sheetAt, Cond.instanceMethod yX3_sheetAt, Cond.selects RX3 yX3_sheetAt yX3_sheetAt, Cond.initialized RX3, Cond.code yX3_sheetAt cX3_sheetAt 2 (some (.object "TownLisp$Sheet")), Cond.fieldLink RX3 13 "TownLisp" "sheets" "[LTownLisp$Sheet;", Cond.methodLink RX3 43 yX3_isLane, Cond.static yX3_isLane, Cond.code yX3_isLane cX3_isLane 1 (some .boolean), Cond.methodLink RX3 106 yX3_isAskedOfYear, Cond.static yX3_isAskedOfYear, Cond.code yX3_isAskedOfYear cX3_isAskedOfYear 1 (some .boolean), Cond.methodLink RX3 47 yX1_faultOf, Cond.instanceMethod yX1_faultOf, Cond.selects RX1 yX1_faultOf yX1_faultOf, Cond.initialized RX1, Cond.code yX1_faultOf cX1_faultOf 4 (some .int), Cond.fieldLink RX1 31 "TownLisp$Sheet" "held" "Z", Cond.fieldLink RX1 15 "TownLisp$Sheet" "lane" "I", Cond.methodLink RX1 35 yX1_spans, Cond.instanceMethod yX1_spans]
def wsX3_year_r2 : List Cond := [Cond.selects RX1 yX1_spans yX1_spans, Cond.code yX1_spans cX1_spans 3 (some .boolean), Cond.fieldLink RX1 28 "TownLisp$Sheet" "length" "I", Cond.methodLink RX3 51 yX3_faulty, Cond.instanceMethod yX3_faulty, Cond.selects RX3 yX3_faulty yX3_faulty, Cond.code yX3_faulty cX3_faulty 2 (some .int), Cond.methodLink RX3 109 yX3_refusalOfPairs, Cond.instanceMethod yX3_refusalOfPairs, Cond.selects RX3 yX3_refusalOfPairs yX3_refusalOfPairs, Cond.code yX3_refusalOfPairs cX3_refusalOfPairs 5 (some .int), Cond.methodLink RX3 182 yX1_at, Cond.instanceMethod yX1_at, Cond.selects RX1 yX1_at yX1_at, Cond.code yX1_at cX1_at 2 (some .int), Cond.fieldLink RX1 9 "TownLisp$Sheet" "cells" "[I", Cond.methodLink RX3 70 yX2_has, Cond.instanceMethod yX2_has, Cond.selects RX2 yX2_has yX2_has, Cond.initialized RX2, Cond.code yX2_has cX2_has 2 (some .boolean), Cond.fieldLink RX2 30 "TownLisp$Town" "count" "I", Cond.methodLink RX3 220 yX3_isBetween, Cond.static yX3_isBetween]
def wsX3_year_r3 : List Cond := [Cond.code yX3_isBetween cX3_isBetween 3 (some .boolean), Cond.methodLink RX3 112 yX3_firstWrongOf, Cond.instanceMethod yX3_firstWrongOf, Cond.selects RX3 yX3_firstWrongOf yX3_firstWrongOf, Cond.code yX3_firstWrongOf cX3_firstWrongOf 5 (some .int), Cond.fieldLink RX3 24 "TownLisp" "then" "LTownLisp$Town;", Cond.methodLink RX3 230 yX2_becomeLike, Cond.instanceMethod yX2_becomeLike, Cond.selects RX2 yX2_becomeLike yX2_becomeLike, Cond.code yX2_becomeLike cX2_becomeLike 3 none, Cond.fieldLink RX2 41 "TownLisp$Town" "inside" "I", Cond.fieldLink RX2 38 "TownLisp$Town" "tin" "I", Cond.fieldLink RX2 9 "TownLisp$Town" "kind" "[I", Cond.fieldLink RX2 15 "TownLisp$Town" "parts" "[I", Cond.fieldLink RX2 18 "TownLisp$Town" "thick" "[I", Cond.methodLink RX3 227 yX2_acts, Cond.instanceMethod yX2_acts, Cond.selects RX2 yX2_acts yX2_acts, Cond.code yX2_acts cX2_acts 4 (some .int), Cond.methodLink RX2 66 yX2_isIn, Cond.instanceMethod yX2_isIn, Cond.selects RX2 yX2_isIn yX2_isIn, Cond.code yX2_isIn cX2_isIn 2 (some .boolean), Cond.static yX3_isMember]
def wsX3_year_r4 : List Cond := [Cond.code yX3_isMember cX3_isMember 2 (some .boolean), Cond.methodLink RX2 73 yX2_shareFrom, Cond.instanceMethod yX2_shareFrom, Cond.selects RX2 yX2_shareFrom yX2_shareFrom, Cond.code yX2_shareFrom cX2_shareFrom 5 (some .int), Cond.methodLink RX2 89 yX2_partsOf, Cond.instanceMethod yX2_partsOf, Cond.selects RX2 yX2_partsOf yX2_partsOf, Cond.code yX2_partsOf cX2_partsOf 4 (some .int), Cond.methodLink RX2 79 yX2_heads, Cond.instanceMethod yX2_heads, Cond.selects RX2 yX2_heads yX2_heads, Cond.code yX2_heads cX2_heads 1 (some .int), Cond.methodLink RX2 57 yJ6_bitCount_0f7a4, Cond.static yJ6_bitCount_0f7a4, Cond.initialized RJ6, Cond.code yJ6_bitCount_0f7a4 cJ6_bitCount_0f7a4 1 (some .int), Cond.constant RJ6 265 (1431655765), Cond.constant RJ6 266 (858993459), Cond.constant RJ6 267 (252645135), Cond.methodLink RX2 92 yX2_handOut, Cond.instanceMethod yX2_handOut, Cond.selects RX2 yX2_handOut yX2_handOut, Cond.code yX2_handOut cX2_handOut 7 none]
def wsX3_year_r5 : List Cond := [Cond.methodLink RX2 76 yX2_goOut, Cond.instanceMethod yX2_goOut, Cond.selects RX2 yX2_goOut yX2_goOut, Cond.code yX2_goOut cX2_goOut 3 (some .int), Cond.methodLink RX2 83 yX2_giveTo, Cond.instanceMethod yX2_giveTo, Cond.selects RX2 yX2_giveTo yX2_giveTo, Cond.code yX2_giveTo cX2_giveTo 4 (some .int), Cond.methodLink RX2 86 yX2_emptyTinFor, Cond.instanceMethod yX2_emptyTinFor, Cond.selects RX2 yX2_emptyTinFor yX2_emptyTinFor, Cond.code yX2_emptyTinFor cX2_emptyTinFor 3 (some .int), Cond.methodLink RX3 115 yX3_behindYear, Cond.instanceMethod yX3_behindYear, Cond.selects RX3 yX3_behindYear yX3_behindYear, Cond.code yX3_behindYear cX3_behindYear 2 (some .int), Cond.fieldLink RX3 103 "TownLisp$Town" "tin" "I", Cond.fieldLink RX3 93 "TownLisp$Town" "inside" "I", Cond.fieldLink RX3 77 "TownLisp$Town" "parts" "[I", Cond.methodLink RX3 89 yX2_allSay, Cond.instanceMethod yX2_allSay, Cond.selects RX2 yX2_allSay yX2_allSay, Cond.code yX2_allSay cX2_allSay 3 (some .int), Cond.methodLink RX2 70 yX2_saysNow]
def wsX3_year_r6 : List Cond := [Cond.instanceMethod yX2_saysNow, Cond.selects RX2 yX2_saysNow yX2_saysNow, Cond.code yX2_saysNow cX2_saysNow 2 (some .int), Cond.static yX3_says, Cond.code yX3_says cX3_says 4 (some .int), Cond.methodLink RX3 212 Lib.Math.max.name, Cond.static Lib.Math.max.name, Cond.initialized "java/lang/Math", Cond.code Lib.Math.max.name Lib.Math.max.code 2 (some .int)]
def wsX3_year : List Cond := .code yX3_year cX3_year 10 (some .int) :: ((wsX3_year_r1 ++ (wsX3_year_r2 ++ (wsX3_year_r3 ++ (wsX3_year_r4 ++ (wsX3_year_r5 ++ wsX3_year_r6))))) ++ wsX30 ++ wsX20 ++ wsX10)
def wsX3_bestAsked : List Cond := .code yX3_bestAsked cX3_bestAsked 11 (some .int) :: ([.fieldLink RX3 20 "TownLisp" "now" "LTownLisp$Town;", .fieldLink RX3 93 "TownLisp$Town" "inside" "I", .fieldLink RX3 77 "TownLisp$Town" "parts" "[I", .methodLink RX3 127 yX2_allSets, .instanceMethod yX2_allSets, .selects RX2 yX2_allSets yX2_allSets, .initialized RX2, .code yX2_allSets cX2_allSets 1 (some .int), .fieldLink RX2 30 "TownLisp$Town" "count" "I", .methodLink RX3 234 yJ6_bitCount_0f7a4, .static yJ6_bitCount_0f7a4, .initialized RJ6, .code yJ6_bitCount_0f7a4 cJ6_bitCount_0f7a4 1 (some .int), .constant RJ6 265 (1431655765), .constant RJ6 266 (858993459), .constant RJ6 267 (252645135), .methodLink RX3 96 yX2_partsOf, .instanceMethod yX2_partsOf, .selects RX2 yX2_partsOf yX2_partsOf, .code yX2_partsOf cX2_partsOf 4 (some .int), .fieldLink RX2 15 "TownLisp$Town" "parts" "[I", .static yX3_isMember, .initialized RX3, .code yX3_isMember cX3_isMember 2 (some .boolean)] ++ wsX30 ++ wsX20)
def wsX3_asked_r1 : List Cond := [Cond.fieldLink RX3 20 "TownLisp" "now" "LTownLisp$Town;", Cond.fieldLink RX3 77 "TownLisp$Town" "parts" "[I", Cond.methodLink RX3 70 yX2_has, Cond.instanceMethod yX2_has, Cond.selects RX2 yX2_has yX2_has, Cond.initialized RX2, Cond.code yX2_has cX2_has 2 (some .boolean), Cond.fieldLink RX2 30 "TownLisp$Town" "count" "I", Cond.methodLink RX3 118 yX3_bestAsked, Cond.instanceMethod yX3_bestAsked, Cond.selects RX3 yX3_bestAsked yX3_bestAsked, Cond.initialized RX3, Cond.code yX3_bestAsked cX3_bestAsked 11 (some .int), Cond.fieldLink RX3 93 "TownLisp$Town" "inside" "I", Cond.methodLink RX3 127 yX2_allSets, Cond.instanceMethod yX2_allSets, Cond.selects RX2 yX2_allSets yX2_allSets, Cond.code yX2_allSets cX2_allSets 1 (some .int), Cond.methodLink RX3 234 yJ6_bitCount_0f7a4, Cond.static yJ6_bitCount_0f7a4, Cond.initialized RJ6, Cond.code yJ6_bitCount_0f7a4 cJ6_bitCount_0f7a4 1 (some .int), Cond.constant RJ6 265 (1431655765), Cond.constant RJ6 266 (858993459)]
def wsX3_asked_r2 : List Cond := [Cond.constant RJ6 267 (252645135), Cond.methodLink RX3 96 yX2_partsOf, Cond.instanceMethod yX2_partsOf, Cond.selects RX2 yX2_partsOf yX2_partsOf, Cond.code yX2_partsOf cX2_partsOf 4 (some .int), Cond.fieldLink RX2 15 "TownLisp$Town" "parts" "[I", Cond.static yX3_isMember, Cond.code yX3_isMember cX3_isMember 2 (some .boolean)]
def wsX3_asked : List Cond := .code yX3_asked cX3_asked 5 (some .int) :: ((wsX3_asked_r1 ++ wsX3_asked_r2) ++ wsX30 ++ wsX20)
def wsX3_gatherings : List Cond := .code yX3_gatherings cX3_gatherings 4 (some .int) :: ([.fieldLink RX3 20 "TownLisp" "now" "LTownLisp$Town;", .methodLink RX3 70 yX2_has, .instanceMethod yX2_has, .selects RX2 yX2_has yX2_has, .initialized RX2, .code yX2_has cX2_has 2 (some .boolean), .fieldLink RX2 30 "TownLisp$Town" "count" "I", .methodLink RX3 121 yX2_partsBehindGatherings, .instanceMethod yX2_partsBehindGatherings, .selects RX2 yX2_partsBehindGatherings yX2_partsBehindGatherings, .code yX2_partsBehindGatherings cX2_partsBehindGatherings 5 (some .int), .fieldLink RX2 15 "TownLisp$Town" "parts" "[I", .methodLink RX2 21 Lib.Math.min.name, .static Lib.Math.min.name, .initialized "java/lang/Math", .code Lib.Math.min.name Lib.Math.min.code 2 (some .int), .methodLink RX2 66 yX2_isIn, .instanceMethod yX2_isIn, .selects RX2 yX2_isIn yX2_isIn, .code yX2_isIn cX2_isIn 2 (some .boolean), .fieldLink RX2 41 "TownLisp$Town" "inside" "I", .static yX3_isMember, .initialized RX3, .code yX3_isMember cX3_isMember 2 (some .boolean)] ++ wsX30 ++ wsX20)
def wsX3_level : List Cond := .code yX3_level cX3_level 4 (some .int) :: ([.fieldLink RX3 20 "TownLisp" "now" "LTownLisp$Town;", .fieldLink RX3 93 "TownLisp$Town" "inside" "I", .fieldLink RX3 103 "TownLisp$Town" "tin" "I", .methodLink RX3 124 yX2_lackingUpTo, .instanceMethod yX2_lackingUpTo, .selects RX2 yX2_lackingUpTo yX2_lackingUpTo, .initialized RX2, .code yX2_lackingUpTo cX2_lackingUpTo 4 (some .int), .fieldLink RX2 30 "TownLisp$Town" "count" "I", .fieldLink RX2 15 "TownLisp$Town" "parts" "[I", .methodLink RX2 27 Lib.Math.max.name, .static Lib.Math.max.name, .initialized "java/lang/Math", .code Lib.Math.max.name Lib.Math.max.code 2 (some .int), .methodLink RX2 66 yX2_isIn, .instanceMethod yX2_isIn, .selects RX2 yX2_isIn yX2_isIn, .code yX2_isIn cX2_isIn 2 (some .boolean), .fieldLink RX2 41 "TownLisp$Town" "inside" "I", .static yX3_isMember, .initialized RX3, .code yX3_isMember cX3_isMember 2 (some .boolean)] ++ wsX30 ++ wsX20)
def wsX3_were_r1 : List Cond := [Cond.fieldLink RX3 20 "TownLisp" "now" "LTownLisp$Town;", Cond.methodLink RX3 70 yX2_has, Cond.instanceMethod yX2_has, Cond.selects RX2 yX2_has yX2_has, Cond.initialized RX2, Cond.code yX2_has cX2_has 2 (some .boolean), Cond.fieldLink RX2 30 "TownLisp$Town" "count" "I", Cond.methodLink RX3 127 yX2_allSets, Cond.instanceMethod yX2_allSets, Cond.selects RX2 yX2_allSets yX2_allSets, Cond.code yX2_allSets cX2_allSets 1 (some .int), Cond.methodLink RX3 130 yX3_isMember, Cond.static yX3_isMember, Cond.initialized RX3, Cond.code yX3_isMember cX3_isMember 2 (some .boolean), Cond.methodLink RX3 134 yX2_partsBehindDay, Cond.instanceMethod yX2_partsBehindDay, Cond.selects RX2 yX2_partsBehindDay yX2_partsBehindDay, Cond.code yX2_partsBehindDay cX2_partsBehindDay 6 (some .int), Cond.fieldLink RX2 15 "TownLisp$Town" "parts" "[I", Cond.methodLink RX2 57 yJ6_bitCount_0f7a4, Cond.static yJ6_bitCount_0f7a4, Cond.initialized RJ6, Cond.code yJ6_bitCount_0f7a4 cJ6_bitCount_0f7a4 1 (some .int)]
def wsX3_were_r2 : List Cond := [Cond.constant RJ6 265 (1431655765), Cond.constant RJ6 266 (858993459), Cond.constant RJ6 267 (252645135), Cond.methodLink RX2 89 yX2_partsOf, Cond.instanceMethod yX2_partsOf, Cond.selects RX2 yX2_partsOf yX2_partsOf, Cond.code yX2_partsOf cX2_partsOf 4 (some .int)]
def wsX3_were : List Cond := .code yX3_were cX3_were 8 (some .int) :: ((wsX3_were_r1 ++ wsX3_were_r2) ++ wsX30 ++ wsX20)
def wsX3_rounds : List Cond := .code yX3_rounds cX3_rounds 4 (some .int) :: ([.fieldLink RX3 20 "TownLisp" "now" "LTownLisp$Town;", .fieldLink RX3 69 "TownLisp$Town" "count" "I", .fieldLink RX3 103 "TownLisp$Town" "tin" "I"] ++ wsX30 ++ wsX20)
def wsX3_isHalfOfShare : List Cond := .code yX3_isHalfOfShare cX3_isHalfOfShare 1 (some .boolean) :: ([])
def wsX3_ordersOf : List Cond := .code yX3_ordersOf cX3_ordersOf 2 (some .int) :: ([.fieldLink RX3 239 "TownLisp" "FACTORIALS" "[I", .methodLink RX3 234 yJ6_bitCount_0f7a4, .static yJ6_bitCount_0f7a4, .initialized RJ6, .code yJ6_bitCount_0f7a4 cJ6_bitCount_0f7a4 1 (some .int), .constant RJ6 265 (1431655765), .constant RJ6 266 (858993459), .constant RJ6 267 (252645135)])
def wsX3_ordersDecidedBy_r1 : List Cond := [Cond.fieldLink RX3 20 "TownLisp" "now" "LTownLisp$Town;", Cond.fieldLink RX3 93 "TownLisp$Town" "inside" "I", Cond.fieldLink RX3 77 "TownLisp$Town" "parts" "[I", Cond.methodLink RX3 96 yX2_partsOf, Cond.instanceMethod yX2_partsOf, Cond.selects RX2 yX2_partsOf yX2_partsOf, Cond.initialized RX2, Cond.code yX2_partsOf cX2_partsOf 4 (some .int), Cond.fieldLink RX2 30 "TownLisp$Town" "count" "I", Cond.fieldLink RX2 15 "TownLisp$Town" "parts" "[I", Cond.static yX3_isMember, Cond.initialized RX3, Cond.code yX3_isMember cX3_isMember 2 (some .boolean), Cond.methodLink RX3 127 yX2_allSets, Cond.instanceMethod yX2_allSets, Cond.selects RX2 yX2_allSets yX2_allSets, Cond.code yX2_allSets cX2_allSets 1 (some .int), Cond.methodLink RX3 145 yX3_ordersOf, Cond.static yX3_ordersOf, Cond.code yX3_ordersOf cX3_ordersOf 2 (some .int), Cond.fieldLink RX3 239 "TownLisp" "FACTORIALS" "[I", Cond.methodLink RX3 234 yJ6_bitCount_0f7a4, Cond.static yJ6_bitCount_0f7a4, Cond.initialized RJ6]
def wsX3_ordersDecidedBy_r2 : List Cond := [Cond.code yJ6_bitCount_0f7a4 cJ6_bitCount_0f7a4 1 (some .int), Cond.constant RJ6 265 (1431655765), Cond.constant RJ6 266 (858993459), Cond.constant RJ6 267 (252645135)]
def wsX3_ordersDecidedBy : List Cond := .code yX3_ordersDecidedBy cX3_ordersDecidedBy 8 (some .int) :: ((wsX3_ordersDecidedBy_r1 ++ wsX3_ordersDecidedBy_r2) ++ wsX30 ++ wsX20)
def wsX3_shareOf : List Cond := .code yX3_shareOf cX3_shareOf 7 (some .long) :: ([.constantLong RX3 140 (-9223372036854775808)])
def wsX3_worth_r1 : List Cond := [Cond.fieldLink RX3 20 "TownLisp" "now" "LTownLisp$Town;", Cond.constantLong RX3 140 (-9223372036854775808), Cond.fieldLink RX3 93 "TownLisp$Town" "inside" "I", Cond.methodLink RX3 70 yX2_has, Cond.instanceMethod yX2_has, Cond.selects RX2 yX2_has yX2_has, Cond.initialized RX2, Cond.code yX2_has cX2_has 2 (some .boolean), Cond.fieldLink RX2 30 "TownLisp$Town" "count" "I", Cond.methodLink RX3 137 yX3_isHalfOfShare, Cond.static yX3_isHalfOfShare, Cond.initialized RX3, Cond.code yX3_isHalfOfShare cX3_isHalfOfShare 1 (some .boolean), Cond.methodLink RX3 83 yX2_isIn, Cond.instanceMethod yX2_isIn, Cond.selects RX2 yX2_isIn yX2_isIn, Cond.code yX2_isIn cX2_isIn 2 (some .boolean), Cond.fieldLink RX2 41 "TownLisp$Town" "inside" "I", Cond.static yX3_isMember, Cond.code yX3_isMember cX3_isMember 2 (some .boolean), Cond.methodLink RX3 142 yX3_ordersDecidedBy, Cond.instanceMethod yX3_ordersDecidedBy, Cond.selects RX3 yX3_ordersDecidedBy yX3_ordersDecidedBy, Cond.code yX3_ordersDecidedBy cX3_ordersDecidedBy 8 (some .int)]
def wsX3_worth_r2 : List Cond := [Cond.fieldLink RX3 77 "TownLisp$Town" "parts" "[I", Cond.methodLink RX3 96 yX2_partsOf, Cond.instanceMethod yX2_partsOf, Cond.selects RX2 yX2_partsOf yX2_partsOf, Cond.code yX2_partsOf cX2_partsOf 4 (some .int), Cond.fieldLink RX2 15 "TownLisp$Town" "parts" "[I", Cond.methodLink RX3 127 yX2_allSets, Cond.instanceMethod yX2_allSets, Cond.selects RX2 yX2_allSets yX2_allSets, Cond.code yX2_allSets cX2_allSets 1 (some .int), Cond.methodLink RX3 145 yX3_ordersOf, Cond.static yX3_ordersOf, Cond.code yX3_ordersOf cX3_ordersOf 2 (some .int), Cond.fieldLink RX3 239 "TownLisp" "FACTORIALS" "[I", Cond.methodLink RX3 234 yJ6_bitCount_0f7a4, Cond.static yJ6_bitCount_0f7a4, Cond.initialized RJ6, Cond.code yJ6_bitCount_0f7a4 cJ6_bitCount_0f7a4 1 (some .int), Cond.constant RJ6 265 (1431655765), Cond.constant RJ6 266 (858993459), Cond.constant RJ6 267 (252645135), Cond.methodLink RX3 148 yX3_shareOf, Cond.static yX3_shareOf, Cond.code yX3_shareOf cX3_shareOf 7 (some .long)]
def wsX3_worth : List Cond := .code yX3_worth cX3_worth 3 (some .long) :: ((wsX3_worth_r1 ++ wsX3_worth_r2) ++ wsX30 ++ wsX20)
def wsX3_mean_r1 : List Cond := [Cond.fieldLink RX3 20 "TownLisp" "now" "LTownLisp$Town;", Cond.fieldLink RX3 93 "TownLisp$Town" "inside" "I", Cond.constantLong RX3 140 (-9223372036854775808), Cond.methodLink RX3 137 yX3_isHalfOfShare, Cond.static yX3_isHalfOfShare, Cond.initialized RX3, Cond.code yX3_isHalfOfShare cX3_isHalfOfShare 1 (some .boolean), Cond.methodLink RX3 96 yX2_partsOf, Cond.instanceMethod yX2_partsOf, Cond.selects RX2 yX2_partsOf yX2_partsOf, Cond.initialized RX2, Cond.code yX2_partsOf cX2_partsOf 4 (some .int), Cond.fieldLink RX2 30 "TownLisp$Town" "count" "I", Cond.fieldLink RX2 15 "TownLisp$Town" "parts" "[I", Cond.static yX3_isMember, Cond.code yX3_isMember cX3_isMember 2 (some .boolean), Cond.methodLink RX3 152 yX2_heads, Cond.instanceMethod yX2_heads, Cond.selects RX2 yX2_heads yX2_heads, Cond.code yX2_heads cX2_heads 1 (some .int), Cond.fieldLink RX2 41 "TownLisp$Town" "inside" "I", Cond.methodLink RX2 57 yJ6_bitCount_0f7a4, Cond.static yJ6_bitCount_0f7a4, Cond.initialized RJ6]
def wsX3_mean_r2 : List Cond := [Cond.code yJ6_bitCount_0f7a4 cJ6_bitCount_0f7a4 1 (some .int), Cond.constant RJ6 265 (1431655765), Cond.constant RJ6 266 (858993459), Cond.constant RJ6 267 (252645135), Cond.methodLink RX3 148 yX3_shareOf, Cond.static yX3_shareOf, Cond.code yX3_shareOf cX3_shareOf 7 (some .long)]
def wsX3_mean : List Cond := .code yX3_mean cX3_mean 2 (some .long) :: ((wsX3_mean_r1 ++ wsX3_mean_r2) ++ wsX30 ++ wsX20)
def wsX3_reading : List Cond := .code yX3_reading cX3_reading 4 (some .int) :: ([.fieldLink RX3 20 "TownLisp" "now" "LTownLisp$Town;", .fieldLink RX3 30 "TownLisp" "said" "LTownLisp$Readings;", .fieldLink RX3 63 "TownLisp$Readings" "count" "I", .methodLink RX3 70 yX2_has, .instanceMethod yX2_has, .selects RX2 yX2_has yX2_has, .initialized RX2, .code yX2_has cX2_has 2 (some .boolean), .fieldLink RX2 30 "TownLisp$Town" "count" "I", .methodLink RX3 155 yX0_take, .instanceMethod yX0_take, .selects RX0 yX0_take yX0_take, .initialized RX0, .code yX0_take cX0_take 4 (some .int), .fieldLink RX0 9 "TownLisp$Readings" "person" "[I", .fieldLink RX0 21 "TownLisp$Readings" "count" "I", .fieldLink RX0 15 "TownLisp$Readings" "parts" "[I", .fieldLink RX0 18 "TownLisp$Readings" "amount" "[I"] ++ wsX30 ++ wsX00 ++ wsX20)
def wsX3_back : List Cond := .code yX3_back cX3_back 2 (some .int) :: ([.fieldLink RX3 30 "TownLisp" "said" "LTownLisp$Readings;", .fieldLink RX3 63 "TownLisp$Readings" "count" "I"] ++ wsX30 ++ wsX00)
def wsX3_ears_r1 : List Cond := [Cond.fieldLink RX3 20 "TownLisp" "now" "LTownLisp$Town;", Cond.fieldLink RX3 30 "TownLisp" "said" "LTownLisp$Readings;", Cond.fieldLink RX3 73 "TownLisp$Town" "kind" "[I", Cond.methodLink RX3 70 yX2_has, Cond.instanceMethod yX2_has, Cond.selects RX2 yX2_has yX2_has, Cond.initialized RX2, Cond.code yX2_has cX2_has 2 (some .boolean), Cond.fieldLink RX2 30 "TownLisp$Town" "count" "I", Cond.methodLink RX3 158 yX0_areSo, Cond.instanceMethod yX0_areSo, Cond.selects RX0 yX0_areSo yX0_areSo, Cond.initialized RX0, Cond.code yX0_areSo cX0_areSo 8 (some .boolean), Cond.fieldLink RX0 21 "TownLisp$Readings" "count" "I", Cond.fieldLink RX0 9 "TownLisp$Readings" "person" "[I", Cond.fieldLink RX0 15 "TownLisp$Readings" "parts" "[I", Cond.fieldLink RX0 29 "TownLisp$Town" "kind" "[I", Cond.fieldLink RX0 34 "TownLisp$Town" "thick" "[I", Cond.fieldLink RX0 18 "TownLisp$Readings" "amount" "[I", Cond.static yX3_says, Cond.initialized RX3, Cond.code yX3_says cX3_says 4 (some .int), Cond.methodLink RX3 212 Lib.Math.max.name]
def wsX3_ears_r2 : List Cond := [Cond.static Lib.Math.max.name, Cond.initialized "java/lang/Math", Cond.code Lib.Math.max.name Lib.Math.max.code 2 (some .int)]
def wsX3_ears : List Cond := .code yX3_ears cX3_ears 4 (some .int) :: ((wsX3_ears_r1 ++ wsX3_ears_r2) ++ wsX30 ++ wsX20 ++ wsX00)
def wsX3_kinds_r1 : List Cond := [Cond.fieldLink RX3 20 "TownLisp" "now" "LTownLisp$Town;", Cond.fieldLink RX3 30 "TownLisp" "said" "LTownLisp$Readings;", Cond.fieldLink RX3 80 "TownLisp$Town" "thick" "[I", Cond.methodLink RX3 70 yX2_has, Cond.instanceMethod yX2_has, Cond.selects RX2 yX2_has yX2_has, Cond.initialized RX2, Cond.code yX2_has cX2_has 2 (some .boolean), Cond.fieldLink RX2 30 "TownLisp$Town" "count" "I", Cond.methodLink RX3 158 yX0_areSo, Cond.instanceMethod yX0_areSo, Cond.selects RX0 yX0_areSo yX0_areSo, Cond.initialized RX0, Cond.code yX0_areSo cX0_areSo 8 (some .boolean), Cond.fieldLink RX0 21 "TownLisp$Readings" "count" "I", Cond.fieldLink RX0 9 "TownLisp$Readings" "person" "[I", Cond.fieldLink RX0 15 "TownLisp$Readings" "parts" "[I", Cond.fieldLink RX0 29 "TownLisp$Town" "kind" "[I", Cond.fieldLink RX0 34 "TownLisp$Town" "thick" "[I", Cond.fieldLink RX0 18 "TownLisp$Readings" "amount" "[I", Cond.static yX3_says, Cond.initialized RX3, Cond.code yX3_says cX3_says 4 (some .int), Cond.methodLink RX3 212 Lib.Math.max.name]
def wsX3_kinds_r2 : List Cond := [Cond.static Lib.Math.max.name, Cond.initialized "java/lang/Math", Cond.code Lib.Math.max.name Lib.Math.max.code 2 (some .int)]
def wsX3_kinds : List Cond := .code yX3_kinds cX3_kinds 4 (some .int) :: ((wsX3_kinds_r1 ++ wsX3_kinds_r2) ++ wsX30 ++ wsX20 ++ wsX00)
def wsX3_odds_r1 : List Cond := [Cond.fieldLink RX3 20 "TownLisp" "now" "LTownLisp$Town;", Cond.constantLong RX3 140 (-9223372036854775808), Cond.fieldLink RX3 73 "TownLisp$Town" "kind" "[I", Cond.fieldLink RX3 80 "TownLisp$Town" "thick" "[I", Cond.methodLink RX3 70 yX2_has, Cond.instanceMethod yX2_has, Cond.selects RX2 yX2_has yX2_has, Cond.initialized RX2, Cond.code yX2_has cX2_has 2 (some .boolean), Cond.fieldLink RX2 30 "TownLisp$Town" "count" "I", Cond.methodLink RX3 137 yX3_isHalfOfShare, Cond.static yX3_isHalfOfShare, Cond.initialized RX3, Cond.code yX3_isHalfOfShare cX3_isHalfOfShare 1 (some .boolean), Cond.methodLink RX3 127 yX2_allSets, Cond.instanceMethod yX2_allSets, Cond.selects RX2 yX2_allSets yX2_allSets, Cond.code yX2_allSets cX2_allSets 1 (some .int), Cond.methodLink RX3 130 yX3_isMember, Cond.static yX3_isMember, Cond.code yX3_isMember cX3_isMember 2 (some .boolean), Cond.methodLink RX3 134 yX2_partsBehindDay, Cond.instanceMethod yX2_partsBehindDay, Cond.selects RX2 yX2_partsBehindDay yX2_partsBehindDay]
def wsX3_odds_r2 : List Cond := [Cond.code yX2_partsBehindDay cX2_partsBehindDay 6 (some .int), Cond.fieldLink RX2 15 "TownLisp$Town" "parts" "[I", Cond.methodLink RX2 57 yJ6_bitCount_0f7a4, Cond.static yJ6_bitCount_0f7a4, Cond.initialized RJ6, Cond.code yJ6_bitCount_0f7a4 cJ6_bitCount_0f7a4 1 (some .int), Cond.constant RJ6 265 (1431655765), Cond.constant RJ6 266 (858993459), Cond.constant RJ6 267 (252645135), Cond.methodLink RX2 89 yX2_partsOf, Cond.instanceMethod yX2_partsOf, Cond.selects RX2 yX2_partsOf yX2_partsOf, Cond.code yX2_partsOf cX2_partsOf 4 (some .int), Cond.methodLink RX3 162 yX3_says, Cond.static yX3_says, Cond.code yX3_says cX3_says 4 (some .int), Cond.methodLink RX3 212 Lib.Math.max.name, Cond.static Lib.Math.max.name, Cond.initialized "java/lang/Math", Cond.code Lib.Math.max.name Lib.Math.max.code 2 (some .int), Cond.methodLink RX3 148 yX3_shareOf, Cond.static yX3_shareOf, Cond.code yX3_shareOf cX3_shareOf 7 (some .long)]
def wsX3_odds : List Cond := .code yX3_odds cX3_odds 6 (some .long) :: ((wsX3_odds_r1 ++ wsX3_odds_r2) ++ wsX30 ++ wsX20)
def wsX3_sheet_r1 : List Cond := [Cond.fieldLink RX3 35 "TownLisp" "latestFault" "I", Cond.methodLink RX3 39 yX3_sheetAt, Cond.instanceMethod yX3_sheetAt, Cond.selects RX3 yX3_sheetAt yX3_sheetAt, Cond.initialized RX3, Cond.code yX3_sheetAt cX3_sheetAt 2 (some (.object "TownLisp$Sheet")), Cond.fieldLink RX3 13 "TownLisp" "sheets" "[LTownLisp$Sheet;", Cond.methodLink RX3 43 yX3_isLane, Cond.static yX3_isLane, Cond.code yX3_isLane cX3_isLane 1 (some .boolean), Cond.methodLink RX3 51 yX3_faulty, Cond.instanceMethod yX3_faulty, Cond.selects RX3 yX3_faulty yX3_faulty, Cond.code yX3_faulty cX3_faulty 2 (some .int), Cond.methodLink RX3 165 yX1_renew, Cond.instanceMethod yX1_renew, Cond.selects RX1 yX1_renew yX1_renew, Cond.initialized RX1, Cond.code yX1_renew cX1_renew 4 none, Cond.fieldLink RX1 15 "TownLisp$Sheet" "lane" "I", Cond.fieldLink RX1 9 "TownLisp$Sheet" "cells" "[I", Cond.methodLink RX1 19 Lib.Math.min.name, Cond.static Lib.Math.min.name, Cond.initialized "java/lang/Math"]
def wsX3_sheet_r2 : List Cond := [Cond.code Lib.Math.min.name Lib.Math.min.code 2 (some .int), Cond.methodLink RX1 25 Lib.Math.max.name, Cond.static Lib.Math.max.name, Cond.code Lib.Math.max.name Lib.Math.max.code 2 (some .int), Cond.fieldLink RX1 28 "TownLisp$Sheet" "length" "I", Cond.fieldLink RX1 31 "TownLisp$Sheet" "held" "Z"]
def wsX3_sheet : List Cond := .code yX3_sheet cX3_sheet 5 (some .int) :: ((wsX3_sheet_r1 ++ wsX3_sheet_r2) ++ wsX30 ++ wsX10)
def wsX3_lose : List Cond := .code yX3_lose cX3_lose 4 (some .int) :: ([.fieldLink RX3 169 "TownLisp$Sheet" "held" "Z", .methodLink RX3 39 yX3_sheetAt, .instanceMethod yX3_sheetAt, .selects RX3 yX3_sheetAt yX3_sheetAt, .initialized RX3, .code yX3_sheetAt cX3_sheetAt 2 (some (.object "TownLisp$Sheet")), .fieldLink RX3 13 "TownLisp" "sheets" "[LTownLisp$Sheet;"] ++ wsX10 ++ wsX30)
def wsX3_put : List Cond := .code yX3_put cX3_put 5 (some .int) :: ([.fieldLink RX3 35 "TownLisp" "latestFault" "I", .fieldLink RX3 169 "TownLisp$Sheet" "held" "Z", .fieldLink RX3 176 "TownLisp$Sheet" "cells" "[I", .methodLink RX3 39 yX3_sheetAt, .instanceMethod yX3_sheetAt, .selects RX3 yX3_sheetAt yX3_sheetAt, .initialized RX3, .code yX3_sheetAt cX3_sheetAt 2 (some (.object "TownLisp$Sheet")), .fieldLink RX3 13 "TownLisp" "sheets" "[LTownLisp$Sheet;", .methodLink RX3 51 yX3_faulty, .instanceMethod yX3_faulty, .selects RX3 yX3_faulty yX3_faulty, .code yX3_faulty cX3_faulty 2 (some .int), .methodLink RX3 173 yX1_spans, .instanceMethod yX1_spans, .selects RX1 yX1_spans yX1_spans, .initialized RX1, .code yX1_spans cX1_spans 3 (some .boolean), .fieldLink RX1 28 "TownLisp$Sheet" "length" "I", .methodLink RX3 179 yX1_cut, .instanceMethod yX1_cut, .selects RX1 yX1_cut yX1_cut, .code yX1_cut cX1_cut 2 (some .int), .fieldLink RX1 15 "TownLisp$Sheet" "lane" "I"] ++ wsX30 ++ wsX10)
def wsX3_cell_r1 : List Cond := [Cond.fieldLink RX3 35 "TownLisp" "latestFault" "I", Cond.constantLong RX3 140 (-9223372036854775808), Cond.methodLink RX3 39 yX3_sheetAt, Cond.instanceMethod yX3_sheetAt, Cond.selects RX3 yX3_sheetAt yX3_sheetAt, Cond.initialized RX3, Cond.code yX3_sheetAt cX3_sheetAt 2 (some (.object "TownLisp$Sheet")), Cond.fieldLink RX3 13 "TownLisp" "sheets" "[LTownLisp$Sheet;", Cond.methodLink RX3 43 yX3_isLane, Cond.static yX3_isLane, Cond.code yX3_isLane cX3_isLane 1 (some .boolean), Cond.methodLink RX3 47 yX1_faultOf, Cond.instanceMethod yX1_faultOf, Cond.selects RX1 yX1_faultOf yX1_faultOf, Cond.initialized RX1, Cond.code yX1_faultOf cX1_faultOf 4 (some .int), Cond.fieldLink RX1 31 "TownLisp$Sheet" "held" "Z", Cond.fieldLink RX1 15 "TownLisp$Sheet" "lane" "I", Cond.methodLink RX1 35 yX1_spans, Cond.instanceMethod yX1_spans, Cond.selects RX1 yX1_spans yX1_spans, Cond.code yX1_spans cX1_spans 3 (some .boolean), Cond.fieldLink RX1 28 "TownLisp$Sheet" "length" "I", Cond.methodLink RX3 182 yX1_at]
def wsX3_cell_r2 : List Cond := [Cond.instanceMethod yX1_at, Cond.selects RX1 yX1_at yX1_at, Cond.code yX1_at cX1_at 2 (some .int), Cond.fieldLink RX1 9 "TownLisp$Sheet" "cells" "[I"]
def wsX3_cell : List Cond := .code yX3_cell cX3_cell 5 (some .long) :: ((wsX3_cell_r1 ++ wsX3_cell_r2) ++ wsX30 ++ wsX10)
def wsX3_copy : List Cond := .code yX3_copy cX3_copy 8 (some .int) :: ([.fieldLink RX3 35 "TownLisp" "latestFault" "I", .fieldLink RX3 169 "TownLisp$Sheet" "held" "Z", .fieldLink RX3 185 "TownLisp$Sheet" "lane" "I", .fieldLink RX3 176 "TownLisp$Sheet" "cells" "[I", .methodLink RX3 188 arraycopyName, .native arraycopyName, .static arraycopyName, .initialized "java/lang/System", .methodLink RX3 39 yX3_sheetAt, .instanceMethod yX3_sheetAt, .selects RX3 yX3_sheetAt yX3_sheetAt, .initialized RX3, .code yX3_sheetAt cX3_sheetAt 2 (some (.object "TownLisp$Sheet")), .fieldLink RX3 13 "TownLisp" "sheets" "[LTownLisp$Sheet;", .methodLink RX3 51 yX3_faulty, .instanceMethod yX3_faulty, .selects RX3 yX3_faulty yX3_faulty, .code yX3_faulty cX3_faulty 2 (some .int), .methodLink RX3 173 yX1_spans, .instanceMethod yX1_spans, .selects RX1 yX1_spans yX1_spans, .initialized RX1, .code yX1_spans cX1_spans 3 (some .boolean), .fieldLink RX1 28 "TownLisp$Sheet" "length" "I"] ++ wsX30 ++ wsX10)
def wsX3_begin : List Cond := .code yX3_begin cX3_begin 2 none :: ([.fieldLink RX3 209 "TownLisp" "traced" "I"] ++ wsX30)
def wsX3_grownTells : List Cond := .code yX3_grownTells cX3_grownTells 2 (some .int) :: ([.fieldLink RX3 20 "TownLisp" "now" "LTownLisp$Town;", .fieldLink RX3 80 "TownLisp$Town" "thick" "[I", .methodLink RX3 242 yX3_begin, .instanceMethod yX3_begin, .selects RX3 yX3_begin yX3_begin, .initialized RX3, .code yX3_begin cX3_begin 2 none, .fieldLink RX3 209 "TownLisp" "traced" "I"] ++ wsX30 ++ wsX20)
def wsX3_shyTells : List Cond := .code yX3_shyTells cX3_shyTells 2 (some .int) :: ([.methodLink RX3 242 yX3_begin, .instanceMethod yX3_begin, .selects RX3 yX3_begin yX3_begin, .initialized RX3, .code yX3_begin cX3_begin 2 none, .fieldLink RX3 209 "TownLisp" "traced" "I", .methodLink RX3 194 yX3_grownTells, .instanceMethod yX3_grownTells, .selects RX3 yX3_grownTells yX3_grownTells, .code yX3_grownTells cX3_grownTells 2 (some .int), .fieldLink RX3 20 "TownLisp" "now" "LTownLisp$Town;", .fieldLink RX3 80 "TownLisp$Town" "thick" "[I"] ++ wsX30 ++ wsX20)
def wsX3_childTells : List Cond := .code yX3_childTells cX3_childTells 3 (some .int) :: ([.methodLink RX3 242 yX3_begin, .instanceMethod yX3_begin, .selects RX3 yX3_begin yX3_begin, .initialized RX3, .code yX3_begin cX3_begin 2 none, .fieldLink RX3 209 "TownLisp" "traced" "I", .methodLink RX3 197 yX3_shyTells, .instanceMethod yX3_shyTells, .selects RX3 yX3_shyTells yX3_shyTells, .code yX3_shyTells cX3_shyTells 2 (some .int), .methodLink RX3 194 yX3_grownTells, .instanceMethod yX3_grownTells, .selects RX3 yX3_grownTells yX3_grownTells, .code yX3_grownTells cX3_grownTells 2 (some .int), .fieldLink RX3 20 "TownLisp" "now" "LTownLisp$Town;", .fieldLink RX3 80 "TownLisp$Town" "thick" "[I"] ++ wsX30 ++ wsX20)
def wsX3_tell_r1 : List Cond := [Cond.fieldLink RX3 20 "TownLisp" "now" "LTownLisp$Town;", Cond.fieldLink RX3 73 "TownLisp$Town" "kind" "[I", Cond.methodLink RX3 70 yX2_has, Cond.instanceMethod yX2_has, Cond.selects RX2 yX2_has yX2_has, Cond.initialized RX2, Cond.code yX2_has cX2_has 2 (some .boolean), Cond.fieldLink RX2 30 "TownLisp$Town" "count" "I", Cond.methodLink RX3 194 yX3_grownTells, Cond.instanceMethod yX3_grownTells, Cond.selects RX3 yX3_grownTells yX3_grownTells, Cond.initialized RX3, Cond.code yX3_grownTells cX3_grownTells 2 (some .int), Cond.fieldLink RX3 80 "TownLisp$Town" "thick" "[I", Cond.methodLink RX3 242 yX3_begin, Cond.instanceMethod yX3_begin, Cond.selects RX3 yX3_begin yX3_begin, Cond.code yX3_begin cX3_begin 2 none, Cond.fieldLink RX3 209 "TownLisp" "traced" "I", Cond.methodLink RX3 197 yX3_shyTells, Cond.instanceMethod yX3_shyTells, Cond.selects RX3 yX3_shyTells yX3_shyTells, Cond.code yX3_shyTells cX3_shyTells 2 (some .int), Cond.methodLink RX3 200 yX3_childTells]
def wsX3_tell_r2 : List Cond := [Cond.instanceMethod yX3_childTells, Cond.selects RX3 yX3_childTells yX3_childTells, Cond.code yX3_childTells cX3_childTells 3 (some .int)]
def wsX3_tell : List Cond := .code yX3_tell cX3_tell 2 (some .int) :: ((wsX3_tell_r1 ++ wsX3_tell_r2) ++ wsX30 ++ wsX20)
def wsX3_childIsCalled : List Cond := .code yX3_childIsCalled cX3_childIsCalled 1 (some .int) :: ([.methodLink RX3 242 yX3_begin, .instanceMethod yX3_begin, .selects RX3 yX3_begin yX3_begin, .initialized RX3, .code yX3_begin cX3_begin 2 none, .fieldLink RX3 209 "TownLisp" "traced" "I"] ++ wsX30)
def wsX3_lentIsCalled : List Cond := .code yX3_lentIsCalled cX3_lentIsCalled 2 (some .int) :: ([.methodLink RX3 242 yX3_begin, .instanceMethod yX3_begin, .selects RX3 yX3_begin yX3_begin, .initialized RX3, .code yX3_begin cX3_begin 2 none, .fieldLink RX3 209 "TownLisp" "traced" "I"] ++ wsX30)
def wsX3_call : List Cond := .code yX3_call cX3_call 2 (some .int) :: ([.fieldLink RX3 20 "TownLisp" "now" "LTownLisp$Town;", .fieldLink RX3 73 "TownLisp$Town" "kind" "[I", .methodLink RX3 70 yX2_has, .instanceMethod yX2_has, .selects RX2 yX2_has yX2_has, .initialized RX2, .code yX2_has cX2_has 2 (some .boolean), .fieldLink RX2 30 "TownLisp$Town" "count" "I", .methodLink RX3 203 yX3_childIsCalled, .instanceMethod yX3_childIsCalled, .selects RX3 yX3_childIsCalled yX3_childIsCalled, .initialized RX3, .code yX3_childIsCalled cX3_childIsCalled 1 (some .int), .methodLink RX3 242 yX3_begin, .instanceMethod yX3_begin, .selects RX3 yX3_begin yX3_begin, .code yX3_begin cX3_begin 2 none, .fieldLink RX3 209 "TownLisp" "traced" "I", .methodLink RX3 206 yX3_lentIsCalled, .instanceMethod yX3_lentIsCalled, .selects RX3 yX3_lentIsCalled yX3_lentIsCalled, .code yX3_lentIsCalled cX3_lentIsCalled 2 (some .int)] ++ wsX30 ++ wsX20)
def wsX3_as : List Cond := .code yX3_as cX3_as 3 (some .int) :: ([.fieldLink RX3 35 "TownLisp" "latestFault" "I", .fieldLink RX3 20 "TownLisp" "now" "LTownLisp$Town;", .fieldLink RX3 73 "TownLisp$Town" "kind" "[I", .methodLink RX3 70 yX2_has, .instanceMethod yX2_has, .selects RX2 yX2_has yX2_has, .initialized RX2, .code yX2_has cX2_has 2 (some .boolean), .fieldLink RX2 30 "TownLisp$Town" "count" "I", .methodLink RX3 51 yX3_faulty, .instanceMethod yX3_faulty, .selects RX3 yX3_faulty yX3_faulty, .initialized RX3, .code yX3_faulty cX3_faulty 2 (some .int)] ++ wsX30 ++ wsX20)
def wsX3_trace : List Cond := .code yX3_trace cX3_trace 1 (some .int) :: ([.fieldLink RX3 209 "TownLisp" "traced" "I"] ++ wsX30)
def wsX3_fault : List Cond := .code yX3_fault cX3_fault 1 (some .int) :: ([.fieldLink RX3 35 "TownLisp" "latestFault" "I"] ++ wsX30)
def wsX3_many : List Cond := .code yX3_many cX3_many 2 (some .int) :: ([.fieldLink RX3 20 "TownLisp" "now" "LTownLisp$Town;", .fieldLink RX3 69 "TownLisp$Town" "count" "I", .fieldLink RX3 103 "TownLisp$Town" "tin" "I", .fieldLink RX3 66 "TownLisp" "daysGone" "I", .fieldLink RX3 30 "TownLisp" "said" "LTownLisp$Readings;", .fieldLink RX3 63 "TownLisp$Readings" "count" "I", .methodLink RX3 152 yX2_heads, .instanceMethod yX2_heads, .selects RX2 yX2_heads yX2_heads, .initialized RX2, .code yX2_heads cX2_heads 1 (some .int), .fieldLink RX2 41 "TownLisp$Town" "inside" "I", .methodLink RX2 57 yJ6_bitCount_0f7a4, .static yJ6_bitCount_0f7a4, .initialized RJ6, .code yJ6_bitCount_0f7a4 cJ6_bitCount_0f7a4 1 (some .int), .constant RJ6 265 (1431655765), .constant RJ6 266 (858993459), .constant RJ6 267 (252645135)] ++ wsX30 ++ wsX20 ++ wsX00)
def wsX4_init : List Cond := .code yX4_init cX4_init 1 none :: ([.methodLink RX4 1 objectInit, .instanceMethod objectInit, .code objectInit ⟨#[0xb1]⟩ 1 none, .arrayClass .int, .fieldLink RX4 9 "TownLispModel" "sorts" "[I", .fieldLink RX4 13 "TownLispModel" "sheetLong" "[I", .fieldLink RX4 16 "TownLispModel" "cells" "[I", .fieldLink RX4 19 "TownLispModel" "kind" "[I", .fieldLink RX4 22 "TownLispModel" "parts" "[I", .fieldLink RX4 25 "TownLispModel" "thick" "[I", .fieldLink RX4 28 "TownLispModel" "read" "[I", .fieldLink RX4 31 "TownLispModel" "shared" "[I", .fieldLink RX4 34 "TownLispModel" "keptParts" "[I", .fieldLink RX4 37 "TownLispModel" "readWho" "[I", .fieldLink RX4 40 "TownLispModel" "readParts" "[I", .fieldLink RX4 43 "TownLispModel" "readSaid" "[I"] ++ wsX40)
def wsX4_fails : List Cond := .code yX4_fails cX4_fails 2 (some .int) :: ([.fieldLink RX4 46 "TownLispModel" "fault" "I"] ++ wsX40)
def wsX4_lost : List Cond := .code yX4_lost cX4_lost 2 (some .long) :: ([.fieldLink RX4 46 "TownLispModel" "fault" "I", .constantLong RX4 50 (-9223372036854775808)] ++ wsX40)
def wsX4_within : List Cond := .code yX4_within cX4_within 3 (some .boolean) :: ([])
def wsX4_isSheet : List Cond := .code yX4_isSheet cX4_isSheet 1 (some .boolean) :: ([.methodLink RX4 52 yX4_within, .static yX4_within, .initialized RX4, .code yX4_within cX4_within 3 (some .boolean)])
def wsX4_isSort : List Cond := .code yX4_isSort cX4_isSort 1 (some .boolean) :: ([.methodLink RX4 52 yX4_within, .static yX4_within, .initialized RX4, .code yX4_within cX4_within 3 (some .boolean)])
def wsX4_against : List Cond := .code yX4_against cX4_against 5 (some .int) :: ([.fieldLink RX4 9 "TownLispModel" "sorts" "[I", .fieldLink RX4 13 "TownLispModel" "sheetLong" "[I"] ++ wsX40)
def wsX4_isPerson : List Cond := .code yX4_isPerson cX4_isPerson 2 (some .boolean) :: ([.fieldLink RX4 56 "TownLispModel" "people" "I"] ++ wsX40)
def wsX4_isOf : List Cond := .code yX4_isOf cX4_isOf 2 (some .boolean) :: ([])
def wsX4_size : List Cond := .code yX4_size cX4_size 3 (some .int) :: ([])
def wsX4_digit : List Cond := .code yX4_digit cX4_digit 4 (some .int) :: ([.fieldLink RX4 59 "TownLispModel" "at" "I", .fieldLink RX4 16 "TownLispModel" "cells" "[I", .methodLink RX4 52 yX4_within, .static yX4_within, .initialized RX4, .code yX4_within cX4_within 3 (some .boolean)] ++ wsX40)
def wsX4_twoDigits : List Cond := .code yX4_twoDigits cX4_twoDigits 5 (some .int) :: ([.methodLink RX4 62 yX4_digit, .instanceMethod yX4_digit, .selects RX4 yX4_digit yX4_digit, .initialized RX4, .code yX4_digit cX4_digit 4 (some .int), .fieldLink RX4 59 "TownLispModel" "at" "I", .fieldLink RX4 16 "TownLispModel" "cells" "[I", .methodLink RX4 52 yX4_within, .static yX4_within, .code yX4_within cX4_within 3 (some .boolean)] ++ wsX40)
def wsX4_isSign : List Cond := .code yX4_isSign cX4_isSign 3 (some .boolean) :: ([.fieldLink RX4 59 "TownLispModel" "at" "I", .fieldLink RX4 16 "TownLispModel" "cells" "[I"] ++ wsX40)
def wsX4_readPerson : List Cond := .code yX4_readPerson cX4_readPerson 4 (some .boolean) :: ([.fieldLink RX4 59 "TownLispModel" "at" "I", .fieldLink RX4 16 "TownLispModel" "cells" "[I", .fieldLink RX4 93 "TownLispModel" "readPeople" "I", .fieldLink RX4 28 "TownLispModel" "read" "[I", .methodLink RX4 109 yX4_twoDigits, .instanceMethod yX4_twoDigits, .selects RX4 yX4_twoDigits yX4_twoDigits, .initialized RX4, .code yX4_twoDigits cX4_twoDigits 5 (some .int), .methodLink RX4 62 yX4_digit, .instanceMethod yX4_digit, .selects RX4 yX4_digit yX4_digit, .code yX4_digit cX4_digit 4 (some .int), .methodLink RX4 52 yX4_within, .static yX4_within, .code yX4_within cX4_within 3 (some .boolean)] ++ wsX40)
def wsX4_readTown_r1 : List Cond := [Cond.fieldLink RX4 93 "TownLispModel" "readPeople" "I", Cond.fieldLink RX4 87 "TownLispModel" "readTin" "I", Cond.fieldLink RX4 59 "TownLispModel" "at" "I", Cond.methodLink RX4 105 yX4_isSign, Cond.instanceMethod yX4_isSign, Cond.selects RX4 yX4_isSign yX4_isSign, Cond.initialized RX4, Cond.code yX4_isSign cX4_isSign 3 (some .boolean), Cond.fieldLink RX4 16 "TownLispModel" "cells" "[I", Cond.methodLink RX4 109 yX4_twoDigits, Cond.instanceMethod yX4_twoDigits, Cond.selects RX4 yX4_twoDigits yX4_twoDigits, Cond.code yX4_twoDigits cX4_twoDigits 5 (some .int), Cond.methodLink RX4 62 yX4_digit, Cond.instanceMethod yX4_digit, Cond.selects RX4 yX4_digit yX4_digit, Cond.code yX4_digit cX4_digit 4 (some .int), Cond.methodLink RX4 52 yX4_within, Cond.static yX4_within, Cond.code yX4_within cX4_within 3 (some .boolean), Cond.methodLink RX4 113 yX4_readPerson, Cond.instanceMethod yX4_readPerson, Cond.selects RX4 yX4_readPerson yX4_readPerson, Cond.code yX4_readPerson cX4_readPerson 4 (some .boolean)]
def wsX4_readTown_r2 : List Cond := [Cond.fieldLink RX4 28 "TownLispModel" "read" "[I"]
def wsX4_readTown : List Cond := .code yX4_readTown cX4_readTown 2 (some .boolean) :: ((wsX4_readTown_r1 ++ wsX4_readTown_r2) ++ wsX40)
def wsX4_takeTown : List Cond := .code yX4_takeTown cX4_takeTown 2 none :: ([.fieldLink RX4 87 "TownLispModel" "readTin" "I", .fieldLink RX4 90 "TownLispModel" "tin" "I", .fieldLink RX4 93 "TownLispModel" "readPeople" "I", .fieldLink RX4 56 "TownLispModel" "people" "I", .fieldLink RX4 96 "TownLispModel" "isIn" "I", .fieldLink RX4 19 "TownLispModel" "kind" "[I", .fieldLink RX4 28 "TownLispModel" "read" "[I", .fieldLink RX4 22 "TownLispModel" "parts" "[I", .fieldLink RX4 25 "TownLispModel" "thick" "[I", .fieldLink RX4 99 "TownLispModel" "days" "I", .fieldLink RX4 102 "TownLispModel" "readings" "I"] ++ wsX40)
def wsX4_town_r1 : List Cond := [Cond.fieldLink RX4 46 "TownLispModel" "fault" "I", Cond.fieldLink RX4 59 "TownLispModel" "at" "I", Cond.fieldLink RX4 56 "TownLispModel" "people" "I", Cond.methodLink RX4 66 yX4_isSheet, Cond.static yX4_isSheet, Cond.initialized RX4, Cond.code yX4_isSheet cX4_isSheet 1 (some .boolean), Cond.methodLink RX4 52 yX4_within, Cond.static yX4_within, Cond.code yX4_within cX4_within 3 (some .boolean), Cond.methodLink RX4 70 yX4_isSort, Cond.static yX4_isSort, Cond.code yX4_isSort cX4_isSort 1 (some .boolean), Cond.methodLink RX4 73 yX4_against, Cond.instanceMethod yX4_against, Cond.selects RX4 yX4_against yX4_against, Cond.code yX4_against cX4_against 5 (some .int), Cond.fieldLink RX4 9 "TownLispModel" "sorts" "[I", Cond.fieldLink RX4 13 "TownLispModel" "sheetLong" "[I", Cond.methodLink RX4 77 yX4_fails, Cond.instanceMethod yX4_fails, Cond.selects RX4 yX4_fails yX4_fails, Cond.code yX4_fails cX4_fails 2 (some .int), Cond.methodLink RX4 81 yX4_readTown]
def wsX4_town_r2 : List Cond := [Cond.instanceMethod yX4_readTown, Cond.selects RX4 yX4_readTown yX4_readTown, Cond.code yX4_readTown cX4_readTown 2 (some .boolean), Cond.fieldLink RX4 93 "TownLispModel" "readPeople" "I", Cond.fieldLink RX4 87 "TownLispModel" "readTin" "I", Cond.methodLink RX4 105 yX4_isSign, Cond.instanceMethod yX4_isSign, Cond.selects RX4 yX4_isSign yX4_isSign, Cond.code yX4_isSign cX4_isSign 3 (some .boolean), Cond.fieldLink RX4 16 "TownLispModel" "cells" "[I", Cond.methodLink RX4 109 yX4_twoDigits, Cond.instanceMethod yX4_twoDigits, Cond.selects RX4 yX4_twoDigits yX4_twoDigits, Cond.code yX4_twoDigits cX4_twoDigits 5 (some .int), Cond.methodLink RX4 62 yX4_digit, Cond.instanceMethod yX4_digit, Cond.selects RX4 yX4_digit yX4_digit, Cond.code yX4_digit cX4_digit 4 (some .int), Cond.methodLink RX4 113 yX4_readPerson, Cond.instanceMethod yX4_readPerson, Cond.selects RX4 yX4_readPerson yX4_readPerson, Cond.code yX4_readPerson cX4_readPerson 4 (some .boolean), Cond.fieldLink RX4 28 "TownLispModel" "read" "[I", Cond.methodLink RX4 84 yX4_takeTown]
def wsX4_town_r3 : List Cond := [Cond.instanceMethod yX4_takeTown, Cond.selects RX4 yX4_takeTown yX4_takeTown, Cond.code yX4_takeTown cX4_takeTown 2 none, Cond.fieldLink RX4 90 "TownLispModel" "tin" "I", Cond.fieldLink RX4 96 "TownLispModel" "isIn" "I", Cond.fieldLink RX4 19 "TownLispModel" "kind" "[I", Cond.fieldLink RX4 22 "TownLispModel" "parts" "[I", Cond.fieldLink RX4 25 "TownLispModel" "thick" "[I", Cond.fieldLink RX4 99 "TownLispModel" "days" "I", Cond.fieldLink RX4 102 "TownLispModel" "readings" "I"]
def wsX4_town : List Cond := .code yX4_town cX4_town 7 (some .int) :: ((wsX4_town_r1 ++ (wsX4_town_r2 ++ wsX4_town_r3)) ++ wsX40)
def wsX4_saysBy : List Cond := .code yX4_saysBy cX4_saysBy 4 (some .int) :: ([.fieldLink RX4 25 "TownLispModel" "thick" "[I", .fieldLink RX4 19 "TownLispModel" "kind" "[I"] ++ wsX40)
def wsX4_ofPerson : List Cond := .code yX4_ofPerson cX4_ofPerson 3 (some .int) :: ([.fieldLink RX4 19 "TownLispModel" "kind" "[I", .fieldLink RX4 22 "TownLispModel" "parts" "[I", .fieldLink RX4 25 "TownLispModel" "thick" "[I", .fieldLink RX4 96 "TownLispModel" "isIn" "I", .methodLink RX4 116 yX4_isPerson, .instanceMethod yX4_isPerson, .selects RX4 yX4_isPerson yX4_isPerson, .initialized RX4, .code yX4_isPerson cX4_isPerson 2 (some .boolean), .fieldLink RX4 56 "TownLispModel" "people" "I", .methodLink RX4 119 yX4_saysBy, .instanceMethod yX4_saysBy, .selects RX4 yX4_saysBy yX4_saysBy, .code yX4_saysBy cX4_saysBy 4 (some .int)] ++ wsX40)
def wsX4_tune : List Cond := .code yX4_tune cX4_tune 4 (some .int) :: ([.fieldLink RX4 25 "TownLispModel" "thick" "[I", .methodLink RX4 116 yX4_isPerson, .instanceMethod yX4_isPerson, .selects RX4 yX4_isPerson yX4_isPerson, .initialized RX4, .code yX4_isPerson cX4_isPerson 2 (some .boolean), .fieldLink RX4 56 "TownLispModel" "people" "I", .methodLink RX4 52 yX4_within, .static yX4_within, .code yX4_within cX4_within 3 (some .boolean)] ++ wsX40)
def wsX4_saidNow : List Cond := .code yX4_saidNow cX4_saidNow 3 (some .int) :: ([.fieldLink RX4 56 "TownLispModel" "people" "I", .fieldLink RX4 96 "TownLispModel" "isIn" "I", .fieldLink RX4 22 "TownLispModel" "parts" "[I", .methodLink RX4 122 yX4_isOf, .static yX4_isOf, .initialized RX4, .code yX4_isOf cX4_isOf 2 (some .boolean), .methodLink RX4 119 yX4_saysBy, .instanceMethod yX4_saysBy, .selects RX4 yX4_saysBy yX4_saysBy, .code yX4_saysBy cX4_saysBy 4 (some .int), .fieldLink RX4 25 "TownLispModel" "thick" "[I", .fieldLink RX4 19 "TownLispModel" "kind" "[I"] ++ wsX40)
def wsX4_partsOf : List Cond := .code yX4_partsOf cX4_partsOf 4 (some .int) :: ([.fieldLink RX4 56 "TownLispModel" "people" "I", .fieldLink RX4 22 "TownLispModel" "parts" "[I", .methodLink RX4 122 yX4_isOf, .static yX4_isOf, .initialized RX4, .code yX4_isOf cX4_isOf 2 (some .boolean)] ++ wsX40)
def wsX4_heard : List Cond := .code yX4_heard cX4_heard 2 (some .int) :: ([.fieldLink RX4 56 "TownLispModel" "people" "I", .fieldLink RX4 96 "TownLispModel" "isIn" "I", .methodLink RX4 52 yX4_within, .static yX4_within, .initialized RX4, .code yX4_within cX4_within 3 (some .boolean), .methodLink RX4 125 yX4_saidNow, .instanceMethod yX4_saidNow, .selects RX4 yX4_saidNow yX4_saidNow, .code yX4_saidNow cX4_saidNow 3 (some .int), .fieldLink RX4 22 "TownLispModel" "parts" "[I", .methodLink RX4 122 yX4_isOf, .static yX4_isOf, .code yX4_isOf cX4_isOf 2 (some .boolean), .methodLink RX4 119 yX4_saysBy, .instanceMethod yX4_saysBy, .selects RX4 yX4_saysBy yX4_saysBy, .code yX4_saysBy cX4_saysBy 4 (some .int), .fieldLink RX4 25 "TownLispModel" "thick" "[I", .fieldLink RX4 19 "TownLispModel" "kind" "[I", .methodLink RX4 129 yX4_partsOf, .instanceMethod yX4_partsOf, .selects RX4 yX4_partsOf yX4_partsOf, .code yX4_partsOf cX4_partsOf 4 (some .int)] ++ wsX40)
def wsX4_shareOf : List Cond := .code yX4_shareOf cX4_shareOf 8 (some .int) :: ([.fieldLink RX4 56 "TownLispModel" "people" "I", .methodLink RX4 129 yX4_partsOf, .instanceMethod yX4_partsOf, .selects RX4 yX4_partsOf yX4_partsOf, .initialized RX4, .code yX4_partsOf cX4_partsOf 4 (some .int), .fieldLink RX4 22 "TownLispModel" "parts" "[I", .methodLink RX4 122 yX4_isOf, .static yX4_isOf, .code yX4_isOf cX4_isOf 2 (some .boolean), .methodLink RX4 132 yX4_size, .static yX4_size, .code yX4_size cX4_size 3 (some .int)] ++ wsX40)
def wsX4_doDay : List Cond := .code yX4_doDay cX4_doDay 3 none :: ([.fieldLink RX4 56 "TownLispModel" "people" "I", .fieldLink RX4 31 "TownLispModel" "shared" "[I", .fieldLink RX4 96 "TownLispModel" "isIn" "I", .fieldLink RX4 22 "TownLispModel" "parts" "[I", .methodLink RX4 122 yX4_isOf, .static yX4_isOf, .initialized RX4, .code yX4_isOf cX4_isOf 2 (some .boolean), .methodLink RX4 135 yX4_shareOf, .instanceMethod yX4_shareOf, .selects RX4 yX4_shareOf yX4_shareOf, .code yX4_shareOf cX4_shareOf 8 (some .int), .methodLink RX4 129 yX4_partsOf, .instanceMethod yX4_partsOf, .selects RX4 yX4_partsOf yX4_partsOf, .code yX4_partsOf cX4_partsOf 4 (some .int), .methodLink RX4 132 yX4_size, .static yX4_size, .code yX4_size cX4_size 3 (some .int)] ++ wsX40)
def wsX4_day_r1 : List Cond := [Cond.fieldLink RX4 96 "TownLispModel" "isIn" "I", Cond.fieldLink RX4 99 "TownLispModel" "days" "I", Cond.methodLink RX4 116 yX4_isPerson, Cond.instanceMethod yX4_isPerson, Cond.selects RX4 yX4_isPerson yX4_isPerson, Cond.initialized RX4, Cond.code yX4_isPerson cX4_isPerson 2 (some .boolean), Cond.fieldLink RX4 56 "TownLispModel" "people" "I", Cond.methodLink RX4 129 yX4_partsOf, Cond.instanceMethod yX4_partsOf, Cond.selects RX4 yX4_partsOf yX4_partsOf, Cond.code yX4_partsOf cX4_partsOf 4 (some .int), Cond.fieldLink RX4 22 "TownLispModel" "parts" "[I", Cond.methodLink RX4 122 yX4_isOf, Cond.static yX4_isOf, Cond.code yX4_isOf cX4_isOf 2 (some .boolean), Cond.methodLink RX4 132 yX4_size, Cond.static yX4_size, Cond.code yX4_size cX4_size 3 (some .int), Cond.methodLink RX4 138 yX4_doDay, Cond.instanceMethod yX4_doDay, Cond.selects RX4 yX4_doDay yX4_doDay, Cond.code yX4_doDay cX4_doDay 3 none, Cond.fieldLink RX4 31 "TownLispModel" "shared" "[I"]
def wsX4_day_r2 : List Cond := [Cond.methodLink RX4 135 yX4_shareOf, Cond.instanceMethod yX4_shareOf, Cond.selects RX4 yX4_shareOf yX4_shareOf, Cond.code yX4_shareOf cX4_shareOf 8 (some .int)]
def wsX4_day : List Cond := .code yX4_day cX4_day 3 (some .int) :: ((wsX4_day_r1 ++ wsX4_day_r2) ++ wsX40)
def wsX4_doLeave : List Cond := .code yX4_doLeave cX4_doLeave 4 none :: ([.fieldLink RX4 96 "TownLispModel" "isIn" "I", .fieldLink RX4 22 "TownLispModel" "parts" "[I", .fieldLink RX4 90 "TownLispModel" "tin" "I", .fieldLink RX4 56 "TownLispModel" "people" "I", .methodLink RX4 122 yX4_isOf, .static yX4_isOf, .initialized RX4, .code yX4_isOf cX4_isOf 2 (some .boolean)] ++ wsX40)
def wsX4_leave : List Cond := .code yX4_leave cX4_leave 3 (some .int) :: ([.fieldLink RX4 96 "TownLispModel" "isIn" "I", .fieldLink RX4 22 "TownLispModel" "parts" "[I", .methodLink RX4 116 yX4_isPerson, .instanceMethod yX4_isPerson, .selects RX4 yX4_isPerson yX4_isPerson, .initialized RX4, .code yX4_isPerson cX4_isPerson 2 (some .boolean), .fieldLink RX4 56 "TownLispModel" "people" "I", .methodLink RX4 122 yX4_isOf, .static yX4_isOf, .code yX4_isOf cX4_isOf 2 (some .boolean), .methodLink RX4 142 yX4_doLeave, .instanceMethod yX4_doLeave, .selects RX4 yX4_doLeave yX4_doLeave, .code yX4_doLeave cX4_doLeave 4 none, .fieldLink RX4 90 "TownLispModel" "tin" "I"] ++ wsX40)
def wsX4_come : List Cond := .code yX4_come cX4_come 2 (some .int) :: ([.fieldLink RX4 96 "TownLispModel" "isIn" "I", .methodLink RX4 116 yX4_isPerson, .instanceMethod yX4_isPerson, .selects RX4 yX4_isPerson yX4_isPerson, .initialized RX4, .code yX4_isPerson cX4_isPerson 2 (some .boolean), .fieldLink RX4 56 "TownLispModel" "people" "I", .methodLink RX4 122 yX4_isOf, .static yX4_isOf, .code yX4_isOf cX4_isOf 2 (some .boolean), .methodLink RX4 132 yX4_size, .static yX4_size, .code yX4_size cX4_size 3 (some .int)] ++ wsX40)
def wsX4_doGather : List Cond := .code yX4_doGather cX4_doGather 4 (some .int) :: ([.fieldLink RX4 56 "TownLispModel" "people" "I", .fieldLink RX4 96 "TownLispModel" "isIn" "I", .fieldLink RX4 22 "TownLispModel" "parts" "[I", .methodLink RX4 122 yX4_isOf, .static yX4_isOf, .initialized RX4, .code yX4_isOf cX4_isOf 2 (some .boolean)] ++ wsX40)
def wsX4_gather : List Cond := .code yX4_gather cX4_gather 2 (some .int) :: ([.fieldLink RX4 96 "TownLispModel" "isIn" "I", .methodLink RX4 116 yX4_isPerson, .instanceMethod yX4_isPerson, .selects RX4 yX4_isPerson yX4_isPerson, .initialized RX4, .code yX4_isPerson cX4_isPerson 2 (some .boolean), .fieldLink RX4 56 "TownLispModel" "people" "I", .methodLink RX4 122 yX4_isOf, .static yX4_isOf, .code yX4_isOf cX4_isOf 2 (some .boolean), .methodLink RX4 145 yX4_doGather, .instanceMethod yX4_doGather, .selects RX4 yX4_doGather yX4_doGather, .code yX4_doGather cX4_doGather 4 (some .int), .fieldLink RX4 22 "TownLispModel" "parts" "[I"] ++ wsX40)
def wsX4_pack : List Cond := .code yX4_pack cX4_pack 3 (some .int) :: ([.fieldLink RX4 22 "TownLispModel" "parts" "[I", .fieldLink RX4 90 "TownLispModel" "tin" "I", .methodLink RX4 116 yX4_isPerson, .instanceMethod yX4_isPerson, .selects RX4 yX4_isPerson yX4_isPerson, .initialized RX4, .code yX4_isPerson cX4_isPerson 2 (some .boolean), .fieldLink RX4 56 "TownLispModel" "people" "I", .methodLink RX4 52 yX4_within, .static yX4_within, .code yX4_within cX4_within 3 (some .boolean)] ++ wsX40)
def wsX4_doOpen : List Cond := .code yX4_doOpen cX4_doOpen 3 (some .int) :: ([.fieldLink RX4 90 "TownLispModel" "tin" "I", .fieldLink RX4 22 "TownLispModel" "parts" "[I"] ++ wsX40)
def wsX4_open : List Cond := .code yX4_open cX4_open 2 (some .int) :: ([.fieldLink RX4 96 "TownLispModel" "isIn" "I", .fieldLink RX4 90 "TownLispModel" "tin" "I", .methodLink RX4 116 yX4_isPerson, .instanceMethod yX4_isPerson, .selects RX4 yX4_isPerson yX4_isPerson, .initialized RX4, .code yX4_isPerson cX4_isPerson 2 (some .boolean), .fieldLink RX4 56 "TownLispModel" "people" "I", .methodLink RX4 122 yX4_isOf, .static yX4_isOf, .code yX4_isOf cX4_isOf 2 (some .boolean), .methodLink RX4 148 yX4_doOpen, .instanceMethod yX4_doOpen, .selects RX4 yX4_doOpen yX4_doOpen, .code yX4_doOpen cX4_doOpen 3 (some .int), .fieldLink RX4 22 "TownLispModel" "parts" "[I"] ++ wsX40)
def wsX4_keep : List Cond := .code yX4_keep cX4_keep 2 none :: ([.fieldLink RX4 90 "TownLispModel" "tin" "I", .fieldLink RX4 151 "TownLispModel" "keptTin" "I", .fieldLink RX4 96 "TownLispModel" "isIn" "I", .fieldLink RX4 154 "TownLispModel" "keptIn" "I", .fieldLink RX4 56 "TownLispModel" "people" "I", .fieldLink RX4 34 "TownLispModel" "keptParts" "[I", .fieldLink RX4 22 "TownLispModel" "parts" "[I"] ++ wsX40)
def wsX4_putBack : List Cond := .code yX4_putBack cX4_putBack 2 none :: ([.fieldLink RX4 151 "TownLispModel" "keptTin" "I", .fieldLink RX4 90 "TownLispModel" "tin" "I", .fieldLink RX4 154 "TownLispModel" "keptIn" "I", .fieldLink RX4 96 "TownLispModel" "isIn" "I", .fieldLink RX4 56 "TownLispModel" "people" "I", .fieldLink RX4 22 "TownLispModel" "parts" "[I", .fieldLink RX4 34 "TownLispModel" "keptParts" "[I"] ++ wsX40)
def wsX4_canBe : List Cond := .code yX4_canBe cX4_canBe 3 (some .boolean) :: ([.fieldLink RX4 96 "TownLispModel" "isIn" "I", .fieldLink RX4 90 "TownLispModel" "tin" "I", .methodLink RX4 122 yX4_isOf, .static yX4_isOf, .initialized RX4, .code yX4_isOf cX4_isOf 2 (some .boolean)] ++ wsX40)
def wsX4_does_r1 : List Cond := [Cond.fieldLink RX4 96 "TownLispModel" "isIn" "I", Cond.methodLink RX4 138 yX4_doDay, Cond.instanceMethod yX4_doDay, Cond.selects RX4 yX4_doDay yX4_doDay, Cond.initialized RX4, Cond.code yX4_doDay cX4_doDay 3 none, Cond.fieldLink RX4 56 "TownLispModel" "people" "I", Cond.fieldLink RX4 31 "TownLispModel" "shared" "[I", Cond.fieldLink RX4 22 "TownLispModel" "parts" "[I", Cond.methodLink RX4 122 yX4_isOf, Cond.static yX4_isOf, Cond.code yX4_isOf cX4_isOf 2 (some .boolean), Cond.methodLink RX4 135 yX4_shareOf, Cond.instanceMethod yX4_shareOf, Cond.selects RX4 yX4_shareOf yX4_shareOf, Cond.code yX4_shareOf cX4_shareOf 8 (some .int), Cond.methodLink RX4 129 yX4_partsOf, Cond.instanceMethod yX4_partsOf, Cond.selects RX4 yX4_partsOf yX4_partsOf, Cond.code yX4_partsOf cX4_partsOf 4 (some .int), Cond.methodLink RX4 132 yX4_size, Cond.static yX4_size, Cond.code yX4_size cX4_size 3 (some .int), Cond.methodLink RX4 142 yX4_doLeave]
def wsX4_does_r2 : List Cond := [Cond.instanceMethod yX4_doLeave, Cond.selects RX4 yX4_doLeave yX4_doLeave, Cond.code yX4_doLeave cX4_doLeave 4 none, Cond.fieldLink RX4 90 "TownLispModel" "tin" "I", Cond.methodLink RX4 145 yX4_doGather, Cond.instanceMethod yX4_doGather, Cond.selects RX4 yX4_doGather yX4_doGather, Cond.code yX4_doGather cX4_doGather 4 (some .int), Cond.methodLink RX4 148 yX4_doOpen, Cond.instanceMethod yX4_doOpen, Cond.selects RX4 yX4_doOpen yX4_doOpen, Cond.code yX4_doOpen cX4_doOpen 3 (some .int)]
def wsX4_does : List Cond := .code yX4_does cX4_does 3 none :: ((wsX4_does_r1 ++ wsX4_does_r2) ++ wsX40)
def wsX4_goYear_r1 : List Cond := [Cond.fieldLink RX4 16 "TownLispModel" "cells" "[I", Cond.methodLink RX4 157 yX4_canBe, Cond.instanceMethod yX4_canBe, Cond.selects RX4 yX4_canBe yX4_canBe, Cond.initialized RX4, Cond.code yX4_canBe cX4_canBe 3 (some .boolean), Cond.fieldLink RX4 96 "TownLispModel" "isIn" "I", Cond.fieldLink RX4 90 "TownLispModel" "tin" "I", Cond.methodLink RX4 122 yX4_isOf, Cond.static yX4_isOf, Cond.code yX4_isOf cX4_isOf 2 (some .boolean), Cond.methodLink RX4 160 yX4_does, Cond.instanceMethod yX4_does, Cond.selects RX4 yX4_does yX4_does, Cond.code yX4_does cX4_does 3 none, Cond.methodLink RX4 138 yX4_doDay, Cond.instanceMethod yX4_doDay, Cond.selects RX4 yX4_doDay yX4_doDay, Cond.code yX4_doDay cX4_doDay 3 none, Cond.fieldLink RX4 56 "TownLispModel" "people" "I", Cond.fieldLink RX4 31 "TownLispModel" "shared" "[I", Cond.fieldLink RX4 22 "TownLispModel" "parts" "[I", Cond.methodLink RX4 135 yX4_shareOf, Cond.instanceMethod yX4_shareOf]
def wsX4_goYear_r2 : List Cond := [Cond.selects RX4 yX4_shareOf yX4_shareOf, Cond.code yX4_shareOf cX4_shareOf 8 (some .int), Cond.methodLink RX4 129 yX4_partsOf, Cond.instanceMethod yX4_partsOf, Cond.selects RX4 yX4_partsOf yX4_partsOf, Cond.code yX4_partsOf cX4_partsOf 4 (some .int), Cond.methodLink RX4 132 yX4_size, Cond.static yX4_size, Cond.code yX4_size cX4_size 3 (some .int), Cond.methodLink RX4 142 yX4_doLeave, Cond.instanceMethod yX4_doLeave, Cond.selects RX4 yX4_doLeave yX4_doLeave, Cond.code yX4_doLeave cX4_doLeave 4 none, Cond.methodLink RX4 145 yX4_doGather, Cond.instanceMethod yX4_doGather, Cond.selects RX4 yX4_doGather yX4_doGather, Cond.code yX4_doGather cX4_doGather 4 (some .int), Cond.methodLink RX4 148 yX4_doOpen, Cond.instanceMethod yX4_doOpen, Cond.selects RX4 yX4_doOpen yX4_doOpen, Cond.code yX4_doOpen cX4_doOpen 3 (some .int)]
def wsX4_goYear : List Cond := .code yX4_goYear cX4_goYear 6 (some .int) :: ((wsX4_goYear_r1 ++ wsX4_goYear_r2) ++ wsX40)
def wsX4_tellYear : List Cond := .code yX4_tellYear cX4_tellYear 2 (some .int) :: ([.fieldLink RX4 22 "TownLispModel" "parts" "[I", .fieldLink RX4 90 "TownLispModel" "tin" "I", .fieldLink RX4 96 "TownLispModel" "isIn" "I", .methodLink RX4 116 yX4_isPerson, .instanceMethod yX4_isPerson, .selects RX4 yX4_isPerson yX4_isPerson, .initialized RX4, .code yX4_isPerson cX4_isPerson 2 (some .boolean), .fieldLink RX4 56 "TownLispModel" "people" "I", .methodLink RX4 125 yX4_saidNow, .instanceMethod yX4_saidNow, .selects RX4 yX4_saidNow yX4_saidNow, .code yX4_saidNow cX4_saidNow 3 (some .int), .methodLink RX4 122 yX4_isOf, .static yX4_isOf, .code yX4_isOf cX4_isOf 2 (some .boolean), .methodLink RX4 119 yX4_saysBy, .instanceMethod yX4_saysBy, .selects RX4 yX4_saysBy yX4_saysBy, .code yX4_saysBy cX4_saysBy 4 (some .int), .fieldLink RX4 25 "TownLispModel" "thick" "[I", .fieldLink RX4 19 "TownLispModel" "kind" "[I"] ++ wsX40)
def wsX4_year_r1 : List Cond := [Cond.fieldLink RX4 46 "TownLispModel" "fault" "I", Cond.fieldLink RX4 56 "TownLispModel" "people" "I", Cond.fieldLink RX4 16 "TownLispModel" "cells" "[I", Cond.methodLink RX4 66 yX4_isSheet, Cond.static yX4_isSheet, Cond.initialized RX4, Cond.code yX4_isSheet cX4_isSheet 1 (some .boolean), Cond.methodLink RX4 52 yX4_within, Cond.static yX4_within, Cond.code yX4_within cX4_within 3 (some .boolean), Cond.methodLink RX4 70 yX4_isSort, Cond.static yX4_isSort, Cond.code yX4_isSort cX4_isSort 1 (some .boolean), Cond.methodLink RX4 73 yX4_against, Cond.instanceMethod yX4_against, Cond.selects RX4 yX4_against yX4_against, Cond.code yX4_against cX4_against 5 (some .int), Cond.fieldLink RX4 9 "TownLispModel" "sorts" "[I", Cond.fieldLink RX4 13 "TownLispModel" "sheetLong" "[I", Cond.methodLink RX4 77 yX4_fails, Cond.instanceMethod yX4_fails, Cond.selects RX4 yX4_fails yX4_fails, Cond.code yX4_fails cX4_fails 2 (some .int), Cond.methodLink RX4 116 yX4_isPerson]
def wsX4_year_r2 : List Cond := [Cond.instanceMethod yX4_isPerson, Cond.selects RX4 yX4_isPerson yX4_isPerson, Cond.code yX4_isPerson cX4_isPerson 2 (some .boolean), Cond.methodLink RX4 164 yX4_keep, Cond.instanceMethod yX4_keep, Cond.selects RX4 yX4_keep yX4_keep, Cond.code yX4_keep cX4_keep 2 none, Cond.fieldLink RX4 90 "TownLispModel" "tin" "I", Cond.fieldLink RX4 151 "TownLispModel" "keptTin" "I", Cond.fieldLink RX4 96 "TownLispModel" "isIn" "I", Cond.fieldLink RX4 154 "TownLispModel" "keptIn" "I", Cond.fieldLink RX4 34 "TownLispModel" "keptParts" "[I", Cond.fieldLink RX4 22 "TownLispModel" "parts" "[I", Cond.methodLink RX4 167 yX4_goYear, Cond.instanceMethod yX4_goYear, Cond.selects RX4 yX4_goYear yX4_goYear, Cond.code yX4_goYear cX4_goYear 6 (some .int), Cond.methodLink RX4 157 yX4_canBe, Cond.instanceMethod yX4_canBe, Cond.selects RX4 yX4_canBe yX4_canBe, Cond.code yX4_canBe cX4_canBe 3 (some .boolean), Cond.methodLink RX4 122 yX4_isOf, Cond.static yX4_isOf, Cond.code yX4_isOf cX4_isOf 2 (some .boolean)]
def wsX4_year_r3 : List Cond := [Cond.methodLink RX4 160 yX4_does, Cond.instanceMethod yX4_does, Cond.selects RX4 yX4_does yX4_does, Cond.code yX4_does cX4_does 3 none, Cond.methodLink RX4 138 yX4_doDay, Cond.instanceMethod yX4_doDay, Cond.selects RX4 yX4_doDay yX4_doDay, Cond.code yX4_doDay cX4_doDay 3 none, Cond.fieldLink RX4 31 "TownLispModel" "shared" "[I", Cond.methodLink RX4 135 yX4_shareOf, Cond.instanceMethod yX4_shareOf, Cond.selects RX4 yX4_shareOf yX4_shareOf, Cond.code yX4_shareOf cX4_shareOf 8 (some .int), Cond.methodLink RX4 129 yX4_partsOf, Cond.instanceMethod yX4_partsOf, Cond.selects RX4 yX4_partsOf yX4_partsOf, Cond.code yX4_partsOf cX4_partsOf 4 (some .int), Cond.methodLink RX4 132 yX4_size, Cond.static yX4_size, Cond.code yX4_size cX4_size 3 (some .int), Cond.methodLink RX4 142 yX4_doLeave, Cond.instanceMethod yX4_doLeave, Cond.selects RX4 yX4_doLeave yX4_doLeave, Cond.code yX4_doLeave cX4_doLeave 4 none]
def wsX4_year_r4 : List Cond := [Cond.methodLink RX4 145 yX4_doGather, Cond.instanceMethod yX4_doGather, Cond.selects RX4 yX4_doGather yX4_doGather, Cond.code yX4_doGather cX4_doGather 4 (some .int), Cond.methodLink RX4 148 yX4_doOpen, Cond.instanceMethod yX4_doOpen, Cond.selects RX4 yX4_doOpen yX4_doOpen, Cond.code yX4_doOpen cX4_doOpen 3 (some .int), Cond.methodLink RX4 170 yX4_tellYear, Cond.instanceMethod yX4_tellYear, Cond.selects RX4 yX4_tellYear yX4_tellYear, Cond.code yX4_tellYear cX4_tellYear 2 (some .int), Cond.methodLink RX4 125 yX4_saidNow, Cond.instanceMethod yX4_saidNow, Cond.selects RX4 yX4_saidNow yX4_saidNow, Cond.code yX4_saidNow cX4_saidNow 3 (some .int), Cond.methodLink RX4 119 yX4_saysBy, Cond.instanceMethod yX4_saysBy, Cond.selects RX4 yX4_saysBy yX4_saysBy, Cond.code yX4_saysBy cX4_saysBy 4 (some .int), Cond.fieldLink RX4 25 "TownLispModel" "thick" "[I", Cond.fieldLink RX4 19 "TownLispModel" "kind" "[I", Cond.methodLink RX4 173 yX4_putBack, Cond.instanceMethod yX4_putBack]
def wsX4_year_r5 : List Cond := [Cond.selects RX4 yX4_putBack yX4_putBack, Cond.code yX4_putBack cX4_putBack 2 none]
def wsX4_year : List Cond := .code yX4_year cX4_year 10 (some .int) :: ((wsX4_year_r1 ++ (wsX4_year_r2 ++ (wsX4_year_r3 ++ (wsX4_year_r4 ++ wsX4_year_r5)))) ++ wsX40)
def wsX4_asked : List Cond := .code yX4_asked cX4_asked 9 (some .int) :: ([.fieldLink RX4 96 "TownLispModel" "isIn" "I", .fieldLink RX4 56 "TownLispModel" "people" "I", .fieldLink RX4 22 "TownLispModel" "parts" "[I", .methodLink RX4 116 yX4_isPerson, .instanceMethod yX4_isPerson, .selects RX4 yX4_isPerson yX4_isPerson, .initialized RX4, .code yX4_isPerson cX4_isPerson 2 (some .boolean), .methodLink RX4 52 yX4_within, .static yX4_within, .code yX4_within cX4_within 3 (some .boolean), .methodLink RX4 129 yX4_partsOf, .instanceMethod yX4_partsOf, .selects RX4 yX4_partsOf yX4_partsOf, .code yX4_partsOf cX4_partsOf 4 (some .int), .methodLink RX4 122 yX4_isOf, .static yX4_isOf, .code yX4_isOf cX4_isOf 2 (some .boolean), .methodLink RX4 132 yX4_size, .static yX4_size, .code yX4_size cX4_size 3 (some .int)] ++ wsX40)
def wsX4_gatherings_r1 : List Cond := [Cond.fieldLink RX4 22 "TownLispModel" "parts" "[I", Cond.methodLink RX4 116 yX4_isPerson, Cond.instanceMethod yX4_isPerson, Cond.selects RX4 yX4_isPerson yX4_isPerson, Cond.initialized RX4, Cond.code yX4_isPerson cX4_isPerson 2 (some .boolean), Cond.fieldLink RX4 56 "TownLispModel" "people" "I", Cond.methodLink RX4 52 yX4_within, Cond.static yX4_within, Cond.code yX4_within cX4_within 3 (some .boolean), Cond.methodLink RX4 164 yX4_keep, Cond.instanceMethod yX4_keep, Cond.selects RX4 yX4_keep yX4_keep, Cond.code yX4_keep cX4_keep 2 none, Cond.fieldLink RX4 90 "TownLispModel" "tin" "I", Cond.fieldLink RX4 151 "TownLispModel" "keptTin" "I", Cond.fieldLink RX4 96 "TownLispModel" "isIn" "I", Cond.fieldLink RX4 154 "TownLispModel" "keptIn" "I", Cond.fieldLink RX4 34 "TownLispModel" "keptParts" "[I", Cond.methodLink RX4 145 yX4_doGather, Cond.instanceMethod yX4_doGather, Cond.selects RX4 yX4_doGather yX4_doGather, Cond.code yX4_doGather cX4_doGather 4 (some .int), Cond.methodLink RX4 122 yX4_isOf]
def wsX4_gatherings_r2 : List Cond := [Cond.static yX4_isOf, Cond.code yX4_isOf cX4_isOf 2 (some .boolean), Cond.methodLink RX4 173 yX4_putBack, Cond.instanceMethod yX4_putBack, Cond.selects RX4 yX4_putBack yX4_putBack, Cond.code yX4_putBack cX4_putBack 2 none]
def wsX4_gatherings : List Cond := .code yX4_gatherings cX4_gatherings 6 (some .int) :: ((wsX4_gatherings_r1 ++ wsX4_gatherings_r2) ++ wsX40)
def wsX4_missingTo : List Cond := .code yX4_missingTo cX4_missingTo 4 (some .int) :: ([.fieldLink RX4 56 "TownLispModel" "people" "I", .fieldLink RX4 96 "TownLispModel" "isIn" "I", .fieldLink RX4 22 "TownLispModel" "parts" "[I", .methodLink RX4 122 yX4_isOf, .static yX4_isOf, .initialized RX4, .code yX4_isOf cX4_isOf 2 (some .boolean)] ++ wsX40)
def wsX4_level : List Cond := .code yX4_level cX4_level 3 (some .int) :: ([.fieldLink RX4 96 "TownLispModel" "isIn" "I", .fieldLink RX4 90 "TownLispModel" "tin" "I", .methodLink RX4 52 yX4_within, .static yX4_within, .initialized RX4, .code yX4_within cX4_within 3 (some .boolean), .methodLink RX4 176 yX4_missingTo, .instanceMethod yX4_missingTo, .selects RX4 yX4_missingTo yX4_missingTo, .code yX4_missingTo cX4_missingTo 4 (some .int), .fieldLink RX4 56 "TownLispModel" "people" "I", .fieldLink RX4 22 "TownLispModel" "parts" "[I", .methodLink RX4 122 yX4_isOf, .static yX4_isOf, .code yX4_isOf cX4_isOf 2 (some .boolean)] ++ wsX40)
def wsX4_were : List Cond := .code yX4_were cX4_were 8 (some .int) :: ([.fieldLink RX4 56 "TownLispModel" "people" "I", .methodLink RX4 116 yX4_isPerson, .instanceMethod yX4_isPerson, .selects RX4 yX4_isPerson yX4_isPerson, .initialized RX4, .code yX4_isPerson cX4_isPerson 2 (some .boolean), .methodLink RX4 52 yX4_within, .static yX4_within, .code yX4_within cX4_within 3 (some .boolean), .methodLink RX4 122 yX4_isOf, .static yX4_isOf, .code yX4_isOf cX4_isOf 2 (some .boolean), .methodLink RX4 135 yX4_shareOf, .instanceMethod yX4_shareOf, .selects RX4 yX4_shareOf yX4_shareOf, .code yX4_shareOf cX4_shareOf 8 (some .int), .methodLink RX4 129 yX4_partsOf, .instanceMethod yX4_partsOf, .selects RX4 yX4_partsOf yX4_partsOf, .code yX4_partsOf cX4_partsOf 4 (some .int), .fieldLink RX4 22 "TownLispModel" "parts" "[I", .methodLink RX4 132 yX4_size, .static yX4_size, .code yX4_size cX4_size 3 (some .int)] ++ wsX40)
def wsX4_rounds : List Cond := .code yX4_rounds cX4_rounds 4 (some .int) :: ([.fieldLink RX4 56 "TownLispModel" "people" "I", .fieldLink RX4 90 "TownLispModel" "tin" "I", .methodLink RX4 52 yX4_within, .static yX4_within, .initialized RX4, .code yX4_within cX4_within 3 (some .boolean)] ++ wsX40)
def wsX4_factorial : List Cond := .code yX4_factorial cX4_factorial 4 (some .long) :: ([])
def wsX4_inLeastTerms : List Cond := .code yX4_inLeastTerms cX4_inLeastTerms 11 (some .long) :: ([])
def wsX4_worth_r1 : List Cond := [Cond.fieldLink RX4 96 "TownLispModel" "isIn" "I", Cond.constantLong RX4 50 (-9223372036854775808), Cond.fieldLink RX4 56 "TownLispModel" "people" "I", Cond.fieldLink RX4 22 "TownLispModel" "parts" "[I", Cond.methodLink RX4 116 yX4_isPerson, Cond.instanceMethod yX4_isPerson, Cond.selects RX4 yX4_isPerson yX4_isPerson, Cond.initialized RX4, Cond.code yX4_isPerson cX4_isPerson 2 (some .boolean), Cond.methodLink RX4 52 yX4_within, Cond.static yX4_within, Cond.code yX4_within cX4_within 3 (some .boolean), Cond.methodLink RX4 122 yX4_isOf, Cond.static yX4_isOf, Cond.code yX4_isOf cX4_isOf 2 (some .boolean), Cond.methodLink RX4 129 yX4_partsOf, Cond.instanceMethod yX4_partsOf, Cond.selects RX4 yX4_partsOf yX4_partsOf, Cond.code yX4_partsOf cX4_partsOf 4 (some .int), Cond.methodLink RX4 132 yX4_size, Cond.static yX4_size, Cond.code yX4_size cX4_size 3 (some .int), Cond.methodLink RX4 179 yX4_factorial, Cond.static yX4_factorial]
def wsX4_worth_r2 : List Cond := [Cond.code yX4_factorial cX4_factorial 4 (some .long), Cond.methodLink RX4 183 yX4_inLeastTerms, Cond.static yX4_inLeastTerms, Cond.code yX4_inLeastTerms cX4_inLeastTerms 11 (some .long)]
def wsX4_worth : List Cond := .code yX4_worth cX4_worth 10 (some .long) :: ((wsX4_worth_r1 ++ wsX4_worth_r2) ++ wsX40)
def wsX4_mean : List Cond := .code yX4_mean cX4_mean 2 (some .long) :: ([.fieldLink RX4 96 "TownLispModel" "isIn" "I", .constantLong RX4 50 (-9223372036854775808), .methodLink RX4 52 yX4_within, .static yX4_within, .initialized RX4, .code yX4_within cX4_within 3 (some .boolean), .methodLink RX4 129 yX4_partsOf, .instanceMethod yX4_partsOf, .selects RX4 yX4_partsOf yX4_partsOf, .code yX4_partsOf cX4_partsOf 4 (some .int), .fieldLink RX4 56 "TownLispModel" "people" "I", .fieldLink RX4 22 "TownLispModel" "parts" "[I", .methodLink RX4 122 yX4_isOf, .static yX4_isOf, .code yX4_isOf cX4_isOf 2 (some .boolean), .methodLink RX4 132 yX4_size, .static yX4_size, .code yX4_size cX4_size 3 (some .int), .methodLink RX4 183 yX4_inLeastTerms, .static yX4_inLeastTerms, .code yX4_inLeastTerms cX4_inLeastTerms 11 (some .long)] ++ wsX40)
def wsX4_reading : List Cond := .code yX4_reading cX4_reading 4 (some .int) :: ([.fieldLink RX4 102 "TownLispModel" "readings" "I", .fieldLink RX4 37 "TownLispModel" "readWho" "[I", .fieldLink RX4 40 "TownLispModel" "readParts" "[I", .fieldLink RX4 43 "TownLispModel" "readSaid" "[I", .methodLink RX4 116 yX4_isPerson, .instanceMethod yX4_isPerson, .selects RX4 yX4_isPerson yX4_isPerson, .initialized RX4, .code yX4_isPerson cX4_isPerson 2 (some .boolean), .fieldLink RX4 56 "TownLispModel" "people" "I", .methodLink RX4 52 yX4_within, .static yX4_within, .code yX4_within cX4_within 3 (some .boolean)] ++ wsX40)
def wsX4_back : List Cond := .code yX4_back cX4_back 2 (some .int) :: ([.fieldLink RX4 102 "TownLispModel" "readings" "I", .methodLink RX4 52 yX4_within, .static yX4_within, .initialized RX4, .code yX4_within cX4_within 3 (some .boolean)] ++ wsX40)
def wsX4_areSo : List Cond := .code yX4_areSo cX4_areSo 2 (some .boolean) :: ([.fieldLink RX4 102 "TownLispModel" "readings" "I", .fieldLink RX4 37 "TownLispModel" "readWho" "[I", .fieldLink RX4 40 "TownLispModel" "readParts" "[I", .fieldLink RX4 43 "TownLispModel" "readSaid" "[I", .methodLink RX4 119 yX4_saysBy, .instanceMethod yX4_saysBy, .selects RX4 yX4_saysBy yX4_saysBy, .initialized RX4, .code yX4_saysBy cX4_saysBy 4 (some .int), .fieldLink RX4 25 "TownLispModel" "thick" "[I", .fieldLink RX4 19 "TownLispModel" "kind" "[I"] ++ wsX40)
def wsX4_ears : List Cond := .code yX4_ears cX4_ears 5 (some .int) :: ([.fieldLink RX4 25 "TownLispModel" "thick" "[I", .methodLink RX4 116 yX4_isPerson, .instanceMethod yX4_isPerson, .selects RX4 yX4_isPerson yX4_isPerson, .initialized RX4, .code yX4_isPerson cX4_isPerson 2 (some .boolean), .fieldLink RX4 56 "TownLispModel" "people" "I", .methodLink RX4 187 yX4_areSo, .instanceMethod yX4_areSo, .selects RX4 yX4_areSo yX4_areSo, .code yX4_areSo cX4_areSo 2 (some .boolean), .fieldLink RX4 102 "TownLispModel" "readings" "I", .fieldLink RX4 37 "TownLispModel" "readWho" "[I", .fieldLink RX4 40 "TownLispModel" "readParts" "[I", .fieldLink RX4 43 "TownLispModel" "readSaid" "[I", .methodLink RX4 119 yX4_saysBy, .instanceMethod yX4_saysBy, .selects RX4 yX4_saysBy yX4_saysBy, .code yX4_saysBy cX4_saysBy 4 (some .int), .fieldLink RX4 19 "TownLispModel" "kind" "[I"] ++ wsX40)
def wsX4_kinds : List Cond := .code yX4_kinds cX4_kinds 5 (some .int) :: ([.fieldLink RX4 19 "TownLispModel" "kind" "[I", .methodLink RX4 116 yX4_isPerson, .instanceMethod yX4_isPerson, .selects RX4 yX4_isPerson yX4_isPerson, .initialized RX4, .code yX4_isPerson cX4_isPerson 2 (some .boolean), .fieldLink RX4 56 "TownLispModel" "people" "I", .methodLink RX4 187 yX4_areSo, .instanceMethod yX4_areSo, .selects RX4 yX4_areSo yX4_areSo, .code yX4_areSo cX4_areSo 2 (some .boolean), .fieldLink RX4 102 "TownLispModel" "readings" "I", .fieldLink RX4 37 "TownLispModel" "readWho" "[I", .fieldLink RX4 40 "TownLispModel" "readParts" "[I", .fieldLink RX4 43 "TownLispModel" "readSaid" "[I", .methodLink RX4 119 yX4_saysBy, .instanceMethod yX4_saysBy, .selects RX4 yX4_saysBy yX4_saysBy, .code yX4_saysBy cX4_saysBy 4 (some .int), .fieldLink RX4 25 "TownLispModel" "thick" "[I"] ++ wsX40)
def wsX4_odds_r1 : List Cond := [Cond.constantLong RX4 50 (-9223372036854775808), Cond.fieldLink RX4 56 "TownLispModel" "people" "I", Cond.methodLink RX4 116 yX4_isPerson, Cond.instanceMethod yX4_isPerson, Cond.selects RX4 yX4_isPerson yX4_isPerson, Cond.initialized RX4, Cond.code yX4_isPerson cX4_isPerson 2 (some .boolean), Cond.methodLink RX4 52 yX4_within, Cond.static yX4_within, Cond.code yX4_within cX4_within 3 (some .boolean), Cond.methodLink RX4 122 yX4_isOf, Cond.static yX4_isOf, Cond.code yX4_isOf cX4_isOf 2 (some .boolean), Cond.methodLink RX4 135 yX4_shareOf, Cond.instanceMethod yX4_shareOf, Cond.selects RX4 yX4_shareOf yX4_shareOf, Cond.code yX4_shareOf cX4_shareOf 8 (some .int), Cond.methodLink RX4 129 yX4_partsOf, Cond.instanceMethod yX4_partsOf, Cond.selects RX4 yX4_partsOf yX4_partsOf, Cond.code yX4_partsOf cX4_partsOf 4 (some .int), Cond.fieldLink RX4 22 "TownLispModel" "parts" "[I", Cond.methodLink RX4 132 yX4_size, Cond.static yX4_size]
def wsX4_odds_r2 : List Cond := [Cond.code yX4_size cX4_size 3 (some .int), Cond.methodLink RX4 119 yX4_saysBy, Cond.instanceMethod yX4_saysBy, Cond.selects RX4 yX4_saysBy yX4_saysBy, Cond.code yX4_saysBy cX4_saysBy 4 (some .int), Cond.fieldLink RX4 25 "TownLispModel" "thick" "[I", Cond.fieldLink RX4 19 "TownLispModel" "kind" "[I", Cond.methodLink RX4 183 yX4_inLeastTerms, Cond.static yX4_inLeastTerms, Cond.code yX4_inLeastTerms cX4_inLeastTerms 11 (some .long)]
def wsX4_odds : List Cond := .code yX4_odds cX4_odds 6 (some .long) :: ((wsX4_odds_r1 ++ wsX4_odds_r2) ++ wsX40)
def wsX4_sheet : List Cond := .code yX4_sheet cX4_sheet 5 (some .int) :: ([.fieldLink RX4 46 "TownLispModel" "fault" "I", .fieldLink RX4 9 "TownLispModel" "sorts" "[I", .fieldLink RX4 13 "TownLispModel" "sheetLong" "[I", .fieldLink RX4 16 "TownLispModel" "cells" "[I", .methodLink RX4 66 yX4_isSheet, .static yX4_isSheet, .initialized RX4, .code yX4_isSheet cX4_isSheet 1 (some .boolean), .methodLink RX4 52 yX4_within, .static yX4_within, .code yX4_within cX4_within 3 (some .boolean), .methodLink RX4 70 yX4_isSort, .static yX4_isSort, .code yX4_isSort cX4_isSort 1 (some .boolean), .methodLink RX4 77 yX4_fails, .instanceMethod yX4_fails, .selects RX4 yX4_fails yX4_fails, .code yX4_fails cX4_fails 2 (some .int)] ++ wsX40)
def wsX4_lose : List Cond := .code yX4_lose cX4_lose 3 (some .int) :: ([.fieldLink RX4 9 "TownLispModel" "sorts" "[I", .methodLink RX4 66 yX4_isSheet, .static yX4_isSheet, .initialized RX4, .code yX4_isSheet cX4_isSheet 1 (some .boolean), .methodLink RX4 52 yX4_within, .static yX4_within, .code yX4_within cX4_within 3 (some .boolean)] ++ wsX40)
def wsX4_put : List Cond := .code yX4_put cX4_put 4 (some .int) :: ([.fieldLink RX4 46 "TownLispModel" "fault" "I", .fieldLink RX4 9 "TownLispModel" "sorts" "[I", .fieldLink RX4 13 "TownLispModel" "sheetLong" "[I", .fieldLink RX4 16 "TownLispModel" "cells" "[I", .methodLink RX4 66 yX4_isSheet, .static yX4_isSheet, .initialized RX4, .code yX4_isSheet cX4_isSheet 1 (some .boolean), .methodLink RX4 52 yX4_within, .static yX4_within, .code yX4_within cX4_within 3 (some .boolean), .methodLink RX4 77 yX4_fails, .instanceMethod yX4_fails, .selects RX4 yX4_fails yX4_fails, .code yX4_fails cX4_fails 2 (some .int)] ++ wsX40)
def wsX4_cell : List Cond := .code yX4_cell cX4_cell 4 (some .long) :: ([.fieldLink RX4 46 "TownLispModel" "fault" "I", .constantLong RX4 50 (-9223372036854775808), .fieldLink RX4 9 "TownLispModel" "sorts" "[I", .fieldLink RX4 13 "TownLispModel" "sheetLong" "[I", .fieldLink RX4 16 "TownLispModel" "cells" "[I", .methodLink RX4 66 yX4_isSheet, .static yX4_isSheet, .initialized RX4, .code yX4_isSheet cX4_isSheet 1 (some .boolean), .methodLink RX4 52 yX4_within, .static yX4_within, .code yX4_within cX4_within 3 (some .boolean), .methodLink RX4 70 yX4_isSort, .static yX4_isSort, .code yX4_isSort cX4_isSort 1 (some .boolean), .methodLink RX4 191 yX4_lost, .instanceMethod yX4_lost, .selects RX4 yX4_lost yX4_lost, .code yX4_lost cX4_lost 2 (some .long)] ++ wsX40)
def wsX4_copy : List Cond := .code yX4_copy cX4_copy 10 (some .int) :: ([.fieldLink RX4 46 "TownLispModel" "fault" "I", .fieldLink RX4 9 "TownLispModel" "sorts" "[I", .fieldLink RX4 13 "TownLispModel" "sheetLong" "[I", .fieldLink RX4 16 "TownLispModel" "cells" "[I", .methodLink RX4 66 yX4_isSheet, .static yX4_isSheet, .initialized RX4, .code yX4_isSheet cX4_isSheet 1 (some .boolean), .methodLink RX4 52 yX4_within, .static yX4_within, .code yX4_within cX4_within 3 (some .boolean), .methodLink RX4 77 yX4_fails, .instanceMethod yX4_fails, .selects RX4 yX4_fails yX4_fails, .code yX4_fails cX4_fails 2 (some .int)] ++ wsX40)
def wsX4_begins : List Cond := .code yX4_begins cX4_begins 2 none :: ([.fieldLink RX4 194 "TownLispModel" "trace" "I"] ++ wsX40)
def wsX4_tell : List Cond := .code yX4_tell cX4_tell 3 (some .int) :: ([.fieldLink RX4 25 "TownLispModel" "thick" "[I", .fieldLink RX4 19 "TownLispModel" "kind" "[I", .methodLink RX4 116 yX4_isPerson, .instanceMethod yX4_isPerson, .selects RX4 yX4_isPerson yX4_isPerson, .initialized RX4, .code yX4_isPerson cX4_isPerson 2 (some .boolean), .fieldLink RX4 56 "TownLispModel" "people" "I", .methodLink RX4 197 yX4_begins, .instanceMethod yX4_begins, .selects RX4 yX4_begins yX4_begins, .code yX4_begins cX4_begins 2 none, .fieldLink RX4 194 "TownLispModel" "trace" "I"] ++ wsX40)
def wsX4_call : List Cond := .code yX4_call cX4_call 2 (some .int) :: ([.fieldLink RX4 19 "TownLispModel" "kind" "[I", .methodLink RX4 116 yX4_isPerson, .instanceMethod yX4_isPerson, .selects RX4 yX4_isPerson yX4_isPerson, .initialized RX4, .code yX4_isPerson cX4_isPerson 2 (some .boolean), .fieldLink RX4 56 "TownLispModel" "people" "I", .methodLink RX4 197 yX4_begins, .instanceMethod yX4_begins, .selects RX4 yX4_begins yX4_begins, .code yX4_begins cX4_begins 2 none, .fieldLink RX4 194 "TownLispModel" "trace" "I"] ++ wsX40)
def wsX4_as : List Cond := .code yX4_as cX4_as 3 (some .int) :: ([.fieldLink RX4 46 "TownLispModel" "fault" "I", .fieldLink RX4 19 "TownLispModel" "kind" "[I", .methodLink RX4 116 yX4_isPerson, .instanceMethod yX4_isPerson, .selects RX4 yX4_isPerson yX4_isPerson, .initialized RX4, .code yX4_isPerson cX4_isPerson 2 (some .boolean), .fieldLink RX4 56 "TownLispModel" "people" "I", .methodLink RX4 52 yX4_within, .static yX4_within, .code yX4_within cX4_within 3 (some .boolean), .methodLink RX4 77 yX4_fails, .instanceMethod yX4_fails, .selects RX4 yX4_fails yX4_fails, .code yX4_fails cX4_fails 2 (some .int)] ++ wsX40)
def wsX4_trace : List Cond := .code yX4_trace cX4_trace 1 (some .int) :: ([.fieldLink RX4 194 "TownLispModel" "trace" "I"] ++ wsX40)
def wsX4_fault : List Cond := .code yX4_fault cX4_fault 1 (some .int) :: ([.fieldLink RX4 46 "TownLispModel" "fault" "I"] ++ wsX40)
def wsX4_many : List Cond := .code yX4_many cX4_many 2 (some .int) :: ([.fieldLink RX4 56 "TownLispModel" "people" "I", .fieldLink RX4 90 "TownLispModel" "tin" "I", .fieldLink RX4 96 "TownLispModel" "isIn" "I", .fieldLink RX4 99 "TownLispModel" "days" "I", .fieldLink RX4 102 "TownLispModel" "readings" "I", .methodLink RX4 132 yX4_size, .static yX4_size, .initialized RX4, .code yX4_size cX4_size 3 (some .int)] ++ wsX40)
def wsJ9_max_7cf53 : List Cond := .code yJ9_max_7cf53 cJ9_max_7cf53 2 (some .int) :: ([])
def wsJ9_min_7cf53 : List Cond := .code yJ9_min_7cf53 cJ9_min_7cf53 2 (some .int) :: ([])
def wsL_law_r1 : List Cond := [Cond.classLink RL 7 RX3, Cond.instantiable RX3 7, Cond.initialized RX3, Cond.classLink RL 10 RX4, Cond.instantiable RX4 24, Cond.initialized RX4, Cond.methodLink RL 9 yX3_init, Cond.instanceMethod yX3_init, Cond.code yX3_init cX3_init 2 none, Cond.methodLink RX3 3 objectInit, Cond.instanceMethod objectInit, Cond.code objectInit ⟨#[0xb1]⟩ 1 none, Cond.classLink RX3 11 RX1, Cond.fieldLink RX3 13 "TownLisp" "sheets" "[LTownLisp$Sheet;", Cond.classLink RX3 17 RX2, Cond.instantiable RX2 6, Cond.initialized RX2, Cond.fieldLink RX3 20 "TownLisp" "now" "LTownLisp$Town;", Cond.fieldLink RX3 24 "TownLisp" "then" "LTownLisp$Town;", Cond.classLink RX3 27 RX0, Cond.instantiable RX0 4, Cond.initialized RX0, Cond.fieldLink RX3 30 "TownLisp" "said" "LTownLisp$Readings;", Cond.instantiable RX1 4]
def wsL_law_r2 : List Cond := [Cond.initialized RX1, Cond.instanceMethod yX2_init, Cond.code yX2_init cX2_init 1 none, Cond.methodLink RX2 3 objectInit, Cond.arrayClass .int, Cond.fieldLink RX2 9 "TownLisp$Town" "kind" "[I", Cond.fieldLink RX2 15 "TownLisp$Town" "parts" "[I", Cond.fieldLink RX2 18 "TownLisp$Town" "thick" "[I", Cond.instanceMethod yX0_init, Cond.code yX0_init cX0_init 1 none, Cond.methodLink RX0 3 objectInit, Cond.fieldLink RX0 9 "TownLisp$Readings" "person" "[I", Cond.fieldLink RX0 15 "TownLisp$Readings" "parts" "[I", Cond.fieldLink RX0 18 "TownLisp$Readings" "amount" "[I", Cond.instanceMethod yX1_init, Cond.code yX1_init cX1_init 1 none, Cond.methodLink RX1 3 objectInit, Cond.fieldLink RX1 9 "TownLisp$Sheet" "cells" "[I", Cond.methodLink RL 12 yX4_init, Cond.instanceMethod yX4_init, Cond.code yX4_init cX4_init 1 none, Cond.methodLink RX4 1 objectInit, Cond.fieldLink RX4 9 "TownLispModel" "sorts" "[I", Cond.fieldLink RX4 13 "TownLispModel" "sheetLong" "[I"]
def wsL_law_r3 : List Cond := [Cond.fieldLink RX4 16 "TownLispModel" "cells" "[I", Cond.fieldLink RX4 19 "TownLispModel" "kind" "[I", Cond.fieldLink RX4 22 "TownLispModel" "parts" "[I", Cond.fieldLink RX4 25 "TownLispModel" "thick" "[I", Cond.fieldLink RX4 28 "TownLispModel" "read" "[I", Cond.fieldLink RX4 31 "TownLispModel" "shared" "[I", Cond.fieldLink RX4 34 "TownLispModel" "keptParts" "[I", Cond.fieldLink RX4 37 "TownLispModel" "readWho" "[I", Cond.fieldLink RX4 40 "TownLispModel" "readParts" "[I", Cond.fieldLink RX4 43 "TownLispModel" "readSaid" "[I", Cond.methodLink RL 13 yX3_town, Cond.instanceMethod yX3_town, Cond.selects RX3 yX3_town yX3_town, Cond.code yX3_town cX3_town 8 (some .int), Cond.fieldLink RX3 35 "TownLisp" "latestFault" "I", Cond.fieldLink RX3 63 "TownLisp$Readings" "count" "I", Cond.fieldLink RX3 66 "TownLisp" "daysGone" "I", Cond.fieldLink RX3 69 "TownLisp$Town" "count" "I", Cond.methodLink RX3 39 yX3_sheetAt, Cond.instanceMethod yX3_sheetAt, Cond.selects RX3 yX3_sheetAt yX3_sheetAt, Cond.code yX3_sheetAt cX3_sheetAt 2 (some (.object "TownLisp$Sheet")), Cond.methodLink RX3 43 yX3_isLane, Cond.static yX3_isLane]
def wsL_law_r4 : List Cond := [Cond.code yX3_isLane cX3_isLane 1 (some .boolean), Cond.methodLink RX3 47 yX1_faultOf, Cond.instanceMethod yX1_faultOf, Cond.selects RX1 yX1_faultOf yX1_faultOf, Cond.code yX1_faultOf cX1_faultOf 4 (some .int), Cond.fieldLink RX1 31 "TownLisp$Sheet" "held" "Z", Cond.fieldLink RX1 15 "TownLisp$Sheet" "lane" "I", Cond.methodLink RX1 35 yX1_spans, Cond.instanceMethod yX1_spans, Cond.selects RX1 yX1_spans yX1_spans, Cond.code yX1_spans cX1_spans 3 (some .boolean), Cond.fieldLink RX1 28 "TownLisp$Sheet" "length" "I", Cond.methodLink RX3 51 yX3_faulty, Cond.instanceMethod yX3_faulty, Cond.selects RX3 yX3_faulty yX3_faulty, Cond.code yX3_faulty cX3_faulty 2 (some .int), Cond.methodLink RX3 55 yX3_firstFaultOf, Cond.static yX3_firstFaultOf, Cond.code yX3_firstFaultOf cX3_firstFaultOf 4 (some .int), Cond.methodLink RX3 182 yX1_at, Cond.instanceMethod yX1_at, Cond.selects RX1 yX1_at yX1_at, Cond.code yX1_at cX1_at 2 (some .int), Cond.methodLink RX3 217 yX3_goesOn]
def wsL_law_r5 : List Cond := [Cond.static yX3_goesOn, Cond.code yX3_goesOn cX3_goesOn 2 (some .boolean), Cond.methodLink RX3 220 yX3_isBetween, Cond.static yX3_isBetween, Cond.code yX3_isBetween cX3_isBetween 3 (some .boolean), Cond.methodLink RX3 224 yX3_personGoesOn, Cond.static yX3_personGoesOn, Cond.code yX3_personGoesOn cX3_personGoesOn 2 (some .boolean), Cond.methodLink RX3 59 yX2_become, Cond.instanceMethod yX2_become, Cond.selects RX2 yX2_become yX2_become, Cond.code yX2_become cX2_become 6 none, Cond.methodLink RX2 21 Lib.Math.min.name, Cond.static Lib.Math.min.name, Cond.initialized "java/lang/Math", Cond.code Lib.Math.min.name Lib.Math.min.code 2 (some .int), Cond.methodLink RX2 27 Lib.Math.max.name, Cond.static Lib.Math.max.name, Cond.code Lib.Math.max.name Lib.Math.max.code 2 (some .int), Cond.fieldLink RX2 30 "TownLisp$Town" "count" "I", Cond.fieldLink RX2 38 "TownLisp$Town" "tin" "I", Cond.fieldLink RX2 41 "TownLisp$Town" "inside" "I", Cond.methodLink RX2 34 yX2_twoDigits, Cond.static yX2_twoDigits]
def wsL_law_r6 : List Cond := [Cond.code yX2_twoDigits cX2_twoDigits 2 (some .int), Cond.methodLink RX2 44 yX1_at, Cond.methodLink RX2 50 yX2_kindOf, Cond.static yX2_kindOf, Cond.code yX2_kindOf cX2_kindOf 1 (some .int), Cond.methodLink RL 17 yX4_town, Cond.instanceMethod yX4_town, Cond.selects RX4 yX4_town yX4_town, Cond.code yX4_town cX4_town 7 (some .int), Cond.fieldLink RX4 46 "TownLispModel" "fault" "I", Cond.fieldLink RX4 59 "TownLispModel" "at" "I", Cond.fieldLink RX4 56 "TownLispModel" "people" "I", Cond.methodLink RX4 66 yX4_isSheet, Cond.static yX4_isSheet, Cond.code yX4_isSheet cX4_isSheet 1 (some .boolean), Cond.methodLink RX4 52 yX4_within, Cond.static yX4_within, Cond.code yX4_within cX4_within 3 (some .boolean), Cond.methodLink RX4 70 yX4_isSort, Cond.static yX4_isSort, Cond.code yX4_isSort cX4_isSort 1 (some .boolean), Cond.methodLink RX4 73 yX4_against, Cond.instanceMethod yX4_against, Cond.selects RX4 yX4_against yX4_against]
def wsL_law_r7 : List Cond := [Cond.code yX4_against cX4_against 5 (some .int), Cond.methodLink RX4 77 yX4_fails, Cond.instanceMethod yX4_fails, Cond.selects RX4 yX4_fails yX4_fails, Cond.code yX4_fails cX4_fails 2 (some .int), Cond.methodLink RX4 81 yX4_readTown, Cond.instanceMethod yX4_readTown, Cond.selects RX4 yX4_readTown yX4_readTown, Cond.code yX4_readTown cX4_readTown 2 (some .boolean), Cond.fieldLink RX4 93 "TownLispModel" "readPeople" "I", Cond.fieldLink RX4 87 "TownLispModel" "readTin" "I", Cond.methodLink RX4 105 yX4_isSign, Cond.instanceMethod yX4_isSign, Cond.selects RX4 yX4_isSign yX4_isSign, Cond.code yX4_isSign cX4_isSign 3 (some .boolean), Cond.methodLink RX4 109 yX4_twoDigits, Cond.instanceMethod yX4_twoDigits, Cond.selects RX4 yX4_twoDigits yX4_twoDigits, Cond.code yX4_twoDigits cX4_twoDigits 5 (some .int), Cond.methodLink RX4 62 yX4_digit, Cond.instanceMethod yX4_digit, Cond.selects RX4 yX4_digit yX4_digit, Cond.code yX4_digit cX4_digit 4 (some .int), Cond.methodLink RX4 113 yX4_readPerson]
def wsL_law_r8 : List Cond := [Cond.instanceMethod yX4_readPerson, Cond.selects RX4 yX4_readPerson yX4_readPerson, Cond.code yX4_readPerson cX4_readPerson 4 (some .boolean), Cond.methodLink RX4 84 yX4_takeTown, Cond.instanceMethod yX4_takeTown, Cond.selects RX4 yX4_takeTown yX4_takeTown, Cond.code yX4_takeTown cX4_takeTown 2 none, Cond.fieldLink RX4 90 "TownLispModel" "tin" "I", Cond.fieldLink RX4 96 "TownLispModel" "isIn" "I", Cond.fieldLink RX4 99 "TownLispModel" "days" "I", Cond.fieldLink RX4 102 "TownLispModel" "readings" "I", Cond.methodLink RL 18 yX3_ofPerson, Cond.instanceMethod yX3_ofPerson, Cond.selects RX3 yX3_ofPerson yX3_ofPerson, Cond.code yX3_ofPerson cX3_ofPerson 3 (some .int), Cond.fieldLink RX3 73 "TownLisp$Town" "kind" "[I", Cond.fieldLink RX3 77 "TownLisp$Town" "parts" "[I", Cond.fieldLink RX3 80 "TownLisp$Town" "thick" "[I", Cond.methodLink RX3 70 yX2_has, Cond.instanceMethod yX2_has, Cond.selects RX2 yX2_has yX2_has, Cond.code yX2_has cX2_has 2 (some .boolean), Cond.methodLink RX3 83 yX2_isIn, Cond.instanceMethod yX2_isIn]
def wsL_law_r9 : List Cond := [Cond.selects RX2 yX2_isIn yX2_isIn, Cond.code yX2_isIn cX2_isIn 2 (some .boolean), Cond.static yX3_isMember, Cond.code yX3_isMember cX3_isMember 2 (some .boolean), Cond.methodLink RX3 86 yX2_saysNow, Cond.instanceMethod yX2_saysNow, Cond.selects RX2 yX2_saysNow yX2_saysNow, Cond.code yX2_saysNow cX2_saysNow 2 (some .int), Cond.static yX3_says, Cond.code yX3_says cX3_says 4 (some .int), Cond.methodLink RX3 212 Lib.Math.max.name, Cond.methodLink RL 22 yX4_ofPerson, Cond.instanceMethod yX4_ofPerson, Cond.selects RX4 yX4_ofPerson yX4_ofPerson, Cond.code yX4_ofPerson cX4_ofPerson 3 (some .int), Cond.methodLink RX4 116 yX4_isPerson, Cond.instanceMethod yX4_isPerson, Cond.selects RX4 yX4_isPerson yX4_isPerson, Cond.code yX4_isPerson cX4_isPerson 2 (some .boolean), Cond.methodLink RX4 119 yX4_saysBy, Cond.instanceMethod yX4_saysBy, Cond.selects RX4 yX4_saysBy yX4_saysBy, Cond.code yX4_saysBy cX4_saysBy 4 (some .int), Cond.methodLink RL 23 yX3_tune]
def wsL_law_r10 : List Cond := [Cond.instanceMethod yX3_tune, Cond.selects RX3 yX3_tune yX3_tune, Cond.code yX3_tune cX3_tune 4 (some .int), Cond.methodLink RL 26 yX4_tune, Cond.instanceMethod yX4_tune, Cond.selects RX4 yX4_tune yX4_tune, Cond.code yX4_tune cX4_tune 4 (some .int), Cond.methodLink RL 27 yX3_heard, Cond.instanceMethod yX3_heard, Cond.selects RX3 yX3_heard yX3_heard, Cond.code yX3_heard cX3_heard 2 (some .int), Cond.fieldLink RX3 93 "TownLisp$Town" "inside" "I", Cond.methodLink RX3 89 yX2_allSay, Cond.instanceMethod yX2_allSay, Cond.selects RX2 yX2_allSay yX2_allSay, Cond.code yX2_allSay cX2_allSay 3 (some .int), Cond.methodLink RX2 66 yX2_isIn, Cond.methodLink RX2 70 yX2_saysNow, Cond.methodLink RX3 96 yX2_partsOf, Cond.instanceMethod yX2_partsOf, Cond.selects RX2 yX2_partsOf yX2_partsOf, Cond.code yX2_partsOf cX2_partsOf 4 (some .int), Cond.methodLink RL 31 yX4_heard, Cond.instanceMethod yX4_heard]
def wsL_law_r11 : List Cond := [Cond.selects RX4 yX4_heard yX4_heard, Cond.code yX4_heard cX4_heard 2 (some .int), Cond.methodLink RX4 125 yX4_saidNow, Cond.instanceMethod yX4_saidNow, Cond.selects RX4 yX4_saidNow yX4_saidNow, Cond.code yX4_saidNow cX4_saidNow 3 (some .int), Cond.methodLink RX4 122 yX4_isOf, Cond.static yX4_isOf, Cond.code yX4_isOf cX4_isOf 2 (some .boolean), Cond.methodLink RX4 129 yX4_partsOf, Cond.instanceMethod yX4_partsOf, Cond.selects RX4 yX4_partsOf yX4_partsOf, Cond.code yX4_partsOf cX4_partsOf 4 (some .int), Cond.methodLink RL 32 yX3_day, Cond.instanceMethod yX3_day, Cond.selects RX3 yX3_day yX3_day, Cond.code yX3_day cX3_day 3 (some .int), Cond.methodLink RX3 99 yX3_act, Cond.instanceMethod yX3_act, Cond.selects RX3 yX3_act yX3_act, Cond.code yX3_act cX3_act 3 (some .int), Cond.methodLink RX3 227 yX2_acts, Cond.instanceMethod yX2_acts, Cond.selects RX2 yX2_acts yX2_acts]
def wsL_law_r12 : List Cond := [Cond.code yX2_acts cX2_acts 4 (some .int), Cond.methodLink RX2 73 yX2_shareFrom, Cond.instanceMethod yX2_shareFrom, Cond.selects RX2 yX2_shareFrom yX2_shareFrom, Cond.code yX2_shareFrom cX2_shareFrom 5 (some .int), Cond.methodLink RX2 89 yX2_partsOf, Cond.methodLink RX2 79 yX2_heads, Cond.instanceMethod yX2_heads, Cond.selects RX2 yX2_heads yX2_heads, Cond.code yX2_heads cX2_heads 1 (some .int), Cond.methodLink RX2 57 yJ6_bitCount_0f7a4, Cond.static yJ6_bitCount_0f7a4, Cond.initialized RJ6, Cond.code yJ6_bitCount_0f7a4 cJ6_bitCount_0f7a4 1 (some .int), Cond.constant RJ6 265 (1431655765), Cond.constant RJ6 266 (858993459), Cond.constant RJ6 267 (252645135), Cond.methodLink RX2 92 yX2_handOut, Cond.instanceMethod yX2_handOut, Cond.selects RX2 yX2_handOut yX2_handOut, Cond.code yX2_handOut cX2_handOut 7 none, Cond.methodLink RX2 76 yX2_goOut, Cond.instanceMethod yX2_goOut, Cond.selects RX2 yX2_goOut yX2_goOut]
def wsL_law_r13 : List Cond := [Cond.code yX2_goOut cX2_goOut 3 (some .int), Cond.methodLink RX2 83 yX2_giveTo, Cond.instanceMethod yX2_giveTo, Cond.selects RX2 yX2_giveTo yX2_giveTo, Cond.code yX2_giveTo cX2_giveTo 4 (some .int), Cond.methodLink RX2 86 yX2_emptyTinFor, Cond.instanceMethod yX2_emptyTinFor, Cond.selects RX2 yX2_emptyTinFor yX2_emptyTinFor, Cond.code yX2_emptyTinFor cX2_emptyTinFor 3 (some .int), Cond.methodLink RL 35 yX4_day, Cond.instanceMethod yX4_day, Cond.selects RX4 yX4_day yX4_day, Cond.code yX4_day cX4_day 3 (some .int), Cond.methodLink RX4 132 yX4_size, Cond.static yX4_size, Cond.code yX4_size cX4_size 3 (some .int), Cond.methodLink RX4 138 yX4_doDay, Cond.instanceMethod yX4_doDay, Cond.selects RX4 yX4_doDay yX4_doDay, Cond.code yX4_doDay cX4_doDay 3 none, Cond.methodLink RX4 135 yX4_shareOf, Cond.instanceMethod yX4_shareOf, Cond.selects RX4 yX4_shareOf yX4_shareOf, Cond.code yX4_shareOf cX4_shareOf 8 (some .int)]
def wsL_law_r14 : List Cond := [Cond.methodLink RL 36 yX3_leave, Cond.instanceMethod yX3_leave, Cond.selects RX3 yX3_leave yX3_leave, Cond.code yX3_leave cX3_leave 2 (some .int), Cond.methodLink RL 39 yX4_leave, Cond.instanceMethod yX4_leave, Cond.selects RX4 yX4_leave yX4_leave, Cond.code yX4_leave cX4_leave 3 (some .int), Cond.methodLink RX4 142 yX4_doLeave, Cond.instanceMethod yX4_doLeave, Cond.selects RX4 yX4_doLeave yX4_doLeave, Cond.code yX4_doLeave cX4_doLeave 4 none, Cond.methodLink RL 40 yX3_come, Cond.instanceMethod yX3_come, Cond.selects RX3 yX3_come yX3_come, Cond.code yX3_come cX3_come 2 (some .int), Cond.methodLink RL 43 yX4_come, Cond.instanceMethod yX4_come, Cond.selects RX4 yX4_come yX4_come, Cond.code yX4_come cX4_come 2 (some .int), Cond.methodLink RL 44 yX3_gather, Cond.instanceMethod yX3_gather, Cond.selects RX3 yX3_gather yX3_gather, Cond.code yX3_gather cX3_gather 2 (some .int)]
def wsL_law_r15 : List Cond := [Cond.methodLink RL 47 yX4_gather, Cond.instanceMethod yX4_gather, Cond.selects RX4 yX4_gather yX4_gather, Cond.code yX4_gather cX4_gather 2 (some .int), Cond.methodLink RX4 145 yX4_doGather, Cond.instanceMethod yX4_doGather, Cond.selects RX4 yX4_doGather yX4_doGather, Cond.code yX4_doGather cX4_doGather 4 (some .int), Cond.methodLink RL 48 yX3_pack, Cond.instanceMethod yX3_pack, Cond.selects RX3 yX3_pack yX3_pack, Cond.code yX3_pack cX3_pack 3 (some .int), Cond.fieldLink RX3 103 "TownLisp$Town" "tin" "I", Cond.methodLink RL 51 yX4_pack, Cond.instanceMethod yX4_pack, Cond.selects RX4 yX4_pack yX4_pack, Cond.code yX4_pack cX4_pack 3 (some .int), Cond.methodLink RL 52 yX3_open, Cond.instanceMethod yX3_open, Cond.selects RX3 yX3_open yX3_open, Cond.code yX3_open cX3_open 2 (some .int), Cond.methodLink RL 55 yX4_open, Cond.instanceMethod yX4_open, Cond.selects RX4 yX4_open yX4_open]
def wsL_law_r16 : List Cond := [Cond.code yX4_open cX4_open 2 (some .int), Cond.methodLink RX4 148 yX4_doOpen, Cond.instanceMethod yX4_doOpen, Cond.selects RX4 yX4_doOpen yX4_doOpen, Cond.code yX4_doOpen cX4_doOpen 3 (some .int), Cond.methodLink RL 56 yX3_year, Cond.instanceMethod yX3_year, Cond.selects RX3 yX3_year yX3_year, Cond.code yX3_year cX3_year 10 (some .int), Cond.methodLink RX3 106 yX3_isAskedOfYear, Cond.static yX3_isAskedOfYear, Cond.code yX3_isAskedOfYear cX3_isAskedOfYear 1 (some .boolean), Cond.methodLink RX3 109 yX3_refusalOfPairs, Cond.instanceMethod yX3_refusalOfPairs, Cond.selects RX3 yX3_refusalOfPairs yX3_refusalOfPairs, Cond.code yX3_refusalOfPairs cX3_refusalOfPairs 5 (some .int), Cond.methodLink RX3 112 yX3_firstWrongOf, Cond.instanceMethod yX3_firstWrongOf, Cond.selects RX3 yX3_firstWrongOf yX3_firstWrongOf, Cond.code yX3_firstWrongOf cX3_firstWrongOf 5 (some .int), Cond.methodLink RX3 230 yX2_becomeLike, Cond.instanceMethod yX2_becomeLike, Cond.selects RX2 yX2_becomeLike yX2_becomeLike, Cond.code yX2_becomeLike cX2_becomeLike 3 none]
def wsL_law_r17 : List Cond := [Cond.methodLink RX3 115 yX3_behindYear, Cond.instanceMethod yX3_behindYear, Cond.selects RX3 yX3_behindYear yX3_behindYear, Cond.code yX3_behindYear cX3_behindYear 2 (some .int), Cond.methodLink RL 60 yX4_year, Cond.instanceMethod yX4_year, Cond.selects RX4 yX4_year yX4_year, Cond.code yX4_year cX4_year 10 (some .int), Cond.methodLink RX4 164 yX4_keep, Cond.instanceMethod yX4_keep, Cond.selects RX4 yX4_keep yX4_keep, Cond.code yX4_keep cX4_keep 2 none, Cond.fieldLink RX4 151 "TownLispModel" "keptTin" "I", Cond.fieldLink RX4 154 "TownLispModel" "keptIn" "I", Cond.methodLink RX4 167 yX4_goYear, Cond.instanceMethod yX4_goYear, Cond.selects RX4 yX4_goYear yX4_goYear, Cond.code yX4_goYear cX4_goYear 6 (some .int), Cond.methodLink RX4 157 yX4_canBe, Cond.instanceMethod yX4_canBe, Cond.selects RX4 yX4_canBe yX4_canBe, Cond.code yX4_canBe cX4_canBe 3 (some .boolean), Cond.methodLink RX4 160 yX4_does, Cond.instanceMethod yX4_does]
def wsL_law_r18 : List Cond := [Cond.selects RX4 yX4_does yX4_does, Cond.code yX4_does cX4_does 3 none, Cond.methodLink RX4 170 yX4_tellYear, Cond.instanceMethod yX4_tellYear, Cond.selects RX4 yX4_tellYear yX4_tellYear, Cond.code yX4_tellYear cX4_tellYear 2 (some .int), Cond.methodLink RX4 173 yX4_putBack, Cond.instanceMethod yX4_putBack, Cond.selects RX4 yX4_putBack yX4_putBack, Cond.code yX4_putBack cX4_putBack 2 none, Cond.methodLink RL 61 yX3_asked, Cond.instanceMethod yX3_asked, Cond.selects RX3 yX3_asked yX3_asked, Cond.code yX3_asked cX3_asked 5 (some .int), Cond.methodLink RX3 118 yX3_bestAsked, Cond.instanceMethod yX3_bestAsked, Cond.selects RX3 yX3_bestAsked yX3_bestAsked, Cond.code yX3_bestAsked cX3_bestAsked 11 (some .int), Cond.methodLink RX3 127 yX2_allSets, Cond.instanceMethod yX2_allSets, Cond.selects RX2 yX2_allSets yX2_allSets, Cond.code yX2_allSets cX2_allSets 1 (some .int), Cond.methodLink RX3 234 yJ6_bitCount_0f7a4, Cond.methodLink RL 65 yX4_asked]
def wsL_law_r19 : List Cond := [Cond.instanceMethod yX4_asked, Cond.selects RX4 yX4_asked yX4_asked, Cond.code yX4_asked cX4_asked 9 (some .int), Cond.methodLink RL 66 yX3_gatherings, Cond.instanceMethod yX3_gatherings, Cond.selects RX3 yX3_gatherings yX3_gatherings, Cond.code yX3_gatherings cX3_gatherings 4 (some .int), Cond.methodLink RX3 121 yX2_partsBehindGatherings, Cond.instanceMethod yX2_partsBehindGatherings, Cond.selects RX2 yX2_partsBehindGatherings yX2_partsBehindGatherings, Cond.code yX2_partsBehindGatherings cX2_partsBehindGatherings 5 (some .int), Cond.methodLink RL 69 yX4_gatherings, Cond.instanceMethod yX4_gatherings, Cond.selects RX4 yX4_gatherings yX4_gatherings, Cond.code yX4_gatherings cX4_gatherings 6 (some .int), Cond.methodLink RL 70 yX3_level, Cond.instanceMethod yX3_level, Cond.selects RX3 yX3_level yX3_level, Cond.code yX3_level cX3_level 4 (some .int), Cond.methodLink RX3 124 yX2_lackingUpTo, Cond.instanceMethod yX2_lackingUpTo, Cond.selects RX2 yX2_lackingUpTo yX2_lackingUpTo, Cond.code yX2_lackingUpTo cX2_lackingUpTo 4 (some .int), Cond.methodLink RL 73 yX4_level]
def wsL_law_r20 : List Cond := [Cond.instanceMethod yX4_level, Cond.selects RX4 yX4_level yX4_level, Cond.code yX4_level cX4_level 3 (some .int), Cond.methodLink RX4 176 yX4_missingTo, Cond.instanceMethod yX4_missingTo, Cond.selects RX4 yX4_missingTo yX4_missingTo, Cond.code yX4_missingTo cX4_missingTo 4 (some .int), Cond.methodLink RL 74 yX3_were, Cond.instanceMethod yX3_were, Cond.selects RX3 yX3_were yX3_were, Cond.code yX3_were cX3_were 8 (some .int), Cond.methodLink RX3 130 yX3_isMember, Cond.methodLink RX3 134 yX2_partsBehindDay, Cond.instanceMethod yX2_partsBehindDay, Cond.selects RX2 yX2_partsBehindDay yX2_partsBehindDay, Cond.code yX2_partsBehindDay cX2_partsBehindDay 6 (some .int), Cond.methodLink RL 77 yX4_were, Cond.instanceMethod yX4_were, Cond.selects RX4 yX4_were yX4_were, Cond.code yX4_were cX4_were 8 (some .int), Cond.methodLink RL 78 yX3_rounds, Cond.instanceMethod yX3_rounds, Cond.selects RX3 yX3_rounds yX3_rounds, Cond.code yX3_rounds cX3_rounds 4 (some .int)]
def wsL_law_r21 : List Cond := [Cond.methodLink RL 81 yX4_rounds, Cond.instanceMethod yX4_rounds, Cond.selects RX4 yX4_rounds yX4_rounds, Cond.code yX4_rounds cX4_rounds 4 (some .int), Cond.methodLink RL 82 yX3_worth, Cond.instanceMethod yX3_worth, Cond.selects RX3 yX3_worth yX3_worth, Cond.code yX3_worth cX3_worth 3 (some .long), Cond.constantLong RX3 140 (-9223372036854775808), Cond.methodLink RX3 137 yX3_isHalfOfShare, Cond.static yX3_isHalfOfShare, Cond.code yX3_isHalfOfShare cX3_isHalfOfShare 1 (some .boolean), Cond.methodLink RX3 142 yX3_ordersDecidedBy, Cond.instanceMethod yX3_ordersDecidedBy, Cond.selects RX3 yX3_ordersDecidedBy yX3_ordersDecidedBy, Cond.code yX3_ordersDecidedBy cX3_ordersDecidedBy 8 (some .int), Cond.methodLink RX3 145 yX3_ordersOf, Cond.static yX3_ordersOf, Cond.code yX3_ordersOf cX3_ordersOf 2 (some .int), Cond.fieldLink RX3 239 "TownLisp" "FACTORIALS" "[I", Cond.methodLink RX3 148 yX3_shareOf, Cond.static yX3_shareOf, Cond.code yX3_shareOf cX3_shareOf 7 (some .long), Cond.methodLink RL 86 yX4_worth]
def wsL_law_r22 : List Cond := [Cond.instanceMethod yX4_worth, Cond.selects RX4 yX4_worth yX4_worth, Cond.code yX4_worth cX4_worth 10 (some .long), Cond.constantLong RX4 50 (-9223372036854775808), Cond.methodLink RX4 179 yX4_factorial, Cond.static yX4_factorial, Cond.code yX4_factorial cX4_factorial 4 (some .long), Cond.methodLink RX4 183 yX4_inLeastTerms, Cond.static yX4_inLeastTerms, Cond.code yX4_inLeastTerms cX4_inLeastTerms 11 (some .long), Cond.methodLink RL 87 yX3_mean, Cond.instanceMethod yX3_mean, Cond.selects RX3 yX3_mean yX3_mean, Cond.code yX3_mean cX3_mean 2 (some .long), Cond.methodLink RX3 152 yX2_heads, Cond.methodLink RL 91 yX4_mean, Cond.instanceMethod yX4_mean, Cond.selects RX4 yX4_mean yX4_mean, Cond.code yX4_mean cX4_mean 2 (some .long), Cond.methodLink RL 92 yX3_reading, Cond.instanceMethod yX3_reading, Cond.selects RX3 yX3_reading yX3_reading, Cond.code yX3_reading cX3_reading 4 (some .int), Cond.methodLink RX3 155 yX0_take]
def wsL_law_r23 : List Cond := [Cond.instanceMethod yX0_take, Cond.selects RX0 yX0_take yX0_take, Cond.code yX0_take cX0_take 4 (some .int), Cond.fieldLink RX0 21 "TownLisp$Readings" "count" "I", Cond.methodLink RL 95 yX4_reading, Cond.instanceMethod yX4_reading, Cond.selects RX4 yX4_reading yX4_reading, Cond.code yX4_reading cX4_reading 4 (some .int), Cond.methodLink RL 96 yX3_back, Cond.instanceMethod yX3_back, Cond.selects RX3 yX3_back yX3_back, Cond.code yX3_back cX3_back 2 (some .int), Cond.methodLink RL 99 yX4_back, Cond.instanceMethod yX4_back, Cond.selects RX4 yX4_back yX4_back, Cond.code yX4_back cX4_back 2 (some .int), Cond.methodLink RL 100 yX3_ears, Cond.instanceMethod yX3_ears, Cond.selects RX3 yX3_ears yX3_ears, Cond.code yX3_ears cX3_ears 4 (some .int), Cond.methodLink RX3 158 yX0_areSo, Cond.instanceMethod yX0_areSo, Cond.selects RX0 yX0_areSo yX0_areSo, Cond.code yX0_areSo cX0_areSo 8 (some .boolean)]
def wsL_law_r24 : List Cond := [Cond.fieldLink RX0 29 "TownLisp$Town" "kind" "[I", Cond.fieldLink RX0 34 "TownLisp$Town" "thick" "[I", Cond.methodLink RL 103 yX4_ears, Cond.instanceMethod yX4_ears, Cond.selects RX4 yX4_ears yX4_ears, Cond.code yX4_ears cX4_ears 5 (some .int), Cond.methodLink RX4 187 yX4_areSo, Cond.instanceMethod yX4_areSo, Cond.selects RX4 yX4_areSo yX4_areSo, Cond.code yX4_areSo cX4_areSo 2 (some .boolean), Cond.methodLink RL 104 yX3_kinds, Cond.instanceMethod yX3_kinds, Cond.selects RX3 yX3_kinds yX3_kinds, Cond.code yX3_kinds cX3_kinds 4 (some .int), Cond.methodLink RL 107 yX4_kinds, Cond.instanceMethod yX4_kinds, Cond.selects RX4 yX4_kinds yX4_kinds, Cond.code yX4_kinds cX4_kinds 5 (some .int), Cond.methodLink RL 108 yX3_odds, Cond.instanceMethod yX3_odds, Cond.selects RX3 yX3_odds yX3_odds, Cond.code yX3_odds cX3_odds 6 (some .long), Cond.methodLink RX3 162 yX3_says, Cond.methodLink RL 112 yX4_odds]
def wsL_law_r25 : List Cond := [Cond.instanceMethod yX4_odds, Cond.selects RX4 yX4_odds yX4_odds, Cond.code yX4_odds cX4_odds 6 (some .long), Cond.methodLink RL 113 yX3_sheet, Cond.instanceMethod yX3_sheet, Cond.selects RX3 yX3_sheet yX3_sheet, Cond.code yX3_sheet cX3_sheet 5 (some .int), Cond.methodLink RX3 165 yX1_renew, Cond.instanceMethod yX1_renew, Cond.selects RX1 yX1_renew yX1_renew, Cond.code yX1_renew cX1_renew 4 none, Cond.methodLink RX1 19 Lib.Math.min.name, Cond.methodLink RX1 25 Lib.Math.max.name, Cond.methodLink RL 116 yX4_sheet, Cond.instanceMethod yX4_sheet, Cond.selects RX4 yX4_sheet yX4_sheet, Cond.code yX4_sheet cX4_sheet 5 (some .int), Cond.methodLink RL 117 yX3_lose, Cond.instanceMethod yX3_lose, Cond.selects RX3 yX3_lose yX3_lose, Cond.code yX3_lose cX3_lose 4 (some .int), Cond.fieldLink RX3 169 "TownLisp$Sheet" "held" "Z", Cond.methodLink RL 120 yX4_lose, Cond.instanceMethod yX4_lose]
def wsL_law_r26 : List Cond := [Cond.selects RX4 yX4_lose yX4_lose, Cond.code yX4_lose cX4_lose 3 (some .int), Cond.methodLink RL 121 yX3_put, Cond.instanceMethod yX3_put, Cond.selects RX3 yX3_put yX3_put, Cond.code yX3_put cX3_put 5 (some .int), Cond.fieldLink RX3 176 "TownLisp$Sheet" "cells" "[I", Cond.methodLink RX3 173 yX1_spans, Cond.methodLink RX3 179 yX1_cut, Cond.instanceMethod yX1_cut, Cond.selects RX1 yX1_cut yX1_cut, Cond.code yX1_cut cX1_cut 2 (some .int), Cond.methodLink RL 124 yX4_put, Cond.instanceMethod yX4_put, Cond.selects RX4 yX4_put yX4_put, Cond.code yX4_put cX4_put 4 (some .int), Cond.methodLink RL 125 yX3_cell, Cond.instanceMethod yX3_cell, Cond.selects RX3 yX3_cell yX3_cell, Cond.code yX3_cell cX3_cell 5 (some .long), Cond.methodLink RL 128 yX4_cell, Cond.instanceMethod yX4_cell, Cond.selects RX4 yX4_cell yX4_cell, Cond.code yX4_cell cX4_cell 4 (some .long)]
def wsL_law_r27 : List Cond := [Cond.methodLink RX4 191 yX4_lost, Cond.instanceMethod yX4_lost, Cond.selects RX4 yX4_lost yX4_lost, Cond.code yX4_lost cX4_lost 2 (some .long), Cond.methodLink RL 129 yX3_copy, Cond.instanceMethod yX3_copy, Cond.selects RX3 yX3_copy yX3_copy, Cond.code yX3_copy cX3_copy 8 (some .int), Cond.fieldLink RX3 185 "TownLisp$Sheet" "lane" "I", Cond.methodLink RX3 188 arraycopyName, Cond.native arraycopyName, Cond.static arraycopyName, Cond.initialized "java/lang/System", Cond.methodLink RL 132 yX4_copy, Cond.instanceMethod yX4_copy, Cond.selects RX4 yX4_copy yX4_copy, Cond.code yX4_copy cX4_copy 10 (some .int), Cond.methodLink RL 133 yX3_tell, Cond.instanceMethod yX3_tell, Cond.selects RX3 yX3_tell yX3_tell, Cond.code yX3_tell cX3_tell 2 (some .int), Cond.methodLink RX3 194 yX3_grownTells, Cond.instanceMethod yX3_grownTells, Cond.selects RX3 yX3_grownTells yX3_grownTells]
def wsL_law_r28 : List Cond := [Cond.code yX3_grownTells cX3_grownTells 2 (some .int), Cond.methodLink RX3 242 yX3_begin, Cond.instanceMethod yX3_begin, Cond.selects RX3 yX3_begin yX3_begin, Cond.code yX3_begin cX3_begin 2 none, Cond.fieldLink RX3 209 "TownLisp" "traced" "I", Cond.methodLink RX3 197 yX3_shyTells, Cond.instanceMethod yX3_shyTells, Cond.selects RX3 yX3_shyTells yX3_shyTells, Cond.code yX3_shyTells cX3_shyTells 2 (some .int), Cond.methodLink RX3 200 yX3_childTells, Cond.instanceMethod yX3_childTells, Cond.selects RX3 yX3_childTells yX3_childTells, Cond.code yX3_childTells cX3_childTells 3 (some .int), Cond.methodLink RL 136 yX4_tell, Cond.instanceMethod yX4_tell, Cond.selects RX4 yX4_tell yX4_tell, Cond.code yX4_tell cX4_tell 3 (some .int), Cond.methodLink RX4 197 yX4_begins, Cond.instanceMethod yX4_begins, Cond.selects RX4 yX4_begins yX4_begins, Cond.code yX4_begins cX4_begins 2 none, Cond.fieldLink RX4 194 "TownLispModel" "trace" "I", Cond.methodLink RL 137 yX3_call]
def wsL_law_r29 : List Cond := [Cond.instanceMethod yX3_call, Cond.selects RX3 yX3_call yX3_call, Cond.code yX3_call cX3_call 2 (some .int), Cond.methodLink RX3 203 yX3_childIsCalled, Cond.instanceMethod yX3_childIsCalled, Cond.selects RX3 yX3_childIsCalled yX3_childIsCalled, Cond.code yX3_childIsCalled cX3_childIsCalled 1 (some .int), Cond.methodLink RX3 206 yX3_lentIsCalled, Cond.instanceMethod yX3_lentIsCalled, Cond.selects RX3 yX3_lentIsCalled yX3_lentIsCalled, Cond.code yX3_lentIsCalled cX3_lentIsCalled 2 (some .int), Cond.methodLink RL 140 yX4_call, Cond.instanceMethod yX4_call, Cond.selects RX4 yX4_call yX4_call, Cond.code yX4_call cX4_call 2 (some .int), Cond.methodLink RL 141 yX3_as, Cond.instanceMethod yX3_as, Cond.selects RX3 yX3_as yX3_as, Cond.code yX3_as cX3_as 3 (some .int), Cond.methodLink RL 144 yX4_as, Cond.instanceMethod yX4_as, Cond.selects RX4 yX4_as yX4_as, Cond.code yX4_as cX4_as 3 (some .int), Cond.methodLink RL 145 yX3_trace]
def wsL_law_r30 : List Cond := [Cond.instanceMethod yX3_trace, Cond.selects RX3 yX3_trace yX3_trace, Cond.code yX3_trace cX3_trace 1 (some .int), Cond.methodLink RL 149 yX4_trace, Cond.instanceMethod yX4_trace, Cond.selects RX4 yX4_trace yX4_trace, Cond.code yX4_trace cX4_trace 1 (some .int), Cond.methodLink RL 150 yX3_fault, Cond.instanceMethod yX3_fault, Cond.selects RX3 yX3_fault yX3_fault, Cond.code yX3_fault cX3_fault 1 (some .int), Cond.methodLink RL 153 yX4_fault, Cond.instanceMethod yX4_fault, Cond.selects RX4 yX4_fault yX4_fault, Cond.code yX4_fault cX4_fault 1 (some .int), Cond.methodLink RL 154 yX3_many, Cond.instanceMethod yX3_many, Cond.selects RX3 yX3_many yX3_many, Cond.code yX3_many cX3_many 2 (some .int), Cond.methodLink RL 157 yX4_many, Cond.instanceMethod yX4_many, Cond.selects RX4 yX4_many yX4_many, Cond.code yX4_many cX4_many 2 (some .int)]
def wsL_law : List Cond := (wsL_law_r1 ++ (wsL_law_r2 ++ (wsL_law_r3 ++ (wsL_law_r4 ++ (wsL_law_r5 ++ (wsL_law_r6 ++ (wsL_law_r7 ++ (wsL_law_r8 ++ (wsL_law_r9 ++ (wsL_law_r10 ++ (wsL_law_r11 ++ (wsL_law_r12 ++ (wsL_law_r13 ++ (wsL_law_r14 ++ (wsL_law_r15 ++ (wsL_law_r16 ++ (wsL_law_r17 ++ (wsL_law_r18 ++ (wsL_law_r19 ++ (wsL_law_r20 ++ (wsL_law_r21 ++ (wsL_law_r22 ++ (wsL_law_r23 ++ (wsL_law_r24 ++ (wsL_law_r25 ++ (wsL_law_r26 ++ (wsL_law_r27 ++ (wsL_law_r28 ++ (wsL_law_r29 ++ wsL_law_r30))))))))))))))))))))))))))))) ++ wsX30 ++ wsX40 ++ wsX20 ++ wsX00 ++ wsX10 ++ ([] : List Cond)
end
section
theorem dX0_init_0 : decode cX0_init 0 = .ok (.aload_n 0, 1) := by decide +kernel
theorem dX0_init_1 : decode cX0_init 1 = .ok (.invokespecial 3, 3) := by decide +kernel
theorem dX0_init_4 : decode cX0_init 4 = .ok (.aload_n 0, 1) := by decide +kernel
theorem dX0_init_5 : decode cX0_init 5 = .ok (.bipush 8, 2) := by decide +kernel
theorem dX0_init_7 : decode cX0_init 7 = .ok (.newarray .int, 2) := by decide +kernel
theorem dX0_init_9 : decode cX0_init 9 = .ok (.putfield 9, 3) := by decide +kernel
theorem dX0_init_12 : decode cX0_init 12 = .ok (.aload_n 0, 1) := by decide +kernel
theorem dX0_init_13 : decode cX0_init 13 = .ok (.bipush 8, 2) := by decide +kernel
theorem dX0_init_15 : decode cX0_init 15 = .ok (.newarray .int, 2) := by decide +kernel
theorem dX0_init_17 : decode cX0_init 17 = .ok (.putfield 15, 3) := by decide +kernel
theorem dX0_init_20 : decode cX0_init 20 = .ok (.aload_n 0, 1) := by decide +kernel
theorem dX0_init_21 : decode cX0_init 21 = .ok (.bipush 8, 2) := by decide +kernel
theorem dX0_init_23 : decode cX0_init 23 = .ok (.newarray .int, 2) := by decide +kernel
theorem dX0_init_25 : decode cX0_init 25 = .ok (.putfield 18, 3) := by decide +kernel
theorem dX0_init_28 : decode cX0_init 28 = .ok (.return_, 1) := by decide +kernel
theorem dX0_take_0 : decode cX0_take 0 = .ok (.aload_n 0, 1) := by decide +kernel
theorem dX0_take_1 : decode cX0_take 1 = .ok (.getfield 9, 3) := by decide +kernel
theorem dX0_take_4 : decode cX0_take 4 = .ok (.aload_n 0, 1) := by decide +kernel
theorem dX0_take_5 : decode cX0_take 5 = .ok (.getfield 21, 3) := by decide +kernel
theorem dX0_take_8 : decode cX0_take 8 = .ok (.iload_n 1, 1) := by decide +kernel
theorem dX0_take_9 : decode cX0_take 9 = .ok (.iastore, 1) := by decide +kernel
theorem dX0_take_10 : decode cX0_take 10 = .ok (.aload_n 0, 1) := by decide +kernel
theorem dX0_take_11 : decode cX0_take 11 = .ok (.getfield 15, 3) := by decide +kernel
theorem dX0_take_14 : decode cX0_take 14 = .ok (.aload_n 0, 1) := by decide +kernel
theorem dX0_take_15 : decode cX0_take 15 = .ok (.getfield 21, 3) := by decide +kernel
theorem dX0_take_18 : decode cX0_take 18 = .ok (.iload_n 2, 1) := by decide +kernel
theorem dX0_take_19 : decode cX0_take 19 = .ok (.iastore, 1) := by decide +kernel
theorem dX0_take_20 : decode cX0_take 20 = .ok (.aload_n 0, 1) := by decide +kernel
theorem dX0_take_21 : decode cX0_take 21 = .ok (.getfield 18, 3) := by decide +kernel
theorem dX0_take_24 : decode cX0_take 24 = .ok (.aload_n 0, 1) := by decide +kernel
theorem dX0_take_25 : decode cX0_take 25 = .ok (.getfield 21, 3) := by decide +kernel
theorem dX0_take_28 : decode cX0_take 28 = .ok (.iload_n 3, 1) := by decide +kernel
theorem dX0_take_29 : decode cX0_take 29 = .ok (.iastore, 1) := by decide +kernel
theorem dX0_take_30 : decode cX0_take 30 = .ok (.aload_n 0, 1) := by decide +kernel
theorem dX0_take_31 : decode cX0_take 31 = .ok (.dup, 1) := by decide +kernel
theorem dX0_take_32 : decode cX0_take 32 = .ok (.getfield 21, 3) := by decide +kernel
theorem dX0_take_35 : decode cX0_take 35 = .ok (.dup_x1, 1) := by decide +kernel
theorem dX0_take_36 : decode cX0_take 36 = .ok (.iconst 1, 1) := by decide +kernel
theorem dX0_take_37 : decode cX0_take 37 = .ok (.iadd, 1) := by decide +kernel
theorem dX0_take_38 : decode cX0_take 38 = .ok (.putfield 21, 3) := by decide +kernel
theorem dX0_take_41 : decode cX0_take 41 = .ok (.ireturn, 1) := by decide +kernel
set_option maxRecDepth 20000 in
theorem ggX0_areSo_X3_says : GoodIn wsX0_areSo wsX3_says := goodIn_r _ [9, 10, 11, 12, 13] (by decide +kernel) (by decide +kernel)
set_option maxRecDepth 20000 in
theorem gX0_areSo_X3_says_n25 : GoodIn wsX0_areSo (wsX3_says) := ggX0_areSo_X3_says
theorem dX0_areSo_0 : decode cX0_areSo 0 = .ok (.iconst 0, 1) := by decide +kernel
theorem dX0_areSo_1 : decode cX0_areSo 1 = .ok (.istore 5, 2) := by decide +kernel
theorem dX0_areSo_3 : decode cX0_areSo 3 = .ok (.iload 5, 2) := by decide +kernel
theorem dX0_areSo_5 : decode cX0_areSo 5 = .ok (.aload_n 0, 1) := by decide +kernel
theorem dX0_areSo_6 : decode cX0_areSo 6 = .ok (.getfield 21, 3) := by decide +kernel
theorem dX0_areSo_9 : decode cX0_areSo 9 = .ok (.if_icmp .ge 80, 3) := by decide +kernel
theorem dX0_areSo_12 : decode cX0_areSo 12 = .ok (.aload_n 0, 1) := by decide +kernel
theorem dX0_areSo_13 : decode cX0_areSo 13 = .ok (.getfield 9, 3) := by decide +kernel
theorem dX0_areSo_16 : decode cX0_areSo 16 = .ok (.iload 5, 2) := by decide +kernel
theorem dX0_areSo_18 : decode cX0_areSo 18 = .ok (.iaload, 1) := by decide +kernel
theorem dX0_areSo_19 : decode cX0_areSo 19 = .ok (.istore 6, 2) := by decide +kernel
theorem dX0_areSo_21 : decode cX0_areSo 21 = .ok (.iload 6, 2) := by decide +kernel
theorem dX0_areSo_23 : decode cX0_areSo 23 = .ok (.iload_n 2, 1) := by decide +kernel
theorem dX0_areSo_24 : decode cX0_areSo 24 = .ok (.if_icmp .ne 19, 3) := by decide +kernel
theorem dX0_areSo_27 : decode cX0_areSo 27 = .ok (.iload_n 3, 1) := by decide +kernel
theorem dX0_areSo_28 : decode cX0_areSo 28 = .ok (.aload_n 0, 1) := by decide +kernel
theorem dX0_areSo_29 : decode cX0_areSo 29 = .ok (.getfield 15, 3) := by decide +kernel
theorem dX0_areSo_32 : decode cX0_areSo 32 = .ok (.iload 5, 2) := by decide +kernel
theorem dX0_areSo_34 : decode cX0_areSo 34 = .ok (.iaload, 1) := by decide +kernel
theorem dX0_areSo_35 : decode cX0_areSo 35 = .ok (.iload 4, 2) := by decide +kernel
theorem dX0_areSo_37 : decode cX0_areSo 37 = .ok (.invokestatic 25, 3) := by decide +kernel
theorem dX0_areSo_40 : decode cX0_areSo 40 = .ok (.goto 27, 3) := by decide +kernel
theorem dX0_areSo_43 : decode cX0_areSo 43 = .ok (.aload_n 1, 1) := by decide +kernel
theorem dX0_areSo_44 : decode cX0_areSo 44 = .ok (.getfield 29, 3) := by decide +kernel
theorem dX0_areSo_47 : decode cX0_areSo 47 = .ok (.iload 6, 2) := by decide +kernel
theorem dX0_areSo_49 : decode cX0_areSo 49 = .ok (.iaload, 1) := by decide +kernel
theorem dX0_areSo_50 : decode cX0_areSo 50 = .ok (.aload_n 0, 1) := by decide +kernel
theorem dX0_areSo_51 : decode cX0_areSo 51 = .ok (.getfield 15, 3) := by decide +kernel
theorem dX0_areSo_54 : decode cX0_areSo 54 = .ok (.iload 5, 2) := by decide +kernel
theorem dX0_areSo_56 : decode cX0_areSo 56 = .ok (.iaload, 1) := by decide +kernel
theorem dX0_areSo_57 : decode cX0_areSo 57 = .ok (.aload_n 1, 1) := by decide +kernel
theorem dX0_areSo_58 : decode cX0_areSo 58 = .ok (.getfield 34, 3) := by decide +kernel
theorem dX0_areSo_61 : decode cX0_areSo 61 = .ok (.iload 6, 2) := by decide +kernel
theorem dX0_areSo_63 : decode cX0_areSo 63 = .ok (.iaload, 1) := by decide +kernel
theorem dX0_areSo_64 : decode cX0_areSo 64 = .ok (.invokestatic 25, 3) := by decide +kernel
theorem dX0_areSo_67 : decode cX0_areSo 67 = .ok (.istore 7, 2) := by decide +kernel
theorem dX0_areSo_69 : decode cX0_areSo 69 = .ok (.iload 7, 2) := by decide +kernel
theorem dX0_areSo_71 : decode cX0_areSo 71 = .ok (.aload_n 0, 1) := by decide +kernel
theorem dX0_areSo_72 : decode cX0_areSo 72 = .ok (.getfield 18, 3) := by decide +kernel
theorem dX0_areSo_75 : decode cX0_areSo 75 = .ok (.iload 5, 2) := by decide +kernel
theorem dX0_areSo_77 : decode cX0_areSo 77 = .ok (.iaload, 1) := by decide +kernel
theorem dX0_areSo_78 : decode cX0_areSo 78 = .ok (.if_icmp .eq 5, 3) := by decide +kernel
theorem dX0_areSo_81 : decode cX0_areSo 81 = .ok (.iconst 0, 1) := by decide +kernel
theorem dX0_areSo_82 : decode cX0_areSo 82 = .ok (.ireturn, 1) := by decide +kernel
theorem dX0_areSo_83 : decode cX0_areSo 83 = .ok (.iinc 5 1, 3) := by decide +kernel
theorem dX0_areSo_86 : decode cX0_areSo 86 = .ok (.goto (-83), 3) := by decide +kernel
theorem dX0_areSo_89 : decode cX0_areSo 89 = .ok (.iconst 1, 1) := by decide +kernel
theorem dX0_areSo_90 : decode cX0_areSo 90 = .ok (.ireturn, 1) := by decide +kernel
theorem dX1_init_0 : decode cX1_init 0 = .ok (.aload_n 0, 1) := by decide +kernel
theorem dX1_init_1 : decode cX1_init 1 = .ok (.invokespecial 3, 3) := by decide +kernel
theorem dX1_init_4 : decode cX1_init 4 = .ok (.aload_n 0, 1) := by decide +kernel
theorem dX1_init_5 : decode cX1_init 5 = .ok (.bipush 60, 2) := by decide +kernel
theorem dX1_init_7 : decode cX1_init 7 = .ok (.newarray .int, 2) := by decide +kernel
theorem dX1_init_9 : decode cX1_init 9 = .ok (.putfield 9, 3) := by decide +kernel
theorem dX1_init_12 : decode cX1_init 12 = .ok (.return_, 1) := by decide +kernel
theorem dX1_renew_0 : decode cX1_renew 0 = .ok (.aload_n 0, 1) := by decide +kernel
theorem dX1_renew_1 : decode cX1_renew 1 = .ok (.iload_n 1, 1) := by decide +kernel
theorem dX1_renew_2 : decode cX1_renew 2 = .ok (.putfield 15, 3) := by decide +kernel
theorem dX1_renew_5 : decode cX1_renew 5 = .ok (.aload_n 0, 1) := by decide +kernel
theorem dX1_renew_6 : decode cX1_renew 6 = .ok (.iconst 0, 1) := by decide +kernel
theorem dX1_renew_7 : decode cX1_renew 7 = .ok (.iload_n 2, 1) := by decide +kernel
theorem dX1_renew_8 : decode cX1_renew 8 = .ok (.aload_n 0, 1) := by decide +kernel
theorem dX1_renew_9 : decode cX1_renew 9 = .ok (.getfield 9, 3) := by decide +kernel
theorem dX1_renew_12 : decode cX1_renew 12 = .ok (.arraylength, 1) := by decide +kernel
theorem dX1_renew_13 : decode cX1_renew 13 = .ok (.invokestatic 19, 3) := by decide +kernel
theorem dX1_renew_16 : decode cX1_renew 16 = .ok (.invokestatic 25, 3) := by decide +kernel
theorem dX1_renew_19 : decode cX1_renew 19 = .ok (.putfield 28, 3) := by decide +kernel
theorem dX1_renew_22 : decode cX1_renew 22 = .ok (.aload_n 0, 1) := by decide +kernel
theorem dX1_renew_23 : decode cX1_renew 23 = .ok (.iconst 1, 1) := by decide +kernel
theorem dX1_renew_24 : decode cX1_renew 24 = .ok (.putfield 31, 3) := by decide +kernel
theorem dX1_renew_27 : decode cX1_renew 27 = .ok (.iconst 0, 1) := by decide +kernel
theorem dX1_renew_28 : decode cX1_renew 28 = .ok (.istore_n 3, 1) := by decide +kernel
theorem dX1_renew_29 : decode cX1_renew 29 = .ok (.iload_n 3, 1) := by decide +kernel
theorem dX1_renew_30 : decode cX1_renew 30 = .ok (.aload_n 0, 1) := by decide +kernel
theorem dX1_renew_31 : decode cX1_renew 31 = .ok (.getfield 9, 3) := by decide +kernel
theorem dX1_renew_34 : decode cX1_renew 34 = .ok (.arraylength, 1) := by decide +kernel
theorem dX1_renew_35 : decode cX1_renew 35 = .ok (.if_icmp .ge 16, 3) := by decide +kernel
theorem dX1_renew_38 : decode cX1_renew 38 = .ok (.aload_n 0, 1) := by decide +kernel
theorem dX1_renew_39 : decode cX1_renew 39 = .ok (.getfield 9, 3) := by decide +kernel
theorem dX1_renew_42 : decode cX1_renew 42 = .ok (.iload_n 3, 1) := by decide +kernel
theorem dX1_renew_43 : decode cX1_renew 43 = .ok (.iconst 0, 1) := by decide +kernel
theorem dX1_renew_44 : decode cX1_renew 44 = .ok (.iastore, 1) := by decide +kernel
theorem dX1_renew_45 : decode cX1_renew 45 = .ok (.iinc 3 1, 3) := by decide +kernel
theorem dX1_renew_48 : decode cX1_renew 48 = .ok (.goto (-19), 3) := by decide +kernel
theorem dX1_renew_51 : decode cX1_renew 51 = .ok (.return_, 1) := by decide +kernel
theorem dX1_at_0 : decode cX1_at 0 = .ok (.iload_n 1, 1) := by decide +kernel
theorem dX1_at_1 : decode cX1_at 1 = .ok (.ifCond .lt 21, 3) := by decide +kernel
theorem dX1_at_4 : decode cX1_at 4 = .ok (.iload_n 1, 1) := by decide +kernel
theorem dX1_at_5 : decode cX1_at 5 = .ok (.aload_n 0, 1) := by decide +kernel
theorem dX1_at_6 : decode cX1_at 6 = .ok (.getfield 9, 3) := by decide +kernel
theorem dX1_at_9 : decode cX1_at 9 = .ok (.arraylength, 1) := by decide +kernel
theorem dX1_at_10 : decode cX1_at 10 = .ok (.if_icmp .ge 12, 3) := by decide +kernel
theorem dX1_at_13 : decode cX1_at 13 = .ok (.aload_n 0, 1) := by decide +kernel
theorem dX1_at_14 : decode cX1_at 14 = .ok (.getfield 9, 3) := by decide +kernel
theorem dX1_at_17 : decode cX1_at 17 = .ok (.iload_n 1, 1) := by decide +kernel
theorem dX1_at_18 : decode cX1_at 18 = .ok (.iaload, 1) := by decide +kernel
theorem dX1_at_19 : decode cX1_at 19 = .ok (.goto 4, 3) := by decide +kernel
theorem dX1_at_22 : decode cX1_at 22 = .ok (.iconst 0, 1) := by decide +kernel
theorem dX1_at_23 : decode cX1_at 23 = .ok (.ireturn, 1) := by decide +kernel
theorem dX1_spans_0 : decode cX1_spans 0 = .ok (.iload_n 1, 1) := by decide +kernel
theorem dX1_spans_1 : decode cX1_spans 1 = .ok (.ifCond .lt 29, 3) := by decide +kernel
theorem dX1_spans_4 : decode cX1_spans 4 = .ok (.iload_n 2, 1) := by decide +kernel
theorem dX1_spans_5 : decode cX1_spans 5 = .ok (.ifCond .lt 25, 3) := by decide +kernel
theorem dX1_spans_8 : decode cX1_spans 8 = .ok (.iload_n 1, 1) := by decide +kernel
theorem dX1_spans_9 : decode cX1_spans 9 = .ok (.aload_n 0, 1) := by decide +kernel
theorem dX1_spans_10 : decode cX1_spans 10 = .ok (.getfield 28, 3) := by decide +kernel
theorem dX1_spans_13 : decode cX1_spans 13 = .ok (.if_icmp .gt 17, 3) := by decide +kernel
theorem dX1_spans_16 : decode cX1_spans 16 = .ok (.iload_n 2, 1) := by decide +kernel
theorem dX1_spans_17 : decode cX1_spans 17 = .ok (.aload_n 0, 1) := by decide +kernel
theorem dX1_spans_18 : decode cX1_spans 18 = .ok (.getfield 28, 3) := by decide +kernel
theorem dX1_spans_21 : decode cX1_spans 21 = .ok (.iload_n 1, 1) := by decide +kernel
theorem dX1_spans_22 : decode cX1_spans 22 = .ok (.isub, 1) := by decide +kernel
theorem dX1_spans_23 : decode cX1_spans 23 = .ok (.if_icmp .gt 7, 3) := by decide +kernel
theorem dX1_spans_26 : decode cX1_spans 26 = .ok (.iconst 1, 1) := by decide +kernel
theorem dX1_spans_27 : decode cX1_spans 27 = .ok (.goto 4, 3) := by decide +kernel
theorem dX1_spans_30 : decode cX1_spans 30 = .ok (.iconst 0, 1) := by decide +kernel
theorem dX1_spans_31 : decode cX1_spans 31 = .ok (.ireturn, 1) := by decide +kernel
set_option maxRecDepth 20000 in
theorem ggX1_faultOf_X1_spans : GoodIn wsX1_faultOf wsX1_spans := goodIn_r _ [7, 8, 9, 10, 11, 12] (by decide +kernel) (by decide +kernel)
set_option maxRecDepth 20000 in
theorem gX1_faultOf_X1_spans : GoodIn wsX1_faultOf (wsV RX1 35 RX1 yX1_spans wsX1_spans) := goodIn_app (goodIn_of _ (by decide +kernel)) ggX1_faultOf_X1_spans
theorem dX1_faultOf_0 : decode cX1_faultOf 0 = .ok (.aload_n 0, 1) := by decide +kernel
theorem dX1_faultOf_1 : decode cX1_faultOf 1 = .ok (.getfield 31, 3) := by decide +kernel
theorem dX1_faultOf_4 : decode cX1_faultOf 4 = .ok (.ifCond .ne 5, 3) := by decide +kernel
theorem dX1_faultOf_7 : decode cX1_faultOf 7 = .ok (.iconst 1, 1) := by decide +kernel
theorem dX1_faultOf_8 : decode cX1_faultOf 8 = .ok (.ireturn, 1) := by decide +kernel
theorem dX1_faultOf_9 : decode cX1_faultOf 9 = .ok (.aload_n 0, 1) := by decide +kernel
theorem dX1_faultOf_10 : decode cX1_faultOf 10 = .ok (.getfield 15, 3) := by decide +kernel
theorem dX1_faultOf_13 : decode cX1_faultOf 13 = .ok (.iload_n 1, 1) := by decide +kernel
theorem dX1_faultOf_14 : decode cX1_faultOf 14 = .ok (.if_icmp .eq 5, 3) := by decide +kernel
theorem dX1_faultOf_17 : decode cX1_faultOf 17 = .ok (.iconst 2, 1) := by decide +kernel
theorem dX1_faultOf_18 : decode cX1_faultOf 18 = .ok (.ireturn, 1) := by decide +kernel
theorem dX1_faultOf_19 : decode cX1_faultOf 19 = .ok (.iload_n 3, 1) := by decide +kernel
theorem dX1_faultOf_20 : decode cX1_faultOf 20 = .ok (.ifCond .ge 5, 3) := by decide +kernel
theorem dX1_faultOf_23 : decode cX1_faultOf 23 = .ok (.iconst 4, 1) := by decide +kernel
theorem dX1_faultOf_24 : decode cX1_faultOf 24 = .ok (.ireturn, 1) := by decide +kernel
theorem dX1_faultOf_25 : decode cX1_faultOf 25 = .ok (.aload_n 0, 1) := by decide +kernel
theorem dX1_faultOf_26 : decode cX1_faultOf 26 = .ok (.iload_n 2, 1) := by decide +kernel
theorem dX1_faultOf_27 : decode cX1_faultOf 27 = .ok (.iload_n 3, 1) := by decide +kernel
theorem dX1_faultOf_28 : decode cX1_faultOf 28 = .ok (.invokevirtual 35, 3) := by decide +kernel
theorem dX1_faultOf_31 : decode cX1_faultOf 31 = .ok (.ifCond .eq 7, 3) := by decide +kernel
theorem dX1_faultOf_34 : decode cX1_faultOf 34 = .ok (.iconst 0, 1) := by decide +kernel
theorem dX1_faultOf_35 : decode cX1_faultOf 35 = .ok (.goto 4, 3) := by decide +kernel
theorem dX1_faultOf_38 : decode cX1_faultOf 38 = .ok (.iconst 3, 1) := by decide +kernel
theorem dX1_faultOf_39 : decode cX1_faultOf 39 = .ok (.ireturn, 1) := by decide +kernel
theorem dX1_cut_0 : decode cX1_cut 0 = .ok (.aload_n 0, 1) := by decide +kernel
theorem dX1_cut_1 : decode cX1_cut 1 = .ok (.getfield 15, 3) := by decide +kernel
theorem dX1_cut_4 : decode cX1_cut 4 = .ok (.lookupswitch 34 #[(0, 28), (1, 31)], 28) := by decide +kernel
theorem dX1_cut_32 : decode cX1_cut 32 = .ok (.iload_n 1, 1) := by decide +kernel
theorem dX1_cut_33 : decode cX1_cut 33 = .ok (.i2b, 1) := by decide +kernel
theorem dX1_cut_34 : decode cX1_cut 34 = .ok (.ireturn, 1) := by decide +kernel
theorem dX1_cut_35 : decode cX1_cut 35 = .ok (.iload_n 1, 1) := by decide +kernel
theorem dX1_cut_36 : decode cX1_cut 36 = .ok (.i2s, 1) := by decide +kernel
theorem dX1_cut_37 : decode cX1_cut 37 = .ok (.ireturn, 1) := by decide +kernel
theorem dX1_cut_38 : decode cX1_cut 38 = .ok (.iload_n 1, 1) := by decide +kernel
theorem dX1_cut_39 : decode cX1_cut 39 = .ok (.ireturn, 1) := by decide +kernel
theorem dX2_init_0 : decode cX2_init 0 = .ok (.aload_n 0, 1) := by decide +kernel
theorem dX2_init_1 : decode cX2_init 1 = .ok (.invokespecial 3, 3) := by decide +kernel
theorem dX2_init_4 : decode cX2_init 4 = .ok (.aload_n 0, 1) := by decide +kernel
theorem dX2_init_5 : decode cX2_init 5 = .ok (.bipush 6, 2) := by decide +kernel
theorem dX2_init_7 : decode cX2_init 7 = .ok (.newarray .int, 2) := by decide +kernel
theorem dX2_init_9 : decode cX2_init 9 = .ok (.putfield 9, 3) := by decide +kernel
theorem dX2_init_12 : decode cX2_init 12 = .ok (.aload_n 0, 1) := by decide +kernel
theorem dX2_init_13 : decode cX2_init 13 = .ok (.bipush 6, 2) := by decide +kernel
theorem dX2_init_15 : decode cX2_init 15 = .ok (.newarray .int, 2) := by decide +kernel
theorem dX2_init_17 : decode cX2_init 17 = .ok (.putfield 15, 3) := by decide +kernel
theorem dX2_init_20 : decode cX2_init 20 = .ok (.aload_n 0, 1) := by decide +kernel
theorem dX2_init_21 : decode cX2_init 21 = .ok (.bipush 6, 2) := by decide +kernel
theorem dX2_init_23 : decode cX2_init 23 = .ok (.newarray .int, 2) := by decide +kernel
theorem dX2_init_25 : decode cX2_init 25 = .ok (.putfield 18, 3) := by decide +kernel
theorem dX2_init_28 : decode cX2_init 28 = .ok (.return_, 1) := by decide +kernel
set_option maxRecDepth 20000 in
theorem ggX2_become_X2_twoDigits : GoodIn wsX2_become wsX2_twoDigits := goodIn_r _ [17, 18, 19, 20, 21, 22, 23, 33, 34, 35, 36] (by decide +kernel) (by decide +kernel)
set_option maxRecDepth 20000 in
theorem gX2_become_X2_twoDigits : GoodIn wsX2_become (va_wsS RX2 34 yX2_twoDigits wsX2_twoDigits) := goodIn_app (goodIn_of _ (by decide +kernel)) ggX2_become_X2_twoDigits
set_option maxRecDepth 20000 in
theorem ggX2_become_X1_at : GoodIn wsX2_become wsX1_at := goodIn_r _ [22, 23, 33, 34, 35, 36] (by decide +kernel) (by decide +kernel)
set_option maxRecDepth 20000 in
theorem gX2_become_X1_at : GoodIn wsX2_become (wsV RX2 44 RX1 yX1_at wsX1_at) := goodIn_app (goodIn_of _ (by decide +kernel)) ggX2_become_X1_at
set_option maxRecDepth 20000 in
theorem ggX2_become_X2_kindOf : GoodIn wsX2_become wsX2_kindOf := goodIn_r _ [26] (by decide +kernel) (by decide +kernel)
set_option maxRecDepth 20000 in
theorem gX2_become_X2_kindOf : GoodIn wsX2_become (va_wsS RX2 50 yX2_kindOf wsX2_kindOf) := goodIn_app (goodIn_of _ (by decide +kernel)) ggX2_become_X2_kindOf
theorem dX2_become_0 : decode cX2_become 0 = .ok (.aload_n 0, 1) := by decide +kernel
theorem dX2_become_1 : decode cX2_become 1 = .ok (.iconst 0, 1) := by decide +kernel
theorem dX2_become_2 : decode cX2_become 2 = .ok (.iload_n 3, 1) := by decide +kernel
theorem dX2_become_3 : decode cX2_become 3 = .ok (.iconst 3, 1) := by decide +kernel
theorem dX2_become_4 : decode cX2_become 4 = .ok (.isub, 1) := by decide +kernel
theorem dX2_become_5 : decode cX2_become 5 = .ok (.bipush 6, 2) := by decide +kernel
theorem dX2_become_7 : decode cX2_become 7 = .ok (.idiv, 1) := by decide +kernel
theorem dX2_become_8 : decode cX2_become 8 = .ok (.bipush 6, 2) := by decide +kernel
theorem dX2_become_10 : decode cX2_become 10 = .ok (.invokestatic 21, 3) := by decide +kernel
theorem dX2_become_13 : decode cX2_become 13 = .ok (.invokestatic 27, 3) := by decide +kernel
theorem dX2_become_16 : decode cX2_become 16 = .ok (.putfield 30, 3) := by decide +kernel
theorem dX2_become_19 : decode cX2_become 19 = .ok (.aload_n 0, 1) := by decide +kernel
theorem dX2_become_20 : decode cX2_become 20 = .ok (.aload_n 1, 1) := by decide +kernel
theorem dX2_become_21 : decode cX2_become 21 = .ok (.iload_n 2, 1) := by decide +kernel
theorem dX2_become_22 : decode cX2_become 22 = .ok (.iconst 1, 1) := by decide +kernel
theorem dX2_become_23 : decode cX2_become 23 = .ok (.iadd, 1) := by decide +kernel
theorem dX2_become_24 : decode cX2_become 24 = .ok (.invokestatic 34, 3) := by decide +kernel
theorem dX2_become_27 : decode cX2_become 27 = .ok (.putfield 38, 3) := by decide +kernel
theorem dX2_become_30 : decode cX2_become 30 = .ok (.aload_n 0, 1) := by decide +kernel
theorem dX2_become_31 : decode cX2_become 31 = .ok (.iconst 0, 1) := by decide +kernel
theorem dX2_become_32 : decode cX2_become 32 = .ok (.putfield 41, 3) := by decide +kernel
theorem dX2_become_35 : decode cX2_become 35 = .ok (.iconst 0, 1) := by decide +kernel
theorem dX2_become_36 : decode cX2_become 36 = .ok (.istore 4, 2) := by decide +kernel
theorem dX2_become_38 : decode cX2_become 38 = .ok (.iload 4, 2) := by decide +kernel
theorem dX2_become_40 : decode cX2_become 40 = .ok (.aload_n 0, 1) := by decide +kernel
theorem dX2_become_41 : decode cX2_become 41 = .ok (.getfield 30, 3) := by decide +kernel
theorem dX2_become_44 : decode cX2_become 44 = .ok (.if_icmp .ge 94, 3) := by decide +kernel
theorem dX2_become_47 : decode cX2_become 47 = .ok (.iload_n 2, 1) := by decide +kernel
theorem dX2_become_48 : decode cX2_become 48 = .ok (.iconst 3, 1) := by decide +kernel
theorem dX2_become_49 : decode cX2_become 49 = .ok (.iadd, 1) := by decide +kernel
theorem dX2_become_50 : decode cX2_become 50 = .ok (.iload 4, 2) := by decide +kernel
theorem dX2_become_52 : decode cX2_become 52 = .ok (.bipush 6, 2) := by decide +kernel
theorem dX2_become_54 : decode cX2_become 54 = .ok (.imul, 1) := by decide +kernel
theorem dX2_become_55 : decode cX2_become 55 = .ok (.iadd, 1) := by decide +kernel
theorem dX2_become_56 : decode cX2_become 56 = .ok (.istore 5, 2) := by decide +kernel
theorem dX2_become_58 : decode cX2_become 58 = .ok (.aload_n 0, 1) := by decide +kernel
theorem dX2_become_59 : decode cX2_become 59 = .ok (.getfield 9, 3) := by decide +kernel
theorem dX2_become_62 : decode cX2_become 62 = .ok (.iload 4, 2) := by decide +kernel
theorem dX2_become_64 : decode cX2_become 64 = .ok (.aload_n 1, 1) := by decide +kernel
theorem dX2_become_65 : decode cX2_become 65 = .ok (.iload 5, 2) := by decide +kernel
theorem dX2_become_67 : decode cX2_become 67 = .ok (.iconst 1, 1) := by decide +kernel
theorem dX2_become_68 : decode cX2_become 68 = .ok (.iadd, 1) := by decide +kernel
theorem dX2_become_69 : decode cX2_become 69 = .ok (.invokevirtual 44, 3) := by decide +kernel
theorem dX2_become_72 : decode cX2_become 72 = .ok (.invokestatic 50, 3) := by decide +kernel
theorem dX2_become_75 : decode cX2_become 75 = .ok (.iastore, 1) := by decide +kernel
theorem dX2_become_76 : decode cX2_become 76 = .ok (.aload_n 0, 1) := by decide +kernel
theorem dX2_become_77 : decode cX2_become 77 = .ok (.getfield 15, 3) := by decide +kernel
theorem dX2_become_80 : decode cX2_become 80 = .ok (.iload 4, 2) := by decide +kernel
theorem dX2_become_82 : decode cX2_become 82 = .ok (.aload_n 1, 1) := by decide +kernel
theorem dX2_become_83 : decode cX2_become 83 = .ok (.iload 5, 2) := by decide +kernel
theorem dX2_become_85 : decode cX2_become 85 = .ok (.iconst 2, 1) := by decide +kernel
theorem dX2_become_86 : decode cX2_become 86 = .ok (.iadd, 1) := by decide +kernel
theorem dX2_become_87 : decode cX2_become 87 = .ok (.invokestatic 34, 3) := by decide +kernel
theorem dX2_become_90 : decode cX2_become 90 = .ok (.iastore, 1) := by decide +kernel
theorem dX2_become_91 : decode cX2_become 91 = .ok (.aload_n 0, 1) := by decide +kernel
theorem dX2_become_92 : decode cX2_become 92 = .ok (.getfield 18, 3) := by decide +kernel
theorem dX2_become_95 : decode cX2_become 95 = .ok (.iload 4, 2) := by decide +kernel
theorem dX2_become_97 : decode cX2_become 97 = .ok (.aload_n 1, 1) := by decide +kernel
theorem dX2_become_98 : decode cX2_become 98 = .ok (.iload 5, 2) := by decide +kernel
theorem dX2_become_100 : decode cX2_become 100 = .ok (.iconst 4, 1) := by decide +kernel
theorem dX2_become_101 : decode cX2_become 101 = .ok (.iadd, 1) := by decide +kernel
theorem dX2_become_102 : decode cX2_become 102 = .ok (.invokevirtual 44, 3) := by decide +kernel
theorem dX2_become_105 : decode cX2_become 105 = .ok (.bipush 48, 2) := by decide +kernel
theorem dX2_become_107 : decode cX2_become 107 = .ok (.isub, 1) := by decide +kernel
theorem dX2_become_108 : decode cX2_become 108 = .ok (.iastore, 1) := by decide +kernel
theorem dX2_become_109 : decode cX2_become 109 = .ok (.aload_n 0, 1) := by decide +kernel
theorem dX2_become_110 : decode cX2_become 110 = .ok (.dup, 1) := by decide +kernel
theorem dX2_become_111 : decode cX2_become 111 = .ok (.getfield 41, 3) := by decide +kernel
theorem dX2_become_114 : decode cX2_become 114 = .ok (.aload_n 1, 1) := by decide +kernel
theorem dX2_become_115 : decode cX2_become 115 = .ok (.iload 5, 2) := by decide +kernel
theorem dX2_become_117 : decode cX2_become 117 = .ok (.iconst 5, 1) := by decide +kernel
theorem dX2_become_118 : decode cX2_become 118 = .ok (.iadd, 1) := by decide +kernel
theorem dX2_become_119 : decode cX2_become 119 = .ok (.invokevirtual 44, 3) := by decide +kernel
theorem dX2_become_122 : decode cX2_become 122 = .ok (.bipush 48, 2) := by decide +kernel
theorem dX2_become_124 : decode cX2_become 124 = .ok (.isub, 1) := by decide +kernel
theorem dX2_become_125 : decode cX2_become 125 = .ok (.iload 4, 2) := by decide +kernel
theorem dX2_become_127 : decode cX2_become 127 = .ok (.ishl, 1) := by decide +kernel
theorem dX2_become_128 : decode cX2_become 128 = .ok (.ior, 1) := by decide +kernel
theorem dX2_become_129 : decode cX2_become 129 = .ok (.putfield 41, 3) := by decide +kernel
theorem dX2_become_132 : decode cX2_become 132 = .ok (.iinc 4 1, 3) := by decide +kernel
theorem dX2_become_135 : decode cX2_become 135 = .ok (.goto (-97), 3) := by decide +kernel
theorem dX2_become_138 : decode cX2_become 138 = .ok (.return_, 1) := by decide +kernel
theorem dX2_kindOf_0 : decode cX2_kindOf 0 = .ok (.iload_n 0, 1) := by decide +kernel
theorem dX2_kindOf_1 : decode cX2_kindOf 1 = .ok (.bipush 111, 2) := by decide +kernel
theorem dX2_kindOf_3 : decode cX2_kindOf 3 = .ok (.if_icmp .ne 5, 3) := by decide +kernel
theorem dX2_kindOf_6 : decode cX2_kindOf 6 = .ok (.iconst 0, 1) := by decide +kernel
theorem dX2_kindOf_7 : decode cX2_kindOf 7 = .ok (.ireturn, 1) := by decide +kernel
theorem dX2_kindOf_8 : decode cX2_kindOf 8 = .ok (.iload_n 0, 1) := by decide +kernel
theorem dX2_kindOf_9 : decode cX2_kindOf 9 = .ok (.bipush 115, 2) := by decide +kernel
theorem dX2_kindOf_11 : decode cX2_kindOf 11 = .ok (.if_icmp .ne 7, 3) := by decide +kernel
theorem dX2_kindOf_14 : decode cX2_kindOf 14 = .ok (.iconst 1, 1) := by decide +kernel
theorem dX2_kindOf_15 : decode cX2_kindOf 15 = .ok (.goto 4, 3) := by decide +kernel
theorem dX2_kindOf_18 : decode cX2_kindOf 18 = .ok (.iconst 2, 1) := by decide +kernel
theorem dX2_kindOf_19 : decode cX2_kindOf 19 = .ok (.ireturn, 1) := by decide +kernel
set_option maxRecDepth 20000 in
theorem ggX2_twoDigits_X1_at : GoodIn wsX2_twoDigits wsX1_at := goodIn_r _ [5, 6, 7, 8, 9, 10] (by decide +kernel) (by decide +kernel)
set_option maxRecDepth 20000 in
theorem gX2_twoDigits_X1_at : GoodIn wsX2_twoDigits (wsV RX2 44 RX1 yX1_at wsX1_at) := goodIn_app (goodIn_of _ (by decide +kernel)) ggX2_twoDigits_X1_at
theorem dX2_twoDigits_0 : decode cX2_twoDigits 0 = .ok (.bipush 10, 2) := by decide +kernel
theorem dX2_twoDigits_2 : decode cX2_twoDigits 2 = .ok (.aload_n 0, 1) := by decide +kernel
theorem dX2_twoDigits_3 : decode cX2_twoDigits 3 = .ok (.iload_n 1, 1) := by decide +kernel
theorem dX2_twoDigits_4 : decode cX2_twoDigits 4 = .ok (.invokevirtual 44, 3) := by decide +kernel
theorem dX2_twoDigits_7 : decode cX2_twoDigits 7 = .ok (.bipush 48, 2) := by decide +kernel
theorem dX2_twoDigits_9 : decode cX2_twoDigits 9 = .ok (.isub, 1) := by decide +kernel
theorem dX2_twoDigits_10 : decode cX2_twoDigits 10 = .ok (.imul, 1) := by decide +kernel
theorem dX2_twoDigits_11 : decode cX2_twoDigits 11 = .ok (.aload_n 0, 1) := by decide +kernel
theorem dX2_twoDigits_12 : decode cX2_twoDigits 12 = .ok (.iload_n 1, 1) := by decide +kernel
theorem dX2_twoDigits_13 : decode cX2_twoDigits 13 = .ok (.iconst 1, 1) := by decide +kernel
theorem dX2_twoDigits_14 : decode cX2_twoDigits 14 = .ok (.iadd, 1) := by decide +kernel
theorem dX2_twoDigits_15 : decode cX2_twoDigits 15 = .ok (.invokevirtual 44, 3) := by decide +kernel
theorem dX2_twoDigits_18 : decode cX2_twoDigits 18 = .ok (.iadd, 1) := by decide +kernel
theorem dX2_twoDigits_19 : decode cX2_twoDigits 19 = .ok (.bipush 48, 2) := by decide +kernel
theorem dX2_twoDigits_21 : decode cX2_twoDigits 21 = .ok (.isub, 1) := by decide +kernel
theorem dX2_twoDigits_22 : decode cX2_twoDigits 22 = .ok (.ireturn, 1) := by decide +kernel
theorem dX2_becomeLike_0 : decode cX2_becomeLike 0 = .ok (.aload_n 0, 1) := by decide +kernel
theorem dX2_becomeLike_1 : decode cX2_becomeLike 1 = .ok (.aload_n 1, 1) := by decide +kernel
theorem dX2_becomeLike_2 : decode cX2_becomeLike 2 = .ok (.getfield 30, 3) := by decide +kernel
theorem dX2_becomeLike_5 : decode cX2_becomeLike 5 = .ok (.putfield 30, 3) := by decide +kernel
theorem dX2_becomeLike_8 : decode cX2_becomeLike 8 = .ok (.aload_n 0, 1) := by decide +kernel
theorem dX2_becomeLike_9 : decode cX2_becomeLike 9 = .ok (.aload_n 1, 1) := by decide +kernel
theorem dX2_becomeLike_10 : decode cX2_becomeLike 10 = .ok (.getfield 41, 3) := by decide +kernel
theorem dX2_becomeLike_13 : decode cX2_becomeLike 13 = .ok (.putfield 41, 3) := by decide +kernel
theorem dX2_becomeLike_16 : decode cX2_becomeLike 16 = .ok (.aload_n 0, 1) := by decide +kernel
theorem dX2_becomeLike_17 : decode cX2_becomeLike 17 = .ok (.aload_n 1, 1) := by decide +kernel
theorem dX2_becomeLike_18 : decode cX2_becomeLike 18 = .ok (.getfield 38, 3) := by decide +kernel
theorem dX2_becomeLike_21 : decode cX2_becomeLike 21 = .ok (.putfield 38, 3) := by decide +kernel
theorem dX2_becomeLike_24 : decode cX2_becomeLike 24 = .ok (.iconst 0, 1) := by decide +kernel
theorem dX2_becomeLike_25 : decode cX2_becomeLike 25 = .ok (.istore_n 2, 1) := by decide +kernel
theorem dX2_becomeLike_26 : decode cX2_becomeLike 26 = .ok (.iload_n 2, 1) := by decide +kernel
theorem dX2_becomeLike_27 : decode cX2_becomeLike 27 = .ok (.aload_n 0, 1) := by decide +kernel
theorem dX2_becomeLike_28 : decode cX2_becomeLike 28 = .ok (.getfield 30, 3) := by decide +kernel
theorem dX2_becomeLike_31 : decode cX2_becomeLike 31 = .ok (.if_icmp .ge 45, 3) := by decide +kernel
theorem dX2_becomeLike_34 : decode cX2_becomeLike 34 = .ok (.aload_n 0, 1) := by decide +kernel
theorem dX2_becomeLike_35 : decode cX2_becomeLike 35 = .ok (.getfield 9, 3) := by decide +kernel
theorem dX2_becomeLike_38 : decode cX2_becomeLike 38 = .ok (.iload_n 2, 1) := by decide +kernel
theorem dX2_becomeLike_39 : decode cX2_becomeLike 39 = .ok (.aload_n 1, 1) := by decide +kernel
theorem dX2_becomeLike_40 : decode cX2_becomeLike 40 = .ok (.getfield 9, 3) := by decide +kernel
theorem dX2_becomeLike_43 : decode cX2_becomeLike 43 = .ok (.iload_n 2, 1) := by decide +kernel
theorem dX2_becomeLike_44 : decode cX2_becomeLike 44 = .ok (.iaload, 1) := by decide +kernel
theorem dX2_becomeLike_45 : decode cX2_becomeLike 45 = .ok (.iastore, 1) := by decide +kernel
theorem dX2_becomeLike_46 : decode cX2_becomeLike 46 = .ok (.aload_n 0, 1) := by decide +kernel
theorem dX2_becomeLike_47 : decode cX2_becomeLike 47 = .ok (.getfield 15, 3) := by decide +kernel
theorem dX2_becomeLike_50 : decode cX2_becomeLike 50 = .ok (.iload_n 2, 1) := by decide +kernel
theorem dX2_becomeLike_51 : decode cX2_becomeLike 51 = .ok (.aload_n 1, 1) := by decide +kernel
theorem dX2_becomeLike_52 : decode cX2_becomeLike 52 = .ok (.getfield 15, 3) := by decide +kernel
theorem dX2_becomeLike_55 : decode cX2_becomeLike 55 = .ok (.iload_n 2, 1) := by decide +kernel
theorem dX2_becomeLike_56 : decode cX2_becomeLike 56 = .ok (.iaload, 1) := by decide +kernel
theorem dX2_becomeLike_57 : decode cX2_becomeLike 57 = .ok (.iastore, 1) := by decide +kernel
theorem dX2_becomeLike_58 : decode cX2_becomeLike 58 = .ok (.aload_n 0, 1) := by decide +kernel
theorem dX2_becomeLike_59 : decode cX2_becomeLike 59 = .ok (.getfield 18, 3) := by decide +kernel
theorem dX2_becomeLike_62 : decode cX2_becomeLike 62 = .ok (.iload_n 2, 1) := by decide +kernel
theorem dX2_becomeLike_63 : decode cX2_becomeLike 63 = .ok (.aload_n 1, 1) := by decide +kernel
theorem dX2_becomeLike_64 : decode cX2_becomeLike 64 = .ok (.getfield 18, 3) := by decide +kernel
theorem dX2_becomeLike_67 : decode cX2_becomeLike 67 = .ok (.iload_n 2, 1) := by decide +kernel
theorem dX2_becomeLike_68 : decode cX2_becomeLike 68 = .ok (.iaload, 1) := by decide +kernel
theorem dX2_becomeLike_69 : decode cX2_becomeLike 69 = .ok (.iastore, 1) := by decide +kernel
theorem dX2_becomeLike_70 : decode cX2_becomeLike 70 = .ok (.iinc 2 1, 3) := by decide +kernel
theorem dX2_becomeLike_73 : decode cX2_becomeLike 73 = .ok (.goto (-47), 3) := by decide +kernel
theorem dX2_becomeLike_76 : decode cX2_becomeLike 76 = .ok (.return_, 1) := by decide +kernel
theorem dX2_has_0 : decode cX2_has 0 = .ok (.iload_n 1, 1) := by decide +kernel
theorem dX2_has_1 : decode cX2_has 1 = .ok (.ifCond .lt 15, 3) := by decide +kernel
theorem dX2_has_4 : decode cX2_has 4 = .ok (.iload_n 1, 1) := by decide +kernel
theorem dX2_has_5 : decode cX2_has 5 = .ok (.aload_n 0, 1) := by decide +kernel
theorem dX2_has_6 : decode cX2_has 6 = .ok (.getfield 30, 3) := by decide +kernel
theorem dX2_has_9 : decode cX2_has 9 = .ok (.if_icmp .ge 7, 3) := by decide +kernel
theorem dX2_has_12 : decode cX2_has 12 = .ok (.iconst 1, 1) := by decide +kernel
theorem dX2_has_13 : decode cX2_has 13 = .ok (.goto 4, 3) := by decide +kernel
theorem dX2_has_16 : decode cX2_has 16 = .ok (.iconst 0, 1) := by decide +kernel
theorem dX2_has_17 : decode cX2_has 17 = .ok (.ireturn, 1) := by decide +kernel
set_option maxRecDepth 20000 in
theorem ggX2_isIn_X3_isMember : GoodIn wsX2_isIn wsX3_isMember := goodIn_r _ [4] (by decide +kernel) (by decide +kernel)
set_option maxRecDepth 20000 in
theorem gX2_isIn_X3_isMember_n53 : GoodIn wsX2_isIn (wsX3_isMember) := ggX2_isIn_X3_isMember
theorem dX2_isIn_0 : decode cX2_isIn 0 = .ok (.aload_n 0, 1) := by decide +kernel
theorem dX2_isIn_1 : decode cX2_isIn 1 = .ok (.getfield 41, 3) := by decide +kernel
theorem dX2_isIn_4 : decode cX2_isIn 4 = .ok (.iload_n 1, 1) := by decide +kernel
theorem dX2_isIn_5 : decode cX2_isIn 5 = .ok (.invokestatic 53, 3) := by decide +kernel
theorem dX2_isIn_8 : decode cX2_isIn 8 = .ok (.ireturn, 1) := by decide +kernel
set_option maxRecDepth 20000 in
theorem ggX2_heads_J6_bitCount_0f7a4 : GoodIn wsX2_heads wsJ6_bitCount_0f7a4 := goodIn_r _ [5, 6, 7, 8] (by decide +kernel) (by decide +kernel)
set_option maxRecDepth 20000 in
theorem gX2_heads_J6_bitCount_0f7a4 : GoodIn wsX2_heads (va_wsS RX2 57 yJ6_bitCount_0f7a4 wsJ6_bitCount_0f7a4) := goodIn_app (goodIn_of _ (by decide +kernel)) ggX2_heads_J6_bitCount_0f7a4
theorem dX2_heads_0 : decode cX2_heads 0 = .ok (.aload_n 0, 1) := by decide +kernel
theorem dX2_heads_1 : decode cX2_heads 1 = .ok (.getfield 41, 3) := by decide +kernel
theorem dX2_heads_4 : decode cX2_heads 4 = .ok (.invokestatic 57, 3) := by decide +kernel
theorem dX2_heads_7 : decode cX2_heads 7 = .ok (.ireturn, 1) := by decide +kernel
theorem dX2_allSets_0 : decode cX2_allSets 0 = .ok (.iconst 1, 1) := by decide +kernel
theorem dX2_allSets_1 : decode cX2_allSets 1 = .ok (.aload_n 0, 1) := by decide +kernel
theorem dX2_allSets_2 : decode cX2_allSets 2 = .ok (.getfield 30, 3) := by decide +kernel
theorem dX2_allSets_5 : decode cX2_allSets 5 = .ok (.ishl, 1) := by decide +kernel
theorem dX2_allSets_6 : decode cX2_allSets 6 = .ok (.ireturn, 1) := by decide +kernel
set_option maxRecDepth 20000 in
theorem ggX2_partsOf_X3_isMember : GoodIn wsX2_partsOf wsX3_isMember := goodIn_r _ [5] (by decide +kernel) (by decide +kernel)
set_option maxRecDepth 20000 in
theorem gX2_partsOf_X3_isMember_n53 : GoodIn wsX2_partsOf (wsX3_isMember) := ggX2_partsOf_X3_isMember
theorem dX2_partsOf_0 : decode cX2_partsOf 0 = .ok (.iconst 0, 1) := by decide +kernel
theorem dX2_partsOf_1 : decode cX2_partsOf 1 = .ok (.istore_n 2, 1) := by decide +kernel
theorem dX2_partsOf_2 : decode cX2_partsOf 2 = .ok (.iconst 0, 1) := by decide +kernel
theorem dX2_partsOf_3 : decode cX2_partsOf 3 = .ok (.istore_n 3, 1) := by decide +kernel
theorem dX2_partsOf_4 : decode cX2_partsOf 4 = .ok (.iload_n 3, 1) := by decide +kernel
theorem dX2_partsOf_5 : decode cX2_partsOf 5 = .ok (.aload_n 0, 1) := by decide +kernel
theorem dX2_partsOf_6 : decode cX2_partsOf 6 = .ok (.getfield 30, 3) := by decide +kernel
theorem dX2_partsOf_9 : decode cX2_partsOf 9 = .ok (.if_icmp .ge 30, 3) := by decide +kernel
theorem dX2_partsOf_12 : decode cX2_partsOf 12 = .ok (.iload_n 2, 1) := by decide +kernel
theorem dX2_partsOf_13 : decode cX2_partsOf 13 = .ok (.iload_n 1, 1) := by decide +kernel
theorem dX2_partsOf_14 : decode cX2_partsOf 14 = .ok (.iload_n 3, 1) := by decide +kernel
theorem dX2_partsOf_15 : decode cX2_partsOf 15 = .ok (.invokestatic 53, 3) := by decide +kernel
theorem dX2_partsOf_18 : decode cX2_partsOf 18 = .ok (.ifCond .eq 12, 3) := by decide +kernel
theorem dX2_partsOf_21 : decode cX2_partsOf 21 = .ok (.aload_n 0, 1) := by decide +kernel
theorem dX2_partsOf_22 : decode cX2_partsOf 22 = .ok (.getfield 15, 3) := by decide +kernel
theorem dX2_partsOf_25 : decode cX2_partsOf 25 = .ok (.iload_n 3, 1) := by decide +kernel
theorem dX2_partsOf_26 : decode cX2_partsOf 26 = .ok (.iaload, 1) := by decide +kernel
theorem dX2_partsOf_27 : decode cX2_partsOf 27 = .ok (.goto 4, 3) := by decide +kernel
theorem dX2_partsOf_30 : decode cX2_partsOf 30 = .ok (.iconst 0, 1) := by decide +kernel
theorem dX2_partsOf_31 : decode cX2_partsOf 31 = .ok (.iadd, 1) := by decide +kernel
theorem dX2_partsOf_32 : decode cX2_partsOf 32 = .ok (.istore_n 2, 1) := by decide +kernel
theorem dX2_partsOf_33 : decode cX2_partsOf 33 = .ok (.iinc 3 1, 3) := by decide +kernel
theorem dX2_partsOf_36 : decode cX2_partsOf 36 = .ok (.goto (-32), 3) := by decide +kernel
theorem dX2_partsOf_39 : decode cX2_partsOf 39 = .ok (.iload_n 2, 1) := by decide +kernel
theorem dX2_partsOf_40 : decode cX2_partsOf 40 = .ok (.ireturn, 1) := by decide +kernel
set_option maxRecDepth 20000 in
theorem ggX2_saysNow_X3_says : GoodIn wsX2_saysNow wsX3_says := goodIn_r _ [6, 7, 8, 9, 10] (by decide +kernel) (by decide +kernel)
set_option maxRecDepth 20000 in
theorem gX2_saysNow_X3_says_n62 : GoodIn wsX2_saysNow (wsX3_says) := ggX2_saysNow_X3_says
theorem dX2_saysNow_0 : decode cX2_saysNow 0 = .ok (.aload_n 0, 1) := by decide +kernel
theorem dX2_saysNow_1 : decode cX2_saysNow 1 = .ok (.getfield 9, 3) := by decide +kernel
theorem dX2_saysNow_4 : decode cX2_saysNow 4 = .ok (.iload_n 1, 1) := by decide +kernel
theorem dX2_saysNow_5 : decode cX2_saysNow 5 = .ok (.iaload, 1) := by decide +kernel
theorem dX2_saysNow_6 : decode cX2_saysNow 6 = .ok (.aload_n 0, 1) := by decide +kernel
theorem dX2_saysNow_7 : decode cX2_saysNow 7 = .ok (.getfield 15, 3) := by decide +kernel
theorem dX2_saysNow_10 : decode cX2_saysNow 10 = .ok (.iload_n 1, 1) := by decide +kernel
theorem dX2_saysNow_11 : decode cX2_saysNow 11 = .ok (.iaload, 1) := by decide +kernel
theorem dX2_saysNow_12 : decode cX2_saysNow 12 = .ok (.aload_n 0, 1) := by decide +kernel
theorem dX2_saysNow_13 : decode cX2_saysNow 13 = .ok (.getfield 18, 3) := by decide +kernel
theorem dX2_saysNow_16 : decode cX2_saysNow 16 = .ok (.iload_n 1, 1) := by decide +kernel
theorem dX2_saysNow_17 : decode cX2_saysNow 17 = .ok (.iaload, 1) := by decide +kernel
theorem dX2_saysNow_18 : decode cX2_saysNow 18 = .ok (.invokestatic 62, 3) := by decide +kernel
theorem dX2_saysNow_21 : decode cX2_saysNow 21 = .ok (.ireturn, 1) := by decide +kernel
set_option maxRecDepth 20000 in
theorem ggX2_allSay_X2_isIn : GoodIn wsX2_allSay wsX2_isIn := goodIn_r _ [6, 7, 8, 9, 10, 24, 25, 26, 27, 28, 29] (by decide +kernel) (by decide +kernel)
set_option maxRecDepth 20000 in
theorem gX2_allSay_X2_isIn : GoodIn wsX2_allSay (wsV RX2 66 RX2 yX2_isIn wsX2_isIn) := goodIn_app (goodIn_of _ (by decide +kernel)) ggX2_allSay_X2_isIn
set_option maxRecDepth 20000 in
theorem ggX2_allSay_X2_saysNow : GoodIn wsX2_allSay wsX2_saysNow := goodIn_r _ [14, 15, 16, 17, 18, 9, 19, 20, 21, 22, 23, 24, 25, 26, 27, 28, 29] (by decide +kernel) (by decide +kernel)
set_option maxRecDepth 20000 in
theorem gX2_allSay_X2_saysNow : GoodIn wsX2_allSay (wsV RX2 70 RX2 yX2_saysNow wsX2_saysNow) := goodIn_app (goodIn_of _ (by decide +kernel)) ggX2_allSay_X2_saysNow
theorem dX2_allSay_0 : decode cX2_allSay 0 = .ok (.iconst 0, 1) := by decide +kernel
theorem dX2_allSay_1 : decode cX2_allSay 1 = .ok (.istore_n 1, 1) := by decide +kernel
theorem dX2_allSay_2 : decode cX2_allSay 2 = .ok (.iconst 0, 1) := by decide +kernel
theorem dX2_allSay_3 : decode cX2_allSay 3 = .ok (.istore_n 2, 1) := by decide +kernel
theorem dX2_allSay_4 : decode cX2_allSay 4 = .ok (.iload_n 2, 1) := by decide +kernel
theorem dX2_allSay_5 : decode cX2_allSay 5 = .ok (.aload_n 0, 1) := by decide +kernel
theorem dX2_allSay_6 : decode cX2_allSay 6 = .ok (.getfield 30, 3) := by decide +kernel
theorem dX2_allSay_9 : decode cX2_allSay 9 = .ok (.if_icmp .ge 29, 3) := by decide +kernel
theorem dX2_allSay_12 : decode cX2_allSay 12 = .ok (.iload_n 1, 1) := by decide +kernel
theorem dX2_allSay_13 : decode cX2_allSay 13 = .ok (.aload_n 0, 1) := by decide +kernel
theorem dX2_allSay_14 : decode cX2_allSay 14 = .ok (.iload_n 2, 1) := by decide +kernel
theorem dX2_allSay_15 : decode cX2_allSay 15 = .ok (.invokevirtual 66, 3) := by decide +kernel
theorem dX2_allSay_18 : decode cX2_allSay 18 = .ok (.ifCond .eq 11, 3) := by decide +kernel
theorem dX2_allSay_21 : decode cX2_allSay 21 = .ok (.aload_n 0, 1) := by decide +kernel
theorem dX2_allSay_22 : decode cX2_allSay 22 = .ok (.iload_n 2, 1) := by decide +kernel
theorem dX2_allSay_23 : decode cX2_allSay 23 = .ok (.invokevirtual 70, 3) := by decide +kernel
theorem dX2_allSay_26 : decode cX2_allSay 26 = .ok (.goto 4, 3) := by decide +kernel
theorem dX2_allSay_29 : decode cX2_allSay 29 = .ok (.iconst 0, 1) := by decide +kernel
theorem dX2_allSay_30 : decode cX2_allSay 30 = .ok (.iadd, 1) := by decide +kernel
theorem dX2_allSay_31 : decode cX2_allSay 31 = .ok (.istore_n 1, 1) := by decide +kernel
theorem dX2_allSay_32 : decode cX2_allSay 32 = .ok (.iinc 2 1, 3) := by decide +kernel
theorem dX2_allSay_35 : decode cX2_allSay 35 = .ok (.goto (-31), 3) := by decide +kernel
theorem dX2_allSay_38 : decode cX2_allSay 38 = .ok (.iload_n 1, 1) := by decide +kernel
theorem dX2_allSay_39 : decode cX2_allSay 39 = .ok (.ireturn, 1) := by decide +kernel
set_option maxRecDepth 20000 in
theorem ggX2_acts_X2_isIn : GoodIn wsX2_acts wsX2_isIn := goodIn_r _ [7, 1, 8, 9, 10, 48, 49, 50, 51, 52, 53] (by decide +kernel) (by decide +kernel)
set_option maxRecDepth 20000 in
theorem gX2_acts_X2_isIn : GoodIn wsX2_acts (wsV RX2 66 RX2 yX2_isIn wsX2_isIn) := goodIn_app (goodIn_of _ (by decide +kernel)) ggX2_acts_X2_isIn
set_option maxRecDepth 20000 in
theorem ggX2_acts_X2_shareFrom : GoodIn wsX2_acts wsX2_shareFrom := goodIn_r _ [14, 1, 15, 16, 17, 18, 19, 6, 20, 8, 9, 10, 21, 22, 23, 24, 25, 26, 27, 28, 29, 30, 31, 3, 4, 5, 7, 32, 33, 34, 35, 2, 48, 49, 50, 51, 52, 53] (by decide +kernel) (by decide +kernel)
set_option maxRecDepth 20000 in
theorem gX2_acts_X2_shareFrom : GoodIn wsX2_acts (wsV RX2 73 RX2 yX2_shareFrom wsX2_shareFrom) := goodIn_app (goodIn_of _ (by decide +kernel)) ggX2_acts_X2_shareFrom
set_option maxRecDepth 20000 in
theorem ggX2_acts_X2_goOut : GoodIn wsX2_acts wsX2_goOut := goodIn_r _ [39, 16, 1, 32, 33, 34, 6, 35, 2, 15, 21, 22, 23, 24, 25, 26, 27, 28, 29, 30, 31, 3, 4, 5, 7, 8, 9, 10, 48, 49, 50, 51, 52, 53] (by decide +kernel) (by decide +kernel)
set_option maxRecDepth 20000 in
theorem gX2_acts_X2_goOut : GoodIn wsX2_acts (wsV RX2 76 RX2 yX2_goOut wsX2_goOut) := goodIn_app (goodIn_of _ (by decide +kernel)) ggX2_acts_X2_goOut
set_option maxRecDepth 20000 in
theorem ggX2_acts_X2_heads : GoodIn wsX2_acts wsX2_heads := goodIn_r _ [24, 1, 25, 26, 27, 28, 29, 30, 31, 48, 49, 50, 51, 52, 53] (by decide +kernel) (by decide +kernel)
set_option maxRecDepth 20000 in
theorem gX2_acts_X2_heads : GoodIn wsX2_acts (wsV RX2 79 RX2 yX2_heads wsX2_heads) := goodIn_app (goodIn_of _ (by decide +kernel)) ggX2_acts_X2_heads
set_option maxRecDepth 20000 in
theorem ggX2_acts_X2_giveTo : GoodIn wsX2_acts wsX2_giveTo := goodIn_r _ [43, 15, 16, 3, 4, 5, 6, 7, 1, 8, 9, 10, 48, 49, 50, 51, 52, 53] (by decide +kernel) (by decide +kernel)
set_option maxRecDepth 20000 in
theorem gX2_acts_X2_giveTo : GoodIn wsX2_acts (wsV RX2 83 RX2 yX2_giveTo wsX2_giveTo) := goodIn_app (goodIn_of _ (by decide +kernel)) ggX2_acts_X2_giveTo
set_option maxRecDepth 20000 in
theorem ggX2_acts_X2_emptyTinFor : GoodIn wsX2_acts wsX2_emptyTinFor := goodIn_r _ [47, 2, 16, 48, 49, 50, 51, 52, 53] (by decide +kernel) (by decide +kernel)
set_option maxRecDepth 20000 in
theorem gX2_acts_X2_emptyTinFor : GoodIn wsX2_acts (wsV RX2 86 RX2 yX2_emptyTinFor wsX2_emptyTinFor) := goodIn_app (goodIn_of _ (by decide +kernel)) ggX2_acts_X2_emptyTinFor
theorem dX2_acts_0 : decode cX2_acts 0 = .ok (.iload_n 2, 1) := by decide +kernel
theorem dX2_acts_1 : decode cX2_acts 1 = .ok (.ifCond .ne 18, 3) := by decide +kernel
theorem dX2_acts_4 : decode cX2_acts 4 = .ok (.aload_n 0, 1) := by decide +kernel
theorem dX2_acts_5 : decode cX2_acts 5 = .ok (.getfield 41, 3) := by decide +kernel
theorem dX2_acts_8 : decode cX2_acts 8 = .ok (.ifCond .eq 7, 3) := by decide +kernel
theorem dX2_acts_11 : decode cX2_acts 11 = .ok (.iconst 1, 1) := by decide +kernel
theorem dX2_acts_12 : decode cX2_acts 12 = .ok (.goto 30, 3) := by decide +kernel
theorem dX2_acts_15 : decode cX2_acts 15 = .ok (.iconst 0, 1) := by decide +kernel
theorem dX2_acts_16 : decode cX2_acts 16 = .ok (.goto 26, 3) := by decide +kernel
theorem dX2_acts_19 : decode cX2_acts 19 = .ok (.aload_n 0, 1) := by decide +kernel
theorem dX2_acts_20 : decode cX2_acts 20 = .ok (.iload_n 1, 1) := by decide +kernel
theorem dX2_acts_21 : decode cX2_acts 21 = .ok (.invokevirtual 66, 3) := by decide +kernel
theorem dX2_acts_24 : decode cX2_acts 24 = .ok (.iload_n 2, 1) := by decide +kernel
theorem dX2_acts_25 : decode cX2_acts 25 = .ok (.iconst 2, 1) := by decide +kernel
theorem dX2_acts_26 : decode cX2_acts 26 = .ok (.if_icmp .eq 7, 3) := by decide +kernel
theorem dX2_acts_29 : decode cX2_acts 29 = .ok (.iconst 1, 1) := by decide +kernel
theorem dX2_acts_30 : decode cX2_acts 30 = .ok (.goto 4, 3) := by decide +kernel
theorem dX2_acts_33 : decode cX2_acts 33 = .ok (.iconst 0, 1) := by decide +kernel
theorem dX2_acts_34 : decode cX2_acts 34 = .ok (.if_icmp .ne 7, 3) := by decide +kernel
theorem dX2_acts_37 : decode cX2_acts 37 = .ok (.iconst 1, 1) := by decide +kernel
theorem dX2_acts_38 : decode cX2_acts 38 = .ok (.goto 4, 3) := by decide +kernel
theorem dX2_acts_41 : decode cX2_acts 41 = .ok (.iconst 0, 1) := by decide +kernel
theorem dX2_acts_42 : decode cX2_acts 42 = .ok (.istore_n 3, 1) := by decide +kernel
theorem dX2_acts_43 : decode cX2_acts 43 = .ok (.iload_n 3, 1) := by decide +kernel
theorem dX2_acts_44 : decode cX2_acts 44 = .ok (.ifCond .eq 15, 3) := by decide +kernel
theorem dX2_acts_47 : decode cX2_acts 47 = .ok (.iload_n 2, 1) := by decide +kernel
theorem dX2_acts_48 : decode cX2_acts 48 = .ok (.iconst 4, 1) := by decide +kernel
theorem dX2_acts_49 : decode cX2_acts 49 = .ok (.if_icmp .ne 13, 3) := by decide +kernel
theorem dX2_acts_52 : decode cX2_acts 52 = .ok (.aload_n 0, 1) := by decide +kernel
theorem dX2_acts_53 : decode cX2_acts 53 = .ok (.getfield 38, 3) := by decide +kernel
theorem dX2_acts_56 : decode cX2_acts 56 = .ok (.ifCond .ne 6, 3) := by decide +kernel
theorem dX2_acts_59 : decode cX2_acts 59 = .ok (.bipush (-3), 2) := by decide +kernel
theorem dX2_acts_61 : decode cX2_acts 61 = .ok (.ireturn, 1) := by decide +kernel
theorem dX2_acts_62 : decode cX2_acts 62 = .ok (.iload_n 2, 1) := by decide +kernel
theorem dX2_acts_63 : decode cX2_acts 63 = .ok (.tableswitch 64 0 3 #[29, 35, 41, 58], 29) := by decide +kernel
theorem dX2_acts_92 : decode cX2_acts 92 = .ok (.aload_n 0, 1) := by decide +kernel
theorem dX2_acts_93 : decode cX2_acts 93 = .ok (.iload_n 1, 1) := by decide +kernel
theorem dX2_acts_94 : decode cX2_acts 94 = .ok (.invokevirtual 73, 3) := by decide +kernel
theorem dX2_acts_97 : decode cX2_acts 97 = .ok (.ireturn, 1) := by decide +kernel
theorem dX2_acts_98 : decode cX2_acts 98 = .ok (.aload_n 0, 1) := by decide +kernel
theorem dX2_acts_99 : decode cX2_acts 99 = .ok (.iload_n 1, 1) := by decide +kernel
theorem dX2_acts_100 : decode cX2_acts 100 = .ok (.invokevirtual 76, 3) := by decide +kernel
theorem dX2_acts_103 : decode cX2_acts 103 = .ok (.ireturn, 1) := by decide +kernel
theorem dX2_acts_104 : decode cX2_acts 104 = .ok (.aload_n 0, 1) := by decide +kernel
theorem dX2_acts_105 : decode cX2_acts 105 = .ok (.dup, 1) := by decide +kernel
theorem dX2_acts_106 : decode cX2_acts 106 = .ok (.getfield 41, 3) := by decide +kernel
theorem dX2_acts_109 : decode cX2_acts 109 = .ok (.iconst 1, 1) := by decide +kernel
theorem dX2_acts_110 : decode cX2_acts 110 = .ok (.iload_n 1, 1) := by decide +kernel
theorem dX2_acts_111 : decode cX2_acts 111 = .ok (.ishl, 1) := by decide +kernel
theorem dX2_acts_112 : decode cX2_acts 112 = .ok (.ior, 1) := by decide +kernel
theorem dX2_acts_113 : decode cX2_acts 113 = .ok (.putfield 41, 3) := by decide +kernel
theorem dX2_acts_116 : decode cX2_acts 116 = .ok (.aload_n 0, 1) := by decide +kernel
theorem dX2_acts_117 : decode cX2_acts 117 = .ok (.invokevirtual 79, 3) := by decide +kernel
theorem dX2_acts_120 : decode cX2_acts 120 = .ok (.ireturn, 1) := by decide +kernel
theorem dX2_acts_121 : decode cX2_acts 121 = .ok (.aload_n 0, 1) := by decide +kernel
theorem dX2_acts_122 : decode cX2_acts 122 = .ok (.iload_n 1, 1) := by decide +kernel
theorem dX2_acts_123 : decode cX2_acts 123 = .ok (.invokevirtual 83, 3) := by decide +kernel
theorem dX2_acts_126 : decode cX2_acts 126 = .ok (.ireturn, 1) := by decide +kernel
theorem dX2_acts_127 : decode cX2_acts 127 = .ok (.aload_n 0, 1) := by decide +kernel
theorem dX2_acts_128 : decode cX2_acts 128 = .ok (.iload_n 1, 1) := by decide +kernel
theorem dX2_acts_129 : decode cX2_acts 129 = .ok (.invokevirtual 86, 3) := by decide +kernel
theorem dX2_acts_132 : decode cX2_acts 132 = .ok (.ireturn, 1) := by decide +kernel
set_option maxRecDepth 20000 in
theorem ggX2_shareFrom_X2_partsOf : GoodIn wsX2_shareFrom wsX2_partsOf := goodIn_r _ [8, 2, 3, 9, 10, 11, 32, 33, 34, 35, 36, 37] (by decide +kernel) (by decide +kernel)
set_option maxRecDepth 20000 in
theorem gX2_shareFrom_X2_partsOf : GoodIn wsX2_shareFrom (wsV RX2 89 RX2 yX2_partsOf wsX2_partsOf) := goodIn_app (goodIn_of _ (by decide +kernel)) ggX2_shareFrom_X2_partsOf
set_option maxRecDepth 20000 in
theorem ggX2_shareFrom_X2_heads : GoodIn wsX2_shareFrom wsX2_heads := goodIn_r _ [15, 1, 16, 17, 18, 19, 20, 21, 22, 32, 33, 34, 35, 36, 37] (by decide +kernel) (by decide +kernel)
set_option maxRecDepth 20000 in
theorem gX2_shareFrom_X2_heads : GoodIn wsX2_shareFrom (wsV RX2 79 RX2 yX2_heads wsX2_heads) := goodIn_app (goodIn_of _ (by decide +kernel)) ggX2_shareFrom_X2_heads
set_option maxRecDepth 20000 in
theorem ggX2_shareFrom_X2_isIn : GoodIn wsX2_shareFrom wsX2_isIn := goodIn_r _ [26, 1, 9, 10, 11, 32, 33, 34, 35, 36, 37] (by decide +kernel) (by decide +kernel)
set_option maxRecDepth 20000 in
theorem gX2_shareFrom_X2_isIn : GoodIn wsX2_shareFrom (wsV RX2 66 RX2 yX2_isIn wsX2_isIn) := goodIn_app (goodIn_of _ (by decide +kernel)) ggX2_shareFrom_X2_isIn
set_option maxRecDepth 20000 in
theorem ggX2_shareFrom_X2_handOut : GoodIn wsX2_shareFrom wsX2_handOut := goodIn_r _ [30, 31, 2, 3, 12, 13, 14, 7, 15, 1, 16, 17, 18, 19, 20, 21, 22, 23, 24, 25, 26, 9, 10, 11, 32, 33, 34, 35, 36, 37] (by decide +kernel) (by decide +kernel)
set_option maxRecDepth 20000 in
theorem gX2_shareFrom_X2_handOut : GoodIn wsX2_shareFrom (wsV RX2 92 RX2 yX2_handOut wsX2_handOut) := goodIn_app (goodIn_of _ (by decide +kernel)) ggX2_shareFrom_X2_handOut
theorem dX2_shareFrom_0 : decode cX2_shareFrom 0 = .ok (.aload_n 0, 1) := by decide +kernel
theorem dX2_shareFrom_1 : decode cX2_shareFrom 1 = .ok (.aload_n 0, 1) := by decide +kernel
theorem dX2_shareFrom_2 : decode cX2_shareFrom 2 = .ok (.getfield 41, 3) := by decide +kernel
theorem dX2_shareFrom_5 : decode cX2_shareFrom 5 = .ok (.invokevirtual 89, 3) := by decide +kernel
theorem dX2_shareFrom_8 : decode cX2_shareFrom 8 = .ok (.istore_n 2, 1) := by decide +kernel
theorem dX2_shareFrom_9 : decode cX2_shareFrom 9 = .ok (.aload_n 0, 1) := by decide +kernel
theorem dX2_shareFrom_10 : decode cX2_shareFrom 10 = .ok (.invokevirtual 79, 3) := by decide +kernel
theorem dX2_shareFrom_13 : decode cX2_shareFrom 13 = .ok (.istore_n 3, 1) := by decide +kernel
theorem dX2_shareFrom_14 : decode cX2_shareFrom 14 = .ok (.iconst 0, 1) := by decide +kernel
theorem dX2_shareFrom_15 : decode cX2_shareFrom 15 = .ok (.istore 4, 2) := by decide +kernel
theorem dX2_shareFrom_17 : decode cX2_shareFrom 17 = .ok (.iload 4, 2) := by decide +kernel
theorem dX2_shareFrom_19 : decode cX2_shareFrom 19 = .ok (.aload_n 0, 1) := by decide +kernel
theorem dX2_shareFrom_20 : decode cX2_shareFrom 20 = .ok (.getfield 30, 3) := by decide +kernel
theorem dX2_shareFrom_23 : decode cX2_shareFrom 23 = .ok (.if_icmp .ge 36, 3) := by decide +kernel
theorem dX2_shareFrom_26 : decode cX2_shareFrom 26 = .ok (.aload_n 0, 1) := by decide +kernel
theorem dX2_shareFrom_27 : decode cX2_shareFrom 27 = .ok (.getfield 15, 3) := by decide +kernel
theorem dX2_shareFrom_30 : decode cX2_shareFrom 30 = .ok (.iload 4, 2) := by decide +kernel
theorem dX2_shareFrom_32 : decode cX2_shareFrom 32 = .ok (.aload_n 0, 1) := by decide +kernel
theorem dX2_shareFrom_33 : decode cX2_shareFrom 33 = .ok (.iload 4, 2) := by decide +kernel
theorem dX2_shareFrom_35 : decode cX2_shareFrom 35 = .ok (.invokevirtual 66, 3) := by decide +kernel
theorem dX2_shareFrom_38 : decode cX2_shareFrom 38 = .ok (.ifCond .eq 7, 3) := by decide +kernel
theorem dX2_shareFrom_41 : decode cX2_shareFrom 41 = .ok (.iconst 0, 1) := by decide +kernel
theorem dX2_shareFrom_42 : decode cX2_shareFrom 42 = .ok (.goto 10, 3) := by decide +kernel
theorem dX2_shareFrom_45 : decode cX2_shareFrom 45 = .ok (.aload_n 0, 1) := by decide +kernel
theorem dX2_shareFrom_46 : decode cX2_shareFrom 46 = .ok (.getfield 15, 3) := by decide +kernel
theorem dX2_shareFrom_49 : decode cX2_shareFrom 49 = .ok (.iload 4, 2) := by decide +kernel
theorem dX2_shareFrom_51 : decode cX2_shareFrom 51 = .ok (.iaload, 1) := by decide +kernel
theorem dX2_shareFrom_52 : decode cX2_shareFrom 52 = .ok (.iastore, 1) := by decide +kernel
theorem dX2_shareFrom_53 : decode cX2_shareFrom 53 = .ok (.iinc 4 1, 3) := by decide +kernel
theorem dX2_shareFrom_56 : decode cX2_shareFrom 56 = .ok (.goto (-39), 3) := by decide +kernel
theorem dX2_shareFrom_59 : decode cX2_shareFrom 59 = .ok (.aload_n 0, 1) := by decide +kernel
theorem dX2_shareFrom_60 : decode cX2_shareFrom 60 = .ok (.iload_n 2, 1) := by decide +kernel
theorem dX2_shareFrom_61 : decode cX2_shareFrom 61 = .ok (.iload_n 1, 1) := by decide +kernel
theorem dX2_shareFrom_62 : decode cX2_shareFrom 62 = .ok (.invokevirtual 92, 3) := by decide +kernel
theorem dX2_shareFrom_65 : decode cX2_shareFrom 65 = .ok (.iload_n 3, 1) := by decide +kernel
theorem dX2_shareFrom_66 : decode cX2_shareFrom 66 = .ok (.ifCond .le 9, 3) := by decide +kernel
theorem dX2_shareFrom_69 : decode cX2_shareFrom 69 = .ok (.iload_n 2, 1) := by decide +kernel
theorem dX2_shareFrom_70 : decode cX2_shareFrom 70 = .ok (.iload_n 3, 1) := by decide +kernel
theorem dX2_shareFrom_71 : decode cX2_shareFrom 71 = .ok (.idiv, 1) := by decide +kernel
theorem dX2_shareFrom_72 : decode cX2_shareFrom 72 = .ok (.goto 4, 3) := by decide +kernel
theorem dX2_shareFrom_75 : decode cX2_shareFrom 75 = .ok (.iconst 0, 1) := by decide +kernel
theorem dX2_shareFrom_76 : decode cX2_shareFrom 76 = .ok (.ireturn, 1) := by decide +kernel
set_option maxRecDepth 20000 in
theorem ggX2_goOut_X2_handOut : GoodIn wsX2_goOut wsX2_handOut := goodIn_r _ [7, 8, 9, 1, 10, 11, 12, 6, 13, 2, 14, 15, 16, 17, 18, 19, 20, 21, 22, 23, 24, 25, 26, 27, 28, 29, 30, 31, 32, 33] (by decide +kernel) (by decide +kernel)
set_option maxRecDepth 20000 in
theorem gX2_goOut_X2_handOut : GoodIn wsX2_goOut (wsV RX2 92 RX2 yX2_handOut wsX2_handOut) := goodIn_app (goodIn_of _ (by decide +kernel)) ggX2_goOut_X2_handOut
theorem dX2_goOut_0 : decode cX2_goOut 0 = .ok (.aload_n 0, 1) := by decide +kernel
theorem dX2_goOut_1 : decode cX2_goOut 1 = .ok (.getfield 15, 3) := by decide +kernel
theorem dX2_goOut_4 : decode cX2_goOut 4 = .ok (.iload_n 1, 1) := by decide +kernel
theorem dX2_goOut_5 : decode cX2_goOut 5 = .ok (.iaload, 1) := by decide +kernel
theorem dX2_goOut_6 : decode cX2_goOut 6 = .ok (.istore_n 2, 1) := by decide +kernel
theorem dX2_goOut_7 : decode cX2_goOut 7 = .ok (.aload_n 0, 1) := by decide +kernel
theorem dX2_goOut_8 : decode cX2_goOut 8 = .ok (.getfield 15, 3) := by decide +kernel
theorem dX2_goOut_11 : decode cX2_goOut 11 = .ok (.iload_n 1, 1) := by decide +kernel
theorem dX2_goOut_12 : decode cX2_goOut 12 = .ok (.iconst 0, 1) := by decide +kernel
theorem dX2_goOut_13 : decode cX2_goOut 13 = .ok (.iastore, 1) := by decide +kernel
theorem dX2_goOut_14 : decode cX2_goOut 14 = .ok (.aload_n 0, 1) := by decide +kernel
theorem dX2_goOut_15 : decode cX2_goOut 15 = .ok (.dup, 1) := by decide +kernel
theorem dX2_goOut_16 : decode cX2_goOut 16 = .ok (.getfield 41, 3) := by decide +kernel
theorem dX2_goOut_19 : decode cX2_goOut 19 = .ok (.iconst 1, 1) := by decide +kernel
theorem dX2_goOut_20 : decode cX2_goOut 20 = .ok (.iload_n 1, 1) := by decide +kernel
theorem dX2_goOut_21 : decode cX2_goOut 21 = .ok (.ishl, 1) := by decide +kernel
theorem dX2_goOut_22 : decode cX2_goOut 22 = .ok (.iconst (-1), 1) := by decide +kernel
theorem dX2_goOut_23 : decode cX2_goOut 23 = .ok (.ixor, 1) := by decide +kernel
theorem dX2_goOut_24 : decode cX2_goOut 24 = .ok (.iand, 1) := by decide +kernel
theorem dX2_goOut_25 : decode cX2_goOut 25 = .ok (.putfield 41, 3) := by decide +kernel
theorem dX2_goOut_28 : decode cX2_goOut 28 = .ok (.aload_n 0, 1) := by decide +kernel
theorem dX2_goOut_29 : decode cX2_goOut 29 = .ok (.iload_n 2, 1) := by decide +kernel
theorem dX2_goOut_30 : decode cX2_goOut 30 = .ok (.iconst 0, 1) := by decide +kernel
theorem dX2_goOut_31 : decode cX2_goOut 31 = .ok (.invokevirtual 92, 3) := by decide +kernel
theorem dX2_goOut_34 : decode cX2_goOut 34 = .ok (.iload_n 2, 1) := by decide +kernel
theorem dX2_goOut_35 : decode cX2_goOut 35 = .ok (.ireturn, 1) := by decide +kernel
set_option maxRecDepth 20000 in
theorem ggX2_handOut_X2_heads : GoodIn wsX2_handOut wsX2_heads := goodIn_r _ [8, 9, 10, 11, 12, 13, 14, 15, 16, 24, 25, 26, 27, 28, 29] (by decide +kernel) (by decide +kernel)
set_option maxRecDepth 20000 in
theorem gX2_handOut_X2_heads : GoodIn wsX2_handOut (wsV RX2 79 RX2 yX2_heads wsX2_heads) := goodIn_app (goodIn_of _ (by decide +kernel)) ggX2_handOut_X2_heads
set_option maxRecDepth 20000 in
theorem ggX2_handOut_X2_isIn : GoodIn wsX2_handOut wsX2_isIn := goodIn_r _ [20, 9, 21, 22, 23, 24, 25, 26, 27, 28, 29] (by decide +kernel) (by decide +kernel)
set_option maxRecDepth 20000 in
theorem gX2_handOut_X2_isIn : GoodIn wsX2_handOut (wsV RX2 66 RX2 yX2_isIn wsX2_isIn) := goodIn_app (goodIn_of _ (by decide +kernel)) ggX2_handOut_X2_isIn
theorem dX2_handOut_0 : decode cX2_handOut 0 = .ok (.aload_n 0, 1) := by decide +kernel
theorem dX2_handOut_1 : decode cX2_handOut 1 = .ok (.invokevirtual 79, 3) := by decide +kernel
theorem dX2_handOut_4 : decode cX2_handOut 4 = .ok (.istore_n 3, 1) := by decide +kernel
theorem dX2_handOut_5 : decode cX2_handOut 5 = .ok (.iload_n 3, 1) := by decide +kernel
theorem dX2_handOut_6 : decode cX2_handOut 6 = .ok (.ifCond .ne 14, 3) := by decide +kernel
theorem dX2_handOut_9 : decode cX2_handOut 9 = .ok (.aload_n 0, 1) := by decide +kernel
theorem dX2_handOut_10 : decode cX2_handOut 10 = .ok (.dup, 1) := by decide +kernel
theorem dX2_handOut_11 : decode cX2_handOut 11 = .ok (.getfield 38, 3) := by decide +kernel
theorem dX2_handOut_14 : decode cX2_handOut 14 = .ok (.iload_n 1, 1) := by decide +kernel
theorem dX2_handOut_15 : decode cX2_handOut 15 = .ok (.iadd, 1) := by decide +kernel
theorem dX2_handOut_16 : decode cX2_handOut 16 = .ok (.putfield 38, 3) := by decide +kernel
theorem dX2_handOut_19 : decode cX2_handOut 19 = .ok (.return_, 1) := by decide +kernel
theorem dX2_handOut_20 : decode cX2_handOut 20 = .ok (.iload_n 1, 1) := by decide +kernel
theorem dX2_handOut_21 : decode cX2_handOut 21 = .ok (.iload_n 3, 1) := by decide +kernel
theorem dX2_handOut_22 : decode cX2_handOut 22 = .ok (.irem, 1) := by decide +kernel
theorem dX2_handOut_23 : decode cX2_handOut 23 = .ok (.istore 4, 2) := by decide +kernel
theorem dX2_handOut_25 : decode cX2_handOut 25 = .ok (.iconst 0, 1) := by decide +kernel
theorem dX2_handOut_26 : decode cX2_handOut 26 = .ok (.istore 5, 2) := by decide +kernel
theorem dX2_handOut_28 : decode cX2_handOut 28 = .ok (.iload 5, 2) := by decide +kernel
theorem dX2_handOut_30 : decode cX2_handOut 30 = .ok (.aload_n 0, 1) := by decide +kernel
theorem dX2_handOut_31 : decode cX2_handOut 31 = .ok (.getfield 30, 3) := by decide +kernel
theorem dX2_handOut_34 : decode cX2_handOut 34 = .ok (.if_icmp .ge 56, 3) := by decide +kernel
theorem dX2_handOut_37 : decode cX2_handOut 37 = .ok (.iload_n 2, 1) := by decide +kernel
theorem dX2_handOut_38 : decode cX2_handOut 38 = .ok (.iload 5, 2) := by decide +kernel
theorem dX2_handOut_40 : decode cX2_handOut 40 = .ok (.iadd, 1) := by decide +kernel
theorem dX2_handOut_41 : decode cX2_handOut 41 = .ok (.aload_n 0, 1) := by decide +kernel
theorem dX2_handOut_42 : decode cX2_handOut 42 = .ok (.getfield 30, 3) := by decide +kernel
theorem dX2_handOut_45 : decode cX2_handOut 45 = .ok (.irem, 1) := by decide +kernel
theorem dX2_handOut_46 : decode cX2_handOut 46 = .ok (.istore 6, 2) := by decide +kernel
theorem dX2_handOut_48 : decode cX2_handOut 48 = .ok (.aload_n 0, 1) := by decide +kernel
theorem dX2_handOut_49 : decode cX2_handOut 49 = .ok (.iload 6, 2) := by decide +kernel
theorem dX2_handOut_51 : decode cX2_handOut 51 = .ok (.invokevirtual 66, 3) := by decide +kernel
theorem dX2_handOut_54 : decode cX2_handOut 54 = .ok (.ifCond .eq 30, 3) := by decide +kernel
theorem dX2_handOut_57 : decode cX2_handOut 57 = .ok (.aload_n 0, 1) := by decide +kernel
theorem dX2_handOut_58 : decode cX2_handOut 58 = .ok (.getfield 15, 3) := by decide +kernel
theorem dX2_handOut_61 : decode cX2_handOut 61 = .ok (.iload 6, 2) := by decide +kernel
theorem dX2_handOut_63 : decode cX2_handOut 63 = .ok (.dup2, 1) := by decide +kernel
theorem dX2_handOut_64 : decode cX2_handOut 64 = .ok (.iaload, 1) := by decide +kernel
theorem dX2_handOut_65 : decode cX2_handOut 65 = .ok (.iload_n 1, 1) := by decide +kernel
theorem dX2_handOut_66 : decode cX2_handOut 66 = .ok (.iload_n 3, 1) := by decide +kernel
theorem dX2_handOut_67 : decode cX2_handOut 67 = .ok (.idiv, 1) := by decide +kernel
theorem dX2_handOut_68 : decode cX2_handOut 68 = .ok (.iload 4, 2) := by decide +kernel
theorem dX2_handOut_70 : decode cX2_handOut 70 = .ok (.ifCond .le 7, 3) := by decide +kernel
theorem dX2_handOut_73 : decode cX2_handOut 73 = .ok (.iconst 1, 1) := by decide +kernel
theorem dX2_handOut_74 : decode cX2_handOut 74 = .ok (.goto 4, 3) := by decide +kernel
theorem dX2_handOut_77 : decode cX2_handOut 77 = .ok (.iconst 0, 1) := by decide +kernel
theorem dX2_handOut_78 : decode cX2_handOut 78 = .ok (.iadd, 1) := by decide +kernel
theorem dX2_handOut_79 : decode cX2_handOut 79 = .ok (.iadd, 1) := by decide +kernel
theorem dX2_handOut_80 : decode cX2_handOut 80 = .ok (.iastore, 1) := by decide +kernel
theorem dX2_handOut_81 : decode cX2_handOut 81 = .ok (.iinc 4 (-1), 3) := by decide +kernel
theorem dX2_handOut_84 : decode cX2_handOut 84 = .ok (.iinc 5 1, 3) := by decide +kernel
theorem dX2_handOut_87 : decode cX2_handOut 87 = .ok (.goto (-59), 3) := by decide +kernel
theorem dX2_handOut_90 : decode cX2_handOut 90 = .ok (.return_, 1) := by decide +kernel
set_option maxRecDepth 20000 in
theorem ggX2_giveTo_X2_isIn : GoodIn wsX2_giveTo wsX2_isIn := goodIn_r _ [7, 8, 9, 10, 11, 12, 13, 14, 15, 16, 17] (by decide +kernel) (by decide +kernel)
set_option maxRecDepth 20000 in
theorem gX2_giveTo_X2_isIn : GoodIn wsX2_giveTo (wsV RX2 66 RX2 yX2_isIn wsX2_isIn) := goodIn_app (goodIn_of _ (by decide +kernel)) ggX2_giveTo_X2_isIn
theorem dX2_giveTo_0 : decode cX2_giveTo 0 = .ok (.iconst 0, 1) := by decide +kernel
theorem dX2_giveTo_1 : decode cX2_giveTo 1 = .ok (.istore_n 2, 1) := by decide +kernel
theorem dX2_giveTo_2 : decode cX2_giveTo 2 = .ok (.iconst 0, 1) := by decide +kernel
theorem dX2_giveTo_3 : decode cX2_giveTo 3 = .ok (.istore_n 3, 1) := by decide +kernel
theorem dX2_giveTo_4 : decode cX2_giveTo 4 = .ok (.iload_n 3, 1) := by decide +kernel
theorem dX2_giveTo_5 : decode cX2_giveTo 5 = .ok (.aload_n 0, 1) := by decide +kernel
theorem dX2_giveTo_6 : decode cX2_giveTo 6 = .ok (.getfield 30, 3) := by decide +kernel
theorem dX2_giveTo_9 : decode cX2_giveTo 9 = .ok (.if_icmp .ge 44, 3) := by decide +kernel
theorem dX2_giveTo_12 : decode cX2_giveTo 12 = .ok (.iload_n 3, 1) := by decide +kernel
theorem dX2_giveTo_13 : decode cX2_giveTo 13 = .ok (.iload_n 1, 1) := by decide +kernel
theorem dX2_giveTo_14 : decode cX2_giveTo 14 = .ok (.if_icmp .eq 33, 3) := by decide +kernel
theorem dX2_giveTo_17 : decode cX2_giveTo 17 = .ok (.aload_n 0, 1) := by decide +kernel
theorem dX2_giveTo_18 : decode cX2_giveTo 18 = .ok (.iload_n 3, 1) := by decide +kernel
theorem dX2_giveTo_19 : decode cX2_giveTo 19 = .ok (.invokevirtual 66, 3) := by decide +kernel
theorem dX2_giveTo_22 : decode cX2_giveTo 22 = .ok (.ifCond .eq 25, 3) := by decide +kernel
theorem dX2_giveTo_25 : decode cX2_giveTo 25 = .ok (.aload_n 0, 1) := by decide +kernel
theorem dX2_giveTo_26 : decode cX2_giveTo 26 = .ok (.getfield 15, 3) := by decide +kernel
theorem dX2_giveTo_29 : decode cX2_giveTo 29 = .ok (.iload_n 3, 1) := by decide +kernel
theorem dX2_giveTo_30 : decode cX2_giveTo 30 = .ok (.iaload, 1) := by decide +kernel
theorem dX2_giveTo_31 : decode cX2_giveTo 31 = .ok (.ifCond .le 16, 3) := by decide +kernel
theorem dX2_giveTo_34 : decode cX2_giveTo 34 = .ok (.aload_n 0, 1) := by decide +kernel
theorem dX2_giveTo_35 : decode cX2_giveTo 35 = .ok (.getfield 15, 3) := by decide +kernel
theorem dX2_giveTo_38 : decode cX2_giveTo 38 = .ok (.iload_n 3, 1) := by decide +kernel
theorem dX2_giveTo_39 : decode cX2_giveTo 39 = .ok (.dup2, 1) := by decide +kernel
theorem dX2_giveTo_40 : decode cX2_giveTo 40 = .ok (.iaload, 1) := by decide +kernel
theorem dX2_giveTo_41 : decode cX2_giveTo 41 = .ok (.iconst 1, 1) := by decide +kernel
theorem dX2_giveTo_42 : decode cX2_giveTo 42 = .ok (.isub, 1) := by decide +kernel
theorem dX2_giveTo_43 : decode cX2_giveTo 43 = .ok (.iastore, 1) := by decide +kernel
theorem dX2_giveTo_44 : decode cX2_giveTo 44 = .ok (.iinc 2 1, 3) := by decide +kernel
theorem dX2_giveTo_47 : decode cX2_giveTo 47 = .ok (.iinc 3 1, 3) := by decide +kernel
theorem dX2_giveTo_50 : decode cX2_giveTo 50 = .ok (.goto (-46), 3) := by decide +kernel
theorem dX2_giveTo_53 : decode cX2_giveTo 53 = .ok (.aload_n 0, 1) := by decide +kernel
theorem dX2_giveTo_54 : decode cX2_giveTo 54 = .ok (.getfield 15, 3) := by decide +kernel
theorem dX2_giveTo_57 : decode cX2_giveTo 57 = .ok (.iload_n 1, 1) := by decide +kernel
theorem dX2_giveTo_58 : decode cX2_giveTo 58 = .ok (.dup2, 1) := by decide +kernel
theorem dX2_giveTo_59 : decode cX2_giveTo 59 = .ok (.iaload, 1) := by decide +kernel
theorem dX2_giveTo_60 : decode cX2_giveTo 60 = .ok (.iload_n 2, 1) := by decide +kernel
theorem dX2_giveTo_61 : decode cX2_giveTo 61 = .ok (.iadd, 1) := by decide +kernel
theorem dX2_giveTo_62 : decode cX2_giveTo 62 = .ok (.iastore, 1) := by decide +kernel
theorem dX2_giveTo_63 : decode cX2_giveTo 63 = .ok (.iload_n 2, 1) := by decide +kernel
theorem dX2_giveTo_64 : decode cX2_giveTo 64 = .ok (.ireturn, 1) := by decide +kernel
theorem dX2_emptyTinFor_0 : decode cX2_emptyTinFor 0 = .ok (.aload_n 0, 1) := by decide +kernel
theorem dX2_emptyTinFor_1 : decode cX2_emptyTinFor 1 = .ok (.getfield 38, 3) := by decide +kernel
theorem dX2_emptyTinFor_4 : decode cX2_emptyTinFor 4 = .ok (.istore_n 2, 1) := by decide +kernel
theorem dX2_emptyTinFor_5 : decode cX2_emptyTinFor 5 = .ok (.aload_n 0, 1) := by decide +kernel
theorem dX2_emptyTinFor_6 : decode cX2_emptyTinFor 6 = .ok (.getfield 15, 3) := by decide +kernel
theorem dX2_emptyTinFor_9 : decode cX2_emptyTinFor 9 = .ok (.iload_n 1, 1) := by decide +kernel
theorem dX2_emptyTinFor_10 : decode cX2_emptyTinFor 10 = .ok (.dup2, 1) := by decide +kernel
theorem dX2_emptyTinFor_11 : decode cX2_emptyTinFor 11 = .ok (.iaload, 1) := by decide +kernel
theorem dX2_emptyTinFor_12 : decode cX2_emptyTinFor 12 = .ok (.iload_n 2, 1) := by decide +kernel
theorem dX2_emptyTinFor_13 : decode cX2_emptyTinFor 13 = .ok (.iadd, 1) := by decide +kernel
theorem dX2_emptyTinFor_14 : decode cX2_emptyTinFor 14 = .ok (.iastore, 1) := by decide +kernel
theorem dX2_emptyTinFor_15 : decode cX2_emptyTinFor 15 = .ok (.aload_n 0, 1) := by decide +kernel
theorem dX2_emptyTinFor_16 : decode cX2_emptyTinFor 16 = .ok (.iconst 0, 1) := by decide +kernel
theorem dX2_emptyTinFor_17 : decode cX2_emptyTinFor 17 = .ok (.putfield 38, 3) := by decide +kernel
theorem dX2_emptyTinFor_20 : decode cX2_emptyTinFor 20 = .ok (.iload_n 2, 1) := by decide +kernel
theorem dX2_emptyTinFor_21 : decode cX2_emptyTinFor 21 = .ok (.ireturn, 1) := by decide +kernel
set_option maxRecDepth 20000 in
theorem ggX2_partsBehindGatherings_X2_isIn : GoodIn wsX2_partsBehindGatherings wsX2_isIn := goodIn_r _ [11, 12, 13, 14, 15, 16, 17, 18, 19, 20, 21] (by decide +kernel) (by decide +kernel)
set_option maxRecDepth 20000 in
theorem gX2_partsBehindGatherings_X2_isIn : GoodIn wsX2_partsBehindGatherings (wsV RX2 66 RX2 yX2_isIn wsX2_isIn) := goodIn_app (goodIn_of _ (by decide +kernel)) ggX2_partsBehindGatherings_X2_isIn
theorem dX2_partsBehindGatherings_0 : decode cX2_partsBehindGatherings 0 = .ok (.aload_n 0, 1) := by decide +kernel
theorem dX2_partsBehindGatherings_1 : decode cX2_partsBehindGatherings 1 = .ok (.getfield 15, 3) := by decide +kernel
theorem dX2_partsBehindGatherings_4 : decode cX2_partsBehindGatherings 4 = .ok (.iload_n 1, 1) := by decide +kernel
theorem dX2_partsBehindGatherings_5 : decode cX2_partsBehindGatherings 5 = .ok (.iaload, 1) := by decide +kernel
theorem dX2_partsBehindGatherings_6 : decode cX2_partsBehindGatherings 6 = .ok (.istore_n 3, 1) := by decide +kernel
theorem dX2_partsBehindGatherings_7 : decode cX2_partsBehindGatherings 7 = .ok (.iconst 0, 1) := by decide +kernel
theorem dX2_partsBehindGatherings_8 : decode cX2_partsBehindGatherings 8 = .ok (.istore 4, 2) := by decide +kernel
theorem dX2_partsBehindGatherings_10 : decode cX2_partsBehindGatherings 10 = .ok (.iload 4, 2) := by decide +kernel
theorem dX2_partsBehindGatherings_12 : decode cX2_partsBehindGatherings 12 = .ok (.aload_n 0, 1) := by decide +kernel
theorem dX2_partsBehindGatherings_13 : decode cX2_partsBehindGatherings 13 = .ok (.getfield 30, 3) := by decide +kernel
theorem dX2_partsBehindGatherings_16 : decode cX2_partsBehindGatherings 16 = .ok (.if_icmp .ge 42, 3) := by decide +kernel
theorem dX2_partsBehindGatherings_19 : decode cX2_partsBehindGatherings 19 = .ok (.iload_n 3, 1) := by decide +kernel
theorem dX2_partsBehindGatherings_20 : decode cX2_partsBehindGatherings 20 = .ok (.iload 4, 2) := by decide +kernel
theorem dX2_partsBehindGatherings_22 : decode cX2_partsBehindGatherings 22 = .ok (.iload_n 1, 1) := by decide +kernel
theorem dX2_partsBehindGatherings_23 : decode cX2_partsBehindGatherings 23 = .ok (.if_icmp .eq 26, 3) := by decide +kernel
theorem dX2_partsBehindGatherings_26 : decode cX2_partsBehindGatherings 26 = .ok (.aload_n 0, 1) := by decide +kernel
theorem dX2_partsBehindGatherings_27 : decode cX2_partsBehindGatherings 27 = .ok (.iload 4, 2) := by decide +kernel
theorem dX2_partsBehindGatherings_29 : decode cX2_partsBehindGatherings 29 = .ok (.invokevirtual 66, 3) := by decide +kernel
theorem dX2_partsBehindGatherings_32 : decode cX2_partsBehindGatherings 32 = .ok (.ifCond .eq 17, 3) := by decide +kernel
theorem dX2_partsBehindGatherings_35 : decode cX2_partsBehindGatherings 35 = .ok (.aload_n 0, 1) := by decide +kernel
theorem dX2_partsBehindGatherings_36 : decode cX2_partsBehindGatherings 36 = .ok (.getfield 15, 3) := by decide +kernel
theorem dX2_partsBehindGatherings_39 : decode cX2_partsBehindGatherings 39 = .ok (.iload 4, 2) := by decide +kernel
theorem dX2_partsBehindGatherings_41 : decode cX2_partsBehindGatherings 41 = .ok (.iaload, 1) := by decide +kernel
theorem dX2_partsBehindGatherings_42 : decode cX2_partsBehindGatherings 42 = .ok (.iload_n 2, 1) := by decide +kernel
theorem dX2_partsBehindGatherings_43 : decode cX2_partsBehindGatherings 43 = .ok (.invokestatic 21, 3) := by decide +kernel
theorem dX2_partsBehindGatherings_46 : decode cX2_partsBehindGatherings 46 = .ok (.goto 4, 3) := by decide +kernel
theorem dX2_partsBehindGatherings_49 : decode cX2_partsBehindGatherings 49 = .ok (.iconst 0, 1) := by decide +kernel
theorem dX2_partsBehindGatherings_50 : decode cX2_partsBehindGatherings 50 = .ok (.iadd, 1) := by decide +kernel
theorem dX2_partsBehindGatherings_51 : decode cX2_partsBehindGatherings 51 = .ok (.istore_n 3, 1) := by decide +kernel
theorem dX2_partsBehindGatherings_52 : decode cX2_partsBehindGatherings 52 = .ok (.iinc 4 1, 3) := by decide +kernel
theorem dX2_partsBehindGatherings_55 : decode cX2_partsBehindGatherings 55 = .ok (.goto (-45), 3) := by decide +kernel
theorem dX2_partsBehindGatherings_58 : decode cX2_partsBehindGatherings 58 = .ok (.iload_n 3, 1) := by decide +kernel
theorem dX2_partsBehindGatherings_59 : decode cX2_partsBehindGatherings 59 = .ok (.ireturn, 1) := by decide +kernel
set_option maxRecDepth 20000 in
theorem ggX2_lackingUpTo_X2_isIn : GoodIn wsX2_lackingUpTo wsX2_isIn := goodIn_r _ [11, 12, 13, 14, 15, 16, 17, 18, 19, 20, 21] (by decide +kernel) (by decide +kernel)
set_option maxRecDepth 20000 in
theorem gX2_lackingUpTo_X2_isIn : GoodIn wsX2_lackingUpTo (wsV RX2 66 RX2 yX2_isIn wsX2_isIn) := goodIn_app (goodIn_of _ (by decide +kernel)) ggX2_lackingUpTo_X2_isIn
theorem dX2_lackingUpTo_0 : decode cX2_lackingUpTo 0 = .ok (.iconst 0, 1) := by decide +kernel
theorem dX2_lackingUpTo_1 : decode cX2_lackingUpTo 1 = .ok (.istore_n 2, 1) := by decide +kernel
theorem dX2_lackingUpTo_2 : decode cX2_lackingUpTo 2 = .ok (.iconst 0, 1) := by decide +kernel
theorem dX2_lackingUpTo_3 : decode cX2_lackingUpTo 3 = .ok (.istore_n 3, 1) := by decide +kernel
theorem dX2_lackingUpTo_4 : decode cX2_lackingUpTo 4 = .ok (.iload_n 3, 1) := by decide +kernel
theorem dX2_lackingUpTo_5 : decode cX2_lackingUpTo 5 = .ok (.aload_n 0, 1) := by decide +kernel
theorem dX2_lackingUpTo_6 : decode cX2_lackingUpTo 6 = .ok (.getfield 30, 3) := by decide +kernel
theorem dX2_lackingUpTo_9 : decode cX2_lackingUpTo 9 = .ok (.if_icmp .ge 36, 3) := by decide +kernel
theorem dX2_lackingUpTo_12 : decode cX2_lackingUpTo 12 = .ok (.iload_n 2, 1) := by decide +kernel
theorem dX2_lackingUpTo_13 : decode cX2_lackingUpTo 13 = .ok (.aload_n 0, 1) := by decide +kernel
theorem dX2_lackingUpTo_14 : decode cX2_lackingUpTo 14 = .ok (.iload_n 3, 1) := by decide +kernel
theorem dX2_lackingUpTo_15 : decode cX2_lackingUpTo 15 = .ok (.invokevirtual 66, 3) := by decide +kernel
theorem dX2_lackingUpTo_18 : decode cX2_lackingUpTo 18 = .ok (.ifCond .eq 18, 3) := by decide +kernel
theorem dX2_lackingUpTo_21 : decode cX2_lackingUpTo 21 = .ok (.iconst 0, 1) := by decide +kernel
theorem dX2_lackingUpTo_22 : decode cX2_lackingUpTo 22 = .ok (.iload_n 1, 1) := by decide +kernel
theorem dX2_lackingUpTo_23 : decode cX2_lackingUpTo 23 = .ok (.aload_n 0, 1) := by decide +kernel
theorem dX2_lackingUpTo_24 : decode cX2_lackingUpTo 24 = .ok (.getfield 15, 3) := by decide +kernel
theorem dX2_lackingUpTo_27 : decode cX2_lackingUpTo 27 = .ok (.iload_n 3, 1) := by decide +kernel
theorem dX2_lackingUpTo_28 : decode cX2_lackingUpTo 28 = .ok (.iaload, 1) := by decide +kernel
theorem dX2_lackingUpTo_29 : decode cX2_lackingUpTo 29 = .ok (.isub, 1) := by decide +kernel
theorem dX2_lackingUpTo_30 : decode cX2_lackingUpTo 30 = .ok (.invokestatic 27, 3) := by decide +kernel
theorem dX2_lackingUpTo_33 : decode cX2_lackingUpTo 33 = .ok (.goto 4, 3) := by decide +kernel
theorem dX2_lackingUpTo_36 : decode cX2_lackingUpTo 36 = .ok (.iconst 0, 1) := by decide +kernel
theorem dX2_lackingUpTo_37 : decode cX2_lackingUpTo 37 = .ok (.iadd, 1) := by decide +kernel
theorem dX2_lackingUpTo_38 : decode cX2_lackingUpTo 38 = .ok (.istore_n 2, 1) := by decide +kernel
theorem dX2_lackingUpTo_39 : decode cX2_lackingUpTo 39 = .ok (.iinc 3 1, 3) := by decide +kernel
theorem dX2_lackingUpTo_42 : decode cX2_lackingUpTo 42 = .ok (.goto (-38), 3) := by decide +kernel
theorem dX2_lackingUpTo_45 : decode cX2_lackingUpTo 45 = .ok (.iload_n 2, 1) := by decide +kernel
theorem dX2_lackingUpTo_46 : decode cX2_lackingUpTo 46 = .ok (.ireturn, 1) := by decide +kernel
set_option maxRecDepth 20000 in
theorem ggX2_partsBehindDay_J6_bitCount_0f7a4 : GoodIn wsX2_partsBehindDay wsJ6_bitCount_0f7a4 := goodIn_r _ [5, 6, 7, 8] (by decide +kernel) (by decide +kernel)
set_option maxRecDepth 20000 in
theorem gX2_partsBehindDay_J6_bitCount_0f7a4 : GoodIn wsX2_partsBehindDay (va_wsS RX2 57 yJ6_bitCount_0f7a4 wsJ6_bitCount_0f7a4) := goodIn_app (goodIn_of _ (by decide +kernel)) ggX2_partsBehindDay_J6_bitCount_0f7a4
set_option maxRecDepth 20000 in
theorem ggX2_partsBehindDay_X2_partsOf : GoodIn wsX2_partsBehindDay wsX2_partsOf := goodIn_r _ [13, 14, 1, 15, 16, 17, 18, 19, 20, 21, 22, 23] (by decide +kernel) (by decide +kernel)
set_option maxRecDepth 20000 in
theorem gX2_partsBehindDay_X2_partsOf : GoodIn wsX2_partsBehindDay (wsV RX2 89 RX2 yX2_partsOf wsX2_partsOf) := goodIn_app (goodIn_of _ (by decide +kernel)) ggX2_partsBehindDay_X2_partsOf
theorem dX2_partsBehindDay_0 : decode cX2_partsBehindDay 0 = .ok (.iload_n 1, 1) := by decide +kernel
theorem dX2_partsBehindDay_1 : decode cX2_partsBehindDay 1 = .ok (.invokestatic 57, 3) := by decide +kernel
theorem dX2_partsBehindDay_4 : decode cX2_partsBehindDay 4 = .ok (.istore_n 3, 1) := by decide +kernel
theorem dX2_partsBehindDay_5 : decode cX2_partsBehindDay 5 = .ok (.iload_n 3, 1) := by decide +kernel
theorem dX2_partsBehindDay_6 : decode cX2_partsBehindDay 6 = .ok (.ifCond .ne 10, 3) := by decide +kernel
theorem dX2_partsBehindDay_9 : decode cX2_partsBehindDay 9 = .ok (.aload_n 0, 1) := by decide +kernel
theorem dX2_partsBehindDay_10 : decode cX2_partsBehindDay 10 = .ok (.getfield 15, 3) := by decide +kernel
theorem dX2_partsBehindDay_13 : decode cX2_partsBehindDay 13 = .ok (.iload_n 2, 1) := by decide +kernel
theorem dX2_partsBehindDay_14 : decode cX2_partsBehindDay 14 = .ok (.iaload, 1) := by decide +kernel
theorem dX2_partsBehindDay_15 : decode cX2_partsBehindDay 15 = .ok (.ireturn, 1) := by decide +kernel
theorem dX2_partsBehindDay_16 : decode cX2_partsBehindDay 16 = .ok (.aload_n 0, 1) := by decide +kernel
theorem dX2_partsBehindDay_17 : decode cX2_partsBehindDay 17 = .ok (.iload_n 1, 1) := by decide +kernel
theorem dX2_partsBehindDay_18 : decode cX2_partsBehindDay 18 = .ok (.invokevirtual 89, 3) := by decide +kernel
theorem dX2_partsBehindDay_21 : decode cX2_partsBehindDay 21 = .ok (.istore 4, 2) := by decide +kernel
theorem dX2_partsBehindDay_23 : decode cX2_partsBehindDay 23 = .ok (.iload_n 1, 1) := by decide +kernel
theorem dX2_partsBehindDay_24 : decode cX2_partsBehindDay 24 = .ok (.iconst 1, 1) := by decide +kernel
theorem dX2_partsBehindDay_25 : decode cX2_partsBehindDay 25 = .ok (.iload_n 2, 1) := by decide +kernel
theorem dX2_partsBehindDay_26 : decode cX2_partsBehindDay 26 = .ok (.ishl, 1) := by decide +kernel
theorem dX2_partsBehindDay_27 : decode cX2_partsBehindDay 27 = .ok (.iconst 1, 1) := by decide +kernel
theorem dX2_partsBehindDay_28 : decode cX2_partsBehindDay 28 = .ok (.isub, 1) := by decide +kernel
theorem dX2_partsBehindDay_29 : decode cX2_partsBehindDay 29 = .ok (.iand, 1) := by decide +kernel
theorem dX2_partsBehindDay_30 : decode cX2_partsBehindDay 30 = .ok (.invokestatic 57, 3) := by decide +kernel
theorem dX2_partsBehindDay_33 : decode cX2_partsBehindDay 33 = .ok (.istore 5, 2) := by decide +kernel
theorem dX2_partsBehindDay_35 : decode cX2_partsBehindDay 35 = .ok (.iload 4, 2) := by decide +kernel
theorem dX2_partsBehindDay_37 : decode cX2_partsBehindDay 37 = .ok (.iload_n 3, 1) := by decide +kernel
theorem dX2_partsBehindDay_38 : decode cX2_partsBehindDay 38 = .ok (.idiv, 1) := by decide +kernel
theorem dX2_partsBehindDay_39 : decode cX2_partsBehindDay 39 = .ok (.iload 5, 2) := by decide +kernel
theorem dX2_partsBehindDay_41 : decode cX2_partsBehindDay 41 = .ok (.iload 4, 2) := by decide +kernel
theorem dX2_partsBehindDay_43 : decode cX2_partsBehindDay 43 = .ok (.iload_n 3, 1) := by decide +kernel
theorem dX2_partsBehindDay_44 : decode cX2_partsBehindDay 44 = .ok (.irem, 1) := by decide +kernel
theorem dX2_partsBehindDay_45 : decode cX2_partsBehindDay 45 = .ok (.if_icmp .ge 7, 3) := by decide +kernel
theorem dX2_partsBehindDay_48 : decode cX2_partsBehindDay 48 = .ok (.iconst 1, 1) := by decide +kernel
theorem dX2_partsBehindDay_49 : decode cX2_partsBehindDay 49 = .ok (.goto 4, 3) := by decide +kernel
theorem dX2_partsBehindDay_52 : decode cX2_partsBehindDay 52 = .ok (.iconst 0, 1) := by decide +kernel
theorem dX2_partsBehindDay_53 : decode cX2_partsBehindDay 53 = .ok (.iadd, 1) := by decide +kernel
theorem dX2_partsBehindDay_54 : decode cX2_partsBehindDay 54 = .ok (.ireturn, 1) := by decide +kernel
set_option maxRecDepth 20000 in
theorem ggX3_init_X2_init : GoodIn wsX3_init wsX2_init := goodIn_r _ [18, 19, 2, 3, 20, 21, 22, 23, 41, 42, 43, 44, 45, 46] (by decide +kernel) (by decide +kernel)
set_option maxRecDepth 20000 in
theorem gX3_init_X2_init_n19 : GoodIn wsX3_init (wsX2_init) := ggX3_init_X2_init
set_option maxRecDepth 20000 in
theorem ggX3_init_X0_init : GoodIn wsX3_init wsX0_init := goodIn_r _ [25, 26, 2, 3, 20, 27, 28, 29, 47, 48, 49, 50] (by decide +kernel) (by decide +kernel)
set_option maxRecDepth 20000 in
theorem gX3_init_X0_init_n29 : GoodIn wsX3_init (wsX0_init) := ggX3_init_X0_init
set_option maxRecDepth 20000 in
theorem ggX3_init_X1_init : GoodIn wsX3_init wsX1_init := goodIn_r _ [31, 32, 2, 3, 20, 33, 51, 52, 53, 54] (by decide +kernel) (by decide +kernel)
set_option maxRecDepth 20000 in
theorem gX3_init_X1_init_n34 : GoodIn wsX3_init (wsX1_init) := ggX3_init_X1_init
theorem dX3_init_0 : decode cX3_init 0 = .ok (.aload_n 0, 1) := by decide +kernel
theorem dX3_init_1 : decode cX3_init 1 = .ok (.invokespecial 3, 3) := by decide +kernel
theorem dX3_init_4 : decode cX3_init 4 = .ok (.aload_n 0, 1) := by decide +kernel
theorem dX3_init_5 : decode cX3_init 5 = .ok (.iconst 4, 1) := by decide +kernel
theorem dX3_init_6 : decode cX3_init 6 = .ok (.anewarray 11, 3) := by decide +kernel
theorem dX3_init_9 : decode cX3_init 9 = .ok (.putfield 13, 3) := by decide +kernel
theorem dX3_init_12 : decode cX3_init 12 = .ok (.aload_n 0, 1) := by decide +kernel
theorem dX3_init_13 : decode cX3_init 13 = .ok (.new 17, 3) := by decide +kernel
theorem dX3_init_16 : decode cX3_init 16 = .ok (.dup, 1) := by decide +kernel
theorem dX3_init_17 : decode cX3_init 17 = .ok (.invokespecial 19, 3) := by decide +kernel
theorem dX3_init_20 : decode cX3_init 20 = .ok (.putfield 20, 3) := by decide +kernel
theorem dX3_init_23 : decode cX3_init 23 = .ok (.aload_n 0, 1) := by decide +kernel
theorem dX3_init_24 : decode cX3_init 24 = .ok (.new 17, 3) := by decide +kernel
theorem dX3_init_27 : decode cX3_init 27 = .ok (.dup, 1) := by decide +kernel
theorem dX3_init_28 : decode cX3_init 28 = .ok (.invokespecial 19, 3) := by decide +kernel
theorem dX3_init_31 : decode cX3_init 31 = .ok (.putfield 24, 3) := by decide +kernel
theorem dX3_init_34 : decode cX3_init 34 = .ok (.aload_n 0, 1) := by decide +kernel
theorem dX3_init_35 : decode cX3_init 35 = .ok (.new 27, 3) := by decide +kernel
theorem dX3_init_38 : decode cX3_init 38 = .ok (.dup, 1) := by decide +kernel
theorem dX3_init_39 : decode cX3_init 39 = .ok (.invokespecial 29, 3) := by decide +kernel
theorem dX3_init_42 : decode cX3_init 42 = .ok (.putfield 30, 3) := by decide +kernel
theorem dX3_init_45 : decode cX3_init 45 = .ok (.iconst 0, 1) := by decide +kernel
theorem dX3_init_46 : decode cX3_init 46 = .ok (.istore_n 1, 1) := by decide +kernel
theorem dX3_init_47 : decode cX3_init 47 = .ok (.iload_n 1, 1) := by decide +kernel
theorem dX3_init_48 : decode cX3_init 48 = .ok (.aload_n 0, 1) := by decide +kernel
theorem dX3_init_49 : decode cX3_init 49 = .ok (.getfield 13, 3) := by decide +kernel
theorem dX3_init_52 : decode cX3_init 52 = .ok (.arraylength, 1) := by decide +kernel
theorem dX3_init_53 : decode cX3_init 53 = .ok (.if_icmp .ge 22, 3) := by decide +kernel
theorem dX3_init_56 : decode cX3_init 56 = .ok (.aload_n 0, 1) := by decide +kernel
theorem dX3_init_57 : decode cX3_init 57 = .ok (.getfield 13, 3) := by decide +kernel
theorem dX3_init_60 : decode cX3_init 60 = .ok (.iload_n 1, 1) := by decide +kernel
theorem dX3_init_61 : decode cX3_init 61 = .ok (.new 11, 3) := by decide +kernel
theorem dX3_init_64 : decode cX3_init 64 = .ok (.dup, 1) := by decide +kernel
theorem dX3_init_65 : decode cX3_init 65 = .ok (.invokespecial 34, 3) := by decide +kernel
theorem dX3_init_68 : decode cX3_init 68 = .ok (.aastore, 1) := by decide +kernel
theorem dX3_init_69 : decode cX3_init 69 = .ok (.iinc 1 1, 3) := by decide +kernel
theorem dX3_init_72 : decode cX3_init 72 = .ok (.goto (-25), 3) := by decide +kernel
theorem dX3_init_75 : decode cX3_init 75 = .ok (.return_, 1) := by decide +kernel
set_option maxRecDepth 20000 in
theorem ggX3_town_X3_sheetAt : GoodIn wsX3_town wsX3_sheetAt := goodIn_r _ [11, 12, 74, 75, 76, 77, 78, 79, 80] (by decide +kernel) (by decide +kernel)
set_option maxRecDepth 20000 in
theorem gX3_town_X3_sheetAt : GoodIn wsX3_town (wsV RX3 39 RX3 yX3_sheetAt wsX3_sheetAt) := goodIn_app (goodIn_of _ (by decide +kernel)) ggX3_town_X3_sheetAt
set_option maxRecDepth 20000 in
theorem ggX3_town_X3_isLane : GoodIn wsX3_town wsX3_isLane := goodIn_r _ [15] (by decide +kernel) (by decide +kernel)
set_option maxRecDepth 20000 in
theorem gX3_town_X3_isLane : GoodIn wsX3_town (va_wsS RX3 43 yX3_isLane wsX3_isLane) := goodIn_app (goodIn_of _ (by decide +kernel)) ggX3_town_X3_isLane
set_option maxRecDepth 20000 in
theorem ggX3_town_X1_faultOf : GoodIn wsX3_town wsX1_faultOf := goodIn_r _ [20, 21, 22, 23, 24, 25, 19, 26, 27, 91, 92, 93, 94] (by decide +kernel) (by decide +kernel)
set_option maxRecDepth 20000 in
theorem gX3_town_X1_faultOf : GoodIn wsX3_town (wsV RX3 47 RX1 yX1_faultOf wsX1_faultOf) := goodIn_app (goodIn_of _ (by decide +kernel)) ggX3_town_X1_faultOf
set_option maxRecDepth 20000 in
theorem ggX3_town_X3_faulty : GoodIn wsX3_town wsX3_faulty := goodIn_r _ [31, 1, 74, 75, 76, 77, 78, 79, 80] (by decide +kernel) (by decide +kernel)
set_option maxRecDepth 20000 in
theorem gX3_town_X3_faulty : GoodIn wsX3_town (wsV RX3 51 RX3 yX3_faulty wsX3_faulty) := goodIn_app (goodIn_of _ (by decide +kernel)) ggX3_town_X3_faulty
set_option maxRecDepth 20000 in
theorem ggX3_town_X3_firstFaultOf : GoodIn wsX3_town wsX3_firstFaultOf := goodIn_r _ [34, 35, 36, 37, 19, 38, 39, 40, 41, 10, 42, 43, 44, 45, 46, 47, 48, 91, 92, 93, 94] (by decide +kernel) (by decide +kernel)
set_option maxRecDepth 20000 in
theorem gX3_town_X3_firstFaultOf : GoodIn wsX3_town (va_wsS RX3 55 yX3_firstFaultOf wsX3_firstFaultOf) := goodIn_app (goodIn_of _ (by decide +kernel)) ggX3_town_X3_firstFaultOf
set_option maxRecDepth 20000 in
theorem ggX3_town_X2_become : GoodIn wsX3_town wsX2_become := goodIn_r _ [53, 54, 55, 56, 57, 58, 59, 60, 61, 62, 63, 64, 65, 66, 67, 68, 52, 69, 70, 36, 37, 19, 38, 39, 71, 72, 73, 85, 86, 87, 88, 89, 90, 91, 92, 93, 94] (by decide +kernel) (by decide +kernel)
set_option maxRecDepth 20000 in
theorem gX3_town_X2_become : GoodIn wsX3_town (wsV RX3 59 RX2 yX2_become wsX2_become) := goodIn_app (goodIn_of _ (by decide +kernel)) ggX3_town_X2_become
theorem dX3_town_0 : decode cX3_town 0 = .ok (.aload_n 0, 1) := by decide +kernel
theorem dX3_town_1 : decode cX3_town 1 = .ok (.iconst 0, 1) := by decide +kernel
theorem dX3_town_2 : decode cX3_town 2 = .ok (.putfield 35, 3) := by decide +kernel
theorem dX3_town_5 : decode cX3_town 5 = .ok (.aload_n 0, 1) := by decide +kernel
theorem dX3_town_6 : decode cX3_town 6 = .ok (.iload_n 1, 1) := by decide +kernel
theorem dX3_town_7 : decode cX3_town 7 = .ok (.invokevirtual 39, 3) := by decide +kernel
theorem dX3_town_10 : decode cX3_town 10 = .ok (.astore 5, 2) := by decide +kernel
theorem dX3_town_12 : decode cX3_town 12 = .ok (.aload 5, 2) := by decide +kernel
theorem dX3_town_14 : decode cX3_town 14 = .ok (.ifnonnull 5, 3) := by decide +kernel
theorem dX3_town_17 : decode cX3_town 17 = .ok (.iconst (-1), 1) := by decide +kernel
theorem dX3_town_18 : decode cX3_town 18 = .ok (.ireturn, 1) := by decide +kernel
theorem dX3_town_19 : decode cX3_town 19 = .ok (.iload_n 2, 1) := by decide +kernel
theorem dX3_town_20 : decode cX3_town 20 = .ok (.invokestatic 43, 3) := by decide +kernel
theorem dX3_town_23 : decode cX3_town 23 = .ok (.ifCond .ne 6, 3) := by decide +kernel
theorem dX3_town_26 : decode cX3_town 26 = .ok (.bipush (-2), 2) := by decide +kernel
theorem dX3_town_28 : decode cX3_town 28 = .ok (.ireturn, 1) := by decide +kernel
theorem dX3_town_29 : decode cX3_town 29 = .ok (.aload 5, 2) := by decide +kernel
theorem dX3_town_31 : decode cX3_town 31 = .ok (.iload_n 2, 1) := by decide +kernel
theorem dX3_town_32 : decode cX3_town 32 = .ok (.iload_n 3, 1) := by decide +kernel
theorem dX3_town_33 : decode cX3_town 33 = .ok (.iload 4, 2) := by decide +kernel
theorem dX3_town_35 : decode cX3_town 35 = .ok (.invokevirtual 47, 3) := by decide +kernel
theorem dX3_town_38 : decode cX3_town 38 = .ok (.istore 6, 2) := by decide +kernel
theorem dX3_town_40 : decode cX3_town 40 = .ok (.iload 6, 2) := by decide +kernel
theorem dX3_town_42 : decode cX3_town 42 = .ok (.ifCond .eq 10, 3) := by decide +kernel
theorem dX3_town_45 : decode cX3_town 45 = .ok (.aload_n 0, 1) := by decide +kernel
theorem dX3_town_46 : decode cX3_town 46 = .ok (.iload 6, 2) := by decide +kernel
theorem dX3_town_48 : decode cX3_town 48 = .ok (.invokevirtual 51, 3) := by decide +kernel
theorem dX3_town_51 : decode cX3_town 51 = .ok (.ireturn, 1) := by decide +kernel
theorem dX3_town_52 : decode cX3_town 52 = .ok (.aload 5, 2) := by decide +kernel
theorem dX3_town_54 : decode cX3_town 54 = .ok (.iload_n 3, 1) := by decide +kernel
theorem dX3_town_55 : decode cX3_town 55 = .ok (.iload 4, 2) := by decide +kernel
theorem dX3_town_57 : decode cX3_town 57 = .ok (.invokestatic 55, 3) := by decide +kernel
theorem dX3_town_60 : decode cX3_town 60 = .ok (.istore 7, 2) := by decide +kernel
theorem dX3_town_62 : decode cX3_town 62 = .ok (.iload 7, 2) := by decide +kernel
theorem dX3_town_64 : decode cX3_town 64 = .ok (.bipush (-9), 2) := by decide +kernel
theorem dX3_town_66 : decode cX3_town 66 = .ok (.if_icmp .eq 9, 3) := by decide +kernel
theorem dX3_town_69 : decode cX3_town 69 = .ok (.bipush (-100), 2) := by decide +kernel
theorem dX3_town_71 : decode cX3_town 71 = .ok (.iload 7, 2) := by decide +kernel
theorem dX3_town_73 : decode cX3_town 73 = .ok (.isub, 1) := by decide +kernel
theorem dX3_town_74 : decode cX3_town 74 = .ok (.ireturn, 1) := by decide +kernel
theorem dX3_town_75 : decode cX3_town 75 = .ok (.aload_n 0, 1) := by decide +kernel
theorem dX3_town_76 : decode cX3_town 76 = .ok (.getfield 20, 3) := by decide +kernel
theorem dX3_town_79 : decode cX3_town 79 = .ok (.aload 5, 2) := by decide +kernel
theorem dX3_town_81 : decode cX3_town 81 = .ok (.iload_n 3, 1) := by decide +kernel
theorem dX3_town_82 : decode cX3_town 82 = .ok (.iload 4, 2) := by decide +kernel
theorem dX3_town_84 : decode cX3_town 84 = .ok (.invokevirtual 59, 3) := by decide +kernel
theorem dX3_town_87 : decode cX3_town 87 = .ok (.aload_n 0, 1) := by decide +kernel
theorem dX3_town_88 : decode cX3_town 88 = .ok (.getfield 30, 3) := by decide +kernel
theorem dX3_town_91 : decode cX3_town 91 = .ok (.iconst 0, 1) := by decide +kernel
theorem dX3_town_92 : decode cX3_town 92 = .ok (.putfield 63, 3) := by decide +kernel
theorem dX3_town_95 : decode cX3_town 95 = .ok (.aload_n 0, 1) := by decide +kernel
theorem dX3_town_96 : decode cX3_town 96 = .ok (.iconst 0, 1) := by decide +kernel
theorem dX3_town_97 : decode cX3_town 97 = .ok (.putfield 66, 3) := by decide +kernel
theorem dX3_town_100 : decode cX3_town 100 = .ok (.aload_n 0, 1) := by decide +kernel
theorem dX3_town_101 : decode cX3_town 101 = .ok (.getfield 20, 3) := by decide +kernel
theorem dX3_town_104 : decode cX3_town 104 = .ok (.getfield 69, 3) := by decide +kernel
theorem dX3_town_107 : decode cX3_town 107 = .ok (.ireturn, 1) := by decide +kernel
set_option maxRecDepth 20000 in
theorem ggX3_ofPerson_X2_has : GoodIn wsX3_ofPerson wsX2_has := goodIn_r _ [9, 10, 39, 40, 41, 42, 43, 44] (by decide +kernel) (by decide +kernel)
set_option maxRecDepth 20000 in
theorem gX3_ofPerson_X2_has : GoodIn wsX3_ofPerson (wsV RX3 70 RX2 yX2_has wsX2_has) := goodIn_app (goodIn_of _ (by decide +kernel)) ggX3_ofPerson_X2_has
set_option maxRecDepth 20000 in
theorem ggX3_ofPerson_X2_isIn : GoodIn wsX3_ofPerson wsX2_isIn := goodIn_r _ [14, 15, 16, 17, 18, 39, 40, 41, 42, 43, 44] (by decide +kernel) (by decide +kernel)
set_option maxRecDepth 20000 in
theorem gX3_ofPerson_X2_isIn : GoodIn wsX3_ofPerson (wsV RX3 83 RX2 yX2_isIn wsX2_isIn) := goodIn_app (goodIn_of _ (by decide +kernel)) ggX3_ofPerson_X2_isIn
set_option maxRecDepth 20000 in
theorem ggX3_ofPerson_X2_saysNow : GoodIn wsX3_ofPerson wsX2_saysNow := goodIn_r _ [22, 23, 24, 25, 26, 17, 27, 28, 29, 30, 31, 39, 40, 41, 42, 43, 44] (by decide +kernel) (by decide +kernel)
set_option maxRecDepth 20000 in
theorem gX3_ofPerson_X2_saysNow : GoodIn wsX3_ofPerson (wsV RX3 86 RX2 yX2_saysNow wsX2_saysNow) := goodIn_app (goodIn_of _ (by decide +kernel)) ggX3_ofPerson_X2_saysNow
theorem dX3_ofPerson_0 : decode cX3_ofPerson 0 = .ok (.aload_n 0, 1) := by decide +kernel
theorem dX3_ofPerson_1 : decode cX3_ofPerson 1 = .ok (.getfield 20, 3) := by decide +kernel
theorem dX3_ofPerson_4 : decode cX3_ofPerson 4 = .ok (.iload_n 1, 1) := by decide +kernel
theorem dX3_ofPerson_5 : decode cX3_ofPerson 5 = .ok (.invokevirtual 70, 3) := by decide +kernel
theorem dX3_ofPerson_8 : decode cX3_ofPerson 8 = .ok (.ifCond .ne 5, 3) := by decide +kernel
theorem dX3_ofPerson_11 : decode cX3_ofPerson 11 = .ok (.iconst (-1), 1) := by decide +kernel
theorem dX3_ofPerson_12 : decode cX3_ofPerson 12 = .ok (.ireturn, 1) := by decide +kernel
theorem dX3_ofPerson_13 : decode cX3_ofPerson 13 = .ok (.iload_n 2, 1) := by decide +kernel
theorem dX3_ofPerson_14 : decode cX3_ofPerson 14 = .ok (.tableswitch 90 0 4 #[34, 44, 54, 64, 81], 34) := by decide +kernel
theorem dX3_ofPerson_48 : decode cX3_ofPerson 48 = .ok (.aload_n 0, 1) := by decide +kernel
theorem dX3_ofPerson_49 : decode cX3_ofPerson 49 = .ok (.getfield 20, 3) := by decide +kernel
theorem dX3_ofPerson_52 : decode cX3_ofPerson 52 = .ok (.getfield 73, 3) := by decide +kernel
theorem dX3_ofPerson_55 : decode cX3_ofPerson 55 = .ok (.iload_n 1, 1) := by decide +kernel
theorem dX3_ofPerson_56 : decode cX3_ofPerson 56 = .ok (.iaload, 1) := by decide +kernel
theorem dX3_ofPerson_57 : decode cX3_ofPerson 57 = .ok (.ireturn, 1) := by decide +kernel
theorem dX3_ofPerson_58 : decode cX3_ofPerson 58 = .ok (.aload_n 0, 1) := by decide +kernel
theorem dX3_ofPerson_59 : decode cX3_ofPerson 59 = .ok (.getfield 20, 3) := by decide +kernel
theorem dX3_ofPerson_62 : decode cX3_ofPerson 62 = .ok (.getfield 77, 3) := by decide +kernel
theorem dX3_ofPerson_65 : decode cX3_ofPerson 65 = .ok (.iload_n 1, 1) := by decide +kernel
theorem dX3_ofPerson_66 : decode cX3_ofPerson 66 = .ok (.iaload, 1) := by decide +kernel
theorem dX3_ofPerson_67 : decode cX3_ofPerson 67 = .ok (.ireturn, 1) := by decide +kernel
theorem dX3_ofPerson_68 : decode cX3_ofPerson 68 = .ok (.aload_n 0, 1) := by decide +kernel
theorem dX3_ofPerson_69 : decode cX3_ofPerson 69 = .ok (.getfield 20, 3) := by decide +kernel
theorem dX3_ofPerson_72 : decode cX3_ofPerson 72 = .ok (.getfield 80, 3) := by decide +kernel
theorem dX3_ofPerson_75 : decode cX3_ofPerson 75 = .ok (.iload_n 1, 1) := by decide +kernel
theorem dX3_ofPerson_76 : decode cX3_ofPerson 76 = .ok (.iaload, 1) := by decide +kernel
theorem dX3_ofPerson_77 : decode cX3_ofPerson 77 = .ok (.ireturn, 1) := by decide +kernel
theorem dX3_ofPerson_78 : decode cX3_ofPerson 78 = .ok (.aload_n 0, 1) := by decide +kernel
theorem dX3_ofPerson_79 : decode cX3_ofPerson 79 = .ok (.getfield 20, 3) := by decide +kernel
theorem dX3_ofPerson_82 : decode cX3_ofPerson 82 = .ok (.iload_n 1, 1) := by decide +kernel
theorem dX3_ofPerson_83 : decode cX3_ofPerson 83 = .ok (.invokevirtual 83, 3) := by decide +kernel
theorem dX3_ofPerson_86 : decode cX3_ofPerson 86 = .ok (.ifCond .eq 7, 3) := by decide +kernel
theorem dX3_ofPerson_89 : decode cX3_ofPerson 89 = .ok (.iconst 1, 1) := by decide +kernel
theorem dX3_ofPerson_90 : decode cX3_ofPerson 90 = .ok (.goto 4, 3) := by decide +kernel
theorem dX3_ofPerson_93 : decode cX3_ofPerson 93 = .ok (.iconst 0, 1) := by decide +kernel
theorem dX3_ofPerson_94 : decode cX3_ofPerson 94 = .ok (.ireturn, 1) := by decide +kernel
theorem dX3_ofPerson_95 : decode cX3_ofPerson 95 = .ok (.aload_n 0, 1) := by decide +kernel
theorem dX3_ofPerson_96 : decode cX3_ofPerson 96 = .ok (.getfield 20, 3) := by decide +kernel
theorem dX3_ofPerson_99 : decode cX3_ofPerson 99 = .ok (.iload_n 1, 1) := by decide +kernel
theorem dX3_ofPerson_100 : decode cX3_ofPerson 100 = .ok (.invokevirtual 86, 3) := by decide +kernel
theorem dX3_ofPerson_103 : decode cX3_ofPerson 103 = .ok (.ireturn, 1) := by decide +kernel
theorem dX3_ofPerson_104 : decode cX3_ofPerson 104 = .ok (.bipush (-2), 2) := by decide +kernel
theorem dX3_ofPerson_106 : decode cX3_ofPerson 106 = .ok (.ireturn, 1) := by decide +kernel
set_option maxRecDepth 20000 in
theorem ggX3_tune_X2_has : GoodIn wsX3_tune wsX2_has := goodIn_r _ [7, 8, 16, 17, 18, 19, 20, 21] (by decide +kernel) (by decide +kernel)
set_option maxRecDepth 20000 in
theorem gX3_tune_X2_has : GoodIn wsX3_tune (wsV RX3 70 RX2 yX2_has wsX2_has) := goodIn_app (goodIn_of _ (by decide +kernel)) ggX3_tune_X2_has
theorem dX3_tune_0 : decode cX3_tune 0 = .ok (.aload_n 0, 1) := by decide +kernel
theorem dX3_tune_1 : decode cX3_tune 1 = .ok (.getfield 20, 3) := by decide +kernel
end
section
theorem dX3_tune_4 : decode cX3_tune 4 = .ok (.iload_n 1, 1) := by decide +kernel
theorem dX3_tune_5 : decode cX3_tune 5 = .ok (.invokevirtual 70, 3) := by decide +kernel
theorem dX3_tune_8 : decode cX3_tune 8 = .ok (.ifCond .ne 5, 3) := by decide +kernel
theorem dX3_tune_11 : decode cX3_tune 11 = .ok (.iconst (-1), 1) := by decide +kernel
theorem dX3_tune_12 : decode cX3_tune 12 = .ok (.ireturn, 1) := by decide +kernel
theorem dX3_tune_13 : decode cX3_tune 13 = .ok (.iload_n 2, 1) := by decide +kernel
theorem dX3_tune_14 : decode cX3_tune 14 = .ok (.iconst 1, 1) := by decide +kernel
theorem dX3_tune_15 : decode cX3_tune 15 = .ok (.if_icmp .lt 9, 3) := by decide +kernel
theorem dX3_tune_18 : decode cX3_tune 18 = .ok (.iload_n 2, 1) := by decide +kernel
theorem dX3_tune_19 : decode cX3_tune 19 = .ok (.bipush 9, 2) := by decide +kernel
theorem dX3_tune_21 : decode cX3_tune 21 = .ok (.if_icmp .le 6, 3) := by decide +kernel
theorem dX3_tune_24 : decode cX3_tune 24 = .ok (.bipush (-2), 2) := by decide +kernel
theorem dX3_tune_26 : decode cX3_tune 26 = .ok (.ireturn, 1) := by decide +kernel
theorem dX3_tune_27 : decode cX3_tune 27 = .ok (.aload_n 0, 1) := by decide +kernel
theorem dX3_tune_28 : decode cX3_tune 28 = .ok (.getfield 20, 3) := by decide +kernel
theorem dX3_tune_31 : decode cX3_tune 31 = .ok (.getfield 80, 3) := by decide +kernel
theorem dX3_tune_34 : decode cX3_tune 34 = .ok (.iload_n 1, 1) := by decide +kernel
theorem dX3_tune_35 : decode cX3_tune 35 = .ok (.iaload, 1) := by decide +kernel
theorem dX3_tune_36 : decode cX3_tune 36 = .ok (.istore_n 3, 1) := by decide +kernel
theorem dX3_tune_37 : decode cX3_tune 37 = .ok (.aload_n 0, 1) := by decide +kernel
theorem dX3_tune_38 : decode cX3_tune 38 = .ok (.getfield 20, 3) := by decide +kernel
theorem dX3_tune_41 : decode cX3_tune 41 = .ok (.getfield 80, 3) := by decide +kernel
theorem dX3_tune_44 : decode cX3_tune 44 = .ok (.iload_n 1, 1) := by decide +kernel
theorem dX3_tune_45 : decode cX3_tune 45 = .ok (.iload_n 2, 1) := by decide +kernel
theorem dX3_tune_46 : decode cX3_tune 46 = .ok (.iastore, 1) := by decide +kernel
theorem dX3_tune_47 : decode cX3_tune 47 = .ok (.iload_n 3, 1) := by decide +kernel
theorem dX3_tune_48 : decode cX3_tune 48 = .ok (.ireturn, 1) := by decide +kernel
set_option maxRecDepth 20000 in
theorem ggX3_heard_X2_allSay : GoodIn wsX3_heard wsX2_allSay := goodIn_r _ [8, 9, 10, 11, 12, 7, 13, 14, 15, 16, 17, 18, 19, 20, 21, 22, 23, 24, 25, 26, 27, 28, 29, 30, 42, 43, 44, 45, 46, 47] (by decide +kernel) (by decide +kernel)
set_option maxRecDepth 20000 in
theorem gX3_heard_X2_allSay : GoodIn wsX3_heard (wsV RX3 89 RX2 yX2_allSay wsX2_allSay) := goodIn_app (goodIn_of _ (by decide +kernel)) ggX3_heard_X2_allSay
set_option maxRecDepth 20000 in
theorem ggX3_heard_X2_partsOf : GoodIn wsX3_heard wsX2_partsOf := goodIn_r _ [34, 9, 23, 15, 16, 17, 42, 43, 44, 45, 46, 47] (by decide +kernel) (by decide +kernel)
set_option maxRecDepth 20000 in
theorem gX3_heard_X2_partsOf : GoodIn wsX3_heard (wsV RX3 96 RX2 yX2_partsOf wsX2_partsOf) := goodIn_app (goodIn_of _ (by decide +kernel)) ggX3_heard_X2_partsOf
theorem dX3_heard_0 : decode cX3_heard 0 = .ok (.iload_n 1, 1) := by decide +kernel
theorem dX3_heard_1 : decode cX3_heard 1 = .ok (.ifCond .lt 8, 3) := by decide +kernel
theorem dX3_heard_4 : decode cX3_heard 4 = .ok (.iload_n 1, 1) := by decide +kernel
theorem dX3_heard_5 : decode cX3_heard 5 = .ok (.iconst 2, 1) := by decide +kernel
theorem dX3_heard_6 : decode cX3_heard 6 = .ok (.if_icmp .le 6, 3) := by decide +kernel
theorem dX3_heard_9 : decode cX3_heard 9 = .ok (.bipush (-2), 2) := by decide +kernel
theorem dX3_heard_11 : decode cX3_heard 11 = .ok (.ireturn, 1) := by decide +kernel
theorem dX3_heard_12 : decode cX3_heard 12 = .ok (.aload_n 0, 1) := by decide +kernel
theorem dX3_heard_13 : decode cX3_heard 13 = .ok (.getfield 20, 3) := by decide +kernel
theorem dX3_heard_16 : decode cX3_heard 16 = .ok (.getfield 69, 3) := by decide +kernel
theorem dX3_heard_19 : decode cX3_heard 19 = .ok (.ifCond .ne 6, 3) := by decide +kernel
theorem dX3_heard_22 : decode cX3_heard 22 = .ok (.bipush (-3), 2) := by decide +kernel
theorem dX3_heard_24 : decode cX3_heard 24 = .ok (.ireturn, 1) := by decide +kernel
theorem dX3_heard_25 : decode cX3_heard 25 = .ok (.iload_n 1, 1) := by decide +kernel
theorem dX3_heard_26 : decode cX3_heard 26 = .ok (.ifCond .ne 11, 3) := by decide +kernel
theorem dX3_heard_29 : decode cX3_heard 29 = .ok (.aload_n 0, 1) := by decide +kernel
theorem dX3_heard_30 : decode cX3_heard 30 = .ok (.getfield 20, 3) := by decide +kernel
theorem dX3_heard_33 : decode cX3_heard 33 = .ok (.invokevirtual 89, 3) := by decide +kernel
theorem dX3_heard_36 : decode cX3_heard 36 = .ok (.ireturn, 1) := by decide +kernel
theorem dX3_heard_37 : decode cX3_heard 37 = .ok (.iload_n 1, 1) := by decide +kernel
theorem dX3_heard_38 : decode cX3_heard 38 = .ok (.iconst 1, 1) := by decide +kernel
theorem dX3_heard_39 : decode cX3_heard 39 = .ok (.if_icmp .ne 13, 3) := by decide +kernel
theorem dX3_heard_42 : decode cX3_heard 42 = .ok (.aload_n 0, 1) := by decide +kernel
theorem dX3_heard_43 : decode cX3_heard 43 = .ok (.getfield 20, 3) := by decide +kernel
theorem dX3_heard_46 : decode cX3_heard 46 = .ok (.getfield 93, 3) := by decide +kernel
theorem dX3_heard_49 : decode cX3_heard 49 = .ok (.goto 17, 3) := by decide +kernel
theorem dX3_heard_52 : decode cX3_heard 52 = .ok (.aload_n 0, 1) := by decide +kernel
theorem dX3_heard_53 : decode cX3_heard 53 = .ok (.getfield 20, 3) := by decide +kernel
theorem dX3_heard_56 : decode cX3_heard 56 = .ok (.aload_n 0, 1) := by decide +kernel
theorem dX3_heard_57 : decode cX3_heard 57 = .ok (.getfield 20, 3) := by decide +kernel
theorem dX3_heard_60 : decode cX3_heard 60 = .ok (.getfield 93, 3) := by decide +kernel
theorem dX3_heard_63 : decode cX3_heard 63 = .ok (.invokevirtual 96, 3) := by decide +kernel
theorem dX3_heard_66 : decode cX3_heard 66 = .ok (.ireturn, 1) := by decide +kernel
set_option maxRecDepth 20000 in
theorem ggX3_day_X3_act : GoodIn wsX3_day wsX3_act := goodIn_r _ [6, 7, 8, 9, 10, 11, 12, 13, 14, 15, 16, 17, 18, 19, 20, 21, 22, 23, 24, 5, 25, 26, 27, 28, 29, 30, 31, 32, 33, 34, 35, 36, 37, 38, 39, 40, 41, 42, 43, 44, 45, 46, 47, 48, 49, 50, 51, 52, 53, 54, 55, 56, 57, 58, 59, 60, 61, 62, 63, 64, 65, 66, 67, 68, 69, 70, 71, 72, 73, 74] (by decide +kernel) (by decide +kernel)
set_option maxRecDepth 20000 in
theorem gX3_day_X3_act : GoodIn wsX3_day (wsV RX3 99 RX3 yX3_act wsX3_act) := goodIn_app (goodIn_of _ (by decide +kernel)) ggX3_day_X3_act
theorem dX3_day_0 : decode cX3_day 0 = .ok (.aload_n 0, 1) := by decide +kernel
theorem dX3_day_1 : decode cX3_day 1 = .ok (.iload_n 1, 1) := by decide +kernel
theorem dX3_day_2 : decode cX3_day 2 = .ok (.iconst 0, 1) := by decide +kernel
theorem dX3_day_3 : decode cX3_day 3 = .ok (.invokevirtual 99, 3) := by decide +kernel
theorem dX3_day_6 : decode cX3_day 6 = .ok (.istore_n 2, 1) := by decide +kernel
theorem dX3_day_7 : decode cX3_day 7 = .ok (.iload_n 2, 1) := by decide +kernel
theorem dX3_day_8 : decode cX3_day 8 = .ok (.ifCond .lt 13, 3) := by decide +kernel
theorem dX3_day_11 : decode cX3_day 11 = .ok (.aload_n 0, 1) := by decide +kernel
theorem dX3_day_12 : decode cX3_day 12 = .ok (.dup, 1) := by decide +kernel
theorem dX3_day_13 : decode cX3_day 13 = .ok (.getfield 66, 3) := by decide +kernel
theorem dX3_day_16 : decode cX3_day 16 = .ok (.iconst 1, 1) := by decide +kernel
theorem dX3_day_17 : decode cX3_day 17 = .ok (.iadd, 1) := by decide +kernel
theorem dX3_day_18 : decode cX3_day 18 = .ok (.putfield 66, 3) := by decide +kernel
theorem dX3_day_21 : decode cX3_day 21 = .ok (.iload_n 2, 1) := by decide +kernel
theorem dX3_day_22 : decode cX3_day 22 = .ok (.ireturn, 1) := by decide +kernel
set_option maxRecDepth 20000 in
theorem ggX3_leave_X3_act : GoodIn wsX3_leave wsX3_act := goodIn_r _ [5, 6, 7, 8, 9, 10, 11, 12, 13, 14, 15, 16, 17, 18, 19, 20, 21, 22, 23, 4, 24, 25, 26, 27, 28, 29, 30, 31, 32, 33, 34, 35, 36, 37, 38, 39, 40, 41, 42, 43, 44, 45, 46, 47, 48, 49, 50, 51, 52, 53, 54, 55, 56, 57, 58, 59, 60, 61, 62, 63, 64, 65, 66, 67, 68, 69, 70, 71, 72, 73] (by decide +kernel) (by decide +kernel)
set_option maxRecDepth 20000 in
theorem gX3_leave_X3_act : GoodIn wsX3_leave (wsV RX3 99 RX3 yX3_act wsX3_act) := goodIn_app (goodIn_of _ (by decide +kernel)) ggX3_leave_X3_act
theorem dX3_leave_0 : decode cX3_leave 0 = .ok (.aload_n 0, 1) := by decide +kernel
theorem dX3_leave_1 : decode cX3_leave 1 = .ok (.iload_n 1, 1) := by decide +kernel
theorem dX3_leave_2 : decode cX3_leave 2 = .ok (.iconst 1, 1) := by decide +kernel
theorem dX3_leave_3 : decode cX3_leave 3 = .ok (.invokevirtual 99, 3) := by decide +kernel
theorem dX3_leave_6 : decode cX3_leave 6 = .ok (.ireturn, 1) := by decide +kernel
set_option maxRecDepth 20000 in
theorem ggX3_come_X3_act : GoodIn wsX3_come wsX3_act := goodIn_r _ [5, 6, 7, 8, 9, 10, 11, 12, 13, 14, 15, 16, 17, 18, 19, 20, 21, 22, 23, 4, 24, 25, 26, 27, 28, 29, 30, 31, 32, 33, 34, 35, 36, 37, 38, 39, 40, 41, 42, 43, 44, 45, 46, 47, 48, 49, 50, 51, 52, 53, 54, 55, 56, 57, 58, 59, 60, 61, 62, 63, 64, 65, 66, 67, 68, 69, 70, 71, 72, 73] (by decide +kernel) (by decide +kernel)
set_option maxRecDepth 20000 in
theorem gX3_come_X3_act : GoodIn wsX3_come (wsV RX3 99 RX3 yX3_act wsX3_act) := goodIn_app (goodIn_of _ (by decide +kernel)) ggX3_come_X3_act
theorem dX3_come_0 : decode cX3_come 0 = .ok (.aload_n 0, 1) := by decide +kernel
theorem dX3_come_1 : decode cX3_come 1 = .ok (.iload_n 1, 1) := by decide +kernel
theorem dX3_come_2 : decode cX3_come 2 = .ok (.iconst 2, 1) := by decide +kernel
theorem dX3_come_3 : decode cX3_come 3 = .ok (.invokevirtual 99, 3) := by decide +kernel
theorem dX3_come_6 : decode cX3_come 6 = .ok (.ireturn, 1) := by decide +kernel
set_option maxRecDepth 20000 in
theorem ggX3_gather_X3_act : GoodIn wsX3_gather wsX3_act := goodIn_r _ [5, 6, 7, 8, 9, 10, 11, 12, 13, 14, 15, 16, 17, 18, 19, 20, 21, 22, 23, 4, 24, 25, 26, 27, 28, 29, 30, 31, 32, 33, 34, 35, 36, 37, 38, 39, 40, 41, 42, 43, 44, 45, 46, 47, 48, 49, 50, 51, 52, 53, 54, 55, 56, 57, 58, 59, 60, 61, 62, 63, 64, 65, 66, 67, 68, 69, 70, 71, 72, 73] (by decide +kernel) (by decide +kernel)
set_option maxRecDepth 20000 in
theorem gX3_gather_X3_act : GoodIn wsX3_gather (wsV RX3 99 RX3 yX3_act wsX3_act) := goodIn_app (goodIn_of _ (by decide +kernel)) ggX3_gather_X3_act
theorem dX3_gather_0 : decode cX3_gather 0 = .ok (.aload_n 0, 1) := by decide +kernel
theorem dX3_gather_1 : decode cX3_gather 1 = .ok (.iload_n 1, 1) := by decide +kernel
theorem dX3_gather_2 : decode cX3_gather 2 = .ok (.iconst 3, 1) := by decide +kernel
theorem dX3_gather_3 : decode cX3_gather 3 = .ok (.invokevirtual 99, 3) := by decide +kernel
theorem dX3_gather_6 : decode cX3_gather 6 = .ok (.ireturn, 1) := by decide +kernel
set_option maxRecDepth 20000 in
theorem ggX3_pack_X2_has : GoodIn wsX3_pack wsX2_has := goodIn_r _ [8, 9, 17, 18, 19, 20, 21, 22] (by decide +kernel) (by decide +kernel)
set_option maxRecDepth 20000 in
theorem gX3_pack_X2_has : GoodIn wsX3_pack (wsV RX3 70 RX2 yX2_has wsX2_has) := goodIn_app (goodIn_of _ (by decide +kernel)) ggX3_pack_X2_has
theorem dX3_pack_0 : decode cX3_pack 0 = .ok (.aload_n 0, 1) := by decide +kernel
theorem dX3_pack_1 : decode cX3_pack 1 = .ok (.getfield 20, 3) := by decide +kernel
theorem dX3_pack_4 : decode cX3_pack 4 = .ok (.iload_n 1, 1) := by decide +kernel
theorem dX3_pack_5 : decode cX3_pack 5 = .ok (.invokevirtual 70, 3) := by decide +kernel
theorem dX3_pack_8 : decode cX3_pack 8 = .ok (.ifCond .ne 5, 3) := by decide +kernel
theorem dX3_pack_11 : decode cX3_pack 11 = .ok (.iconst (-1), 1) := by decide +kernel
theorem dX3_pack_12 : decode cX3_pack 12 = .ok (.ireturn, 1) := by decide +kernel
theorem dX3_pack_13 : decode cX3_pack 13 = .ok (.iload_n 2, 1) := by decide +kernel
theorem dX3_pack_14 : decode cX3_pack 14 = .ok (.iconst 1, 1) := by decide +kernel
theorem dX3_pack_15 : decode cX3_pack 15 = .ok (.if_icmp .lt 9, 3) := by decide +kernel
theorem dX3_pack_18 : decode cX3_pack 18 = .ok (.iload_n 2, 1) := by decide +kernel
theorem dX3_pack_19 : decode cX3_pack 19 = .ok (.bipush 99, 2) := by decide +kernel
theorem dX3_pack_21 : decode cX3_pack 21 = .ok (.if_icmp .le 6, 3) := by decide +kernel
theorem dX3_pack_24 : decode cX3_pack 24 = .ok (.bipush (-2), 2) := by decide +kernel
theorem dX3_pack_26 : decode cX3_pack 26 = .ok (.ireturn, 1) := by decide +kernel
theorem dX3_pack_27 : decode cX3_pack 27 = .ok (.aload_n 0, 1) := by decide +kernel
theorem dX3_pack_28 : decode cX3_pack 28 = .ok (.getfield 20, 3) := by decide +kernel
theorem dX3_pack_31 : decode cX3_pack 31 = .ok (.getfield 77, 3) := by decide +kernel
theorem dX3_pack_34 : decode cX3_pack 34 = .ok (.iload_n 1, 1) := by decide +kernel
theorem dX3_pack_35 : decode cX3_pack 35 = .ok (.iaload, 1) := by decide +kernel
theorem dX3_pack_36 : decode cX3_pack 36 = .ok (.iload_n 2, 1) := by decide +kernel
theorem dX3_pack_37 : decode cX3_pack 37 = .ok (.if_icmp .ge 6, 3) := by decide +kernel
theorem dX3_pack_40 : decode cX3_pack 40 = .ok (.bipush (-3), 2) := by decide +kernel
theorem dX3_pack_42 : decode cX3_pack 42 = .ok (.ireturn, 1) := by decide +kernel
theorem dX3_pack_43 : decode cX3_pack 43 = .ok (.aload_n 0, 1) := by decide +kernel
theorem dX3_pack_44 : decode cX3_pack 44 = .ok (.getfield 20, 3) := by decide +kernel
theorem dX3_pack_47 : decode cX3_pack 47 = .ok (.getfield 77, 3) := by decide +kernel
theorem dX3_pack_50 : decode cX3_pack 50 = .ok (.iload_n 1, 1) := by decide +kernel
theorem dX3_pack_51 : decode cX3_pack 51 = .ok (.dup2, 1) := by decide +kernel
theorem dX3_pack_52 : decode cX3_pack 52 = .ok (.iaload, 1) := by decide +kernel
theorem dX3_pack_53 : decode cX3_pack 53 = .ok (.iload_n 2, 1) := by decide +kernel
theorem dX3_pack_54 : decode cX3_pack 54 = .ok (.isub, 1) := by decide +kernel
theorem dX3_pack_55 : decode cX3_pack 55 = .ok (.iastore, 1) := by decide +kernel
theorem dX3_pack_56 : decode cX3_pack 56 = .ok (.aload_n 0, 1) := by decide +kernel
theorem dX3_pack_57 : decode cX3_pack 57 = .ok (.getfield 20, 3) := by decide +kernel
theorem dX3_pack_60 : decode cX3_pack 60 = .ok (.dup, 1) := by decide +kernel
theorem dX3_pack_61 : decode cX3_pack 61 = .ok (.getfield 103, 3) := by decide +kernel
theorem dX3_pack_64 : decode cX3_pack 64 = .ok (.iload_n 2, 1) := by decide +kernel
theorem dX3_pack_65 : decode cX3_pack 65 = .ok (.iadd, 1) := by decide +kernel
theorem dX3_pack_66 : decode cX3_pack 66 = .ok (.putfield 103, 3) := by decide +kernel
theorem dX3_pack_69 : decode cX3_pack 69 = .ok (.aload_n 0, 1) := by decide +kernel
theorem dX3_pack_70 : decode cX3_pack 70 = .ok (.getfield 20, 3) := by decide +kernel
theorem dX3_pack_73 : decode cX3_pack 73 = .ok (.getfield 103, 3) := by decide +kernel
theorem dX3_pack_76 : decode cX3_pack 76 = .ok (.ireturn, 1) := by decide +kernel
set_option maxRecDepth 20000 in
theorem ggX3_open_X3_act : GoodIn wsX3_open wsX3_act := goodIn_r _ [5, 6, 7, 8, 9, 10, 11, 12, 13, 14, 15, 16, 17, 18, 19, 20, 21, 22, 23, 4, 24, 25, 26, 27, 28, 29, 30, 31, 32, 33, 34, 35, 36, 37, 38, 39, 40, 41, 42, 43, 44, 45, 46, 47, 48, 49, 50, 51, 52, 53, 54, 55, 56, 57, 58, 59, 60, 61, 62, 63, 64, 65, 66, 67, 68, 69, 70, 71, 72, 73] (by decide +kernel) (by decide +kernel)
set_option maxRecDepth 20000 in
theorem gX3_open_X3_act : GoodIn wsX3_open (wsV RX3 99 RX3 yX3_act wsX3_act) := goodIn_app (goodIn_of _ (by decide +kernel)) ggX3_open_X3_act
theorem dX3_open_0 : decode cX3_open 0 = .ok (.aload_n 0, 1) := by decide +kernel
theorem dX3_open_1 : decode cX3_open 1 = .ok (.iload_n 1, 1) := by decide +kernel
theorem dX3_open_2 : decode cX3_open 2 = .ok (.iconst 4, 1) := by decide +kernel
theorem dX3_open_3 : decode cX3_open 3 = .ok (.invokevirtual 99, 3) := by decide +kernel
theorem dX3_open_6 : decode cX3_open 6 = .ok (.ireturn, 1) := by decide +kernel
set_option maxRecDepth 20000 in
theorem ggX3_year_X3_sheetAt : GoodIn wsX3_year wsX3_sheetAt := goodIn_r _ [8, 9, 130, 131, 132, 133, 134, 135, 136] (by decide +kernel) (by decide +kernel)
set_option maxRecDepth 20000 in
theorem gX3_year_X3_sheetAt : GoodIn wsX3_year (wsV RX3 39 RX3 yX3_sheetAt wsX3_sheetAt) := goodIn_app (goodIn_of _ (by decide +kernel)) ggX3_year_X3_sheetAt
set_option maxRecDepth 20000 in
theorem ggX3_year_X3_isLane : GoodIn wsX3_year wsX3_isLane := goodIn_r _ [12] (by decide +kernel) (by decide +kernel)
set_option maxRecDepth 20000 in
theorem gX3_year_X3_isLane : GoodIn wsX3_year (va_wsS RX3 43 yX3_isLane wsX3_isLane) := goodIn_app (goodIn_of _ (by decide +kernel)) ggX3_year_X3_isLane
set_option maxRecDepth 20000 in
theorem ggX3_year_X3_isAskedOfYear : GoodIn wsX3_year wsX3_isAskedOfYear := goodIn_r _ [15] (by decide +kernel) (by decide +kernel)
set_option maxRecDepth 20000 in
theorem gX3_year_X3_isAskedOfYear : GoodIn wsX3_year (va_wsS RX3 106 yX3_isAskedOfYear wsX3_isAskedOfYear) := goodIn_app (goodIn_of _ (by decide +kernel)) ggX3_year_X3_isAskedOfYear
set_option maxRecDepth 20000 in
theorem ggX3_year_X1_faultOf : GoodIn wsX3_year wsX1_faultOf := goodIn_r _ [20, 21, 22, 23, 24, 25, 19, 26, 27, 143, 144, 145, 146] (by decide +kernel) (by decide +kernel)
set_option maxRecDepth 20000 in
theorem gX3_year_X1_faultOf : GoodIn wsX3_year (wsV RX3 47 RX1 yX1_faultOf wsX1_faultOf) := goodIn_app (goodIn_of _ (by decide +kernel)) ggX3_year_X1_faultOf
set_option maxRecDepth 20000 in
theorem ggX3_year_X3_faulty : GoodIn wsX3_year wsX3_faulty := goodIn_r _ [31, 1, 130, 131, 132, 133, 134, 135, 136] (by decide +kernel) (by decide +kernel)
set_option maxRecDepth 20000 in
theorem gX3_year_X3_faulty : GoodIn wsX3_year (wsV RX3 51 RX3 yX3_faulty wsX3_faulty) := goodIn_app (goodIn_of _ (by decide +kernel)) ggX3_year_X3_faulty
set_option maxRecDepth 20000 in
theorem ggX3_year_X3_refusalOfPairs : GoodIn wsX3_year wsX3_refusalOfPairs := goodIn_r _ [35, 2, 36, 37, 38, 19, 39, 40, 41, 42, 43, 44, 45, 46, 47, 48, 7, 49, 130, 131, 132, 133, 134, 135, 136, 143, 144, 145, 146, 137, 138, 139, 140, 141, 142] (by decide +kernel) (by decide +kernel)
set_option maxRecDepth 20000 in
theorem gX3_year_X3_refusalOfPairs : GoodIn wsX3_year (wsV RX3 109 RX3 yX3_refusalOfPairs wsX3_refusalOfPairs) := goodIn_app (goodIn_of _ (by decide +kernel)) ggX3_year_X3_refusalOfPairs
set_option maxRecDepth 20000 in
theorem ggX3_year_X3_firstWrongOf : GoodIn wsX3_year wsX3_firstWrongOf := goodIn_r _ [53, 54, 2, 55, 56, 57, 44, 58, 46, 59, 60, 61, 62, 63, 36, 37, 38, 19, 39, 40, 64, 65, 66, 67, 68, 69, 70, 71, 72, 7, 73, 74, 75, 76, 77, 78, 79, 80, 81, 82, 83, 84, 85, 86, 87, 88, 89, 90, 91, 92, 93, 94, 95, 96, 97, 98, 99, 100, 101, 102, 103, 104, 105, 106, 107, 108, 130, 131, 132, 133, 134, 135, 136, 137, 138, 139, 140, 141, 142, 143, 144, 145, 146] (by decide +kernel) (by decide +kernel)
set_option maxRecDepth 20000 in
theorem gX3_year_X3_firstWrongOf : GoodIn wsX3_year (wsV RX3 112 RX3 yX3_firstWrongOf wsX3_firstWrongOf) := goodIn_app (goodIn_of _ (by decide +kernel)) ggX3_year_X3_firstWrongOf
set_option maxRecDepth 20000 in
theorem ggX3_year_X3_behindYear : GoodIn wsX3_year wsX3_behindYear := goodIn_r _ [112, 54, 113, 114, 115, 116, 117, 118, 44, 119, 46, 68, 69, 70, 71, 59, 72, 7, 73, 120, 121, 122, 123, 61, 62, 63, 124, 125, 126, 127, 128, 129, 41, 42, 43, 45, 130, 131, 132, 133, 134, 135, 136, 137, 138, 139, 140, 141, 142] (by decide +kernel) (by decide +kernel)
set_option maxRecDepth 20000 in
theorem gX3_year_X3_behindYear : GoodIn wsX3_year (wsV RX3 115 RX3 yX3_behindYear wsX3_behindYear) := goodIn_app (goodIn_of _ (by decide +kernel)) ggX3_year_X3_behindYear
theorem dX3_year_0 : decode cX3_year 0 = .ok (.aload_n 0, 1) := by decide +kernel
theorem dX3_year_1 : decode cX3_year 1 = .ok (.iconst 0, 1) := by decide +kernel
theorem dX3_year_2 : decode cX3_year 2 = .ok (.putfield 35, 3) := by decide +kernel
theorem dX3_year_5 : decode cX3_year 5 = .ok (.aload_n 0, 1) := by decide +kernel
theorem dX3_year_6 : decode cX3_year 6 = .ok (.iload_n 1, 1) := by decide +kernel
theorem dX3_year_7 : decode cX3_year 7 = .ok (.invokevirtual 39, 3) := by decide +kernel
theorem dX3_year_10 : decode cX3_year 10 = .ok (.astore 6, 2) := by decide +kernel
theorem dX3_year_12 : decode cX3_year 12 = .ok (.aload 6, 2) := by decide +kernel
theorem dX3_year_14 : decode cX3_year 14 = .ok (.ifnonnull 5, 3) := by decide +kernel
theorem dX3_year_17 : decode cX3_year 17 = .ok (.iconst (-1), 1) := by decide +kernel
theorem dX3_year_18 : decode cX3_year 18 = .ok (.ireturn, 1) := by decide +kernel
theorem dX3_year_19 : decode cX3_year 19 = .ok (.iload_n 2, 1) := by decide +kernel
theorem dX3_year_20 : decode cX3_year 20 = .ok (.invokestatic 43, 3) := by decide +kernel
theorem dX3_year_23 : decode cX3_year 23 = .ok (.ifCond .eq 23, 3) := by decide +kernel
theorem dX3_year_26 : decode cX3_year 26 = .ok (.iload 4, 2) := by decide +kernel
theorem dX3_year_28 : decode cX3_year 28 = .ok (.ifCond .lt 18, 3) := by decide +kernel
theorem dX3_year_31 : decode cX3_year 31 = .ok (.iload 4, 2) := by decide +kernel
theorem dX3_year_33 : decode cX3_year 33 = .ok (.bipush 20, 2) := by decide +kernel
theorem dX3_year_35 : decode cX3_year 35 = .ok (.if_icmp .gt 11, 3) := by decide +kernel
theorem dX3_year_38 : decode cX3_year 38 = .ok (.iload 5, 2) := by decide +kernel
theorem dX3_year_40 : decode cX3_year 40 = .ok (.invokestatic 106, 3) := by decide +kernel
theorem dX3_year_43 : decode cX3_year 43 = .ok (.ifCond .ne 6, 3) := by decide +kernel
theorem dX3_year_46 : decode cX3_year 46 = .ok (.bipush (-2), 2) := by decide +kernel
theorem dX3_year_48 : decode cX3_year 48 = .ok (.ireturn, 1) := by decide +kernel
theorem dX3_year_49 : decode cX3_year 49 = .ok (.aload 6, 2) := by decide +kernel
theorem dX3_year_51 : decode cX3_year 51 = .ok (.iload_n 2, 1) := by decide +kernel
theorem dX3_year_52 : decode cX3_year 52 = .ok (.iload_n 3, 1) := by decide +kernel
theorem dX3_year_53 : decode cX3_year 53 = .ok (.iconst 2, 1) := by decide +kernel
theorem dX3_year_54 : decode cX3_year 54 = .ok (.iload 4, 2) := by decide +kernel
theorem dX3_year_56 : decode cX3_year 56 = .ok (.imul, 1) := by decide +kernel
theorem dX3_year_57 : decode cX3_year 57 = .ok (.invokevirtual 47, 3) := by decide +kernel
theorem dX3_year_60 : decode cX3_year 60 = .ok (.istore 7, 2) := by decide +kernel
theorem dX3_year_62 : decode cX3_year 62 = .ok (.iload 7, 2) := by decide +kernel
theorem dX3_year_64 : decode cX3_year 64 = .ok (.ifCond .eq 10, 3) := by decide +kernel
theorem dX3_year_67 : decode cX3_year 67 = .ok (.aload_n 0, 1) := by decide +kernel
theorem dX3_year_68 : decode cX3_year 68 = .ok (.iload 7, 2) := by decide +kernel
theorem dX3_year_70 : decode cX3_year 70 = .ok (.invokevirtual 51, 3) := by decide +kernel
theorem dX3_year_73 : decode cX3_year 73 = .ok (.ireturn, 1) := by decide +kernel
theorem dX3_year_74 : decode cX3_year 74 = .ok (.aload_n 0, 1) := by decide +kernel
theorem dX3_year_75 : decode cX3_year 75 = .ok (.getfield 20, 3) := by decide +kernel
theorem dX3_year_78 : decode cX3_year 78 = .ok (.getfield 69, 3) := by decide +kernel
theorem dX3_year_81 : decode cX3_year 81 = .ok (.ifCond .ne 6, 3) := by decide +kernel
theorem dX3_year_84 : decode cX3_year 84 = .ok (.bipush (-3), 2) := by decide +kernel
theorem dX3_year_86 : decode cX3_year 86 = .ok (.ireturn, 1) := by decide +kernel
theorem dX3_year_87 : decode cX3_year 87 = .ok (.aload_n 0, 1) := by decide +kernel
theorem dX3_year_88 : decode cX3_year 88 = .ok (.aload 6, 2) := by decide +kernel
theorem dX3_year_90 : decode cX3_year 90 = .ok (.iload_n 3, 1) := by decide +kernel
theorem dX3_year_91 : decode cX3_year 91 = .ok (.iload 4, 2) := by decide +kernel
theorem dX3_year_93 : decode cX3_year 93 = .ok (.invokevirtual 109, 3) := by decide +kernel
theorem dX3_year_96 : decode cX3_year 96 = .ok (.istore 8, 2) := by decide +kernel
theorem dX3_year_98 : decode cX3_year 98 = .ok (.iload 8, 2) := by decide +kernel
theorem dX3_year_100 : decode cX3_year 100 = .ok (.ifCond .eq 6, 3) := by decide +kernel
theorem dX3_year_103 : decode cX3_year 103 = .ok (.iload 8, 2) := by decide +kernel
theorem dX3_year_105 : decode cX3_year 105 = .ok (.ireturn, 1) := by decide +kernel
theorem dX3_year_106 : decode cX3_year 106 = .ok (.aload_n 0, 1) := by decide +kernel
theorem dX3_year_107 : decode cX3_year 107 = .ok (.aload 6, 2) := by decide +kernel
theorem dX3_year_109 : decode cX3_year 109 = .ok (.iload_n 3, 1) := by decide +kernel
theorem dX3_year_110 : decode cX3_year 110 = .ok (.iload 4, 2) := by decide +kernel
theorem dX3_year_112 : decode cX3_year 112 = .ok (.invokevirtual 112, 3) := by decide +kernel
theorem dX3_year_115 : decode cX3_year 115 = .ok (.istore 9, 2) := by decide +kernel
theorem dX3_year_117 : decode cX3_year 117 = .ok (.iload 5, 2) := by decide +kernel
theorem dX3_year_119 : decode cX3_year 119 = .ok (.iconst 1, 1) := by decide +kernel
theorem dX3_year_120 : decode cX3_year 120 = .ok (.if_icmp .ne 6, 3) := by decide +kernel
theorem dX3_year_123 : decode cX3_year 123 = .ok (.iload 9, 2) := by decide +kernel
theorem dX3_year_125 : decode cX3_year 125 = .ok (.ireturn, 1) := by decide +kernel
theorem dX3_year_126 : decode cX3_year 126 = .ok (.iload 9, 2) := by decide +kernel
theorem dX3_year_128 : decode cX3_year 128 = .ok (.bipush (-9), 2) := by decide +kernel
theorem dX3_year_130 : decode cX3_year 130 = .ok (.if_icmp .ne 12, 3) := by decide +kernel
theorem dX3_year_133 : decode cX3_year 133 = .ok (.aload_n 0, 1) := by decide +kernel
theorem dX3_year_134 : decode cX3_year 134 = .ok (.iload 5, 2) := by decide +kernel
theorem dX3_year_136 : decode cX3_year 136 = .ok (.invokevirtual 115, 3) := by decide +kernel
theorem dX3_year_139 : decode cX3_year 139 = .ok (.goto 8, 3) := by decide +kernel
theorem dX3_year_142 : decode cX3_year 142 = .ok (.bipush (-100), 2) := by decide +kernel
theorem dX3_year_144 : decode cX3_year 144 = .ok (.iload 9, 2) := by decide +kernel
theorem dX3_year_146 : decode cX3_year 146 = .ok (.isub, 1) := by decide +kernel
theorem dX3_year_147 : decode cX3_year 147 = .ok (.ireturn, 1) := by decide +kernel
set_option maxRecDepth 20000 in
theorem ggX3_asked_X2_has : GoodIn wsX3_asked wsX2_has := goodIn_r _ [7, 8, 40, 41, 42, 43, 44, 45] (by decide +kernel) (by decide +kernel)
set_option maxRecDepth 20000 in
theorem gX3_asked_X2_has : GoodIn wsX3_asked (wsV RX3 70 RX2 yX2_has wsX2_has) := goodIn_app (goodIn_of _ (by decide +kernel)) ggX3_asked_X2_has
set_option maxRecDepth 20000 in
theorem ggX3_asked_X3_bestAsked : GoodIn wsX3_asked wsX3_bestAsked := goodIn_r _ [13, 1, 14, 2, 15, 16, 17, 6, 18, 8, 19, 20, 21, 22, 23, 24, 25, 26, 27, 28, 29, 30, 31, 12, 32, 33, 34, 35, 36, 37, 38, 39, 40, 41, 42, 43, 44, 45] (by decide +kernel) (by decide +kernel)
set_option maxRecDepth 20000 in
theorem gX3_asked_X3_bestAsked : GoodIn wsX3_asked (wsV RX3 118 RX3 yX3_bestAsked wsX3_bestAsked) := goodIn_app (goodIn_of _ (by decide +kernel)) ggX3_asked_X3_bestAsked
set_option maxRecDepth 20000 in
theorem ggX3_asked_X2_partsOf : GoodIn wsX3_asked wsX2_partsOf := goodIn_r _ [29, 8, 30, 31, 12, 32, 40, 41, 42, 43, 44, 45] (by decide +kernel) (by decide +kernel)
set_option maxRecDepth 20000 in
theorem gX3_asked_X2_partsOf : GoodIn wsX3_asked (wsV RX3 96 RX2 yX2_partsOf wsX2_partsOf) := goodIn_app (goodIn_of _ (by decide +kernel)) ggX3_asked_X2_partsOf
theorem dX3_asked_0 : decode cX3_asked 0 = .ok (.aload_n 0, 1) := by decide +kernel
theorem dX3_asked_1 : decode cX3_asked 1 = .ok (.getfield 20, 3) := by decide +kernel
theorem dX3_asked_4 : decode cX3_asked 4 = .ok (.iload_n 1, 1) := by decide +kernel
theorem dX3_asked_5 : decode cX3_asked 5 = .ok (.invokevirtual 70, 3) := by decide +kernel
theorem dX3_asked_8 : decode cX3_asked 8 = .ok (.ifCond .ne 5, 3) := by decide +kernel
theorem dX3_asked_11 : decode cX3_asked 11 = .ok (.iconst (-1), 1) := by decide +kernel
theorem dX3_asked_12 : decode cX3_asked 12 = .ok (.ireturn, 1) := by decide +kernel
theorem dX3_asked_13 : decode cX3_asked 13 = .ok (.iload_n 2, 1) := by decide +kernel
theorem dX3_asked_14 : decode cX3_asked 14 = .ok (.ifCond .lt 19, 3) := by decide +kernel
theorem dX3_asked_17 : decode cX3_asked 17 = .ok (.iload_n 2, 1) := by decide +kernel
theorem dX3_asked_18 : decode cX3_asked 18 = .ok (.sipush 300, 3) := by decide +kernel
theorem dX3_asked_21 : decode cX3_asked 21 = .ok (.if_icmp .gt 12, 3) := by decide +kernel
theorem dX3_asked_24 : decode cX3_asked 24 = .ok (.iload_n 3, 1) := by decide +kernel
theorem dX3_asked_25 : decode cX3_asked 25 = .ok (.ifCond .lt 8, 3) := by decide +kernel
theorem dX3_asked_28 : decode cX3_asked 28 = .ok (.iload_n 3, 1) := by decide +kernel
theorem dX3_asked_29 : decode cX3_asked 29 = .ok (.iconst 1, 1) := by decide +kernel
theorem dX3_asked_30 : decode cX3_asked 30 = .ok (.if_icmp .le 6, 3) := by decide +kernel
theorem dX3_asked_33 : decode cX3_asked 33 = .ok (.bipush (-2), 2) := by decide +kernel
theorem dX3_asked_35 : decode cX3_asked 35 = .ok (.ireturn, 1) := by decide +kernel
theorem dX3_asked_36 : decode cX3_asked 36 = .ok (.aload_n 0, 1) := by decide +kernel
theorem dX3_asked_37 : decode cX3_asked 37 = .ok (.iload_n 1, 1) := by decide +kernel
theorem dX3_asked_38 : decode cX3_asked 38 = .ok (.iload_n 2, 1) := by decide +kernel
theorem dX3_asked_39 : decode cX3_asked 39 = .ok (.invokevirtual 118, 3) := by decide +kernel
theorem dX3_asked_42 : decode cX3_asked 42 = .ok (.istore 4, 2) := by decide +kernel
theorem dX3_asked_44 : decode cX3_asked 44 = .ok (.iload 4, 2) := by decide +kernel
theorem dX3_asked_46 : decode cX3_asked 46 = .ok (.bipush (-9), 2) := by decide +kernel
theorem dX3_asked_48 : decode cX3_asked 48 = .ok (.if_icmp .eq 7, 3) := by decide +kernel
theorem dX3_asked_51 : decode cX3_asked 51 = .ok (.iload_n 3, 1) := by decide +kernel
theorem dX3_asked_52 : decode cX3_asked 52 = .ok (.ifCond .ne 6, 3) := by decide +kernel
theorem dX3_asked_55 : decode cX3_asked 55 = .ok (.iload 4, 2) := by decide +kernel
theorem dX3_asked_57 : decode cX3_asked 57 = .ok (.ireturn, 1) := by decide +kernel
theorem dX3_asked_58 : decode cX3_asked 58 = .ok (.aload_n 0, 1) := by decide +kernel
theorem dX3_asked_59 : decode cX3_asked 59 = .ok (.getfield 20, 3) := by decide +kernel
theorem dX3_asked_62 : decode cX3_asked 62 = .ok (.getfield 77, 3) := by decide +kernel
theorem dX3_asked_65 : decode cX3_asked 65 = .ok (.iload_n 1, 1) := by decide +kernel
theorem dX3_asked_66 : decode cX3_asked 66 = .ok (.iaload, 1) := by decide +kernel
theorem dX3_asked_67 : decode cX3_asked 67 = .ok (.aload_n 0, 1) := by decide +kernel
theorem dX3_asked_68 : decode cX3_asked 68 = .ok (.getfield 20, 3) := by decide +kernel
theorem dX3_asked_71 : decode cX3_asked 71 = .ok (.iload 4, 2) := by decide +kernel
theorem dX3_asked_73 : decode cX3_asked 73 = .ok (.invokevirtual 96, 3) := by decide +kernel
theorem dX3_asked_76 : decode cX3_asked 76 = .ok (.iadd, 1) := by decide +kernel
theorem dX3_asked_77 : decode cX3_asked 77 = .ok (.ireturn, 1) := by decide +kernel
set_option maxRecDepth 20000 in
theorem ggX3_gatherings_X2_has : GoodIn wsX3_gatherings wsX2_has := goodIn_r _ [6, 7, 32, 33, 34, 35, 36, 37] (by decide +kernel) (by decide +kernel)
set_option maxRecDepth 20000 in
theorem gX3_gatherings_X2_has : GoodIn wsX3_gatherings (wsV RX3 70 RX2 yX2_has wsX2_has) := goodIn_app (goodIn_of _ (by decide +kernel)) ggX3_gatherings_X2_has
set_option maxRecDepth 20000 in
theorem ggX3_gatherings_X2_partsBehindGatherings : GoodIn wsX3_gatherings wsX2_partsBehindGatherings := goodIn_r _ [11, 12, 7, 13, 14, 15, 16, 17, 18, 19, 5, 20, 21, 22, 23, 24, 32, 33, 34, 35, 36, 37] (by decide +kernel) (by decide +kernel)
set_option maxRecDepth 20000 in
theorem gX3_gatherings_X2_partsBehindGatherings : GoodIn wsX3_gatherings (wsV RX3 121 RX2 yX2_partsBehindGatherings wsX2_partsBehindGatherings) := goodIn_app (goodIn_of _ (by decide +kernel)) ggX3_gatherings_X2_partsBehindGatherings
theorem dX3_gatherings_0 : decode cX3_gatherings 0 = .ok (.aload_n 0, 1) := by decide +kernel
theorem dX3_gatherings_1 : decode cX3_gatherings 1 = .ok (.getfield 20, 3) := by decide +kernel
theorem dX3_gatherings_4 : decode cX3_gatherings 4 = .ok (.iload_n 1, 1) := by decide +kernel
theorem dX3_gatherings_5 : decode cX3_gatherings 5 = .ok (.invokevirtual 70, 3) := by decide +kernel
theorem dX3_gatherings_8 : decode cX3_gatherings 8 = .ok (.ifCond .ne 5, 3) := by decide +kernel
theorem dX3_gatherings_11 : decode cX3_gatherings 11 = .ok (.iconst (-1), 1) := by decide +kernel
theorem dX3_gatherings_12 : decode cX3_gatherings 12 = .ok (.ireturn, 1) := by decide +kernel
theorem dX3_gatherings_13 : decode cX3_gatherings 13 = .ok (.iload_n 2, 1) := by decide +kernel
theorem dX3_gatherings_14 : decode cX3_gatherings 14 = .ok (.ifCond .lt 10, 3) := by decide +kernel
theorem dX3_gatherings_17 : decode cX3_gatherings 17 = .ok (.iload_n 2, 1) := by decide +kernel
theorem dX3_gatherings_18 : decode cX3_gatherings 18 = .ok (.sipush 300, 3) := by decide +kernel
theorem dX3_gatherings_21 : decode cX3_gatherings 21 = .ok (.if_icmp .le 6, 3) := by decide +kernel
theorem dX3_gatherings_24 : decode cX3_gatherings 24 = .ok (.bipush (-2), 2) := by decide +kernel
theorem dX3_gatherings_26 : decode cX3_gatherings 26 = .ok (.ireturn, 1) := by decide +kernel
theorem dX3_gatherings_27 : decode cX3_gatherings 27 = .ok (.iconst 0, 1) := by decide +kernel
theorem dX3_gatherings_28 : decode cX3_gatherings 28 = .ok (.istore_n 3, 1) := by decide +kernel
theorem dX3_gatherings_29 : decode cX3_gatherings 29 = .ok (.iload_n 3, 1) := by decide +kernel
theorem dX3_gatherings_30 : decode cX3_gatherings 30 = .ok (.sipush 300, 3) := by decide +kernel
theorem dX3_gatherings_33 : decode cX3_gatherings 33 = .ok (.if_icmp .gt 24, 3) := by decide +kernel
theorem dX3_gatherings_36 : decode cX3_gatherings 36 = .ok (.aload_n 0, 1) := by decide +kernel
theorem dX3_gatherings_37 : decode cX3_gatherings 37 = .ok (.getfield 20, 3) := by decide +kernel
theorem dX3_gatherings_40 : decode cX3_gatherings 40 = .ok (.iload_n 1, 1) := by decide +kernel
theorem dX3_gatherings_41 : decode cX3_gatherings 41 = .ok (.iload_n 3, 1) := by decide +kernel
theorem dX3_gatherings_42 : decode cX3_gatherings 42 = .ok (.invokevirtual 121, 3) := by decide +kernel
theorem dX3_gatherings_45 : decode cX3_gatherings 45 = .ok (.iload_n 2, 1) := by decide +kernel
theorem dX3_gatherings_46 : decode cX3_gatherings 46 = .ok (.if_icmp .lt 5, 3) := by decide +kernel
theorem dX3_gatherings_49 : decode cX3_gatherings 49 = .ok (.iload_n 3, 1) := by decide +kernel
theorem dX3_gatherings_50 : decode cX3_gatherings 50 = .ok (.ireturn, 1) := by decide +kernel
theorem dX3_gatherings_51 : decode cX3_gatherings 51 = .ok (.iinc 3 1, 3) := by decide +kernel
theorem dX3_gatherings_54 : decode cX3_gatherings 54 = .ok (.goto (-25), 3) := by decide +kernel
theorem dX3_gatherings_57 : decode cX3_gatherings 57 = .ok (.bipush (-9), 2) := by decide +kernel
theorem dX3_gatherings_59 : decode cX3_gatherings 59 = .ok (.ireturn, 1) := by decide +kernel
set_option maxRecDepth 20000 in
theorem ggX3_level_X2_lackingUpTo : GoodIn wsX3_level wsX2_lackingUpTo := goodIn_r _ [8, 9, 10, 11, 12, 13, 14, 15, 16, 17, 7, 18, 19, 20, 21, 22, 30, 31, 32, 33, 34, 35] (by decide +kernel) (by decide +kernel)
set_option maxRecDepth 20000 in
theorem gX3_level_X2_lackingUpTo : GoodIn wsX3_level (wsV RX3 124 RX2 yX2_lackingUpTo wsX2_lackingUpTo) := goodIn_app (goodIn_of _ (by decide +kernel)) ggX3_level_X2_lackingUpTo
theorem dX3_level_0 : decode cX3_level 0 = .ok (.iload_n 1, 1) := by decide +kernel
theorem dX3_level_1 : decode cX3_level 1 = .ok (.ifCond .lt 8, 3) := by decide +kernel
theorem dX3_level_4 : decode cX3_level 4 = .ok (.iload_n 1, 1) := by decide +kernel
theorem dX3_level_5 : decode cX3_level 5 = .ok (.iconst 1, 1) := by decide +kernel
theorem dX3_level_6 : decode cX3_level 6 = .ok (.if_icmp .le 6, 3) := by decide +kernel
theorem dX3_level_9 : decode cX3_level 9 = .ok (.bipush (-2), 2) := by decide +kernel
theorem dX3_level_11 : decode cX3_level 11 = .ok (.ireturn, 1) := by decide +kernel
theorem dX3_level_12 : decode cX3_level 12 = .ok (.aload_n 0, 1) := by decide +kernel
theorem dX3_level_13 : decode cX3_level 13 = .ok (.getfield 20, 3) := by decide +kernel
theorem dX3_level_16 : decode cX3_level 16 = .ok (.getfield 93, 3) := by decide +kernel
theorem dX3_level_19 : decode cX3_level 19 = .ok (.ifCond .ne 6, 3) := by decide +kernel
theorem dX3_level_22 : decode cX3_level 22 = .ok (.bipush (-3), 2) := by decide +kernel
theorem dX3_level_24 : decode cX3_level 24 = .ok (.ireturn, 1) := by decide +kernel
theorem dX3_level_25 : decode cX3_level 25 = .ok (.iconst 0, 1) := by decide +kernel
theorem dX3_level_26 : decode cX3_level 26 = .ok (.istore_n 2, 1) := by decide +kernel
theorem dX3_level_27 : decode cX3_level 27 = .ok (.iconst 1, 1) := by decide +kernel
theorem dX3_level_28 : decode cX3_level 28 = .ok (.istore_n 3, 1) := by decide +kernel
theorem dX3_level_29 : decode cX3_level 29 = .ok (.iload_n 3, 1) := by decide +kernel
theorem dX3_level_30 : decode cX3_level 30 = .ok (.sipush 300, 3) := by decide +kernel
theorem dX3_level_33 : decode cX3_level 33 = .ok (.if_icmp .gt 29, 3) := by decide +kernel
theorem dX3_level_36 : decode cX3_level 36 = .ok (.aload_n 0, 1) := by decide +kernel
theorem dX3_level_37 : decode cX3_level 37 = .ok (.getfield 20, 3) := by decide +kernel
theorem dX3_level_40 : decode cX3_level 40 = .ok (.iload_n 3, 1) := by decide +kernel
theorem dX3_level_41 : decode cX3_level 41 = .ok (.invokevirtual 124, 3) := by decide +kernel
theorem dX3_level_44 : decode cX3_level 44 = .ok (.aload_n 0, 1) := by decide +kernel
theorem dX3_level_45 : decode cX3_level 45 = .ok (.getfield 20, 3) := by decide +kernel
theorem dX3_level_48 : decode cX3_level 48 = .ok (.getfield 103, 3) := by decide +kernel
theorem dX3_level_51 : decode cX3_level 51 = .ok (.if_icmp .gt 11, 3) := by decide +kernel
theorem dX3_level_54 : decode cX3_level 54 = .ok (.iload_n 3, 1) := by decide +kernel
theorem dX3_level_55 : decode cX3_level 55 = .ok (.istore_n 2, 1) := by decide +kernel
theorem dX3_level_56 : decode cX3_level 56 = .ok (.iinc 3 1, 3) := by decide +kernel
theorem dX3_level_59 : decode cX3_level 59 = .ok (.goto (-30), 3) := by decide +kernel
theorem dX3_level_62 : decode cX3_level 62 = .ok (.iload_n 1, 1) := by decide +kernel
theorem dX3_level_63 : decode cX3_level 63 = .ok (.ifCond .ne 7, 3) := by decide +kernel
theorem dX3_level_66 : decode cX3_level 66 = .ok (.iload_n 2, 1) := by decide +kernel
theorem dX3_level_67 : decode cX3_level 67 = .ok (.goto 19, 3) := by decide +kernel
theorem dX3_level_70 : decode cX3_level 70 = .ok (.aload_n 0, 1) := by decide +kernel
theorem dX3_level_71 : decode cX3_level 71 = .ok (.getfield 20, 3) := by decide +kernel
theorem dX3_level_74 : decode cX3_level 74 = .ok (.getfield 103, 3) := by decide +kernel
theorem dX3_level_77 : decode cX3_level 77 = .ok (.aload_n 0, 1) := by decide +kernel
theorem dX3_level_78 : decode cX3_level 78 = .ok (.getfield 20, 3) := by decide +kernel
theorem dX3_level_81 : decode cX3_level 81 = .ok (.iload_n 2, 1) := by decide +kernel
theorem dX3_level_82 : decode cX3_level 82 = .ok (.invokevirtual 124, 3) := by decide +kernel
theorem dX3_level_85 : decode cX3_level 85 = .ok (.isub, 1) := by decide +kernel
theorem dX3_level_86 : decode cX3_level 86 = .ok (.ireturn, 1) := by decide +kernel
set_option maxRecDepth 20000 in
theorem ggX3_were_X2_has : GoodIn wsX3_were wsX2_has := goodIn_r _ [6, 7, 39, 40, 41, 42, 43, 44] (by decide +kernel) (by decide +kernel)
set_option maxRecDepth 20000 in
theorem gX3_were_X2_has : GoodIn wsX3_were (wsV RX3 70 RX2 yX2_has wsX2_has) := goodIn_app (goodIn_of _ (by decide +kernel)) ggX3_were_X2_has
set_option maxRecDepth 20000 in
theorem ggX3_were_X2_allSets : GoodIn wsX3_were wsX2_allSets := goodIn_r _ [11, 7, 39, 40, 41, 42, 43, 44] (by decide +kernel) (by decide +kernel)
set_option maxRecDepth 20000 in
theorem gX3_were_X2_allSets : GoodIn wsX3_were (wsV RX3 127 RX2 yX2_allSets wsX2_allSets) := goodIn_app (goodIn_of _ (by decide +kernel)) ggX3_were_X2_allSets
set_option maxRecDepth 20000 in
theorem ggX3_were_X3_isMember : GoodIn wsX3_were wsX3_isMember := goodIn_r _ [15] (by decide +kernel) (by decide +kernel)
set_option maxRecDepth 20000 in
theorem gX3_were_X3_isMember : GoodIn wsX3_were (va_wsS RX3 130 yX3_isMember wsX3_isMember) := goodIn_app (goodIn_of _ (by decide +kernel)) ggX3_were_X3_isMember
set_option maxRecDepth 20000 in
theorem ggX3_were_X2_partsBehindDay : GoodIn wsX3_were wsX2_partsBehindDay := goodIn_r _ [19, 20, 21, 22, 23, 24, 25, 26, 27, 28, 29, 30, 5, 31, 7, 13, 14, 15, 39, 40, 41, 42, 43, 44] (by decide +kernel) (by decide +kernel)
set_option maxRecDepth 20000 in
theorem gX3_were_X2_partsBehindDay : GoodIn wsX3_were (wsV RX3 134 RX2 yX2_partsBehindDay wsX2_partsBehindDay) := goodIn_app (goodIn_of _ (by decide +kernel)) ggX3_were_X2_partsBehindDay
theorem dX3_were_0 : decode cX3_were 0 = .ok (.aload_n 0, 1) := by decide +kernel
theorem dX3_were_1 : decode cX3_were 1 = .ok (.getfield 20, 3) := by decide +kernel
theorem dX3_were_4 : decode cX3_were 4 = .ok (.iload_n 1, 1) := by decide +kernel
theorem dX3_were_5 : decode cX3_were 5 = .ok (.invokevirtual 70, 3) := by decide +kernel
theorem dX3_were_8 : decode cX3_were 8 = .ok (.ifCond .ne 5, 3) := by decide +kernel
theorem dX3_were_11 : decode cX3_were 11 = .ok (.iconst (-1), 1) := by decide +kernel
theorem dX3_were_12 : decode cX3_were 12 = .ok (.ireturn, 1) := by decide +kernel
theorem dX3_were_13 : decode cX3_were 13 = .ok (.iload_n 2, 1) := by decide +kernel
theorem dX3_were_14 : decode cX3_were 14 = .ok (.ifCond .lt 19, 3) := by decide +kernel
theorem dX3_were_17 : decode cX3_were 17 = .ok (.iload_n 2, 1) := by decide +kernel
theorem dX3_were_18 : decode cX3_were 18 = .ok (.sipush 300, 3) := by decide +kernel
theorem dX3_were_21 : decode cX3_were 21 = .ok (.if_icmp .gt 12, 3) := by decide +kernel
theorem dX3_were_24 : decode cX3_were 24 = .ok (.iload_n 3, 1) := by decide +kernel
theorem dX3_were_25 : decode cX3_were 25 = .ok (.ifCond .lt 8, 3) := by decide +kernel
theorem dX3_were_28 : decode cX3_were 28 = .ok (.iload_n 3, 1) := by decide +kernel
theorem dX3_were_29 : decode cX3_were 29 = .ok (.iconst 2, 1) := by decide +kernel
theorem dX3_were_30 : decode cX3_were 30 = .ok (.if_icmp .le 6, 3) := by decide +kernel
theorem dX3_were_33 : decode cX3_were 33 = .ok (.bipush (-2), 2) := by decide +kernel
theorem dX3_were_35 : decode cX3_were 35 = .ok (.ireturn, 1) := by decide +kernel
theorem dX3_were_36 : decode cX3_were 36 = .ok (.iconst 0, 1) := by decide +kernel
theorem dX3_were_37 : decode cX3_were 37 = .ok (.istore 4, 2) := by decide +kernel
theorem dX3_were_39 : decode cX3_were 39 = .ok (.bipush (-9), 2) := by decide +kernel
theorem dX3_were_41 : decode cX3_were 41 = .ok (.istore 5, 2) := by decide +kernel
theorem dX3_were_43 : decode cX3_were 43 = .ok (.bipush (-9), 2) := by decide +kernel
theorem dX3_were_45 : decode cX3_were 45 = .ok (.istore 6, 2) := by decide +kernel
theorem dX3_were_47 : decode cX3_were 47 = .ok (.iconst 0, 1) := by decide +kernel
theorem dX3_were_48 : decode cX3_were 48 = .ok (.istore 7, 2) := by decide +kernel
theorem dX3_were_50 : decode cX3_were 50 = .ok (.iload 7, 2) := by decide +kernel
theorem dX3_were_52 : decode cX3_were 52 = .ok (.aload_n 0, 1) := by decide +kernel
theorem dX3_were_53 : decode cX3_were 53 = .ok (.getfield 20, 3) := by decide +kernel
theorem dX3_were_56 : decode cX3_were 56 = .ok (.invokevirtual 127, 3) := by decide +kernel
theorem dX3_were_59 : decode cX3_were 59 = .ok (.if_icmp .ge 66, 3) := by decide +kernel
theorem dX3_were_62 : decode cX3_were 62 = .ok (.iload 7, 2) := by decide +kernel
theorem dX3_were_64 : decode cX3_were 64 = .ok (.iload_n 1, 1) := by decide +kernel
theorem dX3_were_65 : decode cX3_were 65 = .ok (.invokestatic 130, 3) := by decide +kernel
theorem dX3_were_68 : decode cX3_were 68 = .ok (.ifCond .eq 51, 3) := by decide +kernel
theorem dX3_were_71 : decode cX3_were 71 = .ok (.aload_n 0, 1) := by decide +kernel
theorem dX3_were_72 : decode cX3_were 72 = .ok (.getfield 20, 3) := by decide +kernel
theorem dX3_were_75 : decode cX3_were 75 = .ok (.iload 7, 2) := by decide +kernel
theorem dX3_were_77 : decode cX3_were 77 = .ok (.iload_n 1, 1) := by decide +kernel
theorem dX3_were_78 : decode cX3_were 78 = .ok (.invokevirtual 134, 3) := by decide +kernel
theorem dX3_were_81 : decode cX3_were 81 = .ok (.iload_n 2, 1) := by decide +kernel
theorem dX3_were_82 : decode cX3_were 82 = .ok (.if_icmp .ne 37, 3) := by decide +kernel
theorem dX3_were_85 : decode cX3_were 85 = .ok (.iload 4, 2) := by decide +kernel
theorem dX3_were_87 : decode cX3_were 87 = .ok (.ifCond .ne 8, 3) := by decide +kernel
theorem dX3_were_90 : decode cX3_were 90 = .ok (.iload 7, 2) := by decide +kernel
theorem dX3_were_92 : decode cX3_were 92 = .ok (.goto 5, 3) := by decide +kernel
theorem dX3_were_95 : decode cX3_were 95 = .ok (.iload 5, 2) := by decide +kernel
theorem dX3_were_97 : decode cX3_were 97 = .ok (.istore 5, 2) := by decide +kernel
theorem dX3_were_99 : decode cX3_were 99 = .ok (.iload 4, 2) := by decide +kernel
theorem dX3_were_101 : decode cX3_were 101 = .ok (.ifCond .ne 8, 3) := by decide +kernel
theorem dX3_were_104 : decode cX3_were 104 = .ok (.iload 7, 2) := by decide +kernel
theorem dX3_were_106 : decode cX3_were 106 = .ok (.goto 8, 3) := by decide +kernel
theorem dX3_were_109 : decode cX3_were 109 = .ok (.iload 6, 2) := by decide +kernel
theorem dX3_were_111 : decode cX3_were 111 = .ok (.iload 7, 2) := by decide +kernel
theorem dX3_were_113 : decode cX3_were 113 = .ok (.iand, 1) := by decide +kernel
theorem dX3_were_114 : decode cX3_were 114 = .ok (.istore 6, 2) := by decide +kernel
theorem dX3_were_116 : decode cX3_were 116 = .ok (.iinc 4 1, 3) := by decide +kernel
theorem dX3_were_119 : decode cX3_were 119 = .ok (.iinc 7 1, 3) := by decide +kernel
theorem dX3_were_122 : decode cX3_were 122 = .ok (.goto (-72), 3) := by decide +kernel
theorem dX3_were_125 : decode cX3_were 125 = .ok (.iload_n 3, 1) := by decide +kernel
theorem dX3_were_126 : decode cX3_were 126 = .ok (.ifCond .ne 6, 3) := by decide +kernel
theorem dX3_were_129 : decode cX3_were 129 = .ok (.iload 4, 2) := by decide +kernel
theorem dX3_were_131 : decode cX3_were 131 = .ok (.ireturn, 1) := by decide +kernel
theorem dX3_were_132 : decode cX3_were 132 = .ok (.iload_n 3, 1) := by decide +kernel
theorem dX3_were_133 : decode cX3_were 133 = .ok (.iconst 1, 1) := by decide +kernel
theorem dX3_were_134 : decode cX3_were 134 = .ok (.if_icmp .ne 8, 3) := by decide +kernel
theorem dX3_were_137 : decode cX3_were 137 = .ok (.iload 5, 2) := by decide +kernel
theorem dX3_were_139 : decode cX3_were 139 = .ok (.goto 5, 3) := by decide +kernel
theorem dX3_were_142 : decode cX3_were 142 = .ok (.iload 6, 2) := by decide +kernel
theorem dX3_were_144 : decode cX3_were 144 = .ok (.ireturn, 1) := by decide +kernel
theorem dX3_rounds_0 : decode cX3_rounds 0 = .ok (.iload_n 1, 1) := by decide +kernel
theorem dX3_rounds_1 : decode cX3_rounds 1 = .ok (.iconst 1, 1) := by decide +kernel
theorem dX3_rounds_2 : decode cX3_rounds 2 = .ok (.if_icmp .lt 18, 3) := by decide +kernel
theorem dX3_rounds_5 : decode cX3_rounds 5 = .ok (.iload_n 1, 1) := by decide +kernel
theorem dX3_rounds_6 : decode cX3_rounds 6 = .ok (.bipush 9, 2) := by decide +kernel
theorem dX3_rounds_8 : decode cX3_rounds 8 = .ok (.if_icmp .gt 12, 3) := by decide +kernel
theorem dX3_rounds_11 : decode cX3_rounds 11 = .ok (.iload_n 2, 1) := by decide +kernel
theorem dX3_rounds_12 : decode cX3_rounds 12 = .ok (.ifCond .lt 8, 3) := by decide +kernel
theorem dX3_rounds_15 : decode cX3_rounds 15 = .ok (.iload_n 2, 1) := by decide +kernel
theorem dX3_rounds_16 : decode cX3_rounds 16 = .ok (.iconst 1, 1) := by decide +kernel
theorem dX3_rounds_17 : decode cX3_rounds 17 = .ok (.if_icmp .le 6, 3) := by decide +kernel
theorem dX3_rounds_20 : decode cX3_rounds 20 = .ok (.bipush (-2), 2) := by decide +kernel
theorem dX3_rounds_22 : decode cX3_rounds 22 = .ok (.ireturn, 1) := by decide +kernel
theorem dX3_rounds_23 : decode cX3_rounds 23 = .ok (.aload_n 0, 1) := by decide +kernel
theorem dX3_rounds_24 : decode cX3_rounds 24 = .ok (.getfield 20, 3) := by decide +kernel
theorem dX3_rounds_27 : decode cX3_rounds 27 = .ok (.getfield 69, 3) := by decide +kernel
theorem dX3_rounds_30 : decode cX3_rounds 30 = .ok (.ifCond .ne 6, 3) := by decide +kernel
theorem dX3_rounds_33 : decode cX3_rounds 33 = .ok (.bipush (-3), 2) := by decide +kernel
theorem dX3_rounds_35 : decode cX3_rounds 35 = .ok (.ireturn, 1) := by decide +kernel
theorem dX3_rounds_36 : decode cX3_rounds 36 = .ok (.aload_n 0, 1) := by decide +kernel
theorem dX3_rounds_37 : decode cX3_rounds 37 = .ok (.getfield 20, 3) := by decide +kernel
theorem dX3_rounds_40 : decode cX3_rounds 40 = .ok (.getfield 103, 3) := by decide +kernel
theorem dX3_rounds_43 : decode cX3_rounds 43 = .ok (.iload_n 1, 1) := by decide +kernel
theorem dX3_rounds_44 : decode cX3_rounds 44 = .ok (.iconst 1, 1) := by decide +kernel
theorem dX3_rounds_45 : decode cX3_rounds 45 = .ok (.iadd, 1) := by decide +kernel
theorem dX3_rounds_46 : decode cX3_rounds 46 = .ok (.irem, 1) := by decide +kernel
theorem dX3_rounds_47 : decode cX3_rounds 47 = .ok (.istore_n 3, 1) := by decide +kernel
theorem dX3_rounds_48 : decode cX3_rounds 48 = .ok (.iload_n 2, 1) := by decide +kernel
theorem dX3_rounds_49 : decode cX3_rounds 49 = .ok (.ifCond .ne 13, 3) := by decide +kernel
theorem dX3_rounds_52 : decode cX3_rounds 52 = .ok (.iload_n 3, 1) := by decide +kernel
theorem dX3_rounds_53 : decode cX3_rounds 53 = .ok (.ifCond .ne 7, 3) := by decide +kernel
theorem dX3_rounds_56 : decode cX3_rounds 56 = .ok (.iconst 0, 1) := by decide +kernel
theorem dX3_rounds_57 : decode cX3_rounds 57 = .ok (.goto 4, 3) := by decide +kernel
theorem dX3_rounds_60 : decode cX3_rounds 60 = .ok (.iconst 1, 1) := by decide +kernel
theorem dX3_rounds_61 : decode cX3_rounds 61 = .ok (.ireturn, 1) := by decide +kernel
theorem dX3_rounds_62 : decode cX3_rounds 62 = .ok (.iload_n 3, 1) := by decide +kernel
theorem dX3_rounds_63 : decode cX3_rounds 63 = .ok (.ifCond .ne 8, 3) := by decide +kernel
theorem dX3_rounds_66 : decode cX3_rounds 66 = .ok (.bipush (-9), 2) := by decide +kernel
theorem dX3_rounds_68 : decode cX3_rounds 68 = .ok (.goto 4, 3) := by decide +kernel
theorem dX3_rounds_71 : decode cX3_rounds 71 = .ok (.iload_n 3, 1) := by decide +kernel
theorem dX3_rounds_72 : decode cX3_rounds 72 = .ok (.ireturn, 1) := by decide +kernel
set_option maxRecDepth 20000 in
theorem ggX3_worth_X2_has : GoodIn wsX3_worth wsX2_has := goodIn_r _ [8, 9, 56, 57, 58, 59, 60, 61] (by decide +kernel) (by decide +kernel)
set_option maxRecDepth 20000 in
theorem gX3_worth_X2_has : GoodIn wsX3_worth (wsV RX3 70 RX2 yX2_has wsX2_has) := goodIn_app (goodIn_of _ (by decide +kernel)) ggX3_worth_X2_has
set_option maxRecDepth 20000 in
theorem ggX3_worth_X3_isHalfOfShare : GoodIn wsX3_worth wsX3_isHalfOfShare := goodIn_r _ [13] (by decide +kernel) (by decide +kernel)
set_option maxRecDepth 20000 in
theorem gX3_worth_X3_isHalfOfShare : GoodIn wsX3_worth (va_wsS RX3 137 yX3_isHalfOfShare wsX3_isHalfOfShare) := goodIn_app (goodIn_of _ (by decide +kernel)) ggX3_worth_X3_isHalfOfShare
set_option maxRecDepth 20000 in
theorem ggX3_worth_X2_isIn : GoodIn wsX3_worth wsX2_isIn := goodIn_r _ [17, 18, 19, 12, 20, 56, 57, 58, 59, 60, 61] (by decide +kernel) (by decide +kernel)
set_option maxRecDepth 20000 in
theorem gX3_worth_X2_isIn : GoodIn wsX3_worth (wsV RX3 83 RX2 yX2_isIn wsX2_isIn) := goodIn_app (goodIn_of _ (by decide +kernel)) ggX3_worth_X2_isIn
set_option maxRecDepth 20000 in
theorem ggX3_worth_X3_ordersDecidedBy : GoodIn wsX3_worth wsX3_ordersDecidedBy := goodIn_r _ [24, 1, 3, 25, 26, 27, 28, 7, 29, 9, 30, 19, 12, 20, 31, 32, 33, 34, 35, 36, 37, 38, 39, 40, 41, 42, 43, 44, 45, 49, 50, 51, 52, 53, 54, 55, 56, 57, 58, 59, 60, 61] (by decide +kernel) (by decide +kernel)
set_option maxRecDepth 20000 in
theorem gX3_worth_X3_ordersDecidedBy : GoodIn wsX3_worth (wsV RX3 142 RX3 yX3_ordersDecidedBy wsX3_ordersDecidedBy) := goodIn_app (goodIn_of _ (by decide +kernel)) ggX3_worth_X3_ordersDecidedBy
set_option maxRecDepth 20000 in
theorem ggX3_worth_X3_ordersOf : GoodIn wsX3_worth wsX3_ordersOf := goodIn_r _ [37, 38, 39, 40, 41, 42, 43, 44, 45] (by decide +kernel) (by decide +kernel)
set_option maxRecDepth 20000 in
theorem gX3_worth_X3_ordersOf : GoodIn wsX3_worth (va_wsS RX3 145 yX3_ordersOf wsX3_ordersOf) := goodIn_app (goodIn_of _ (by decide +kernel)) ggX3_worth_X3_ordersOf
set_option maxRecDepth 20000 in
theorem ggX3_worth_X3_shareOf : GoodIn wsX3_worth wsX3_shareOf := goodIn_r _ [48, 2] (by decide +kernel) (by decide +kernel)
set_option maxRecDepth 20000 in
theorem gX3_worth_X3_shareOf : GoodIn wsX3_worth (va_wsS RX3 148 yX3_shareOf wsX3_shareOf) := goodIn_app (goodIn_of _ (by decide +kernel)) ggX3_worth_X3_shareOf
theorem dX3_worth_0 : decode cX3_worth 0 = .ok (.aload_n 0, 1) := by decide +kernel
theorem dX3_worth_1 : decode cX3_worth 1 = .ok (.getfield 20, 3) := by decide +kernel
theorem dX3_worth_4 : decode cX3_worth 4 = .ok (.iload_n 1, 1) := by decide +kernel
theorem dX3_worth_5 : decode cX3_worth 5 = .ok (.invokevirtual 70, 3) := by decide +kernel
theorem dX3_worth_8 : decode cX3_worth 8 = .ok (.ifCond .eq 21, 3) := by decide +kernel
theorem dX3_worth_11 : decode cX3_worth 11 = .ok (.iload_n 2, 1) := by decide +kernel
theorem dX3_worth_12 : decode cX3_worth 12 = .ok (.invokestatic 137, 3) := by decide +kernel
theorem dX3_worth_15 : decode cX3_worth 15 = .ok (.ifCond .eq 14, 3) := by decide +kernel
theorem dX3_worth_18 : decode cX3_worth 18 = .ok (.aload_n 0, 1) := by decide +kernel
theorem dX3_worth_19 : decode cX3_worth 19 = .ok (.getfield 20, 3) := by decide +kernel
theorem dX3_worth_22 : decode cX3_worth 22 = .ok (.iload_n 1, 1) := by decide +kernel
theorem dX3_worth_23 : decode cX3_worth 23 = .ok (.invokevirtual 83, 3) := by decide +kernel
theorem dX3_worth_26 : decode cX3_worth 26 = .ok (.ifCond .ne 7, 3) := by decide +kernel
theorem dX3_worth_29 : decode cX3_worth 29 = .ok (.ldc2_w 140, 3) := by decide +kernel
theorem dX3_worth_32 : decode cX3_worth 32 = .ok (.lreturn, 1) := by decide +kernel
theorem dX3_worth_33 : decode cX3_worth 33 = .ok (.aload_n 0, 1) := by decide +kernel
theorem dX3_worth_34 : decode cX3_worth 34 = .ok (.iload_n 1, 1) := by decide +kernel
theorem dX3_worth_35 : decode cX3_worth 35 = .ok (.invokevirtual 142, 3) := by decide +kernel
theorem dX3_worth_38 : decode cX3_worth 38 = .ok (.aload_n 0, 1) := by decide +kernel
theorem dX3_worth_39 : decode cX3_worth 39 = .ok (.getfield 20, 3) := by decide +kernel
theorem dX3_worth_42 : decode cX3_worth 42 = .ok (.getfield 93, 3) := by decide +kernel
theorem dX3_worth_45 : decode cX3_worth 45 = .ok (.invokestatic 145, 3) := by decide +kernel
theorem dX3_worth_48 : decode cX3_worth 48 = .ok (.iload_n 2, 1) := by decide +kernel
theorem dX3_worth_49 : decode cX3_worth 49 = .ok (.invokestatic 148, 3) := by decide +kernel
theorem dX3_worth_52 : decode cX3_worth 52 = .ok (.lreturn, 1) := by decide +kernel
set_option maxRecDepth 20000 in
theorem ggX3_mean_X3_isHalfOfShare : GoodIn wsX3_mean wsX3_isHalfOfShare := goodIn_r _ [7] (by decide +kernel) (by decide +kernel)
set_option maxRecDepth 20000 in
theorem gX3_mean_X3_isHalfOfShare : GoodIn wsX3_mean (va_wsS RX3 137 yX3_isHalfOfShare wsX3_isHalfOfShare) := goodIn_app (goodIn_of _ (by decide +kernel)) ggX3_mean_X3_isHalfOfShare
set_option maxRecDepth 20000 in
theorem ggX3_mean_X2_partsOf : GoodIn wsX3_mean wsX2_partsOf := goodIn_r _ [12, 13, 14, 15, 6, 16, 39, 40, 41, 42, 43, 44] (by decide +kernel) (by decide +kernel)
set_option maxRecDepth 20000 in
theorem gX3_mean_X2_partsOf : GoodIn wsX3_mean (wsV RX3 96 RX2 yX2_partsOf wsX2_partsOf) := goodIn_app (goodIn_of _ (by decide +kernel)) ggX3_mean_X2_partsOf
set_option maxRecDepth 20000 in
theorem ggX3_mean_X2_heads : GoodIn wsX3_mean wsX2_heads := goodIn_r _ [20, 21, 22, 23, 24, 25, 26, 27, 28, 39, 40, 41, 42, 43, 44] (by decide +kernel) (by decide +kernel)
set_option maxRecDepth 20000 in
theorem gX3_mean_X2_heads : GoodIn wsX3_mean (wsV RX3 152 RX2 yX2_heads wsX2_heads) := goodIn_app (goodIn_of _ (by decide +kernel)) ggX3_mean_X2_heads
set_option maxRecDepth 20000 in
theorem ggX3_mean_X3_shareOf : GoodIn wsX3_mean wsX3_shareOf := goodIn_r _ [31, 3] (by decide +kernel) (by decide +kernel)
set_option maxRecDepth 20000 in
theorem gX3_mean_X3_shareOf : GoodIn wsX3_mean (va_wsS RX3 148 yX3_shareOf wsX3_shareOf) := goodIn_app (goodIn_of _ (by decide +kernel)) ggX3_mean_X3_shareOf
theorem dX3_mean_0 : decode cX3_mean 0 = .ok (.iload_n 1, 1) := by decide +kernel
theorem dX3_mean_1 : decode cX3_mean 1 = .ok (.invokestatic 137, 3) := by decide +kernel
theorem dX3_mean_4 : decode cX3_mean 4 = .ok (.ifCond .eq 13, 3) := by decide +kernel
theorem dX3_mean_7 : decode cX3_mean 7 = .ok (.aload_n 0, 1) := by decide +kernel
theorem dX3_mean_8 : decode cX3_mean 8 = .ok (.getfield 20, 3) := by decide +kernel
theorem dX3_mean_11 : decode cX3_mean 11 = .ok (.getfield 93, 3) := by decide +kernel
theorem dX3_mean_14 : decode cX3_mean 14 = .ok (.ifCond .ne 7, 3) := by decide +kernel
theorem dX3_mean_17 : decode cX3_mean 17 = .ok (.ldc2_w 140, 3) := by decide +kernel
theorem dX3_mean_20 : decode cX3_mean 20 = .ok (.lreturn, 1) := by decide +kernel
theorem dX3_mean_21 : decode cX3_mean 21 = .ok (.aload_n 0, 1) := by decide +kernel
theorem dX3_mean_22 : decode cX3_mean 22 = .ok (.getfield 20, 3) := by decide +kernel
theorem dX3_mean_25 : decode cX3_mean 25 = .ok (.aload_n 0, 1) := by decide +kernel
theorem dX3_mean_26 : decode cX3_mean 26 = .ok (.getfield 20, 3) := by decide +kernel
theorem dX3_mean_29 : decode cX3_mean 29 = .ok (.getfield 93, 3) := by decide +kernel
theorem dX3_mean_32 : decode cX3_mean 32 = .ok (.invokevirtual 96, 3) := by decide +kernel
theorem dX3_mean_35 : decode cX3_mean 35 = .ok (.aload_n 0, 1) := by decide +kernel
theorem dX3_mean_36 : decode cX3_mean 36 = .ok (.getfield 20, 3) := by decide +kernel
theorem dX3_mean_39 : decode cX3_mean 39 = .ok (.invokevirtual 152, 3) := by decide +kernel
theorem dX3_mean_42 : decode cX3_mean 42 = .ok (.iload_n 1, 1) := by decide +kernel
theorem dX3_mean_43 : decode cX3_mean 43 = .ok (.invokestatic 148, 3) := by decide +kernel
theorem dX3_mean_46 : decode cX3_mean 46 = .ok (.lreturn, 1) := by decide +kernel
set_option maxRecDepth 20000 in
theorem ggX3_reading_X2_has : GoodIn wsX3_reading wsX2_has := goodIn_r _ [8, 9, 30, 31, 32, 33, 34, 35] (by decide +kernel) (by decide +kernel)
set_option maxRecDepth 20000 in
theorem gX3_reading_X2_has : GoodIn wsX3_reading (wsV RX3 70 RX2 yX2_has wsX2_has) := goodIn_app (goodIn_of _ (by decide +kernel)) ggX3_reading_X2_has
set_option maxRecDepth 20000 in
theorem ggX3_reading_X0_take : GoodIn wsX3_reading wsX0_take := goodIn_r _ [14, 15, 16, 17, 18, 26, 27, 28, 29] (by decide +kernel) (by decide +kernel)
set_option maxRecDepth 20000 in
theorem gX3_reading_X0_take : GoodIn wsX3_reading (wsV RX3 155 RX0 yX0_take wsX0_take) := goodIn_app (goodIn_of _ (by decide +kernel)) ggX3_reading_X0_take
theorem dX3_reading_0 : decode cX3_reading 0 = .ok (.aload_n 0, 1) := by decide +kernel
theorem dX3_reading_1 : decode cX3_reading 1 = .ok (.getfield 20, 3) := by decide +kernel
theorem dX3_reading_4 : decode cX3_reading 4 = .ok (.iload_n 1, 1) := by decide +kernel
theorem dX3_reading_5 : decode cX3_reading 5 = .ok (.invokevirtual 70, 3) := by decide +kernel
theorem dX3_reading_8 : decode cX3_reading 8 = .ok (.ifCond .ne 5, 3) := by decide +kernel
theorem dX3_reading_11 : decode cX3_reading 11 = .ok (.iconst (-1), 1) := by decide +kernel
theorem dX3_reading_12 : decode cX3_reading 12 = .ok (.ireturn, 1) := by decide +kernel
theorem dX3_reading_13 : decode cX3_reading 13 = .ok (.iload_n 2, 1) := by decide +kernel
theorem dX3_reading_14 : decode cX3_reading 14 = .ok (.ifCond .lt 21, 3) := by decide +kernel
theorem dX3_reading_17 : decode cX3_reading 17 = .ok (.iload_n 2, 1) := by decide +kernel
theorem dX3_reading_18 : decode cX3_reading 18 = .ok (.sipush 300, 3) := by decide +kernel
theorem dX3_reading_21 : decode cX3_reading 21 = .ok (.if_icmp .gt 14, 3) := by decide +kernel
theorem dX3_reading_24 : decode cX3_reading 24 = .ok (.iload_n 3, 1) := by decide +kernel
theorem dX3_reading_25 : decode cX3_reading 25 = .ok (.ifCond .lt 10, 3) := by decide +kernel
theorem dX3_reading_28 : decode cX3_reading 28 = .ok (.iload_n 3, 1) := by decide +kernel
theorem dX3_reading_29 : decode cX3_reading 29 = .ok (.sipush 600, 3) := by decide +kernel
theorem dX3_reading_32 : decode cX3_reading 32 = .ok (.if_icmp .le 6, 3) := by decide +kernel
theorem dX3_reading_35 : decode cX3_reading 35 = .ok (.bipush (-2), 2) := by decide +kernel
theorem dX3_reading_37 : decode cX3_reading 37 = .ok (.ireturn, 1) := by decide +kernel
theorem dX3_reading_38 : decode cX3_reading 38 = .ok (.aload_n 0, 1) := by decide +kernel
theorem dX3_reading_39 : decode cX3_reading 39 = .ok (.getfield 30, 3) := by decide +kernel
theorem dX3_reading_42 : decode cX3_reading 42 = .ok (.getfield 63, 3) := by decide +kernel
theorem dX3_reading_45 : decode cX3_reading 45 = .ok (.bipush 8, 2) := by decide +kernel
theorem dX3_reading_47 : decode cX3_reading 47 = .ok (.if_icmp .lt 6, 3) := by decide +kernel
theorem dX3_reading_50 : decode cX3_reading 50 = .ok (.bipush (-4), 2) := by decide +kernel
theorem dX3_reading_52 : decode cX3_reading 52 = .ok (.ireturn, 1) := by decide +kernel
theorem dX3_reading_53 : decode cX3_reading 53 = .ok (.aload_n 0, 1) := by decide +kernel
theorem dX3_reading_54 : decode cX3_reading 54 = .ok (.getfield 30, 3) := by decide +kernel
theorem dX3_reading_57 : decode cX3_reading 57 = .ok (.iload_n 1, 1) := by decide +kernel
theorem dX3_reading_58 : decode cX3_reading 58 = .ok (.iload_n 2, 1) := by decide +kernel
theorem dX3_reading_59 : decode cX3_reading 59 = .ok (.iload_n 3, 1) := by decide +kernel
theorem dX3_reading_60 : decode cX3_reading 60 = .ok (.invokevirtual 155, 3) := by decide +kernel
theorem dX3_reading_63 : decode cX3_reading 63 = .ok (.ireturn, 1) := by decide +kernel
theorem dX3_back_0 : decode cX3_back 0 = .ok (.iload_n 1, 1) := by decide +kernel
theorem dX3_back_1 : decode cX3_back 1 = .ok (.ifCond .lt 14, 3) := by decide +kernel
theorem dX3_back_4 : decode cX3_back 4 = .ok (.iload_n 1, 1) := by decide +kernel
theorem dX3_back_5 : decode cX3_back 5 = .ok (.aload_n 0, 1) := by decide +kernel
theorem dX3_back_6 : decode cX3_back 6 = .ok (.getfield 30, 3) := by decide +kernel
theorem dX3_back_9 : decode cX3_back 9 = .ok (.getfield 63, 3) := by decide +kernel
theorem dX3_back_12 : decode cX3_back 12 = .ok (.if_icmp .le 6, 3) := by decide +kernel
theorem dX3_back_15 : decode cX3_back 15 = .ok (.bipush (-2), 2) := by decide +kernel
theorem dX3_back_17 : decode cX3_back 17 = .ok (.ireturn, 1) := by decide +kernel
theorem dX3_back_18 : decode cX3_back 18 = .ok (.aload_n 0, 1) := by decide +kernel
theorem dX3_back_19 : decode cX3_back 19 = .ok (.getfield 30, 3) := by decide +kernel
theorem dX3_back_22 : decode cX3_back 22 = .ok (.dup, 1) := by decide +kernel
theorem dX3_back_23 : decode cX3_back 23 = .ok (.getfield 63, 3) := by decide +kernel
theorem dX3_back_26 : decode cX3_back 26 = .ok (.iload_n 1, 1) := by decide +kernel
theorem dX3_back_27 : decode cX3_back 27 = .ok (.isub, 1) := by decide +kernel
theorem dX3_back_28 : decode cX3_back 28 = .ok (.putfield 63, 3) := by decide +kernel
theorem dX3_back_31 : decode cX3_back 31 = .ok (.aload_n 0, 1) := by decide +kernel
theorem dX3_back_32 : decode cX3_back 32 = .ok (.getfield 30, 3) := by decide +kernel
theorem dX3_back_35 : decode cX3_back 35 = .ok (.getfield 63, 3) := by decide +kernel
theorem dX3_back_38 : decode cX3_back 38 = .ok (.ireturn, 1) := by decide +kernel
set_option maxRecDepth 20000 in
theorem ggX3_ears_X2_has : GoodIn wsX3_ears wsX2_has := goodIn_r _ [8, 9, 35, 36, 37, 38, 39, 40] (by decide +kernel) (by decide +kernel)
set_option maxRecDepth 20000 in
theorem gX3_ears_X2_has : GoodIn wsX3_ears (wsV RX3 70 RX2 yX2_has wsX2_has) := goodIn_app (goodIn_of _ (by decide +kernel)) ggX3_ears_X2_has
set_option maxRecDepth 20000 in
theorem ggX3_ears_X0_areSo : GoodIn wsX3_ears wsX0_areSo := goodIn_r _ [14, 15, 16, 17, 18, 19, 20, 21, 22, 23, 24, 25, 26, 27, 41, 42, 43, 44, 35, 36, 37, 38, 39, 40] (by decide +kernel) (by decide +kernel)
set_option maxRecDepth 20000 in
theorem gX3_ears_X0_areSo : GoodIn wsX3_ears (wsV RX3 158 RX0 yX0_areSo wsX0_areSo) := goodIn_app (goodIn_of _ (by decide +kernel)) ggX3_ears_X0_areSo
theorem dX3_ears_0 : decode cX3_ears 0 = .ok (.aload_n 0, 1) := by decide +kernel
theorem dX3_ears_1 : decode cX3_ears 1 = .ok (.getfield 20, 3) := by decide +kernel
theorem dX3_ears_4 : decode cX3_ears 4 = .ok (.iload_n 1, 1) := by decide +kernel
theorem dX3_ears_5 : decode cX3_ears 5 = .ok (.invokevirtual 70, 3) := by decide +kernel
theorem dX3_ears_8 : decode cX3_ears 8 = .ok (.ifCond .ne 5, 3) := by decide +kernel
theorem dX3_ears_11 : decode cX3_ears 11 = .ok (.iconst (-1), 1) := by decide +kernel
theorem dX3_ears_12 : decode cX3_ears 12 = .ok (.ireturn, 1) := by decide +kernel
theorem dX3_ears_13 : decode cX3_ears 13 = .ok (.iconst 0, 1) := by decide +kernel
theorem dX3_ears_14 : decode cX3_ears 14 = .ok (.istore_n 2, 1) := by decide +kernel
theorem dX3_ears_15 : decode cX3_ears 15 = .ok (.iconst 1, 1) := by decide +kernel
theorem dX3_ears_16 : decode cX3_ears 16 = .ok (.istore_n 3, 1) := by decide +kernel
theorem dX3_ears_17 : decode cX3_ears 17 = .ok (.iload_n 3, 1) := by decide +kernel
theorem dX3_ears_18 : decode cX3_ears 18 = .ok (.bipush 9, 2) := by decide +kernel
theorem dX3_ears_20 : decode cX3_ears 20 = .ok (.if_icmp .gt 40, 3) := by decide +kernel
theorem dX3_ears_23 : decode cX3_ears 23 = .ok (.aload_n 0, 1) := by decide +kernel
theorem dX3_ears_24 : decode cX3_ears 24 = .ok (.getfield 30, 3) := by decide +kernel
theorem dX3_ears_27 : decode cX3_ears 27 = .ok (.aload_n 0, 1) := by decide +kernel
theorem dX3_ears_28 : decode cX3_ears 28 = .ok (.getfield 20, 3) := by decide +kernel
theorem dX3_ears_31 : decode cX3_ears 31 = .ok (.iload_n 1, 1) := by decide +kernel
theorem dX3_ears_32 : decode cX3_ears 32 = .ok (.aload_n 0, 1) := by decide +kernel
theorem dX3_ears_33 : decode cX3_ears 33 = .ok (.getfield 20, 3) := by decide +kernel
theorem dX3_ears_36 : decode cX3_ears 36 = .ok (.getfield 73, 3) := by decide +kernel
theorem dX3_ears_39 : decode cX3_ears 39 = .ok (.iload_n 1, 1) := by decide +kernel
theorem dX3_ears_40 : decode cX3_ears 40 = .ok (.iaload, 1) := by decide +kernel
theorem dX3_ears_41 : decode cX3_ears 41 = .ok (.iload_n 3, 1) := by decide +kernel
theorem dX3_ears_42 : decode cX3_ears 42 = .ok (.invokevirtual 158, 3) := by decide +kernel
theorem dX3_ears_45 : decode cX3_ears 45 = .ok (.ifCond .eq 9, 3) := by decide +kernel
theorem dX3_ears_48 : decode cX3_ears 48 = .ok (.iload_n 2, 1) := by decide +kernel
theorem dX3_ears_49 : decode cX3_ears 49 = .ok (.iconst 1, 1) := by decide +kernel
theorem dX3_ears_50 : decode cX3_ears 50 = .ok (.iload_n 3, 1) := by decide +kernel
theorem dX3_ears_51 : decode cX3_ears 51 = .ok (.ishl, 1) := by decide +kernel
theorem dX3_ears_52 : decode cX3_ears 52 = .ok (.ior, 1) := by decide +kernel
theorem dX3_ears_53 : decode cX3_ears 53 = .ok (.istore_n 2, 1) := by decide +kernel
theorem dX3_ears_54 : decode cX3_ears 54 = .ok (.iinc 3 1, 3) := by decide +kernel
theorem dX3_ears_57 : decode cX3_ears 57 = .ok (.goto (-40), 3) := by decide +kernel
theorem dX3_ears_60 : decode cX3_ears 60 = .ok (.iload_n 2, 1) := by decide +kernel
theorem dX3_ears_61 : decode cX3_ears 61 = .ok (.ireturn, 1) := by decide +kernel
set_option maxRecDepth 20000 in
theorem ggX3_kinds_X2_has : GoodIn wsX3_kinds wsX2_has := goodIn_r _ [8, 9, 35, 36, 37, 38, 39, 40] (by decide +kernel) (by decide +kernel)
set_option maxRecDepth 20000 in
theorem gX3_kinds_X2_has : GoodIn wsX3_kinds (wsV RX3 70 RX2 yX2_has wsX2_has) := goodIn_app (goodIn_of _ (by decide +kernel)) ggX3_kinds_X2_has
set_option maxRecDepth 20000 in
theorem ggX3_kinds_X0_areSo : GoodIn wsX3_kinds wsX0_areSo := goodIn_r _ [14, 15, 16, 17, 18, 19, 20, 21, 22, 23, 24, 25, 26, 27, 41, 42, 43, 44, 35, 36, 37, 38, 39, 40] (by decide +kernel) (by decide +kernel)
set_option maxRecDepth 20000 in
theorem gX3_kinds_X0_areSo : GoodIn wsX3_kinds (wsV RX3 158 RX0 yX0_areSo wsX0_areSo) := goodIn_app (goodIn_of _ (by decide +kernel)) ggX3_kinds_X0_areSo
theorem dX3_kinds_0 : decode cX3_kinds 0 = .ok (.aload_n 0, 1) := by decide +kernel
theorem dX3_kinds_1 : decode cX3_kinds 1 = .ok (.getfield 20, 3) := by decide +kernel
theorem dX3_kinds_4 : decode cX3_kinds 4 = .ok (.iload_n 1, 1) := by decide +kernel
theorem dX3_kinds_5 : decode cX3_kinds 5 = .ok (.invokevirtual 70, 3) := by decide +kernel
theorem dX3_kinds_8 : decode cX3_kinds 8 = .ok (.ifCond .ne 5, 3) := by decide +kernel
theorem dX3_kinds_11 : decode cX3_kinds 11 = .ok (.iconst (-1), 1) := by decide +kernel
theorem dX3_kinds_12 : decode cX3_kinds 12 = .ok (.ireturn, 1) := by decide +kernel
theorem dX3_kinds_13 : decode cX3_kinds 13 = .ok (.iconst 0, 1) := by decide +kernel
theorem dX3_kinds_14 : decode cX3_kinds 14 = .ok (.istore_n 2, 1) := by decide +kernel
theorem dX3_kinds_15 : decode cX3_kinds 15 = .ok (.iconst 0, 1) := by decide +kernel
theorem dX3_kinds_16 : decode cX3_kinds 16 = .ok (.istore_n 3, 1) := by decide +kernel
theorem dX3_kinds_17 : decode cX3_kinds 17 = .ok (.iload_n 3, 1) := by decide +kernel
theorem dX3_kinds_18 : decode cX3_kinds 18 = .ok (.iconst 2, 1) := by decide +kernel
theorem dX3_kinds_19 : decode cX3_kinds 19 = .ok (.if_icmp .gt 40, 3) := by decide +kernel
theorem dX3_kinds_22 : decode cX3_kinds 22 = .ok (.aload_n 0, 1) := by decide +kernel
theorem dX3_kinds_23 : decode cX3_kinds 23 = .ok (.getfield 30, 3) := by decide +kernel
theorem dX3_kinds_26 : decode cX3_kinds 26 = .ok (.aload_n 0, 1) := by decide +kernel
theorem dX3_kinds_27 : decode cX3_kinds 27 = .ok (.getfield 20, 3) := by decide +kernel
theorem dX3_kinds_30 : decode cX3_kinds 30 = .ok (.iload_n 1, 1) := by decide +kernel
theorem dX3_kinds_31 : decode cX3_kinds 31 = .ok (.iload_n 3, 1) := by decide +kernel
theorem dX3_kinds_32 : decode cX3_kinds 32 = .ok (.aload_n 0, 1) := by decide +kernel
theorem dX3_kinds_33 : decode cX3_kinds 33 = .ok (.getfield 20, 3) := by decide +kernel
theorem dX3_kinds_36 : decode cX3_kinds 36 = .ok (.getfield 80, 3) := by decide +kernel
theorem dX3_kinds_39 : decode cX3_kinds 39 = .ok (.iload_n 1, 1) := by decide +kernel
theorem dX3_kinds_40 : decode cX3_kinds 40 = .ok (.iaload, 1) := by decide +kernel
theorem dX3_kinds_41 : decode cX3_kinds 41 = .ok (.invokevirtual 158, 3) := by decide +kernel
theorem dX3_kinds_44 : decode cX3_kinds 44 = .ok (.ifCond .eq 9, 3) := by decide +kernel
theorem dX3_kinds_47 : decode cX3_kinds 47 = .ok (.iload_n 2, 1) := by decide +kernel
theorem dX3_kinds_48 : decode cX3_kinds 48 = .ok (.iconst 1, 1) := by decide +kernel
theorem dX3_kinds_49 : decode cX3_kinds 49 = .ok (.iload_n 3, 1) := by decide +kernel
theorem dX3_kinds_50 : decode cX3_kinds 50 = .ok (.ishl, 1) := by decide +kernel
theorem dX3_kinds_51 : decode cX3_kinds 51 = .ok (.ior, 1) := by decide +kernel
theorem dX3_kinds_52 : decode cX3_kinds 52 = .ok (.istore_n 2, 1) := by decide +kernel
theorem dX3_kinds_53 : decode cX3_kinds 53 = .ok (.iinc 3 1, 3) := by decide +kernel
theorem dX3_kinds_56 : decode cX3_kinds 56 = .ok (.goto (-39), 3) := by decide +kernel
theorem dX3_kinds_59 : decode cX3_kinds 59 = .ok (.iload_n 2, 1) := by decide +kernel
theorem dX3_kinds_60 : decode cX3_kinds 60 = .ok (.ireturn, 1) := by decide +kernel
set_option maxRecDepth 20000 in
theorem ggX3_odds_X2_has : GoodIn wsX3_odds wsX2_has := goodIn_r _ [9, 10, 55, 56, 57, 58, 59, 60] (by decide +kernel) (by decide +kernel)
set_option maxRecDepth 20000 in
theorem gX3_odds_X2_has : GoodIn wsX3_odds (wsV RX3 70 RX2 yX2_has wsX2_has) := goodIn_app (goodIn_of _ (by decide +kernel)) ggX3_odds_X2_has
set_option maxRecDepth 20000 in
theorem ggX3_odds_X3_isHalfOfShare : GoodIn wsX3_odds wsX3_isHalfOfShare := goodIn_r _ [14] (by decide +kernel) (by decide +kernel)
set_option maxRecDepth 20000 in
theorem gX3_odds_X3_isHalfOfShare : GoodIn wsX3_odds (va_wsS RX3 137 yX3_isHalfOfShare wsX3_isHalfOfShare) := goodIn_app (goodIn_of _ (by decide +kernel)) ggX3_odds_X3_isHalfOfShare
set_option maxRecDepth 20000 in
theorem ggX3_odds_X2_allSets : GoodIn wsX3_odds wsX2_allSets := goodIn_r _ [18, 10, 55, 56, 57, 58, 59, 60] (by decide +kernel) (by decide +kernel)
set_option maxRecDepth 20000 in
theorem gX3_odds_X2_allSets : GoodIn wsX3_odds (wsV RX3 127 RX2 yX2_allSets wsX2_allSets) := goodIn_app (goodIn_of _ (by decide +kernel)) ggX3_odds_X2_allSets
set_option maxRecDepth 20000 in
theorem ggX3_odds_X3_isMember : GoodIn wsX3_odds wsX3_isMember := goodIn_r _ [21] (by decide +kernel) (by decide +kernel)
set_option maxRecDepth 20000 in
theorem gX3_odds_X3_isMember : GoodIn wsX3_odds (va_wsS RX3 130 yX3_isMember wsX3_isMember) := goodIn_app (goodIn_of _ (by decide +kernel)) ggX3_odds_X3_isMember
set_option maxRecDepth 20000 in
theorem ggX3_odds_X2_partsBehindDay : GoodIn wsX3_odds wsX2_partsBehindDay := goodIn_r _ [25, 26, 27, 28, 29, 30, 31, 32, 33, 34, 35, 36, 8, 37, 10, 20, 13, 21, 55, 56, 57, 58, 59, 60] (by decide +kernel) (by decide +kernel)
set_option maxRecDepth 20000 in
theorem gX3_odds_X2_partsBehindDay : GoodIn wsX3_odds (wsV RX3 134 RX2 yX2_partsBehindDay wsX2_partsBehindDay) := goodIn_app (goodIn_of _ (by decide +kernel)) ggX3_odds_X2_partsBehindDay
set_option maxRecDepth 20000 in
theorem ggX3_odds_X3_says : GoodIn wsX3_odds wsX3_says := goodIn_r _ [40, 41, 42, 43, 44] (by decide +kernel) (by decide +kernel)
set_option maxRecDepth 20000 in
theorem gX3_odds_X3_says : GoodIn wsX3_odds (va_wsS RX3 162 yX3_says wsX3_says) := goodIn_app (goodIn_of _ (by decide +kernel)) ggX3_odds_X3_says
set_option maxRecDepth 20000 in
theorem ggX3_odds_X3_shareOf : GoodIn wsX3_odds wsX3_shareOf := goodIn_r _ [47, 2] (by decide +kernel) (by decide +kernel)
set_option maxRecDepth 20000 in
theorem gX3_odds_X3_shareOf : GoodIn wsX3_odds (va_wsS RX3 148 yX3_shareOf wsX3_shareOf) := goodIn_app (goodIn_of _ (by decide +kernel)) ggX3_odds_X3_shareOf
theorem dX3_odds_0 : decode cX3_odds 0 = .ok (.aload_n 0, 1) := by decide +kernel
theorem dX3_odds_1 : decode cX3_odds 1 = .ok (.getfield 20, 3) := by decide +kernel
theorem dX3_odds_4 : decode cX3_odds 4 = .ok (.iload_n 1, 1) := by decide +kernel
theorem dX3_odds_5 : decode cX3_odds 5 = .ok (.invokevirtual 70, 3) := by decide +kernel
theorem dX3_odds_8 : decode cX3_odds 8 = .ok (.ifCond .eq 21, 3) := by decide +kernel
theorem dX3_odds_11 : decode cX3_odds 11 = .ok (.iload_n 2, 1) := by decide +kernel
theorem dX3_odds_12 : decode cX3_odds 12 = .ok (.ifCond .lt 17, 3) := by decide +kernel
theorem dX3_odds_15 : decode cX3_odds 15 = .ok (.iload_n 2, 1) := by decide +kernel
theorem dX3_odds_16 : decode cX3_odds 16 = .ok (.sipush 600, 3) := by decide +kernel
theorem dX3_odds_19 : decode cX3_odds 19 = .ok (.if_icmp .gt 10, 3) := by decide +kernel
theorem dX3_odds_22 : decode cX3_odds 22 = .ok (.iload_n 3, 1) := by decide +kernel
theorem dX3_odds_23 : decode cX3_odds 23 = .ok (.invokestatic 137, 3) := by decide +kernel
theorem dX3_odds_26 : decode cX3_odds 26 = .ok (.ifCond .ne 7, 3) := by decide +kernel
theorem dX3_odds_29 : decode cX3_odds 29 = .ok (.ldc2_w 140, 3) := by decide +kernel
theorem dX3_odds_32 : decode cX3_odds 32 = .ok (.lreturn, 1) := by decide +kernel
theorem dX3_odds_33 : decode cX3_odds 33 = .ok (.iconst 0, 1) := by decide +kernel
theorem dX3_odds_34 : decode cX3_odds 34 = .ok (.istore 4, 2) := by decide +kernel
theorem dX3_odds_36 : decode cX3_odds 36 = .ok (.iconst 0, 1) := by decide +kernel
theorem dX3_odds_37 : decode cX3_odds 37 = .ok (.istore 5, 2) := by decide +kernel
theorem dX3_odds_39 : decode cX3_odds 39 = .ok (.iload 5, 2) := by decide +kernel
theorem dX3_odds_41 : decode cX3_odds 41 = .ok (.aload_n 0, 1) := by decide +kernel
theorem dX3_odds_42 : decode cX3_odds 42 = .ok (.getfield 20, 3) := by decide +kernel
theorem dX3_odds_45 : decode cX3_odds 45 = .ok (.invokevirtual 127, 3) := by decide +kernel
theorem dX3_odds_48 : decode cX3_odds 48 = .ok (.if_icmp .ge 56, 3) := by decide +kernel
theorem dX3_odds_51 : decode cX3_odds 51 = .ok (.iload 5, 2) := by decide +kernel
theorem dX3_odds_53 : decode cX3_odds 53 = .ok (.iload_n 1, 1) := by decide +kernel
theorem dX3_odds_54 : decode cX3_odds 54 = .ok (.invokestatic 130, 3) := by decide +kernel
theorem dX3_odds_57 : decode cX3_odds 57 = .ok (.ifCond .eq 41, 3) := by decide +kernel
theorem dX3_odds_60 : decode cX3_odds 60 = .ok (.aload_n 0, 1) := by decide +kernel
theorem dX3_odds_61 : decode cX3_odds 61 = .ok (.getfield 20, 3) := by decide +kernel
theorem dX3_odds_64 : decode cX3_odds 64 = .ok (.getfield 73, 3) := by decide +kernel
theorem dX3_odds_67 : decode cX3_odds 67 = .ok (.iload_n 1, 1) := by decide +kernel
theorem dX3_odds_68 : decode cX3_odds 68 = .ok (.iaload, 1) := by decide +kernel
theorem dX3_odds_69 : decode cX3_odds 69 = .ok (.aload_n 0, 1) := by decide +kernel
theorem dX3_odds_70 : decode cX3_odds 70 = .ok (.getfield 20, 3) := by decide +kernel
theorem dX3_odds_73 : decode cX3_odds 73 = .ok (.iload 5, 2) := by decide +kernel
theorem dX3_odds_75 : decode cX3_odds 75 = .ok (.iload_n 1, 1) := by decide +kernel
theorem dX3_odds_76 : decode cX3_odds 76 = .ok (.invokevirtual 134, 3) := by decide +kernel
theorem dX3_odds_79 : decode cX3_odds 79 = .ok (.aload_n 0, 1) := by decide +kernel
theorem dX3_odds_80 : decode cX3_odds 80 = .ok (.getfield 20, 3) := by decide +kernel
theorem dX3_odds_83 : decode cX3_odds 83 = .ok (.getfield 80, 3) := by decide +kernel
theorem dX3_odds_86 : decode cX3_odds 86 = .ok (.iload_n 1, 1) := by decide +kernel
theorem dX3_odds_87 : decode cX3_odds 87 = .ok (.iaload, 1) := by decide +kernel
theorem dX3_odds_88 : decode cX3_odds 88 = .ok (.invokestatic 162, 3) := by decide +kernel
theorem dX3_odds_91 : decode cX3_odds 91 = .ok (.iload_n 2, 1) := by decide +kernel
theorem dX3_odds_92 : decode cX3_odds 92 = .ok (.if_icmp .lt 6, 3) := by decide +kernel
theorem dX3_odds_95 : decode cX3_odds 95 = .ok (.iinc 4 1, 3) := by decide +kernel
theorem dX3_odds_98 : decode cX3_odds 98 = .ok (.iinc 5 1, 3) := by decide +kernel
theorem dX3_odds_101 : decode cX3_odds 101 = .ok (.goto (-62), 3) := by decide +kernel
theorem dX3_odds_104 : decode cX3_odds 104 = .ok (.iload 4, 2) := by decide +kernel
theorem dX3_odds_106 : decode cX3_odds 106 = .ok (.aload_n 0, 1) := by decide +kernel
theorem dX3_odds_107 : decode cX3_odds 107 = .ok (.getfield 20, 3) := by decide +kernel
theorem dX3_odds_110 : decode cX3_odds 110 = .ok (.invokevirtual 127, 3) := by decide +kernel
theorem dX3_odds_113 : decode cX3_odds 113 = .ok (.iload_n 3, 1) := by decide +kernel
theorem dX3_odds_114 : decode cX3_odds 114 = .ok (.invokestatic 148, 3) := by decide +kernel
theorem dX3_odds_117 : decode cX3_odds 117 = .ok (.lreturn, 1) := by decide +kernel
set_option maxRecDepth 20000 in
theorem ggX3_sheet_X3_sheetAt : GoodIn wsX3_sheet wsX3_sheetAt := goodIn_r _ [6, 7, 31, 32, 33, 34, 35, 36, 37] (by decide +kernel) (by decide +kernel)
set_option maxRecDepth 20000 in
theorem gX3_sheet_X3_sheetAt : GoodIn wsX3_sheet (wsV RX3 39 RX3 yX3_sheetAt wsX3_sheetAt) := goodIn_app (goodIn_of _ (by decide +kernel)) ggX3_sheet_X3_sheetAt
set_option maxRecDepth 20000 in
theorem ggX3_sheet_X3_isLane : GoodIn wsX3_sheet wsX3_isLane := goodIn_r _ [10] (by decide +kernel) (by decide +kernel)
set_option maxRecDepth 20000 in
theorem gX3_sheet_X3_isLane : GoodIn wsX3_sheet (va_wsS RX3 43 yX3_isLane wsX3_isLane) := goodIn_app (goodIn_of _ (by decide +kernel)) ggX3_sheet_X3_isLane
set_option maxRecDepth 20000 in
theorem ggX3_sheet_X3_faulty : GoodIn wsX3_sheet wsX3_faulty := goodIn_r _ [14, 1, 31, 32, 33, 34, 35, 36, 37] (by decide +kernel) (by decide +kernel)
set_option maxRecDepth 20000 in
theorem gX3_sheet_X3_faulty : GoodIn wsX3_sheet (wsV RX3 51 RX3 yX3_faulty wsX3_faulty) := goodIn_app (goodIn_of _ (by decide +kernel)) ggX3_sheet_X3_faulty
set_option maxRecDepth 20000 in
theorem ggX3_sheet_X1_renew : GoodIn wsX3_sheet wsX1_renew := goodIn_r _ [19, 20, 21, 22, 23, 24, 25, 26, 27, 28, 29, 30, 38, 39, 40, 41] (by decide +kernel) (by decide +kernel)
set_option maxRecDepth 20000 in
theorem gX3_sheet_X1_renew : GoodIn wsX3_sheet (wsV RX3 165 RX1 yX1_renew wsX1_renew) := goodIn_app (goodIn_of _ (by decide +kernel)) ggX3_sheet_X1_renew
theorem dX3_sheet_0 : decode cX3_sheet 0 = .ok (.aload_n 0, 1) := by decide +kernel
theorem dX3_sheet_1 : decode cX3_sheet 1 = .ok (.iconst 0, 1) := by decide +kernel
theorem dX3_sheet_2 : decode cX3_sheet 2 = .ok (.putfield 35, 3) := by decide +kernel
theorem dX3_sheet_5 : decode cX3_sheet 5 = .ok (.aload_n 0, 1) := by decide +kernel
theorem dX3_sheet_6 : decode cX3_sheet 6 = .ok (.iload_n 1, 1) := by decide +kernel
theorem dX3_sheet_7 : decode cX3_sheet 7 = .ok (.invokevirtual 39, 3) := by decide +kernel
theorem dX3_sheet_10 : decode cX3_sheet 10 = .ok (.astore 4, 2) := by decide +kernel
theorem dX3_sheet_12 : decode cX3_sheet 12 = .ok (.aload 4, 2) := by decide +kernel
theorem dX3_sheet_14 : decode cX3_sheet 14 = .ok (.ifnonnull 5, 3) := by decide +kernel
theorem dX3_sheet_17 : decode cX3_sheet 17 = .ok (.iconst (-1), 1) := by decide +kernel
theorem dX3_sheet_18 : decode cX3_sheet 18 = .ok (.ireturn, 1) := by decide +kernel
theorem dX3_sheet_19 : decode cX3_sheet 19 = .ok (.iload_n 2, 1) := by decide +kernel
theorem dX3_sheet_20 : decode cX3_sheet 20 = .ok (.invokestatic 43, 3) := by decide +kernel
theorem dX3_sheet_23 : decode cX3_sheet 23 = .ok (.ifCond .eq 9, 3) := by decide +kernel
theorem dX3_sheet_26 : decode cX3_sheet 26 = .ok (.iload_n 3, 1) := by decide +kernel
theorem dX3_sheet_27 : decode cX3_sheet 27 = .ok (.bipush 60, 2) := by decide +kernel
theorem dX3_sheet_29 : decode cX3_sheet 29 = .ok (.if_icmp .le 6, 3) := by decide +kernel
theorem dX3_sheet_32 : decode cX3_sheet 32 = .ok (.bipush (-2), 2) := by decide +kernel
theorem dX3_sheet_34 : decode cX3_sheet 34 = .ok (.ireturn, 1) := by decide +kernel
theorem dX3_sheet_35 : decode cX3_sheet 35 = .ok (.iload_n 3, 1) := by decide +kernel
theorem dX3_sheet_36 : decode cX3_sheet 36 = .ok (.ifCond .ge 9, 3) := by decide +kernel
theorem dX3_sheet_39 : decode cX3_sheet 39 = .ok (.aload_n 0, 1) := by decide +kernel
theorem dX3_sheet_40 : decode cX3_sheet 40 = .ok (.iconst 4, 1) := by decide +kernel
theorem dX3_sheet_41 : decode cX3_sheet 41 = .ok (.invokevirtual 51, 3) := by decide +kernel
theorem dX3_sheet_44 : decode cX3_sheet 44 = .ok (.ireturn, 1) := by decide +kernel
theorem dX3_sheet_45 : decode cX3_sheet 45 = .ok (.aload 4, 2) := by decide +kernel
theorem dX3_sheet_47 : decode cX3_sheet 47 = .ok (.iload_n 2, 1) := by decide +kernel
theorem dX3_sheet_48 : decode cX3_sheet 48 = .ok (.iload_n 3, 1) := by decide +kernel
theorem dX3_sheet_49 : decode cX3_sheet 49 = .ok (.invokevirtual 165, 3) := by decide +kernel
theorem dX3_sheet_52 : decode cX3_sheet 52 = .ok (.iconst 1, 1) := by decide +kernel
theorem dX3_sheet_53 : decode cX3_sheet 53 = .ok (.ireturn, 1) := by decide +kernel
set_option maxRecDepth 20000 in
theorem ggX3_lose_X3_sheetAt : GoodIn wsX3_lose wsX3_sheetAt := goodIn_r _ [6, 7, 12, 13, 14, 15, 16, 17, 18] (by decide +kernel) (by decide +kernel)
set_option maxRecDepth 20000 in
theorem gX3_lose_X3_sheetAt : GoodIn wsX3_lose (wsV RX3 39 RX3 yX3_sheetAt wsX3_sheetAt) := goodIn_app (goodIn_of _ (by decide +kernel)) ggX3_lose_X3_sheetAt
theorem dX3_lose_0 : decode cX3_lose 0 = .ok (.aload_n 0, 1) := by decide +kernel
theorem dX3_lose_1 : decode cX3_lose 1 = .ok (.iload_n 1, 1) := by decide +kernel
theorem dX3_lose_2 : decode cX3_lose 2 = .ok (.invokevirtual 39, 3) := by decide +kernel
theorem dX3_lose_5 : decode cX3_lose 5 = .ok (.astore_n 2, 1) := by decide +kernel
theorem dX3_lose_6 : decode cX3_lose 6 = .ok (.aload_n 2, 1) := by decide +kernel
theorem dX3_lose_7 : decode cX3_lose 7 = .ok (.ifnonnull 5, 3) := by decide +kernel
theorem dX3_lose_10 : decode cX3_lose 10 = .ok (.iconst (-1), 1) := by decide +kernel
theorem dX3_lose_11 : decode cX3_lose 11 = .ok (.ireturn, 1) := by decide +kernel
theorem dX3_lose_12 : decode cX3_lose 12 = .ok (.aload_n 2, 1) := by decide +kernel
theorem dX3_lose_13 : decode cX3_lose 13 = .ok (.getfield 169, 3) := by decide +kernel
theorem dX3_lose_16 : decode cX3_lose 16 = .ok (.istore_n 3, 1) := by decide +kernel
theorem dX3_lose_17 : decode cX3_lose 17 = .ok (.aload_n 2, 1) := by decide +kernel
theorem dX3_lose_18 : decode cX3_lose 18 = .ok (.iconst 0, 1) := by decide +kernel
theorem dX3_lose_19 : decode cX3_lose 19 = .ok (.putfield 169, 3) := by decide +kernel
theorem dX3_lose_22 : decode cX3_lose 22 = .ok (.iload_n 3, 1) := by decide +kernel
theorem dX3_lose_23 : decode cX3_lose 23 = .ok (.ifCond .eq 7, 3) := by decide +kernel
theorem dX3_lose_26 : decode cX3_lose 26 = .ok (.iconst 1, 1) := by decide +kernel
theorem dX3_lose_27 : decode cX3_lose 27 = .ok (.goto 4, 3) := by decide +kernel
theorem dX3_lose_30 : decode cX3_lose 30 = .ok (.iconst 0, 1) := by decide +kernel
theorem dX3_lose_31 : decode cX3_lose 31 = .ok (.ireturn, 1) := by decide +kernel
set_option maxRecDepth 20000 in
theorem ggX3_put_X3_sheetAt : GoodIn wsX3_put wsX3_sheetAt := goodIn_r _ [8, 9, 25, 26, 27, 28, 29, 30, 31] (by decide +kernel) (by decide +kernel)
set_option maxRecDepth 20000 in
theorem gX3_put_X3_sheetAt : GoodIn wsX3_put (wsV RX3 39 RX3 yX3_sheetAt wsX3_sheetAt) := goodIn_app (goodIn_of _ (by decide +kernel)) ggX3_put_X3_sheetAt
set_option maxRecDepth 20000 in
theorem ggX3_put_X3_faulty : GoodIn wsX3_put wsX3_faulty := goodIn_r _ [13, 1, 25, 26, 27, 28, 29, 30, 31] (by decide +kernel) (by decide +kernel)
set_option maxRecDepth 20000 in
theorem gX3_put_X3_faulty : GoodIn wsX3_put (wsV RX3 51 RX3 yX3_faulty wsX3_faulty) := goodIn_app (goodIn_of _ (by decide +kernel)) ggX3_put_X3_faulty
set_option maxRecDepth 20000 in
theorem ggX3_put_X1_spans : GoodIn wsX3_put wsX1_spans := goodIn_r _ [18, 19, 32, 33, 34, 35] (by decide +kernel) (by decide +kernel)
set_option maxRecDepth 20000 in
theorem gX3_put_X1_spans : GoodIn wsX3_put (wsV RX3 173 RX1 yX1_spans wsX1_spans) := goodIn_app (goodIn_of _ (by decide +kernel)) ggX3_put_X1_spans
set_option maxRecDepth 20000 in
theorem ggX3_put_X1_cut : GoodIn wsX3_put wsX1_cut := goodIn_r _ [23, 24, 32, 33, 34, 35] (by decide +kernel) (by decide +kernel)
set_option maxRecDepth 20000 in
theorem gX3_put_X1_cut : GoodIn wsX3_put (wsV RX3 179 RX1 yX1_cut wsX1_cut) := goodIn_app (goodIn_of _ (by decide +kernel)) ggX3_put_X1_cut
theorem dX3_put_0 : decode cX3_put 0 = .ok (.aload_n 0, 1) := by decide +kernel
theorem dX3_put_1 : decode cX3_put 1 = .ok (.iconst 0, 1) := by decide +kernel
theorem dX3_put_2 : decode cX3_put 2 = .ok (.putfield 35, 3) := by decide +kernel
theorem dX3_put_5 : decode cX3_put 5 = .ok (.aload_n 0, 1) := by decide +kernel
theorem dX3_put_6 : decode cX3_put 6 = .ok (.iload_n 1, 1) := by decide +kernel
theorem dX3_put_7 : decode cX3_put 7 = .ok (.invokevirtual 39, 3) := by decide +kernel
theorem dX3_put_10 : decode cX3_put 10 = .ok (.astore 4, 2) := by decide +kernel
theorem dX3_put_12 : decode cX3_put 12 = .ok (.aload 4, 2) := by decide +kernel
theorem dX3_put_14 : decode cX3_put 14 = .ok (.ifnonnull 5, 3) := by decide +kernel
theorem dX3_put_17 : decode cX3_put 17 = .ok (.iconst (-1), 1) := by decide +kernel
theorem dX3_put_18 : decode cX3_put 18 = .ok (.ireturn, 1) := by decide +kernel
theorem dX3_put_19 : decode cX3_put 19 = .ok (.aload 4, 2) := by decide +kernel
theorem dX3_put_21 : decode cX3_put 21 = .ok (.getfield 169, 3) := by decide +kernel
theorem dX3_put_24 : decode cX3_put 24 = .ok (.ifCond .ne 9, 3) := by decide +kernel
theorem dX3_put_27 : decode cX3_put 27 = .ok (.aload_n 0, 1) := by decide +kernel
theorem dX3_put_28 : decode cX3_put 28 = .ok (.iconst 1, 1) := by decide +kernel
theorem dX3_put_29 : decode cX3_put 29 = .ok (.invokevirtual 51, 3) := by decide +kernel
theorem dX3_put_32 : decode cX3_put 32 = .ok (.ireturn, 1) := by decide +kernel
theorem dX3_put_33 : decode cX3_put 33 = .ok (.aload 4, 2) := by decide +kernel
theorem dX3_put_35 : decode cX3_put 35 = .ok (.iload_n 2, 1) := by decide +kernel
theorem dX3_put_36 : decode cX3_put 36 = .ok (.iconst 1, 1) := by decide +kernel
theorem dX3_put_37 : decode cX3_put 37 = .ok (.invokevirtual 173, 3) := by decide +kernel
theorem dX3_put_40 : decode cX3_put 40 = .ok (.ifCond .ne 9, 3) := by decide +kernel
theorem dX3_put_43 : decode cX3_put 43 = .ok (.aload_n 0, 1) := by decide +kernel
theorem dX3_put_44 : decode cX3_put 44 = .ok (.iconst 3, 1) := by decide +kernel
theorem dX3_put_45 : decode cX3_put 45 = .ok (.invokevirtual 51, 3) := by decide +kernel
theorem dX3_put_48 : decode cX3_put 48 = .ok (.ireturn, 1) := by decide +kernel
theorem dX3_put_49 : decode cX3_put 49 = .ok (.aload 4, 2) := by decide +kernel
theorem dX3_put_51 : decode cX3_put 51 = .ok (.getfield 176, 3) := by decide +kernel
theorem dX3_put_54 : decode cX3_put 54 = .ok (.iload_n 2, 1) := by decide +kernel
theorem dX3_put_55 : decode cX3_put 55 = .ok (.aload 4, 2) := by decide +kernel
theorem dX3_put_57 : decode cX3_put 57 = .ok (.iload_n 3, 1) := by decide +kernel
theorem dX3_put_58 : decode cX3_put 58 = .ok (.invokevirtual 179, 3) := by decide +kernel
theorem dX3_put_61 : decode cX3_put 61 = .ok (.iastore, 1) := by decide +kernel
theorem dX3_put_62 : decode cX3_put 62 = .ok (.iconst 1, 1) := by decide +kernel
theorem dX3_put_63 : decode cX3_put 63 = .ok (.ireturn, 1) := by decide +kernel
set_option maxRecDepth 20000 in
theorem ggX3_cell_X3_sheetAt : GoodIn wsX3_cell wsX3_sheetAt := goodIn_r _ [7, 8, 29, 30, 31, 32, 33, 34, 35] (by decide +kernel) (by decide +kernel)
set_option maxRecDepth 20000 in
theorem gX3_cell_X3_sheetAt : GoodIn wsX3_cell (wsV RX3 39 RX3 yX3_sheetAt wsX3_sheetAt) := goodIn_app (goodIn_of _ (by decide +kernel)) ggX3_cell_X3_sheetAt
set_option maxRecDepth 20000 in
theorem ggX3_cell_X3_isLane : GoodIn wsX3_cell wsX3_isLane := goodIn_r _ [11] (by decide +kernel) (by decide +kernel)
set_option maxRecDepth 20000 in
theorem gX3_cell_X3_isLane : GoodIn wsX3_cell (va_wsS RX3 43 yX3_isLane wsX3_isLane) := goodIn_app (goodIn_of _ (by decide +kernel)) ggX3_cell_X3_isLane
set_option maxRecDepth 20000 in
theorem ggX3_cell_X1_faultOf : GoodIn wsX3_cell wsX1_faultOf := goodIn_r _ [16, 17, 18, 19, 20, 21, 15, 22, 23, 36, 37, 38, 39] (by decide +kernel) (by decide +kernel)
set_option maxRecDepth 20000 in
theorem gX3_cell_X1_faultOf : GoodIn wsX3_cell (wsV RX3 47 RX1 yX1_faultOf wsX1_faultOf) := goodIn_app (goodIn_of _ (by decide +kernel)) ggX3_cell_X1_faultOf
set_option maxRecDepth 20000 in
theorem ggX3_cell_X1_at : GoodIn wsX3_cell wsX1_at := goodIn_r _ [27, 28, 36, 37, 38, 39] (by decide +kernel) (by decide +kernel)
set_option maxRecDepth 20000 in
theorem gX3_cell_X1_at : GoodIn wsX3_cell (wsV RX3 182 RX1 yX1_at wsX1_at) := goodIn_app (goodIn_of _ (by decide +kernel)) ggX3_cell_X1_at
theorem dX3_cell_0 : decode cX3_cell 0 = .ok (.aload_n 0, 1) := by decide +kernel
theorem dX3_cell_1 : decode cX3_cell 1 = .ok (.iconst 0, 1) := by decide +kernel
theorem dX3_cell_2 : decode cX3_cell 2 = .ok (.putfield 35, 3) := by decide +kernel
theorem dX3_cell_5 : decode cX3_cell 5 = .ok (.aload_n 0, 1) := by decide +kernel
theorem dX3_cell_6 : decode cX3_cell 6 = .ok (.iload_n 1, 1) := by decide +kernel
theorem dX3_cell_7 : decode cX3_cell 7 = .ok (.invokevirtual 39, 3) := by decide +kernel
theorem dX3_cell_10 : decode cX3_cell 10 = .ok (.astore 4, 2) := by decide +kernel
theorem dX3_cell_12 : decode cX3_cell 12 = .ok (.aload 4, 2) := by decide +kernel
theorem dX3_cell_14 : decode cX3_cell 14 = .ok (.ifnull 10, 3) := by decide +kernel
theorem dX3_cell_17 : decode cX3_cell 17 = .ok (.iload_n 3, 1) := by decide +kernel
theorem dX3_cell_18 : decode cX3_cell 18 = .ok (.invokestatic 43, 3) := by decide +kernel
theorem dX3_cell_21 : decode cX3_cell 21 = .ok (.ifCond .ne 7, 3) := by decide +kernel
theorem dX3_cell_24 : decode cX3_cell 24 = .ok (.ldc2_w 140, 3) := by decide +kernel
theorem dX3_cell_27 : decode cX3_cell 27 = .ok (.lreturn, 1) := by decide +kernel
theorem dX3_cell_28 : decode cX3_cell 28 = .ok (.aload_n 0, 1) := by decide +kernel
theorem dX3_cell_29 : decode cX3_cell 29 = .ok (.aload 4, 2) := by decide +kernel
theorem dX3_cell_31 : decode cX3_cell 31 = .ok (.iload_n 3, 1) := by decide +kernel
theorem dX3_cell_32 : decode cX3_cell 32 = .ok (.iload_n 2, 1) := by decide +kernel
theorem dX3_cell_33 : decode cX3_cell 33 = .ok (.iconst 1, 1) := by decide +kernel
theorem dX3_cell_34 : decode cX3_cell 34 = .ok (.invokevirtual 47, 3) := by decide +kernel
theorem dX3_cell_37 : decode cX3_cell 37 = .ok (.putfield 35, 3) := by decide +kernel
theorem dX3_cell_40 : decode cX3_cell 40 = .ok (.aload_n 0, 1) := by decide +kernel
theorem dX3_cell_41 : decode cX3_cell 41 = .ok (.getfield 35, 3) := by decide +kernel
theorem dX3_cell_44 : decode cX3_cell 44 = .ok (.ifCond .ne 13, 3) := by decide +kernel
theorem dX3_cell_47 : decode cX3_cell 47 = .ok (.aload 4, 2) := by decide +kernel
theorem dX3_cell_49 : decode cX3_cell 49 = .ok (.iload_n 2, 1) := by decide +kernel
theorem dX3_cell_50 : decode cX3_cell 50 = .ok (.invokevirtual 182, 3) := by decide +kernel
theorem dX3_cell_53 : decode cX3_cell 53 = .ok (.i2l, 1) := by decide +kernel
theorem dX3_cell_54 : decode cX3_cell 54 = .ok (.goto 6, 3) := by decide +kernel
theorem dX3_cell_57 : decode cX3_cell 57 = .ok (.ldc2_w 140, 3) := by decide +kernel
theorem dX3_cell_60 : decode cX3_cell 60 = .ok (.lreturn, 1) := by decide +kernel
set_option maxRecDepth 20000 in
theorem ggX3_copy_X3_sheetAt : GoodIn wsX3_copy wsX3_sheetAt := goodIn_r _ [13, 14, 25, 26, 27, 28, 29, 30, 31] (by decide +kernel) (by decide +kernel)
set_option maxRecDepth 20000 in
theorem gX3_copy_X3_sheetAt : GoodIn wsX3_copy (wsV RX3 39 RX3 yX3_sheetAt wsX3_sheetAt) := goodIn_app (goodIn_of _ (by decide +kernel)) ggX3_copy_X3_sheetAt
set_option maxRecDepth 20000 in
theorem ggX3_copy_X3_faulty : GoodIn wsX3_copy wsX3_faulty := goodIn_r _ [18, 1, 25, 26, 27, 28, 29, 30, 31] (by decide +kernel) (by decide +kernel)
set_option maxRecDepth 20000 in
theorem gX3_copy_X3_faulty : GoodIn wsX3_copy (wsV RX3 51 RX3 yX3_faulty wsX3_faulty) := goodIn_app (goodIn_of _ (by decide +kernel)) ggX3_copy_X3_faulty
set_option maxRecDepth 20000 in
theorem ggX3_copy_X1_spans : GoodIn wsX3_copy wsX1_spans := goodIn_r _ [23, 24, 32, 33, 34, 35] (by decide +kernel) (by decide +kernel)
set_option maxRecDepth 20000 in
theorem gX3_copy_X1_spans : GoodIn wsX3_copy (wsV RX3 173 RX1 yX1_spans wsX1_spans) := goodIn_app (goodIn_of _ (by decide +kernel)) ggX3_copy_X1_spans
theorem dX3_copy_0 : decode cX3_copy 0 = .ok (.aload_n 0, 1) := by decide +kernel
theorem dX3_copy_1 : decode cX3_copy 1 = .ok (.iconst 0, 1) := by decide +kernel
theorem dX3_copy_2 : decode cX3_copy 2 = .ok (.putfield 35, 3) := by decide +kernel
theorem dX3_copy_5 : decode cX3_copy 5 = .ok (.aload_n 0, 1) := by decide +kernel
theorem dX3_copy_6 : decode cX3_copy 6 = .ok (.iload_n 1, 1) := by decide +kernel
theorem dX3_copy_7 : decode cX3_copy 7 = .ok (.invokevirtual 39, 3) := by decide +kernel
theorem dX3_copy_10 : decode cX3_copy 10 = .ok (.astore 6, 2) := by decide +kernel
theorem dX3_copy_12 : decode cX3_copy 12 = .ok (.aload_n 0, 1) := by decide +kernel
theorem dX3_copy_13 : decode cX3_copy 13 = .ok (.iload_n 3, 1) := by decide +kernel
theorem dX3_copy_14 : decode cX3_copy 14 = .ok (.invokevirtual 39, 3) := by decide +kernel
theorem dX3_copy_17 : decode cX3_copy 17 = .ok (.astore 7, 2) := by decide +kernel
theorem dX3_copy_19 : decode cX3_copy 19 = .ok (.aload 6, 2) := by decide +kernel
theorem dX3_copy_21 : decode cX3_copy 21 = .ok (.ifnull 8, 3) := by decide +kernel
theorem dX3_copy_24 : decode cX3_copy 24 = .ok (.aload 7, 2) := by decide +kernel
theorem dX3_copy_26 : decode cX3_copy 26 = .ok (.ifnonnull 5, 3) := by decide +kernel
theorem dX3_copy_29 : decode cX3_copy 29 = .ok (.iconst (-1), 1) := by decide +kernel
theorem dX3_copy_30 : decode cX3_copy 30 = .ok (.ireturn, 1) := by decide +kernel
theorem dX3_copy_31 : decode cX3_copy 31 = .ok (.aload 6, 2) := by decide +kernel
theorem dX3_copy_33 : decode cX3_copy 33 = .ok (.getfield 169, 3) := by decide +kernel
theorem dX3_copy_36 : decode cX3_copy 36 = .ok (.ifCond .eq 11, 3) := by decide +kernel
theorem dX3_copy_39 : decode cX3_copy 39 = .ok (.aload 7, 2) := by decide +kernel
theorem dX3_copy_41 : decode cX3_copy 41 = .ok (.getfield 169, 3) := by decide +kernel
theorem dX3_copy_44 : decode cX3_copy 44 = .ok (.ifCond .ne 9, 3) := by decide +kernel
theorem dX3_copy_47 : decode cX3_copy 47 = .ok (.aload_n 0, 1) := by decide +kernel
theorem dX3_copy_48 : decode cX3_copy 48 = .ok (.iconst 1, 1) := by decide +kernel
theorem dX3_copy_49 : decode cX3_copy 49 = .ok (.invokevirtual 51, 3) := by decide +kernel
theorem dX3_copy_52 : decode cX3_copy 52 = .ok (.ireturn, 1) := by decide +kernel
theorem dX3_copy_53 : decode cX3_copy 53 = .ok (.aload 6, 2) := by decide +kernel
theorem dX3_copy_55 : decode cX3_copy 55 = .ok (.getfield 185, 3) := by decide +kernel
theorem dX3_copy_58 : decode cX3_copy 58 = .ok (.aload 7, 2) := by decide +kernel
theorem dX3_copy_60 : decode cX3_copy 60 = .ok (.getfield 185, 3) := by decide +kernel
theorem dX3_copy_63 : decode cX3_copy 63 = .ok (.if_icmp .eq 9, 3) := by decide +kernel
theorem dX3_copy_66 : decode cX3_copy 66 = .ok (.aload_n 0, 1) := by decide +kernel
theorem dX3_copy_67 : decode cX3_copy 67 = .ok (.iconst 2, 1) := by decide +kernel
theorem dX3_copy_68 : decode cX3_copy 68 = .ok (.invokevirtual 51, 3) := by decide +kernel
theorem dX3_copy_71 : decode cX3_copy 71 = .ok (.ireturn, 1) := by decide +kernel
theorem dX3_copy_72 : decode cX3_copy 72 = .ok (.aload 6, 2) := by decide +kernel
theorem dX3_copy_74 : decode cX3_copy 74 = .ok (.iload_n 2, 1) := by decide +kernel
theorem dX3_copy_75 : decode cX3_copy 75 = .ok (.iload 5, 2) := by decide +kernel
theorem dX3_copy_77 : decode cX3_copy 77 = .ok (.invokevirtual 173, 3) := by decide +kernel
theorem dX3_copy_80 : decode cX3_copy 80 = .ok (.ifCond .eq 15, 3) := by decide +kernel
theorem dX3_copy_83 : decode cX3_copy 83 = .ok (.aload 7, 2) := by decide +kernel
theorem dX3_copy_85 : decode cX3_copy 85 = .ok (.iload 4, 2) := by decide +kernel
theorem dX3_copy_87 : decode cX3_copy 87 = .ok (.iload 5, 2) := by decide +kernel
theorem dX3_copy_89 : decode cX3_copy 89 = .ok (.invokevirtual 173, 3) := by decide +kernel
theorem dX3_copy_92 : decode cX3_copy 92 = .ok (.ifCond .ne 9, 3) := by decide +kernel
theorem dX3_copy_95 : decode cX3_copy 95 = .ok (.aload_n 0, 1) := by decide +kernel
end
section
theorem dX3_copy_96 : decode cX3_copy 96 = .ok (.iconst 3, 1) := by decide +kernel
theorem dX3_copy_97 : decode cX3_copy 97 = .ok (.invokevirtual 51, 3) := by decide +kernel
theorem dX3_copy_100 : decode cX3_copy 100 = .ok (.ireturn, 1) := by decide +kernel
theorem dX3_copy_101 : decode cX3_copy 101 = .ok (.aload 6, 2) := by decide +kernel
theorem dX3_copy_103 : decode cX3_copy 103 = .ok (.getfield 176, 3) := by decide +kernel
theorem dX3_copy_106 : decode cX3_copy 106 = .ok (.iload_n 2, 1) := by decide +kernel
theorem dX3_copy_107 : decode cX3_copy 107 = .ok (.aload 7, 2) := by decide +kernel
theorem dX3_copy_109 : decode cX3_copy 109 = .ok (.getfield 176, 3) := by decide +kernel
theorem dX3_copy_112 : decode cX3_copy 112 = .ok (.iload 4, 2) := by decide +kernel
theorem dX3_copy_114 : decode cX3_copy 114 = .ok (.iload 5, 2) := by decide +kernel
theorem dX3_copy_116 : decode cX3_copy 116 = .ok (.invokestatic 188, 3) := by decide +kernel
theorem dX3_copy_119 : decode cX3_copy 119 = .ok (.iload 5, 2) := by decide +kernel
theorem dX3_copy_121 : decode cX3_copy 121 = .ok (.ireturn, 1) := by decide +kernel
set_option maxRecDepth 20000 in
theorem ggX3_tell_X2_has : GoodIn wsX3_tell wsX2_has := goodIn_r _ [7, 8, 35, 36, 37, 38, 39, 40] (by decide +kernel) (by decide +kernel)
set_option maxRecDepth 20000 in
theorem gX3_tell_X2_has : GoodIn wsX3_tell (wsV RX3 70 RX2 yX2_has wsX2_has) := goodIn_app (goodIn_of _ (by decide +kernel)) ggX3_tell_X2_has
set_option maxRecDepth 20000 in
theorem ggX3_tell_X3_grownTells : GoodIn wsX3_tell wsX3_grownTells := goodIn_r _ [13, 1, 14, 15, 16, 17, 12, 18, 19, 28, 29, 30, 31, 32, 33, 34, 35, 36, 37, 38, 39, 40] (by decide +kernel) (by decide +kernel)
set_option maxRecDepth 20000 in
theorem gX3_tell_X3_grownTells : GoodIn wsX3_tell (wsV RX3 194 RX3 yX3_grownTells wsX3_grownTells) := goodIn_app (goodIn_of _ (by decide +kernel)) ggX3_tell_X3_grownTells
set_option maxRecDepth 20000 in
theorem ggX3_tell_X3_shyTells : GoodIn wsX3_tell wsX3_shyTells := goodIn_r _ [23, 15, 16, 17, 12, 18, 19, 9, 10, 11, 13, 1, 14, 28, 29, 30, 31, 32, 33, 34, 35, 36, 37, 38, 39, 40] (by decide +kernel) (by decide +kernel)
set_option maxRecDepth 20000 in
theorem gX3_tell_X3_shyTells : GoodIn wsX3_tell (wsV RX3 197 RX3 yX3_shyTells wsX3_shyTells) := goodIn_app (goodIn_of _ (by decide +kernel)) ggX3_tell_X3_shyTells
set_option maxRecDepth 20000 in
theorem ggX3_tell_X3_childTells : GoodIn wsX3_tell wsX3_childTells := goodIn_r _ [27, 15, 16, 17, 12, 18, 19, 20, 21, 22, 23, 9, 10, 11, 13, 1, 14, 28, 29, 30, 31, 32, 33, 34, 35, 36, 37, 38, 39, 40] (by decide +kernel) (by decide +kernel)
set_option maxRecDepth 20000 in
theorem gX3_tell_X3_childTells : GoodIn wsX3_tell (wsV RX3 200 RX3 yX3_childTells wsX3_childTells) := goodIn_app (goodIn_of _ (by decide +kernel)) ggX3_tell_X3_childTells
theorem dX3_tell_0 : decode cX3_tell 0 = .ok (.aload_n 0, 1) := by decide +kernel
theorem dX3_tell_1 : decode cX3_tell 1 = .ok (.getfield 20, 3) := by decide +kernel
theorem dX3_tell_4 : decode cX3_tell 4 = .ok (.iload_n 1, 1) := by decide +kernel
theorem dX3_tell_5 : decode cX3_tell 5 = .ok (.invokevirtual 70, 3) := by decide +kernel
theorem dX3_tell_8 : decode cX3_tell 8 = .ok (.ifCond .ne 5, 3) := by decide +kernel
theorem dX3_tell_11 : decode cX3_tell 11 = .ok (.iconst (-1), 1) := by decide +kernel
theorem dX3_tell_12 : decode cX3_tell 12 = .ok (.ireturn, 1) := by decide +kernel
theorem dX3_tell_13 : decode cX3_tell 13 = .ok (.aload_n 0, 1) := by decide +kernel
theorem dX3_tell_14 : decode cX3_tell 14 = .ok (.getfield 20, 3) := by decide +kernel
theorem dX3_tell_17 : decode cX3_tell 17 = .ok (.getfield 73, 3) := by decide +kernel
theorem dX3_tell_20 : decode cX3_tell 20 = .ok (.iload_n 1, 1) := by decide +kernel
theorem dX3_tell_21 : decode cX3_tell 21 = .ok (.iaload, 1) := by decide +kernel
theorem dX3_tell_22 : decode cX3_tell 22 = .ok (.lookupswitch 38 #[(0, 26), (1, 32)], 26) := by decide +kernel
theorem dX3_tell_48 : decode cX3_tell 48 = .ok (.aload_n 0, 1) := by decide +kernel
theorem dX3_tell_49 : decode cX3_tell 49 = .ok (.iload_n 1, 1) := by decide +kernel
theorem dX3_tell_50 : decode cX3_tell 50 = .ok (.invokevirtual 194, 3) := by decide +kernel
theorem dX3_tell_53 : decode cX3_tell 53 = .ok (.ireturn, 1) := by decide +kernel
theorem dX3_tell_54 : decode cX3_tell 54 = .ok (.aload_n 0, 1) := by decide +kernel
theorem dX3_tell_55 : decode cX3_tell 55 = .ok (.iload_n 1, 1) := by decide +kernel
theorem dX3_tell_56 : decode cX3_tell 56 = .ok (.invokevirtual 197, 3) := by decide +kernel
theorem dX3_tell_59 : decode cX3_tell 59 = .ok (.ireturn, 1) := by decide +kernel
theorem dX3_tell_60 : decode cX3_tell 60 = .ok (.aload_n 0, 1) := by decide +kernel
theorem dX3_tell_61 : decode cX3_tell 61 = .ok (.iload_n 1, 1) := by decide +kernel
theorem dX3_tell_62 : decode cX3_tell 62 = .ok (.invokevirtual 200, 3) := by decide +kernel
theorem dX3_tell_65 : decode cX3_tell 65 = .ok (.ireturn, 1) := by decide +kernel
set_option maxRecDepth 20000 in
theorem ggX3_call_X2_has : GoodIn wsX3_call wsX2_has := goodIn_r _ [7, 8, 30, 31, 32, 33, 34, 35] (by decide +kernel) (by decide +kernel)
set_option maxRecDepth 20000 in
theorem gX3_call_X2_has : GoodIn wsX3_call (wsV RX3 70 RX2 yX2_has wsX2_has) := goodIn_app (goodIn_of _ (by decide +kernel)) ggX3_call_X2_has
set_option maxRecDepth 20000 in
theorem ggX3_call_X3_childIsCalled : GoodIn wsX3_call wsX3_childIsCalled := goodIn_r _ [13, 14, 15, 16, 12, 17, 18, 23, 24, 25, 26, 27, 28, 29] (by decide +kernel) (by decide +kernel)
set_option maxRecDepth 20000 in
theorem gX3_call_X3_childIsCalled : GoodIn wsX3_call (wsV RX3 203 RX3 yX3_childIsCalled wsX3_childIsCalled) := goodIn_app (goodIn_of _ (by decide +kernel)) ggX3_call_X3_childIsCalled
set_option maxRecDepth 20000 in
theorem ggX3_call_X3_lentIsCalled : GoodIn wsX3_call wsX3_lentIsCalled := goodIn_r _ [22, 14, 15, 16, 12, 17, 18, 23, 24, 25, 26, 27, 28, 29] (by decide +kernel) (by decide +kernel)
set_option maxRecDepth 20000 in
theorem gX3_call_X3_lentIsCalled : GoodIn wsX3_call (wsV RX3 206 RX3 yX3_lentIsCalled wsX3_lentIsCalled) := goodIn_app (goodIn_of _ (by decide +kernel)) ggX3_call_X3_lentIsCalled
theorem dX3_call_0 : decode cX3_call 0 = .ok (.aload_n 0, 1) := by decide +kernel
theorem dX3_call_1 : decode cX3_call 1 = .ok (.getfield 20, 3) := by decide +kernel
theorem dX3_call_4 : decode cX3_call 4 = .ok (.iload_n 1, 1) := by decide +kernel
theorem dX3_call_5 : decode cX3_call 5 = .ok (.invokevirtual 70, 3) := by decide +kernel
theorem dX3_call_8 : decode cX3_call 8 = .ok (.ifCond .ne 5, 3) := by decide +kernel
theorem dX3_call_11 : decode cX3_call 11 = .ok (.iconst (-1), 1) := by decide +kernel
theorem dX3_call_12 : decode cX3_call 12 = .ok (.ireturn, 1) := by decide +kernel
theorem dX3_call_13 : decode cX3_call 13 = .ok (.aload_n 0, 1) := by decide +kernel
theorem dX3_call_14 : decode cX3_call 14 = .ok (.getfield 20, 3) := by decide +kernel
theorem dX3_call_17 : decode cX3_call 17 = .ok (.getfield 73, 3) := by decide +kernel
theorem dX3_call_20 : decode cX3_call 20 = .ok (.iload_n 1, 1) := by decide +kernel
theorem dX3_call_21 : decode cX3_call 21 = .ok (.iaload, 1) := by decide +kernel
theorem dX3_call_22 : decode cX3_call 22 = .ok (.iconst 2, 1) := by decide +kernel
theorem dX3_call_23 : decode cX3_call 23 = .ok (.if_icmp .ne 10, 3) := by decide +kernel
theorem dX3_call_26 : decode cX3_call 26 = .ok (.aload_n 0, 1) := by decide +kernel
theorem dX3_call_27 : decode cX3_call 27 = .ok (.invokevirtual 203, 3) := by decide +kernel
theorem dX3_call_30 : decode cX3_call 30 = .ok (.goto 8, 3) := by decide +kernel
theorem dX3_call_33 : decode cX3_call 33 = .ok (.aload_n 0, 1) := by decide +kernel
theorem dX3_call_34 : decode cX3_call 34 = .ok (.iload_n 1, 1) := by decide +kernel
theorem dX3_call_35 : decode cX3_call 35 = .ok (.invokevirtual 206, 3) := by decide +kernel
theorem dX3_call_38 : decode cX3_call 38 = .ok (.ireturn, 1) := by decide +kernel
set_option maxRecDepth 20000 in
theorem ggX3_as_X2_has : GoodIn wsX3_as wsX2_has := goodIn_r _ [8, 9, 22, 23, 24, 25, 26, 27] (by decide +kernel) (by decide +kernel)
set_option maxRecDepth 20000 in
theorem gX3_as_X2_has : GoodIn wsX3_as (wsV RX3 70 RX2 yX2_has wsX2_has) := goodIn_app (goodIn_of _ (by decide +kernel)) ggX3_as_X2_has
set_option maxRecDepth 20000 in
theorem ggX3_as_X3_faulty : GoodIn wsX3_as wsX3_faulty := goodIn_r _ [14, 1, 15, 16, 17, 18, 19, 20, 21] (by decide +kernel) (by decide +kernel)
set_option maxRecDepth 20000 in
theorem gX3_as_X3_faulty : GoodIn wsX3_as (wsV RX3 51 RX3 yX3_faulty wsX3_faulty) := goodIn_app (goodIn_of _ (by decide +kernel)) ggX3_as_X3_faulty
theorem dX3_as_0 : decode cX3_as 0 = .ok (.aload_n 0, 1) := by decide +kernel
theorem dX3_as_1 : decode cX3_as 1 = .ok (.iconst 0, 1) := by decide +kernel
theorem dX3_as_2 : decode cX3_as 2 = .ok (.putfield 35, 3) := by decide +kernel
theorem dX3_as_5 : decode cX3_as 5 = .ok (.aload_n 0, 1) := by decide +kernel
theorem dX3_as_6 : decode cX3_as 6 = .ok (.getfield 20, 3) := by decide +kernel
theorem dX3_as_9 : decode cX3_as 9 = .ok (.iload_n 1, 1) := by decide +kernel
theorem dX3_as_10 : decode cX3_as 10 = .ok (.invokevirtual 70, 3) := by decide +kernel
theorem dX3_as_13 : decode cX3_as 13 = .ok (.ifCond .ne 5, 3) := by decide +kernel
theorem dX3_as_16 : decode cX3_as 16 = .ok (.iconst (-1), 1) := by decide +kernel
theorem dX3_as_17 : decode cX3_as 17 = .ok (.ireturn, 1) := by decide +kernel
theorem dX3_as_18 : decode cX3_as 18 = .ok (.iload_n 2, 1) := by decide +kernel
theorem dX3_as_19 : decode cX3_as 19 = .ok (.ifCond .lt 8, 3) := by decide +kernel
theorem dX3_as_22 : decode cX3_as 22 = .ok (.iload_n 2, 1) := by decide +kernel
theorem dX3_as_23 : decode cX3_as 23 = .ok (.iconst 2, 1) := by decide +kernel
theorem dX3_as_24 : decode cX3_as 24 = .ok (.if_icmp .le 6, 3) := by decide +kernel
theorem dX3_as_27 : decode cX3_as 27 = .ok (.bipush (-2), 2) := by decide +kernel
theorem dX3_as_29 : decode cX3_as 29 = .ok (.ireturn, 1) := by decide +kernel
theorem dX3_as_30 : decode cX3_as 30 = .ok (.aload_n 0, 1) := by decide +kernel
theorem dX3_as_31 : decode cX3_as 31 = .ok (.getfield 20, 3) := by decide +kernel
theorem dX3_as_34 : decode cX3_as 34 = .ok (.getfield 73, 3) := by decide +kernel
theorem dX3_as_37 : decode cX3_as 37 = .ok (.iload_n 1, 1) := by decide +kernel
theorem dX3_as_38 : decode cX3_as 38 = .ok (.iaload, 1) := by decide +kernel
theorem dX3_as_39 : decode cX3_as 39 = .ok (.iload_n 2, 1) := by decide +kernel
theorem dX3_as_40 : decode cX3_as 40 = .ok (.if_icmp .ge 11, 3) := by decide +kernel
theorem dX3_as_43 : decode cX3_as 43 = .ok (.aload_n 0, 1) := by decide +kernel
theorem dX3_as_44 : decode cX3_as 44 = .ok (.iconst 2, 1) := by decide +kernel
theorem dX3_as_45 : decode cX3_as 45 = .ok (.invokevirtual 51, 3) := by decide +kernel
theorem dX3_as_48 : decode cX3_as 48 = .ok (.goto 4, 3) := by decide +kernel
theorem dX3_as_51 : decode cX3_as 51 = .ok (.iconst 1, 1) := by decide +kernel
theorem dX3_as_52 : decode cX3_as 52 = .ok (.ireturn, 1) := by decide +kernel
theorem dX3_trace_0 : decode cX3_trace 0 = .ok (.aload_n 0, 1) := by decide +kernel
theorem dX3_trace_1 : decode cX3_trace 1 = .ok (.getfield 209, 3) := by decide +kernel
theorem dX3_trace_4 : decode cX3_trace 4 = .ok (.ireturn, 1) := by decide +kernel
theorem dX3_fault_0 : decode cX3_fault 0 = .ok (.aload_n 0, 1) := by decide +kernel
theorem dX3_fault_1 : decode cX3_fault 1 = .ok (.getfield 35, 3) := by decide +kernel
theorem dX3_fault_4 : decode cX3_fault 4 = .ok (.ireturn, 1) := by decide +kernel
set_option maxRecDepth 20000 in
theorem ggX3_many_X2_heads : GoodIn wsX3_many wsX2_heads := goodIn_r _ [11, 12, 13, 14, 15, 16, 17, 18, 19, 27, 28, 29, 30, 31, 32] (by decide +kernel) (by decide +kernel)
set_option maxRecDepth 20000 in
theorem gX3_many_X2_heads : GoodIn wsX3_many (wsV RX3 152 RX2 yX2_heads wsX2_heads) := goodIn_app (goodIn_of _ (by decide +kernel)) ggX3_many_X2_heads
theorem dX3_many_0 : decode cX3_many 0 = .ok (.iload_n 1, 1) := by decide +kernel
theorem dX3_many_1 : decode cX3_many 1 = .ok (.tableswitch 72 0 4 #[35, 43, 51, 59, 64], 35) := by decide +kernel
theorem dX3_many_36 : decode cX3_many 36 = .ok (.aload_n 0, 1) := by decide +kernel
theorem dX3_many_37 : decode cX3_many 37 = .ok (.getfield 20, 3) := by decide +kernel
theorem dX3_many_40 : decode cX3_many 40 = .ok (.getfield 69, 3) := by decide +kernel
theorem dX3_many_43 : decode cX3_many 43 = .ok (.ireturn, 1) := by decide +kernel
theorem dX3_many_44 : decode cX3_many 44 = .ok (.aload_n 0, 1) := by decide +kernel
theorem dX3_many_45 : decode cX3_many 45 = .ok (.getfield 20, 3) := by decide +kernel
theorem dX3_many_48 : decode cX3_many 48 = .ok (.getfield 103, 3) := by decide +kernel
theorem dX3_many_51 : decode cX3_many 51 = .ok (.ireturn, 1) := by decide +kernel
theorem dX3_many_52 : decode cX3_many 52 = .ok (.aload_n 0, 1) := by decide +kernel
theorem dX3_many_53 : decode cX3_many 53 = .ok (.getfield 20, 3) := by decide +kernel
theorem dX3_many_56 : decode cX3_many 56 = .ok (.invokevirtual 152, 3) := by decide +kernel
theorem dX3_many_59 : decode cX3_many 59 = .ok (.ireturn, 1) := by decide +kernel
theorem dX3_many_60 : decode cX3_many 60 = .ok (.aload_n 0, 1) := by decide +kernel
theorem dX3_many_61 : decode cX3_many 61 = .ok (.getfield 66, 3) := by decide +kernel
theorem dX3_many_64 : decode cX3_many 64 = .ok (.ireturn, 1) := by decide +kernel
theorem dX3_many_65 : decode cX3_many 65 = .ok (.aload_n 0, 1) := by decide +kernel
theorem dX3_many_66 : decode cX3_many 66 = .ok (.getfield 30, 3) := by decide +kernel
theorem dX3_many_69 : decode cX3_many 69 = .ok (.getfield 63, 3) := by decide +kernel
theorem dX3_many_72 : decode cX3_many 72 = .ok (.ireturn, 1) := by decide +kernel
theorem dX3_many_73 : decode cX3_many 73 = .ok (.bipush (-2), 2) := by decide +kernel
theorem dX3_many_75 : decode cX3_many 75 = .ok (.ireturn, 1) := by decide +kernel
theorem dX3_sheetAt_0 : decode cX3_sheetAt 0 = .ok (.iload_n 1, 1) := by decide +kernel
theorem dX3_sheetAt_1 : decode cX3_sheetAt 1 = .ok (.ifCond .lt 21, 3) := by decide +kernel
theorem dX3_sheetAt_4 : decode cX3_sheetAt 4 = .ok (.iload_n 1, 1) := by decide +kernel
theorem dX3_sheetAt_5 : decode cX3_sheetAt 5 = .ok (.aload_n 0, 1) := by decide +kernel
theorem dX3_sheetAt_6 : decode cX3_sheetAt 6 = .ok (.getfield 13, 3) := by decide +kernel
theorem dX3_sheetAt_9 : decode cX3_sheetAt 9 = .ok (.arraylength, 1) := by decide +kernel
theorem dX3_sheetAt_10 : decode cX3_sheetAt 10 = .ok (.if_icmp .ge 12, 3) := by decide +kernel
theorem dX3_sheetAt_13 : decode cX3_sheetAt 13 = .ok (.aload_n 0, 1) := by decide +kernel
theorem dX3_sheetAt_14 : decode cX3_sheetAt 14 = .ok (.getfield 13, 3) := by decide +kernel
theorem dX3_sheetAt_17 : decode cX3_sheetAt 17 = .ok (.iload_n 1, 1) := by decide +kernel
theorem dX3_sheetAt_18 : decode cX3_sheetAt 18 = .ok (.aaload, 1) := by decide +kernel
theorem dX3_sheetAt_19 : decode cX3_sheetAt 19 = .ok (.goto 4, 3) := by decide +kernel
theorem dX3_sheetAt_22 : decode cX3_sheetAt 22 = .ok (.aconst_null, 1) := by decide +kernel
theorem dX3_sheetAt_23 : decode cX3_sheetAt 23 = .ok (.areturn, 1) := by decide +kernel
theorem dX3_faulty_0 : decode cX3_faulty 0 = .ok (.aload_n 0, 1) := by decide +kernel
theorem dX3_faulty_1 : decode cX3_faulty 1 = .ok (.iload_n 1, 1) := by decide +kernel
theorem dX3_faulty_2 : decode cX3_faulty 2 = .ok (.putfield 35, 3) := by decide +kernel
theorem dX3_faulty_5 : decode cX3_faulty 5 = .ok (.bipush (-10), 2) := by decide +kernel
theorem dX3_faulty_7 : decode cX3_faulty 7 = .ok (.iload_n 1, 1) := by decide +kernel
theorem dX3_faulty_8 : decode cX3_faulty 8 = .ok (.isub, 1) := by decide +kernel
theorem dX3_faulty_9 : decode cX3_faulty 9 = .ok (.ireturn, 1) := by decide +kernel
theorem dX3_isLane_0 : decode cX3_isLane 0 = .ok (.iload_n 0, 1) := by decide +kernel
theorem dX3_isLane_1 : decode cX3_isLane 1 = .ok (.ifCond .lt 12, 3) := by decide +kernel
theorem dX3_isLane_4 : decode cX3_isLane 4 = .ok (.iload_n 0, 1) := by decide +kernel
theorem dX3_isLane_5 : decode cX3_isLane 5 = .ok (.iconst 2, 1) := by decide +kernel
theorem dX3_isLane_6 : decode cX3_isLane 6 = .ok (.if_icmp .gt 7, 3) := by decide +kernel
theorem dX3_isLane_9 : decode cX3_isLane 9 = .ok (.iconst 1, 1) := by decide +kernel
theorem dX3_isLane_10 : decode cX3_isLane 10 = .ok (.goto 4, 3) := by decide +kernel
theorem dX3_isLane_13 : decode cX3_isLane 13 = .ok (.iconst 0, 1) := by decide +kernel
theorem dX3_isLane_14 : decode cX3_isLane 14 = .ok (.ireturn, 1) := by decide +kernel
theorem dX3_isHalfOfShare_0 : decode cX3_isHalfOfShare 0 = .ok (.iload_n 0, 1) := by decide +kernel
theorem dX3_isHalfOfShare_1 : decode cX3_isHalfOfShare 1 = .ok (.ifCond .eq 8, 3) := by decide +kernel
theorem dX3_isHalfOfShare_4 : decode cX3_isHalfOfShare 4 = .ok (.iload_n 0, 1) := by decide +kernel
theorem dX3_isHalfOfShare_5 : decode cX3_isHalfOfShare 5 = .ok (.iconst 1, 1) := by decide +kernel
theorem dX3_isHalfOfShare_6 : decode cX3_isHalfOfShare 6 = .ok (.if_icmp .ne 7, 3) := by decide +kernel
theorem dX3_isHalfOfShare_9 : decode cX3_isHalfOfShare 9 = .ok (.iconst 1, 1) := by decide +kernel
theorem dX3_isHalfOfShare_10 : decode cX3_isHalfOfShare 10 = .ok (.goto 4, 3) := by decide +kernel
theorem dX3_isHalfOfShare_13 : decode cX3_isHalfOfShare 13 = .ok (.iconst 0, 1) := by decide +kernel
theorem dX3_isHalfOfShare_14 : decode cX3_isHalfOfShare 14 = .ok (.ireturn, 1) := by decide +kernel
theorem dX3_isMember_0 : decode cX3_isMember 0 = .ok (.iload_n 0, 1) := by decide +kernel
theorem dX3_isMember_1 : decode cX3_isMember 1 = .ok (.iload_n 1, 1) := by decide +kernel
theorem dX3_isMember_2 : decode cX3_isMember 2 = .ok (.ishr, 1) := by decide +kernel
theorem dX3_isMember_3 : decode cX3_isMember 3 = .ok (.iconst 1, 1) := by decide +kernel
theorem dX3_isMember_4 : decode cX3_isMember 4 = .ok (.iand, 1) := by decide +kernel
theorem dX3_isMember_5 : decode cX3_isMember 5 = .ok (.iconst 1, 1) := by decide +kernel
theorem dX3_isMember_6 : decode cX3_isMember 6 = .ok (.if_icmp .ne 7, 3) := by decide +kernel
theorem dX3_isMember_9 : decode cX3_isMember 9 = .ok (.iconst 1, 1) := by decide +kernel
theorem dX3_isMember_10 : decode cX3_isMember 10 = .ok (.goto 4, 3) := by decide +kernel
theorem dX3_isMember_13 : decode cX3_isMember 13 = .ok (.iconst 0, 1) := by decide +kernel
theorem dX3_isMember_14 : decode cX3_isMember 14 = .ok (.ireturn, 1) := by decide +kernel
theorem dX3_says_0 : decode cX3_says 0 = .ok (.iload_n 2, 1) := by decide +kernel
theorem dX3_says_1 : decode cX3_says 1 = .ok (.ifCond .le 9, 3) := by decide +kernel
theorem dX3_says_4 : decode cX3_says 4 = .ok (.iload_n 1, 1) := by decide +kernel
theorem dX3_says_5 : decode cX3_says 5 = .ok (.iload_n 2, 1) := by decide +kernel
theorem dX3_says_6 : decode cX3_says 6 = .ok (.idiv, 1) := by decide +kernel
theorem dX3_says_7 : decode cX3_says 7 = .ok (.goto 4, 3) := by decide +kernel
theorem dX3_says_10 : decode cX3_says 10 = .ok (.iconst 0, 1) := by decide +kernel
theorem dX3_says_11 : decode cX3_says 11 = .ok (.istore_n 3, 1) := by decide +kernel
theorem dX3_says_12 : decode cX3_says 12 = .ok (.iload_n 0, 1) := by decide +kernel
theorem dX3_says_13 : decode cX3_says 13 = .ok (.lookupswitch 39 #[(1, 27), (2, 35)], 27) := by decide +kernel
theorem dX3_says_40 : decode cX3_says 40 = .ok (.iload_n 3, 1) := by decide +kernel
theorem dX3_says_41 : decode cX3_says 41 = .ok (.iconst 1, 1) := by decide +kernel
theorem dX3_says_42 : decode cX3_says 42 = .ok (.isub, 1) := by decide +kernel
theorem dX3_says_43 : decode cX3_says 43 = .ok (.iconst 0, 1) := by decide +kernel
theorem dX3_says_44 : decode cX3_says 44 = .ok (.invokestatic 212, 3) := by decide +kernel
theorem dX3_says_47 : decode cX3_says 47 = .ok (.ireturn, 1) := by decide +kernel
theorem dX3_says_48 : decode cX3_says 48 = .ok (.iconst 2, 1) := by decide +kernel
theorem dX3_says_49 : decode cX3_says 49 = .ok (.iload_n 3, 1) := by decide +kernel
theorem dX3_says_50 : decode cX3_says 50 = .ok (.imul, 1) := by decide +kernel
theorem dX3_says_51 : decode cX3_says 51 = .ok (.ireturn, 1) := by decide +kernel
theorem dX3_says_52 : decode cX3_says 52 = .ok (.iload_n 3, 1) := by decide +kernel
theorem dX3_says_53 : decode cX3_says 53 = .ok (.ireturn, 1) := by decide +kernel
theorem dX3_shareOf_0 : decode cX3_shareOf 0 = .ok (.iload_n 1, 1) := by decide +kernel
theorem dX3_shareOf_1 : decode cX3_shareOf 1 = .ok (.istore_n 3, 1) := by decide +kernel
theorem dX3_shareOf_2 : decode cX3_shareOf 2 = .ok (.iload_n 0, 1) := by decide +kernel
theorem dX3_shareOf_3 : decode cX3_shareOf 3 = .ok (.istore 4, 2) := by decide +kernel
theorem dX3_shareOf_5 : decode cX3_shareOf 5 = .ok (.iconst 0, 1) := by decide +kernel
theorem dX3_shareOf_6 : decode cX3_shareOf 6 = .ok (.istore 5, 2) := by decide +kernel
theorem dX3_shareOf_8 : decode cX3_shareOf 8 = .ok (.iload 5, 2) := by decide +kernel
theorem dX3_shareOf_10 : decode cX3_shareOf 10 = .ok (.bipush 64, 2) := by decide +kernel
theorem dX3_shareOf_12 : decode cX3_shareOf 12 = .ok (.if_icmp .ge 27, 3) := by decide +kernel
theorem dX3_shareOf_15 : decode cX3_shareOf 15 = .ok (.iload 4, 2) := by decide +kernel
theorem dX3_shareOf_17 : decode cX3_shareOf 17 = .ok (.ifCond .eq 22, 3) := by decide +kernel
theorem dX3_shareOf_20 : decode cX3_shareOf 20 = .ok (.iload_n 3, 1) := by decide +kernel
theorem dX3_shareOf_21 : decode cX3_shareOf 21 = .ok (.iload 4, 2) := by decide +kernel
theorem dX3_shareOf_23 : decode cX3_shareOf 23 = .ok (.irem, 1) := by decide +kernel
theorem dX3_shareOf_24 : decode cX3_shareOf 24 = .ok (.istore 6, 2) := by decide +kernel
theorem dX3_shareOf_26 : decode cX3_shareOf 26 = .ok (.iload 4, 2) := by decide +kernel
theorem dX3_shareOf_28 : decode cX3_shareOf 28 = .ok (.istore_n 3, 1) := by decide +kernel
theorem dX3_shareOf_29 : decode cX3_shareOf 29 = .ok (.iload 6, 2) := by decide +kernel
theorem dX3_shareOf_31 : decode cX3_shareOf 31 = .ok (.istore 4, 2) := by decide +kernel
theorem dX3_shareOf_33 : decode cX3_shareOf 33 = .ok (.iinc 5 1, 3) := by decide +kernel
theorem dX3_shareOf_36 : decode cX3_shareOf 36 = .ok (.goto (-28), 3) := by decide +kernel
theorem dX3_shareOf_39 : decode cX3_shareOf 39 = .ok (.iload_n 3, 1) := by decide +kernel
theorem dX3_shareOf_40 : decode cX3_shareOf 40 = .ok (.iconst 1, 1) := by decide +kernel
theorem dX3_shareOf_41 : decode cX3_shareOf 41 = .ok (.if_icmp .ge 7, 3) := by decide +kernel
theorem dX3_shareOf_44 : decode cX3_shareOf 44 = .ok (.ldc2_w 140, 3) := by decide +kernel
theorem dX3_shareOf_47 : decode cX3_shareOf 47 = .ok (.lreturn, 1) := by decide +kernel
theorem dX3_shareOf_48 : decode cX3_shareOf 48 = .ok (.iload_n 2, 1) := by decide +kernel
theorem dX3_shareOf_49 : decode cX3_shareOf 49 = .ok (.ifCond .ne 7, 3) := by decide +kernel
theorem dX3_shareOf_52 : decode cX3_shareOf 52 = .ok (.iload_n 0, 1) := by decide +kernel
theorem dX3_shareOf_53 : decode cX3_shareOf 53 = .ok (.goto 4, 3) := by decide +kernel
theorem dX3_shareOf_56 : decode cX3_shareOf 56 = .ok (.iload_n 1, 1) := by decide +kernel
theorem dX3_shareOf_57 : decode cX3_shareOf 57 = .ok (.iload_n 3, 1) := by decide +kernel
theorem dX3_shareOf_58 : decode cX3_shareOf 58 = .ok (.idiv, 1) := by decide +kernel
theorem dX3_shareOf_59 : decode cX3_shareOf 59 = .ok (.i2l, 1) := by decide +kernel
theorem dX3_shareOf_60 : decode cX3_shareOf 60 = .ok (.lreturn, 1) := by decide +kernel
set_option maxRecDepth 20000 in
theorem ggX3_firstFaultOf_X1_at : GoodIn wsX3_firstFaultOf wsX1_at := goodIn_r _ [5, 6, 17, 18, 19, 20] (by decide +kernel) (by decide +kernel)
set_option maxRecDepth 20000 in
theorem gX3_firstFaultOf_X1_at : GoodIn wsX3_firstFaultOf (wsV RX3 182 RX1 yX1_at wsX1_at) := goodIn_app (goodIn_of _ (by decide +kernel)) ggX3_firstFaultOf_X1_at
set_option maxRecDepth 20000 in
theorem ggX3_firstFaultOf_X3_goesOn : GoodIn wsX3_firstFaultOf wsX3_goesOn := goodIn_r _ [10, 11, 12, 9, 13, 14, 15, 16] (by decide +kernel) (by decide +kernel)
set_option maxRecDepth 20000 in
theorem gX3_firstFaultOf_X3_goesOn : GoodIn wsX3_firstFaultOf (va_wsS RX3 217 yX3_goesOn wsX3_goesOn) := goodIn_app (goodIn_of _ (by decide +kernel)) ggX3_firstFaultOf_X3_goesOn
theorem dX3_firstFaultOf_0 : decode cX3_firstFaultOf 0 = .ok (.iconst 0, 1) := by decide +kernel
theorem dX3_firstFaultOf_1 : decode cX3_firstFaultOf 1 = .ok (.istore_n 3, 1) := by decide +kernel
theorem dX3_firstFaultOf_2 : decode cX3_firstFaultOf 2 = .ok (.iload_n 3, 1) := by decide +kernel
theorem dX3_firstFaultOf_3 : decode cX3_firstFaultOf 3 = .ok (.iload_n 2, 1) := by decide +kernel
theorem dX3_firstFaultOf_4 : decode cX3_firstFaultOf 4 = .ok (.if_icmp .ge 25, 3) := by decide +kernel
theorem dX3_firstFaultOf_7 : decode cX3_firstFaultOf 7 = .ok (.iload_n 3, 1) := by decide +kernel
theorem dX3_firstFaultOf_8 : decode cX3_firstFaultOf 8 = .ok (.aload_n 0, 1) := by decide +kernel
theorem dX3_firstFaultOf_9 : decode cX3_firstFaultOf 9 = .ok (.iload_n 1, 1) := by decide +kernel
theorem dX3_firstFaultOf_10 : decode cX3_firstFaultOf 10 = .ok (.iload_n 3, 1) := by decide +kernel
theorem dX3_firstFaultOf_11 : decode cX3_firstFaultOf 11 = .ok (.iadd, 1) := by decide +kernel
theorem dX3_firstFaultOf_12 : decode cX3_firstFaultOf 12 = .ok (.invokevirtual 182, 3) := by decide +kernel
theorem dX3_firstFaultOf_15 : decode cX3_firstFaultOf 15 = .ok (.invokestatic 217, 3) := by decide +kernel
theorem dX3_firstFaultOf_18 : decode cX3_firstFaultOf 18 = .ok (.ifCond .ne 5, 3) := by decide +kernel
theorem dX3_firstFaultOf_21 : decode cX3_firstFaultOf 21 = .ok (.iload_n 3, 1) := by decide +kernel
theorem dX3_firstFaultOf_22 : decode cX3_firstFaultOf 22 = .ok (.ireturn, 1) := by decide +kernel
theorem dX3_firstFaultOf_23 : decode cX3_firstFaultOf 23 = .ok (.iinc 3 1, 3) := by decide +kernel
theorem dX3_firstFaultOf_26 : decode cX3_firstFaultOf 26 = .ok (.goto (-24), 3) := by decide +kernel
theorem dX3_firstFaultOf_29 : decode cX3_firstFaultOf 29 = .ok (.iload_n 2, 1) := by decide +kernel
theorem dX3_firstFaultOf_30 : decode cX3_firstFaultOf 30 = .ok (.bipush 15, 2) := by decide +kernel
theorem dX3_firstFaultOf_32 : decode cX3_firstFaultOf 32 = .ok (.if_icmp .lt 16, 3) := by decide +kernel
theorem dX3_firstFaultOf_35 : decode cX3_firstFaultOf 35 = .ok (.iload_n 2, 1) := by decide +kernel
theorem dX3_firstFaultOf_36 : decode cX3_firstFaultOf 36 = .ok (.iconst 3, 1) := by decide +kernel
theorem dX3_firstFaultOf_37 : decode cX3_firstFaultOf 37 = .ok (.isub, 1) := by decide +kernel
theorem dX3_firstFaultOf_38 : decode cX3_firstFaultOf 38 = .ok (.bipush 6, 2) := by decide +kernel
theorem dX3_firstFaultOf_40 : decode cX3_firstFaultOf 40 = .ok (.irem, 1) := by decide +kernel
theorem dX3_firstFaultOf_41 : decode cX3_firstFaultOf 41 = .ok (.ifCond .ne 7, 3) := by decide +kernel
theorem dX3_firstFaultOf_44 : decode cX3_firstFaultOf 44 = .ok (.iconst 1, 1) := by decide +kernel
theorem dX3_firstFaultOf_45 : decode cX3_firstFaultOf 45 = .ok (.goto 4, 3) := by decide +kernel
theorem dX3_firstFaultOf_48 : decode cX3_firstFaultOf 48 = .ok (.iconst 0, 1) := by decide +kernel
theorem dX3_firstFaultOf_49 : decode cX3_firstFaultOf 49 = .ok (.istore_n 3, 1) := by decide +kernel
theorem dX3_firstFaultOf_50 : decode cX3_firstFaultOf 50 = .ok (.iload_n 3, 1) := by decide +kernel
theorem dX3_firstFaultOf_51 : decode cX3_firstFaultOf 51 = .ok (.ifCond .eq 8, 3) := by decide +kernel
theorem dX3_firstFaultOf_54 : decode cX3_firstFaultOf 54 = .ok (.bipush (-9), 2) := by decide +kernel
theorem dX3_firstFaultOf_56 : decode cX3_firstFaultOf 56 = .ok (.goto 4, 3) := by decide +kernel
theorem dX3_firstFaultOf_59 : decode cX3_firstFaultOf 59 = .ok (.iload_n 2, 1) := by decide +kernel
theorem dX3_firstFaultOf_60 : decode cX3_firstFaultOf 60 = .ok (.ireturn, 1) := by decide +kernel
set_option maxRecDepth 20000 in
theorem ggX3_goesOn_X3_isBetween : GoodIn wsX3_goesOn wsX3_isBetween := goodIn_r _ [4] (by decide +kernel) (by decide +kernel)
set_option maxRecDepth 20000 in
theorem gX3_goesOn_X3_isBetween : GoodIn wsX3_goesOn (va_wsS RX3 220 yX3_isBetween wsX3_isBetween) := goodIn_app (goodIn_of _ (by decide +kernel)) ggX3_goesOn_X3_isBetween
set_option maxRecDepth 20000 in
theorem ggX3_goesOn_X3_personGoesOn : GoodIn wsX3_goesOn wsX3_personGoesOn := goodIn_r _ [7, 1, 2, 3, 4] (by decide +kernel) (by decide +kernel)
set_option maxRecDepth 20000 in
theorem gX3_goesOn_X3_personGoesOn : GoodIn wsX3_goesOn (va_wsS RX3 224 yX3_personGoesOn wsX3_personGoesOn) := goodIn_app (goodIn_of _ (by decide +kernel)) ggX3_goesOn_X3_personGoesOn
theorem dX3_goesOn_0 : decode cX3_goesOn 0 = .ok (.iload_n 0, 1) := by decide +kernel
theorem dX3_goesOn_1 : decode cX3_goesOn 1 = .ok (.tableswitch 57 0 2 #[27, 39, 48], 27) := by decide +kernel
theorem dX3_goesOn_28 : decode cX3_goesOn 28 = .ok (.iload_n 1, 1) := by decide +kernel
theorem dX3_goesOn_29 : decode cX3_goesOn 29 = .ok (.bipush 116, 2) := by decide +kernel
theorem dX3_goesOn_31 : decode cX3_goesOn 31 = .ok (.if_icmp .ne 7, 3) := by decide +kernel
theorem dX3_goesOn_34 : decode cX3_goesOn 34 = .ok (.iconst 1, 1) := by decide +kernel
theorem dX3_goesOn_35 : decode cX3_goesOn 35 = .ok (.goto 4, 3) := by decide +kernel
theorem dX3_goesOn_38 : decode cX3_goesOn 38 = .ok (.iconst 0, 1) := by decide +kernel
theorem dX3_goesOn_39 : decode cX3_goesOn 39 = .ok (.ireturn, 1) := by decide +kernel
theorem dX3_goesOn_40 : decode cX3_goesOn 40 = .ok (.iload_n 1, 1) := by decide +kernel
theorem dX3_goesOn_41 : decode cX3_goesOn 41 = .ok (.bipush 48, 2) := by decide +kernel
theorem dX3_goesOn_43 : decode cX3_goesOn 43 = .ok (.bipush 52, 2) := by decide +kernel
theorem dX3_goesOn_45 : decode cX3_goesOn 45 = .ok (.invokestatic 220, 3) := by decide +kernel
theorem dX3_goesOn_48 : decode cX3_goesOn 48 = .ok (.ireturn, 1) := by decide +kernel
theorem dX3_goesOn_49 : decode cX3_goesOn 49 = .ok (.iload_n 1, 1) := by decide +kernel
theorem dX3_goesOn_50 : decode cX3_goesOn 50 = .ok (.bipush 48, 2) := by decide +kernel
theorem dX3_goesOn_52 : decode cX3_goesOn 52 = .ok (.bipush 57, 2) := by decide +kernel
theorem dX3_goesOn_54 : decode cX3_goesOn 54 = .ok (.invokestatic 220, 3) := by decide +kernel
theorem dX3_goesOn_57 : decode cX3_goesOn 57 = .ok (.ireturn, 1) := by decide +kernel
theorem dX3_goesOn_58 : decode cX3_goesOn 58 = .ok (.iload_n 0, 1) := by decide +kernel
theorem dX3_goesOn_59 : decode cX3_goesOn 59 = .ok (.bipush 39, 2) := by decide +kernel
theorem dX3_goesOn_61 : decode cX3_goesOn 61 = .ok (.if_icmp .ge 20, 3) := by decide +kernel
theorem dX3_goesOn_64 : decode cX3_goesOn 64 = .ok (.iload_n 0, 1) := by decide +kernel
theorem dX3_goesOn_65 : decode cX3_goesOn 65 = .ok (.iconst 3, 1) := by decide +kernel
theorem dX3_goesOn_66 : decode cX3_goesOn 66 = .ok (.isub, 1) := by decide +kernel
theorem dX3_goesOn_67 : decode cX3_goesOn 67 = .ok (.bipush 6, 2) := by decide +kernel
theorem dX3_goesOn_69 : decode cX3_goesOn 69 = .ok (.irem, 1) := by decide +kernel
theorem dX3_goesOn_70 : decode cX3_goesOn 70 = .ok (.iload_n 1, 1) := by decide +kernel
theorem dX3_goesOn_71 : decode cX3_goesOn 71 = .ok (.invokestatic 224, 3) := by decide +kernel
theorem dX3_goesOn_74 : decode cX3_goesOn 74 = .ok (.ifCond .eq 7, 3) := by decide +kernel
theorem dX3_goesOn_77 : decode cX3_goesOn 77 = .ok (.iconst 1, 1) := by decide +kernel
theorem dX3_goesOn_78 : decode cX3_goesOn 78 = .ok (.goto 4, 3) := by decide +kernel
theorem dX3_goesOn_81 : decode cX3_goesOn 81 = .ok (.iconst 0, 1) := by decide +kernel
theorem dX3_goesOn_82 : decode cX3_goesOn 82 = .ok (.ireturn, 1) := by decide +kernel
set_option maxRecDepth 20000 in
theorem ggX3_personGoesOn_X3_isBetween : GoodIn wsX3_personGoesOn wsX3_isBetween := goodIn_r _ [4] (by decide +kernel) (by decide +kernel)
set_option maxRecDepth 20000 in
theorem gX3_personGoesOn_X3_isBetween : GoodIn wsX3_personGoesOn (va_wsS RX3 220 yX3_isBetween wsX3_isBetween) := goodIn_app (goodIn_of _ (by decide +kernel)) ggX3_personGoesOn_X3_isBetween
theorem dX3_personGoesOn_0 : decode cX3_personGoesOn 0 = .ok (.iload_n 0, 1) := by decide +kernel
theorem dX3_personGoesOn_1 : decode cX3_personGoesOn 1 = .ok (.tableswitch 98 0 4 #[35, 47, 71, 80, 89], 35) := by decide +kernel
theorem dX3_personGoesOn_36 : decode cX3_personGoesOn 36 = .ok (.iload_n 1, 1) := by decide +kernel
theorem dX3_personGoesOn_37 : decode cX3_personGoesOn 37 = .ok (.bipush 59, 2) := by decide +kernel
theorem dX3_personGoesOn_39 : decode cX3_personGoesOn 39 = .ok (.if_icmp .ne 7, 3) := by decide +kernel
theorem dX3_personGoesOn_42 : decode cX3_personGoesOn 42 = .ok (.iconst 1, 1) := by decide +kernel
theorem dX3_personGoesOn_43 : decode cX3_personGoesOn 43 = .ok (.goto 4, 3) := by decide +kernel
theorem dX3_personGoesOn_46 : decode cX3_personGoesOn 46 = .ok (.iconst 0, 1) := by decide +kernel
theorem dX3_personGoesOn_47 : decode cX3_personGoesOn 47 = .ok (.ireturn, 1) := by decide +kernel
theorem dX3_personGoesOn_48 : decode cX3_personGoesOn 48 = .ok (.iload_n 1, 1) := by decide +kernel
theorem dX3_personGoesOn_49 : decode cX3_personGoesOn 49 = .ok (.bipush 111, 2) := by decide +kernel
theorem dX3_personGoesOn_51 : decode cX3_personGoesOn 51 = .ok (.if_icmp .eq 15, 3) := by decide +kernel
theorem dX3_personGoesOn_54 : decode cX3_personGoesOn 54 = .ok (.iload_n 1, 1) := by decide +kernel
theorem dX3_personGoesOn_55 : decode cX3_personGoesOn 55 = .ok (.bipush 115, 2) := by decide +kernel
theorem dX3_personGoesOn_57 : decode cX3_personGoesOn 57 = .ok (.if_icmp .eq 9, 3) := by decide +kernel
theorem dX3_personGoesOn_60 : decode cX3_personGoesOn 60 = .ok (.iload_n 1, 1) := by decide +kernel
theorem dX3_personGoesOn_61 : decode cX3_personGoesOn 61 = .ok (.bipush 99, 2) := by decide +kernel
theorem dX3_personGoesOn_63 : decode cX3_personGoesOn 63 = .ok (.if_icmp .ne 7, 3) := by decide +kernel
theorem dX3_personGoesOn_66 : decode cX3_personGoesOn 66 = .ok (.iconst 1, 1) := by decide +kernel
theorem dX3_personGoesOn_67 : decode cX3_personGoesOn 67 = .ok (.goto 4, 3) := by decide +kernel
theorem dX3_personGoesOn_70 : decode cX3_personGoesOn 70 = .ok (.iconst 0, 1) := by decide +kernel
theorem dX3_personGoesOn_71 : decode cX3_personGoesOn 71 = .ok (.ireturn, 1) := by decide +kernel
theorem dX3_personGoesOn_72 : decode cX3_personGoesOn 72 = .ok (.iload_n 1, 1) := by decide +kernel
theorem dX3_personGoesOn_73 : decode cX3_personGoesOn 73 = .ok (.bipush 48, 2) := by decide +kernel
theorem dX3_personGoesOn_75 : decode cX3_personGoesOn 75 = .ok (.bipush 51, 2) := by decide +kernel
theorem dX3_personGoesOn_77 : decode cX3_personGoesOn 77 = .ok (.invokestatic 220, 3) := by decide +kernel
theorem dX3_personGoesOn_80 : decode cX3_personGoesOn 80 = .ok (.ireturn, 1) := by decide +kernel
theorem dX3_personGoesOn_81 : decode cX3_personGoesOn 81 = .ok (.iload_n 1, 1) := by decide +kernel
theorem dX3_personGoesOn_82 : decode cX3_personGoesOn 82 = .ok (.bipush 48, 2) := by decide +kernel
theorem dX3_personGoesOn_84 : decode cX3_personGoesOn 84 = .ok (.bipush 57, 2) := by decide +kernel
theorem dX3_personGoesOn_86 : decode cX3_personGoesOn 86 = .ok (.invokestatic 220, 3) := by decide +kernel
theorem dX3_personGoesOn_89 : decode cX3_personGoesOn 89 = .ok (.ireturn, 1) := by decide +kernel
theorem dX3_personGoesOn_90 : decode cX3_personGoesOn 90 = .ok (.iload_n 1, 1) := by decide +kernel
theorem dX3_personGoesOn_91 : decode cX3_personGoesOn 91 = .ok (.bipush 49, 2) := by decide +kernel
theorem dX3_personGoesOn_93 : decode cX3_personGoesOn 93 = .ok (.bipush 57, 2) := by decide +kernel
theorem dX3_personGoesOn_95 : decode cX3_personGoesOn 95 = .ok (.invokestatic 220, 3) := by decide +kernel
theorem dX3_personGoesOn_98 : decode cX3_personGoesOn 98 = .ok (.ireturn, 1) := by decide +kernel
theorem dX3_personGoesOn_99 : decode cX3_personGoesOn 99 = .ok (.iload_n 1, 1) := by decide +kernel
theorem dX3_personGoesOn_100 : decode cX3_personGoesOn 100 = .ok (.bipush 48, 2) := by decide +kernel
theorem dX3_personGoesOn_102 : decode cX3_personGoesOn 102 = .ok (.bipush 49, 2) := by decide +kernel
theorem dX3_personGoesOn_104 : decode cX3_personGoesOn 104 = .ok (.invokestatic 220, 3) := by decide +kernel
theorem dX3_personGoesOn_107 : decode cX3_personGoesOn 107 = .ok (.ireturn, 1) := by decide +kernel
theorem dX3_isBetween_0 : decode cX3_isBetween 0 = .ok (.iload_n 0, 1) := by decide +kernel
theorem dX3_isBetween_1 : decode cX3_isBetween 1 = .ok (.iload_n 1, 1) := by decide +kernel
theorem dX3_isBetween_2 : decode cX3_isBetween 2 = .ok (.if_icmp .lt 12, 3) := by decide +kernel
theorem dX3_isBetween_5 : decode cX3_isBetween 5 = .ok (.iload_n 0, 1) := by decide +kernel
theorem dX3_isBetween_6 : decode cX3_isBetween 6 = .ok (.iload_n 2, 1) := by decide +kernel
theorem dX3_isBetween_7 : decode cX3_isBetween 7 = .ok (.if_icmp .gt 7, 3) := by decide +kernel
theorem dX3_isBetween_10 : decode cX3_isBetween 10 = .ok (.iconst 1, 1) := by decide +kernel
theorem dX3_isBetween_11 : decode cX3_isBetween 11 = .ok (.goto 4, 3) := by decide +kernel
theorem dX3_isBetween_14 : decode cX3_isBetween 14 = .ok (.iconst 0, 1) := by decide +kernel
theorem dX3_isBetween_15 : decode cX3_isBetween 15 = .ok (.ireturn, 1) := by decide +kernel
set_option maxRecDepth 20000 in
theorem ggX3_act_X2_has : GoodIn wsX3_act wsX2_has := goodIn_r _ [6, 7, 64, 65, 66, 67, 68, 69] (by decide +kernel) (by decide +kernel)
set_option maxRecDepth 20000 in
theorem gX3_act_X2_has : GoodIn wsX3_act (wsV RX3 70 RX2 yX2_has wsX2_has) := goodIn_app (goodIn_of _ (by decide +kernel)) ggX3_act_X2_has
set_option maxRecDepth 20000 in
theorem ggX3_act_X2_acts : GoodIn wsX3_act wsX2_acts := goodIn_r _ [11, 12, 13, 14, 15, 16, 5, 17, 18, 19, 20, 21, 22, 23, 24, 7, 25, 26, 27, 28, 29, 30, 31, 32, 33, 34, 35, 36, 37, 38, 39, 40, 41, 42, 43, 44, 45, 46, 47, 48, 49, 50, 51, 52, 53, 54, 55, 56, 64, 65, 66, 67, 68, 69] (by decide +kernel) (by decide +kernel)
set_option maxRecDepth 20000 in
theorem gX3_act_X2_acts : GoodIn wsX3_act (wsV RX3 227 RX2 yX2_acts wsX2_acts) := goodIn_app (goodIn_of _ (by decide +kernel)) ggX3_act_X2_acts
theorem dX3_act_0 : decode cX3_act 0 = .ok (.aload_n 0, 1) := by decide +kernel
theorem dX3_act_1 : decode cX3_act 1 = .ok (.getfield 20, 3) := by decide +kernel
theorem dX3_act_4 : decode cX3_act 4 = .ok (.iload_n 1, 1) := by decide +kernel
theorem dX3_act_5 : decode cX3_act 5 = .ok (.invokevirtual 70, 3) := by decide +kernel
theorem dX3_act_8 : decode cX3_act 8 = .ok (.ifCond .eq 15, 3) := by decide +kernel
theorem dX3_act_11 : decode cX3_act 11 = .ok (.aload_n 0, 1) := by decide +kernel
theorem dX3_act_12 : decode cX3_act 12 = .ok (.getfield 20, 3) := by decide +kernel
theorem dX3_act_15 : decode cX3_act 15 = .ok (.iload_n 1, 1) := by decide +kernel
theorem dX3_act_16 : decode cX3_act 16 = .ok (.iload_n 2, 1) := by decide +kernel
theorem dX3_act_17 : decode cX3_act 17 = .ok (.invokevirtual 227, 3) := by decide +kernel
theorem dX3_act_20 : decode cX3_act 20 = .ok (.goto 4, 3) := by decide +kernel
theorem dX3_act_23 : decode cX3_act 23 = .ok (.iconst (-1), 1) := by decide +kernel
theorem dX3_act_24 : decode cX3_act 24 = .ok (.ireturn, 1) := by decide +kernel
theorem dX3_isAskedOfYear_0 : decode cX3_isAskedOfYear 0 = .ok (.iload_n 0, 1) := by decide +kernel
theorem dX3_isAskedOfYear_1 : decode cX3_isAskedOfYear 1 = .ok (.ifCond .lt 8, 3) := by decide +kernel
theorem dX3_isAskedOfYear_4 : decode cX3_isAskedOfYear 4 = .ok (.iload_n 0, 1) := by decide +kernel
theorem dX3_isAskedOfYear_5 : decode cX3_isAskedOfYear 5 = .ok (.iconst 3, 1) := by decide +kernel
theorem dX3_isAskedOfYear_6 : decode cX3_isAskedOfYear 6 = .ok (.if_icmp .le 15, 3) := by decide +kernel
theorem dX3_isAskedOfYear_9 : decode cX3_isAskedOfYear 9 = .ok (.iload_n 0, 1) := by decide +kernel
theorem dX3_isAskedOfYear_10 : decode cX3_isAskedOfYear 10 = .ok (.bipush 10, 2) := by decide +kernel
theorem dX3_isAskedOfYear_12 : decode cX3_isAskedOfYear 12 = .ok (.if_icmp .lt 13, 3) := by decide +kernel
theorem dX3_isAskedOfYear_15 : decode cX3_isAskedOfYear 15 = .ok (.iload_n 0, 1) := by decide +kernel
theorem dX3_isAskedOfYear_16 : decode cX3_isAskedOfYear 16 = .ok (.bipush 16, 2) := by decide +kernel
theorem dX3_isAskedOfYear_18 : decode cX3_isAskedOfYear 18 = .ok (.if_icmp .ge 7, 3) := by decide +kernel
theorem dX3_isAskedOfYear_21 : decode cX3_isAskedOfYear 21 = .ok (.iconst 1, 1) := by decide +kernel
theorem dX3_isAskedOfYear_22 : decode cX3_isAskedOfYear 22 = .ok (.goto 4, 3) := by decide +kernel
theorem dX3_isAskedOfYear_25 : decode cX3_isAskedOfYear 25 = .ok (.iconst 0, 1) := by decide +kernel
theorem dX3_isAskedOfYear_26 : decode cX3_isAskedOfYear 26 = .ok (.ireturn, 1) := by decide +kernel
set_option maxRecDepth 20000 in
theorem ggX3_refusalOfPairs_X1_at : GoodIn wsX3_refusalOfPairs wsX1_at := goodIn_r _ [6, 7, 25, 26, 27, 28] (by decide +kernel) (by decide +kernel)
set_option maxRecDepth 20000 in
theorem gX3_refusalOfPairs_X1_at : GoodIn wsX3_refusalOfPairs (wsV RX3 182 RX1 yX1_at wsX1_at) := goodIn_app (goodIn_of _ (by decide +kernel)) ggX3_refusalOfPairs_X1_at
set_option maxRecDepth 20000 in
theorem ggX3_refusalOfPairs_X2_has : GoodIn wsX3_refusalOfPairs wsX2_has := goodIn_r _ [12, 13, 29, 30, 31, 32, 33, 34] (by decide +kernel) (by decide +kernel)
set_option maxRecDepth 20000 in
theorem gX3_refusalOfPairs_X2_has : GoodIn wsX3_refusalOfPairs (wsV RX3 70 RX2 yX2_has wsX2_has) := goodIn_app (goodIn_of _ (by decide +kernel)) ggX3_refusalOfPairs_X2_has
set_option maxRecDepth 20000 in
theorem ggX3_refusalOfPairs_X3_isBetween : GoodIn wsX3_refusalOfPairs wsX3_isBetween := goodIn_r _ [17] (by decide +kernel) (by decide +kernel)
set_option maxRecDepth 20000 in
theorem gX3_refusalOfPairs_X3_isBetween : GoodIn wsX3_refusalOfPairs (va_wsS RX3 220 yX3_isBetween wsX3_isBetween) := goodIn_app (goodIn_of _ (by decide +kernel)) ggX3_refusalOfPairs_X3_isBetween
theorem dX3_refusalOfPairs_0 : decode cX3_refusalOfPairs 0 = .ok (.iconst 0, 1) := by decide +kernel
theorem dX3_refusalOfPairs_1 : decode cX3_refusalOfPairs 1 = .ok (.istore 4, 2) := by decide +kernel
theorem dX3_refusalOfPairs_3 : decode cX3_refusalOfPairs 3 = .ok (.iload 4, 2) := by decide +kernel
theorem dX3_refusalOfPairs_5 : decode cX3_refusalOfPairs 5 = .ok (.iload_n 3, 1) := by decide +kernel
theorem dX3_refusalOfPairs_6 : decode cX3_refusalOfPairs 6 = .ok (.if_icmp .ge 54, 3) := by decide +kernel
theorem dX3_refusalOfPairs_9 : decode cX3_refusalOfPairs 9 = .ok (.aload_n 0, 1) := by decide +kernel
theorem dX3_refusalOfPairs_10 : decode cX3_refusalOfPairs 10 = .ok (.getfield 20, 3) := by decide +kernel
theorem dX3_refusalOfPairs_13 : decode cX3_refusalOfPairs 13 = .ok (.aload_n 1, 1) := by decide +kernel
theorem dX3_refusalOfPairs_14 : decode cX3_refusalOfPairs 14 = .ok (.iload_n 2, 1) := by decide +kernel
theorem dX3_refusalOfPairs_15 : decode cX3_refusalOfPairs 15 = .ok (.iconst 2, 1) := by decide +kernel
theorem dX3_refusalOfPairs_16 : decode cX3_refusalOfPairs 16 = .ok (.iload 4, 2) := by decide +kernel
theorem dX3_refusalOfPairs_18 : decode cX3_refusalOfPairs 18 = .ok (.imul, 1) := by decide +kernel
theorem dX3_refusalOfPairs_19 : decode cX3_refusalOfPairs 19 = .ok (.iadd, 1) := by decide +kernel
theorem dX3_refusalOfPairs_20 : decode cX3_refusalOfPairs 20 = .ok (.invokevirtual 182, 3) := by decide +kernel
theorem dX3_refusalOfPairs_23 : decode cX3_refusalOfPairs 23 = .ok (.invokevirtual 70, 3) := by decide +kernel
theorem dX3_refusalOfPairs_26 : decode cX3_refusalOfPairs 26 = .ok (.ifCond .ne 5, 3) := by decide +kernel
theorem dX3_refusalOfPairs_29 : decode cX3_refusalOfPairs 29 = .ok (.iconst (-1), 1) := by decide +kernel
theorem dX3_refusalOfPairs_30 : decode cX3_refusalOfPairs 30 = .ok (.ireturn, 1) := by decide +kernel
theorem dX3_refusalOfPairs_31 : decode cX3_refusalOfPairs 31 = .ok (.aload_n 1, 1) := by decide +kernel
theorem dX3_refusalOfPairs_32 : decode cX3_refusalOfPairs 32 = .ok (.iload_n 2, 1) := by decide +kernel
theorem dX3_refusalOfPairs_33 : decode cX3_refusalOfPairs 33 = .ok (.iconst 2, 1) := by decide +kernel
theorem dX3_refusalOfPairs_34 : decode cX3_refusalOfPairs 34 = .ok (.iload 4, 2) := by decide +kernel
theorem dX3_refusalOfPairs_36 : decode cX3_refusalOfPairs 36 = .ok (.imul, 1) := by decide +kernel
theorem dX3_refusalOfPairs_37 : decode cX3_refusalOfPairs 37 = .ok (.iadd, 1) := by decide +kernel
theorem dX3_refusalOfPairs_38 : decode cX3_refusalOfPairs 38 = .ok (.iconst 1, 1) := by decide +kernel
theorem dX3_refusalOfPairs_39 : decode cX3_refusalOfPairs 39 = .ok (.iadd, 1) := by decide +kernel
theorem dX3_refusalOfPairs_40 : decode cX3_refusalOfPairs 40 = .ok (.invokevirtual 182, 3) := by decide +kernel
theorem dX3_refusalOfPairs_43 : decode cX3_refusalOfPairs 43 = .ok (.iconst 0, 1) := by decide +kernel
theorem dX3_refusalOfPairs_44 : decode cX3_refusalOfPairs 44 = .ok (.iconst 4, 1) := by decide +kernel
theorem dX3_refusalOfPairs_45 : decode cX3_refusalOfPairs 45 = .ok (.invokestatic 220, 3) := by decide +kernel
theorem dX3_refusalOfPairs_48 : decode cX3_refusalOfPairs 48 = .ok (.ifCond .ne 6, 3) := by decide +kernel
theorem dX3_refusalOfPairs_51 : decode cX3_refusalOfPairs 51 = .ok (.bipush (-2), 2) := by decide +kernel
theorem dX3_refusalOfPairs_53 : decode cX3_refusalOfPairs 53 = .ok (.ireturn, 1) := by decide +kernel
theorem dX3_refusalOfPairs_54 : decode cX3_refusalOfPairs 54 = .ok (.iinc 4 1, 3) := by decide +kernel
theorem dX3_refusalOfPairs_57 : decode cX3_refusalOfPairs 57 = .ok (.goto (-54), 3) := by decide +kernel
theorem dX3_refusalOfPairs_60 : decode cX3_refusalOfPairs 60 = .ok (.iconst 0, 1) := by decide +kernel
theorem dX3_refusalOfPairs_61 : decode cX3_refusalOfPairs 61 = .ok (.ireturn, 1) := by decide +kernel
set_option maxRecDepth 20000 in
theorem ggX3_firstWrongOf_X2_becomeLike : GoodIn wsX3_firstWrongOf wsX2_becomeLike := goodIn_r _ [7, 8, 9, 10, 11, 12, 13, 73, 74, 75, 76, 77, 78] (by decide +kernel) (by decide +kernel)
set_option maxRecDepth 20000 in
theorem gX3_firstWrongOf_X2_becomeLike : GoodIn wsX3_firstWrongOf (wsV RX3 230 RX2 yX2_becomeLike wsX2_becomeLike) := goodIn_app (goodIn_of _ (by decide +kernel)) ggX3_firstWrongOf_X2_becomeLike
set_option maxRecDepth 20000 in
theorem ggX3_firstWrongOf_X1_at : GoodIn wsX3_firstWrongOf wsX1_at := goodIn_r _ [18, 19, 79, 80, 81, 82] (by decide +kernel) (by decide +kernel)
set_option maxRecDepth 20000 in
theorem gX3_firstWrongOf_X1_at : GoodIn wsX3_firstWrongOf (wsV RX3 182 RX1 yX1_at wsX1_at) := goodIn_app (goodIn_of _ (by decide +kernel)) ggX3_firstWrongOf_X1_at
set_option maxRecDepth 20000 in
theorem ggX3_firstWrongOf_X2_acts : GoodIn wsX3_firstWrongOf wsX2_acts := goodIn_r _ [23, 9, 10, 24, 25, 26, 6, 27, 28, 29, 30, 31, 32, 33, 34, 8, 12, 35, 36, 37, 38, 39, 40, 41, 42, 43, 44, 45, 46, 47, 48, 49, 50, 51, 52, 53, 54, 55, 56, 57, 58, 59, 60, 61, 62, 63, 64, 65, 73, 74, 75, 76, 77, 78] (by decide +kernel) (by decide +kernel)
set_option maxRecDepth 20000 in
theorem gX3_firstWrongOf_X2_acts : GoodIn wsX3_firstWrongOf (wsV RX3 227 RX2 yX2_acts wsX2_acts) := goodIn_app (goodIn_of _ (by decide +kernel)) ggX3_firstWrongOf_X2_acts
theorem dX3_firstWrongOf_0 : decode cX3_firstWrongOf 0 = .ok (.aload_n 0, 1) := by decide +kernel
theorem dX3_firstWrongOf_1 : decode cX3_firstWrongOf 1 = .ok (.getfield 24, 3) := by decide +kernel
theorem dX3_firstWrongOf_4 : decode cX3_firstWrongOf 4 = .ok (.aload_n 0, 1) := by decide +kernel
theorem dX3_firstWrongOf_5 : decode cX3_firstWrongOf 5 = .ok (.getfield 20, 3) := by decide +kernel
theorem dX3_firstWrongOf_8 : decode cX3_firstWrongOf 8 = .ok (.invokevirtual 230, 3) := by decide +kernel
theorem dX3_firstWrongOf_11 : decode cX3_firstWrongOf 11 = .ok (.iconst 0, 1) := by decide +kernel
theorem dX3_firstWrongOf_12 : decode cX3_firstWrongOf 12 = .ok (.istore 4, 2) := by decide +kernel
theorem dX3_firstWrongOf_14 : decode cX3_firstWrongOf 14 = .ok (.iload 4, 2) := by decide +kernel
theorem dX3_firstWrongOf_16 : decode cX3_firstWrongOf 16 = .ok (.iload_n 3, 1) := by decide +kernel
theorem dX3_firstWrongOf_17 : decode cX3_firstWrongOf 17 = .ok (.if_icmp .ge 46, 3) := by decide +kernel
theorem dX3_firstWrongOf_20 : decode cX3_firstWrongOf 20 = .ok (.aload_n 0, 1) := by decide +kernel
theorem dX3_firstWrongOf_21 : decode cX3_firstWrongOf 21 = .ok (.getfield 24, 3) := by decide +kernel
theorem dX3_firstWrongOf_24 : decode cX3_firstWrongOf 24 = .ok (.aload_n 1, 1) := by decide +kernel
theorem dX3_firstWrongOf_25 : decode cX3_firstWrongOf 25 = .ok (.iload_n 2, 1) := by decide +kernel
theorem dX3_firstWrongOf_26 : decode cX3_firstWrongOf 26 = .ok (.iconst 2, 1) := by decide +kernel
theorem dX3_firstWrongOf_27 : decode cX3_firstWrongOf 27 = .ok (.iload 4, 2) := by decide +kernel
theorem dX3_firstWrongOf_29 : decode cX3_firstWrongOf 29 = .ok (.imul, 1) := by decide +kernel
theorem dX3_firstWrongOf_30 : decode cX3_firstWrongOf 30 = .ok (.iadd, 1) := by decide +kernel
theorem dX3_firstWrongOf_31 : decode cX3_firstWrongOf 31 = .ok (.invokevirtual 182, 3) := by decide +kernel
theorem dX3_firstWrongOf_34 : decode cX3_firstWrongOf 34 = .ok (.aload_n 1, 1) := by decide +kernel
theorem dX3_firstWrongOf_35 : decode cX3_firstWrongOf 35 = .ok (.iload_n 2, 1) := by decide +kernel
theorem dX3_firstWrongOf_36 : decode cX3_firstWrongOf 36 = .ok (.iconst 2, 1) := by decide +kernel
theorem dX3_firstWrongOf_37 : decode cX3_firstWrongOf 37 = .ok (.iload 4, 2) := by decide +kernel
theorem dX3_firstWrongOf_39 : decode cX3_firstWrongOf 39 = .ok (.imul, 1) := by decide +kernel
theorem dX3_firstWrongOf_40 : decode cX3_firstWrongOf 40 = .ok (.iadd, 1) := by decide +kernel
theorem dX3_firstWrongOf_41 : decode cX3_firstWrongOf 41 = .ok (.iconst 1, 1) := by decide +kernel
theorem dX3_firstWrongOf_42 : decode cX3_firstWrongOf 42 = .ok (.iadd, 1) := by decide +kernel
theorem dX3_firstWrongOf_43 : decode cX3_firstWrongOf 43 = .ok (.invokevirtual 182, 3) := by decide +kernel
theorem dX3_firstWrongOf_46 : decode cX3_firstWrongOf 46 = .ok (.invokevirtual 227, 3) := by decide +kernel
theorem dX3_firstWrongOf_49 : decode cX3_firstWrongOf 49 = .ok (.bipush (-3), 2) := by decide +kernel
theorem dX3_firstWrongOf_51 : decode cX3_firstWrongOf 51 = .ok (.if_icmp .ne 6, 3) := by decide +kernel
theorem dX3_firstWrongOf_54 : decode cX3_firstWrongOf 54 = .ok (.iload 4, 2) := by decide +kernel
theorem dX3_firstWrongOf_56 : decode cX3_firstWrongOf 56 = .ok (.ireturn, 1) := by decide +kernel
theorem dX3_firstWrongOf_57 : decode cX3_firstWrongOf 57 = .ok (.iinc 4 1, 3) := by decide +kernel
theorem dX3_firstWrongOf_60 : decode cX3_firstWrongOf 60 = .ok (.goto (-46), 3) := by decide +kernel
theorem dX3_firstWrongOf_63 : decode cX3_firstWrongOf 63 = .ok (.bipush (-9), 2) := by decide +kernel
theorem dX3_firstWrongOf_65 : decode cX3_firstWrongOf 65 = .ok (.ireturn, 1) := by decide +kernel
set_option maxRecDepth 20000 in
theorem ggX3_behindYear_X2_allSay : GoodIn wsX3_behindYear wsX2_allSay := goodIn_r _ [9, 10, 11, 12, 13, 8, 14, 15, 16, 17, 18, 19, 20, 21, 22, 23, 24, 25, 26, 27, 28, 29, 30, 31, 43, 44, 45, 46, 47, 48] (by decide +kernel) (by decide +kernel)
set_option maxRecDepth 20000 in
theorem gX3_behindYear_X2_allSay : GoodIn wsX3_behindYear (wsV RX3 89 RX2 yX2_allSay wsX2_allSay) := goodIn_app (goodIn_of _ (by decide +kernel)) ggX3_behindYear_X2_allSay
set_option maxRecDepth 20000 in
theorem ggX3_behindYear_X2_has : GoodIn wsX3_behindYear wsX2_has := goodIn_r _ [35, 10, 43, 44, 45, 46, 47, 48] (by decide +kernel) (by decide +kernel)
set_option maxRecDepth 20000 in
theorem gX3_behindYear_X2_has : GoodIn wsX3_behindYear (wsV RX3 70 RX2 yX2_has wsX2_has) := goodIn_app (goodIn_of _ (by decide +kernel)) ggX3_behindYear_X2_has
theorem dX3_behindYear_0 : decode cX3_behindYear 0 = .ok (.iload_n 1, 1) := by decide +kernel
theorem dX3_behindYear_1 : decode cX3_behindYear 1 = .ok (.tableswitch 55 0 3 #[31, 55, 39, 47], 31) := by decide +kernel
theorem dX3_behindYear_32 : decode cX3_behindYear 32 = .ok (.aload_n 0, 1) := by decide +kernel
theorem dX3_behindYear_33 : decode cX3_behindYear 33 = .ok (.getfield 24, 3) := by decide +kernel
theorem dX3_behindYear_36 : decode cX3_behindYear 36 = .ok (.getfield 103, 3) := by decide +kernel
theorem dX3_behindYear_39 : decode cX3_behindYear 39 = .ok (.ireturn, 1) := by decide +kernel
theorem dX3_behindYear_40 : decode cX3_behindYear 40 = .ok (.aload_n 0, 1) := by decide +kernel
theorem dX3_behindYear_41 : decode cX3_behindYear 41 = .ok (.getfield 24, 3) := by decide +kernel
theorem dX3_behindYear_44 : decode cX3_behindYear 44 = .ok (.getfield 93, 3) := by decide +kernel
theorem dX3_behindYear_47 : decode cX3_behindYear 47 = .ok (.ireturn, 1) := by decide +kernel
theorem dX3_behindYear_48 : decode cX3_behindYear 48 = .ok (.aload_n 0, 1) := by decide +kernel
theorem dX3_behindYear_49 : decode cX3_behindYear 49 = .ok (.getfield 24, 3) := by decide +kernel
theorem dX3_behindYear_52 : decode cX3_behindYear 52 = .ok (.invokevirtual 89, 3) := by decide +kernel
theorem dX3_behindYear_55 : decode cX3_behindYear 55 = .ok (.ireturn, 1) := by decide +kernel
theorem dX3_behindYear_56 : decode cX3_behindYear 56 = .ok (.aload_n 0, 1) := by decide +kernel
theorem dX3_behindYear_57 : decode cX3_behindYear 57 = .ok (.getfield 24, 3) := by decide +kernel
theorem dX3_behindYear_60 : decode cX3_behindYear 60 = .ok (.iload_n 1, 1) := by decide +kernel
theorem dX3_behindYear_61 : decode cX3_behindYear 61 = .ok (.bipush 10, 2) := by decide +kernel
theorem dX3_behindYear_63 : decode cX3_behindYear 63 = .ok (.isub, 1) := by decide +kernel
theorem dX3_behindYear_64 : decode cX3_behindYear 64 = .ok (.invokevirtual 70, 3) := by decide +kernel
theorem dX3_behindYear_67 : decode cX3_behindYear 67 = .ok (.ifCond .eq 18, 3) := by decide +kernel
theorem dX3_behindYear_70 : decode cX3_behindYear 70 = .ok (.aload_n 0, 1) := by decide +kernel
theorem dX3_behindYear_71 : decode cX3_behindYear 71 = .ok (.getfield 24, 3) := by decide +kernel
theorem dX3_behindYear_74 : decode cX3_behindYear 74 = .ok (.getfield 77, 3) := by decide +kernel
theorem dX3_behindYear_77 : decode cX3_behindYear 77 = .ok (.iload_n 1, 1) := by decide +kernel
theorem dX3_behindYear_78 : decode cX3_behindYear 78 = .ok (.bipush 10, 2) := by decide +kernel
theorem dX3_behindYear_80 : decode cX3_behindYear 80 = .ok (.isub, 1) := by decide +kernel
theorem dX3_behindYear_81 : decode cX3_behindYear 81 = .ok (.iaload, 1) := by decide +kernel
theorem dX3_behindYear_82 : decode cX3_behindYear 82 = .ok (.goto 5, 3) := by decide +kernel
theorem dX3_behindYear_85 : decode cX3_behindYear 85 = .ok (.bipush (-9), 2) := by decide +kernel
theorem dX3_behindYear_87 : decode cX3_behindYear 87 = .ok (.ireturn, 1) := by decide +kernel
set_option maxRecDepth 20000 in
theorem ggX3_bestAsked_X2_allSets : GoodIn wsX3_bestAsked wsX2_allSets := goodIn_r _ [8, 9, 32, 33, 34, 35, 36, 37] (by decide +kernel) (by decide +kernel)
set_option maxRecDepth 20000 in
theorem gX3_bestAsked_X2_allSets : GoodIn wsX3_bestAsked (wsV RX3 127 RX2 yX2_allSets wsX2_allSets) := goodIn_app (goodIn_of _ (by decide +kernel)) ggX3_bestAsked_X2_allSets
set_option maxRecDepth 20000 in
theorem ggX3_bestAsked_J6_bitCount_0f7a4 : GoodIn wsX3_bestAsked wsJ6_bitCount_0f7a4 := goodIn_r _ [13, 14, 15, 16] (by decide +kernel) (by decide +kernel)
set_option maxRecDepth 20000 in
theorem gX3_bestAsked_J6_bitCount_0f7a4 : GoodIn wsX3_bestAsked (va_wsS RX3 234 yJ6_bitCount_0f7a4 wsJ6_bitCount_0f7a4) := goodIn_app (goodIn_of _ (by decide +kernel)) ggX3_bestAsked_J6_bitCount_0f7a4
set_option maxRecDepth 20000 in
theorem ggX3_bestAsked_X2_partsOf : GoodIn wsX3_bestAsked wsX2_partsOf := goodIn_r _ [20, 9, 21, 22, 23, 24, 32, 33, 34, 35, 36, 37] (by decide +kernel) (by decide +kernel)
set_option maxRecDepth 20000 in
theorem gX3_bestAsked_X2_partsOf : GoodIn wsX3_bestAsked (wsV RX3 96 RX2 yX2_partsOf wsX2_partsOf) := goodIn_app (goodIn_of _ (by decide +kernel)) ggX3_bestAsked_X2_partsOf
theorem dX3_bestAsked_0 : decode cX3_bestAsked 0 = .ok (.aload_n 0, 1) := by decide +kernel
theorem dX3_bestAsked_1 : decode cX3_bestAsked 1 = .ok (.getfield 20, 3) := by decide +kernel
theorem dX3_bestAsked_4 : decode cX3_bestAsked 4 = .ok (.getfield 93, 3) := by decide +kernel
theorem dX3_bestAsked_7 : decode cX3_bestAsked 7 = .ok (.iconst 1, 1) := by decide +kernel
theorem dX3_bestAsked_8 : decode cX3_bestAsked 8 = .ok (.iload_n 1, 1) := by decide +kernel
theorem dX3_bestAsked_9 : decode cX3_bestAsked 9 = .ok (.ishl, 1) := by decide +kernel
theorem dX3_bestAsked_10 : decode cX3_bestAsked 10 = .ok (.iconst (-1), 1) := by decide +kernel
theorem dX3_bestAsked_11 : decode cX3_bestAsked 11 = .ok (.ixor, 1) := by decide +kernel
theorem dX3_bestAsked_12 : decode cX3_bestAsked 12 = .ok (.iand, 1) := by decide +kernel
theorem dX3_bestAsked_13 : decode cX3_bestAsked 13 = .ok (.istore_n 3, 1) := by decide +kernel
theorem dX3_bestAsked_14 : decode cX3_bestAsked 14 = .ok (.bipush (-9), 2) := by decide +kernel
theorem dX3_bestAsked_16 : decode cX3_bestAsked 16 = .ok (.istore 4, 2) := by decide +kernel
theorem dX3_bestAsked_18 : decode cX3_bestAsked 18 = .ok (.iconst 0, 1) := by decide +kernel
theorem dX3_bestAsked_19 : decode cX3_bestAsked 19 = .ok (.istore 5, 2) := by decide +kernel
theorem dX3_bestAsked_21 : decode cX3_bestAsked 21 = .ok (.iconst 0, 1) := by decide +kernel
theorem dX3_bestAsked_22 : decode cX3_bestAsked 22 = .ok (.istore 6, 2) := by decide +kernel
theorem dX3_bestAsked_24 : decode cX3_bestAsked 24 = .ok (.iconst 0, 1) := by decide +kernel
theorem dX3_bestAsked_25 : decode cX3_bestAsked 25 = .ok (.istore 7, 2) := by decide +kernel
theorem dX3_bestAsked_27 : decode cX3_bestAsked 27 = .ok (.iload 7, 2) := by decide +kernel
theorem dX3_bestAsked_29 : decode cX3_bestAsked 29 = .ok (.aload_n 0, 1) := by decide +kernel
theorem dX3_bestAsked_30 : decode cX3_bestAsked 30 = .ok (.getfield 20, 3) := by decide +kernel
theorem dX3_bestAsked_33 : decode cX3_bestAsked 33 = .ok (.invokevirtual 127, 3) := by decide +kernel
theorem dX3_bestAsked_36 : decode cX3_bestAsked 36 = .ok (.if_icmp .ge 104, 3) := by decide +kernel
theorem dX3_bestAsked_39 : decode cX3_bestAsked 39 = .ok (.iload 7, 2) := by decide +kernel
theorem dX3_bestAsked_41 : decode cX3_bestAsked 41 = .ok (.invokestatic 234, 3) := by decide +kernel
theorem dX3_bestAsked_44 : decode cX3_bestAsked 44 = .ok (.istore 8, 2) := by decide +kernel
theorem dX3_bestAsked_46 : decode cX3_bestAsked 46 = .ok (.aload_n 0, 1) := by decide +kernel
theorem dX3_bestAsked_47 : decode cX3_bestAsked 47 = .ok (.getfield 20, 3) := by decide +kernel
theorem dX3_bestAsked_50 : decode cX3_bestAsked 50 = .ok (.getfield 77, 3) := by decide +kernel
theorem dX3_bestAsked_53 : decode cX3_bestAsked 53 = .ok (.iload_n 1, 1) := by decide +kernel
theorem dX3_bestAsked_54 : decode cX3_bestAsked 54 = .ok (.iaload, 1) := by decide +kernel
theorem dX3_bestAsked_55 : decode cX3_bestAsked 55 = .ok (.aload_n 0, 1) := by decide +kernel
theorem dX3_bestAsked_56 : decode cX3_bestAsked 56 = .ok (.getfield 20, 3) := by decide +kernel
theorem dX3_bestAsked_59 : decode cX3_bestAsked 59 = .ok (.iload 7, 2) := by decide +kernel
theorem dX3_bestAsked_61 : decode cX3_bestAsked 61 = .ok (.invokevirtual 96, 3) := by decide +kernel
theorem dX3_bestAsked_64 : decode cX3_bestAsked 64 = .ok (.iadd, 1) := by decide +kernel
theorem dX3_bestAsked_65 : decode cX3_bestAsked 65 = .ok (.istore 9, 2) := by decide +kernel
theorem dX3_bestAsked_67 : decode cX3_bestAsked 67 = .ok (.iload 4, 2) := by decide +kernel
theorem dX3_bestAsked_69 : decode cX3_bestAsked 69 = .ok (.bipush (-9), 2) := by decide +kernel
theorem dX3_bestAsked_71 : decode cX3_bestAsked 71 = .ok (.if_icmp .eq 24, 3) := by decide +kernel
theorem dX3_bestAsked_74 : decode cX3_bestAsked 74 = .ok (.iload 8, 2) := by decide +kernel
theorem dX3_bestAsked_76 : decode cX3_bestAsked 76 = .ok (.iload 5, 2) := by decide +kernel
theorem dX3_bestAsked_78 : decode cX3_bestAsked 78 = .ok (.if_icmp .lt 17, 3) := by decide +kernel
theorem dX3_bestAsked_81 : decode cX3_bestAsked 81 = .ok (.iload 8, 2) := by decide +kernel
theorem dX3_bestAsked_83 : decode cX3_bestAsked 83 = .ok (.iload 5, 2) := by decide +kernel
theorem dX3_bestAsked_85 : decode cX3_bestAsked 85 = .ok (.if_icmp .ne 14, 3) := by decide +kernel
theorem dX3_bestAsked_88 : decode cX3_bestAsked 88 = .ok (.iload 9, 2) := by decide +kernel
theorem dX3_bestAsked_90 : decode cX3_bestAsked 90 = .ok (.iload 6, 2) := by decide +kernel
theorem dX3_bestAsked_92 : decode cX3_bestAsked 92 = .ok (.if_icmp .ge 7, 3) := by decide +kernel
theorem dX3_bestAsked_95 : decode cX3_bestAsked 95 = .ok (.iconst 1, 1) := by decide +kernel
theorem dX3_bestAsked_96 : decode cX3_bestAsked 96 = .ok (.goto 4, 3) := by decide +kernel
theorem dX3_bestAsked_99 : decode cX3_bestAsked 99 = .ok (.iconst 0, 1) := by decide +kernel
theorem dX3_bestAsked_100 : decode cX3_bestAsked 100 = .ok (.istore 10, 2) := by decide +kernel
theorem dX3_bestAsked_102 : decode cX3_bestAsked 102 = .ok (.iload 7, 2) := by decide +kernel
theorem dX3_bestAsked_104 : decode cX3_bestAsked 104 = .ok (.iload_n 3, 1) := by decide +kernel
theorem dX3_bestAsked_105 : decode cX3_bestAsked 105 = .ok (.iconst (-1), 1) := by decide +kernel
theorem dX3_bestAsked_106 : decode cX3_bestAsked 106 = .ok (.ixor, 1) := by decide +kernel
theorem dX3_bestAsked_107 : decode cX3_bestAsked 107 = .ok (.iand, 1) := by decide +kernel
theorem dX3_bestAsked_108 : decode cX3_bestAsked 108 = .ok (.ifCond .ne 26, 3) := by decide +kernel
theorem dX3_bestAsked_111 : decode cX3_bestAsked 111 = .ok (.iload 9, 2) := by decide +kernel
theorem dX3_bestAsked_113 : decode cX3_bestAsked 113 = .ok (.iload_n 2, 1) := by decide +kernel
theorem dX3_bestAsked_114 : decode cX3_bestAsked 114 = .ok (.if_icmp .lt 20, 3) := by decide +kernel
theorem dX3_bestAsked_117 : decode cX3_bestAsked 117 = .ok (.iload 10, 2) := by decide +kernel
theorem dX3_bestAsked_119 : decode cX3_bestAsked 119 = .ok (.ifCond .eq 15, 3) := by decide +kernel
theorem dX3_bestAsked_122 : decode cX3_bestAsked 122 = .ok (.iload 7, 2) := by decide +kernel
theorem dX3_bestAsked_124 : decode cX3_bestAsked 124 = .ok (.istore 4, 2) := by decide +kernel
theorem dX3_bestAsked_126 : decode cX3_bestAsked 126 = .ok (.iload 8, 2) := by decide +kernel
theorem dX3_bestAsked_128 : decode cX3_bestAsked 128 = .ok (.istore 5, 2) := by decide +kernel
theorem dX3_bestAsked_130 : decode cX3_bestAsked 130 = .ok (.iload 9, 2) := by decide +kernel
theorem dX3_bestAsked_132 : decode cX3_bestAsked 132 = .ok (.istore 6, 2) := by decide +kernel
theorem dX3_bestAsked_134 : decode cX3_bestAsked 134 = .ok (.iinc 7 1, 3) := by decide +kernel
theorem dX3_bestAsked_137 : decode cX3_bestAsked 137 = .ok (.goto (-110), 3) := by decide +kernel
theorem dX3_bestAsked_140 : decode cX3_bestAsked 140 = .ok (.iload 4, 2) := by decide +kernel
theorem dX3_bestAsked_142 : decode cX3_bestAsked 142 = .ok (.ireturn, 1) := by decide +kernel
set_option maxRecDepth 20000 in
theorem ggX3_ordersDecidedBy_X2_partsOf : GoodIn wsX3_ordersDecidedBy wsX2_partsOf := goodIn_r _ [8, 9, 10, 11, 12, 13, 36, 37, 38, 39, 40, 41] (by decide +kernel) (by decide +kernel)
set_option maxRecDepth 20000 in
theorem gX3_ordersDecidedBy_X2_partsOf : GoodIn wsX3_ordersDecidedBy (wsV RX3 96 RX2 yX2_partsOf wsX2_partsOf) := goodIn_app (goodIn_of _ (by decide +kernel)) ggX3_ordersDecidedBy_X2_partsOf
set_option maxRecDepth 20000 in
theorem ggX3_ordersDecidedBy_X2_allSets : GoodIn wsX3_ordersDecidedBy wsX2_allSets := goodIn_r _ [17, 9, 36, 37, 38, 39, 40, 41] (by decide +kernel) (by decide +kernel)
set_option maxRecDepth 20000 in
theorem gX3_ordersDecidedBy_X2_allSets : GoodIn wsX3_ordersDecidedBy (wsV RX3 127 RX2 yX2_allSets wsX2_allSets) := goodIn_app (goodIn_of _ (by decide +kernel)) ggX3_ordersDecidedBy_X2_allSets
set_option maxRecDepth 20000 in
theorem ggX3_ordersDecidedBy_X3_ordersOf : GoodIn wsX3_ordersDecidedBy wsX3_ordersOf := goodIn_r _ [20, 21, 22, 23, 24, 25, 26, 27, 28] (by decide +kernel) (by decide +kernel)
set_option maxRecDepth 20000 in
theorem gX3_ordersDecidedBy_X3_ordersOf : GoodIn wsX3_ordersDecidedBy (va_wsS RX3 145 yX3_ordersOf wsX3_ordersOf) := goodIn_app (goodIn_of _ (by decide +kernel)) ggX3_ordersDecidedBy_X3_ordersOf
theorem dX3_ordersDecidedBy_0 : decode cX3_ordersDecidedBy 0 = .ok (.aload_n 0, 1) := by decide +kernel
theorem dX3_ordersDecidedBy_1 : decode cX3_ordersDecidedBy 1 = .ok (.getfield 20, 3) := by decide +kernel
theorem dX3_ordersDecidedBy_4 : decode cX3_ordersDecidedBy 4 = .ok (.getfield 93, 3) := by decide +kernel
theorem dX3_ordersDecidedBy_7 : decode cX3_ordersDecidedBy 7 = .ok (.iconst 1, 1) := by decide +kernel
theorem dX3_ordersDecidedBy_8 : decode cX3_ordersDecidedBy 8 = .ok (.iload_n 1, 1) := by decide +kernel
theorem dX3_ordersDecidedBy_9 : decode cX3_ordersDecidedBy 9 = .ok (.ishl, 1) := by decide +kernel
theorem dX3_ordersDecidedBy_10 : decode cX3_ordersDecidedBy 10 = .ok (.iconst (-1), 1) := by decide +kernel
theorem dX3_ordersDecidedBy_11 : decode cX3_ordersDecidedBy 11 = .ok (.ixor, 1) := by decide +kernel
theorem dX3_ordersDecidedBy_12 : decode cX3_ordersDecidedBy 12 = .ok (.iand, 1) := by decide +kernel
theorem dX3_ordersDecidedBy_13 : decode cX3_ordersDecidedBy 13 = .ok (.istore_n 2, 1) := by decide +kernel
theorem dX3_ordersDecidedBy_14 : decode cX3_ordersDecidedBy 14 = .ok (.aload_n 0, 1) := by decide +kernel
theorem dX3_ordersDecidedBy_15 : decode cX3_ordersDecidedBy 15 = .ok (.getfield 20, 3) := by decide +kernel
theorem dX3_ordersDecidedBy_18 : decode cX3_ordersDecidedBy 18 = .ok (.aload_n 0, 1) := by decide +kernel
theorem dX3_ordersDecidedBy_19 : decode cX3_ordersDecidedBy 19 = .ok (.getfield 20, 3) := by decide +kernel
theorem dX3_ordersDecidedBy_22 : decode cX3_ordersDecidedBy 22 = .ok (.getfield 93, 3) := by decide +kernel
theorem dX3_ordersDecidedBy_25 : decode cX3_ordersDecidedBy 25 = .ok (.invokevirtual 96, 3) := by decide +kernel
theorem dX3_ordersDecidedBy_28 : decode cX3_ordersDecidedBy 28 = .ok (.istore_n 3, 1) := by decide +kernel
theorem dX3_ordersDecidedBy_29 : decode cX3_ordersDecidedBy 29 = .ok (.iconst 0, 1) := by decide +kernel
theorem dX3_ordersDecidedBy_30 : decode cX3_ordersDecidedBy 30 = .ok (.istore 4, 2) := by decide +kernel
theorem dX3_ordersDecidedBy_32 : decode cX3_ordersDecidedBy 32 = .ok (.iconst 0, 1) := by decide +kernel
theorem dX3_ordersDecidedBy_33 : decode cX3_ordersDecidedBy 33 = .ok (.istore 5, 2) := by decide +kernel
theorem dX3_ordersDecidedBy_35 : decode cX3_ordersDecidedBy 35 = .ok (.iload 5, 2) := by decide +kernel
theorem dX3_ordersDecidedBy_37 : decode cX3_ordersDecidedBy 37 = .ok (.aload_n 0, 1) := by decide +kernel
theorem dX3_ordersDecidedBy_38 : decode cX3_ordersDecidedBy 38 = .ok (.getfield 20, 3) := by decide +kernel
theorem dX3_ordersDecidedBy_41 : decode cX3_ordersDecidedBy 41 = .ok (.invokevirtual 127, 3) := by decide +kernel
theorem dX3_ordersDecidedBy_44 : decode cX3_ordersDecidedBy 44 = .ok (.if_icmp .ge 79, 3) := by decide +kernel
theorem dX3_ordersDecidedBy_47 : decode cX3_ordersDecidedBy 47 = .ok (.aload_n 0, 1) := by decide +kernel
theorem dX3_ordersDecidedBy_48 : decode cX3_ordersDecidedBy 48 = .ok (.getfield 20, 3) := by decide +kernel
theorem dX3_ordersDecidedBy_51 : decode cX3_ordersDecidedBy 51 = .ok (.iload 5, 2) := by decide +kernel
theorem dX3_ordersDecidedBy_53 : decode cX3_ordersDecidedBy 53 = .ok (.invokevirtual 96, 3) := by decide +kernel
theorem dX3_ordersDecidedBy_56 : decode cX3_ordersDecidedBy 56 = .ok (.istore 6, 2) := by decide +kernel
theorem dX3_ordersDecidedBy_58 : decode cX3_ordersDecidedBy 58 = .ok (.iload 5, 2) := by decide +kernel
theorem dX3_ordersDecidedBy_60 : decode cX3_ordersDecidedBy 60 = .ok (.iload_n 2, 1) := by decide +kernel
theorem dX3_ordersDecidedBy_61 : decode cX3_ordersDecidedBy 61 = .ok (.iconst (-1), 1) := by decide +kernel
theorem dX3_ordersDecidedBy_62 : decode cX3_ordersDecidedBy 62 = .ok (.ixor, 1) := by decide +kernel
theorem dX3_ordersDecidedBy_63 : decode cX3_ordersDecidedBy 63 = .ok (.iand, 1) := by decide +kernel
theorem dX3_ordersDecidedBy_64 : decode cX3_ordersDecidedBy 64 = .ok (.ifCond .ne 53, 3) := by decide +kernel
theorem dX3_ordersDecidedBy_67 : decode cX3_ordersDecidedBy 67 = .ok (.iconst 2, 1) := by decide +kernel
theorem dX3_ordersDecidedBy_68 : decode cX3_ordersDecidedBy 68 = .ok (.iload 6, 2) := by decide +kernel
theorem dX3_ordersDecidedBy_70 : decode cX3_ordersDecidedBy 70 = .ok (.imul, 1) := by decide +kernel
theorem dX3_ordersDecidedBy_71 : decode cX3_ordersDecidedBy 71 = .ok (.iload_n 3, 1) := by decide +kernel
theorem dX3_ordersDecidedBy_72 : decode cX3_ordersDecidedBy 72 = .ok (.if_icmp .gt 45, 3) := by decide +kernel
theorem dX3_ordersDecidedBy_75 : decode cX3_ordersDecidedBy 75 = .ok (.iconst 2, 1) := by decide +kernel
theorem dX3_ordersDecidedBy_76 : decode cX3_ordersDecidedBy 76 = .ok (.iload 6, 2) := by decide +kernel
theorem dX3_ordersDecidedBy_78 : decode cX3_ordersDecidedBy 78 = .ok (.aload_n 0, 1) := by decide +kernel
theorem dX3_ordersDecidedBy_79 : decode cX3_ordersDecidedBy 79 = .ok (.getfield 20, 3) := by decide +kernel
theorem dX3_ordersDecidedBy_82 : decode cX3_ordersDecidedBy 82 = .ok (.getfield 77, 3) := by decide +kernel
theorem dX3_ordersDecidedBy_85 : decode cX3_ordersDecidedBy 85 = .ok (.iload_n 1, 1) := by decide +kernel
theorem dX3_ordersDecidedBy_86 : decode cX3_ordersDecidedBy 86 = .ok (.iaload, 1) := by decide +kernel
theorem dX3_ordersDecidedBy_87 : decode cX3_ordersDecidedBy 87 = .ok (.iadd, 1) := by decide +kernel
theorem dX3_ordersDecidedBy_88 : decode cX3_ordersDecidedBy 88 = .ok (.imul, 1) := by decide +kernel
theorem dX3_ordersDecidedBy_89 : decode cX3_ordersDecidedBy 89 = .ok (.iload_n 3, 1) := by decide +kernel
theorem dX3_ordersDecidedBy_90 : decode cX3_ordersDecidedBy 90 = .ok (.if_icmp .le 27, 3) := by decide +kernel
theorem dX3_ordersDecidedBy_93 : decode cX3_ordersDecidedBy 93 = .ok (.iload_n 2, 1) := by decide +kernel
theorem dX3_ordersDecidedBy_94 : decode cX3_ordersDecidedBy 94 = .ok (.iload 5, 2) := by decide +kernel
theorem dX3_ordersDecidedBy_96 : decode cX3_ordersDecidedBy 96 = .ok (.iconst (-1), 1) := by decide +kernel
theorem dX3_ordersDecidedBy_97 : decode cX3_ordersDecidedBy 97 = .ok (.ixor, 1) := by decide +kernel
theorem dX3_ordersDecidedBy_98 : decode cX3_ordersDecidedBy 98 = .ok (.iand, 1) := by decide +kernel
theorem dX3_ordersDecidedBy_99 : decode cX3_ordersDecidedBy 99 = .ok (.istore 7, 2) := by decide +kernel
theorem dX3_ordersDecidedBy_101 : decode cX3_ordersDecidedBy 101 = .ok (.iload 4, 2) := by decide +kernel
theorem dX3_ordersDecidedBy_103 : decode cX3_ordersDecidedBy 103 = .ok (.iload 5, 2) := by decide +kernel
theorem dX3_ordersDecidedBy_105 : decode cX3_ordersDecidedBy 105 = .ok (.invokestatic 145, 3) := by decide +kernel
theorem dX3_ordersDecidedBy_108 : decode cX3_ordersDecidedBy 108 = .ok (.iload 7, 2) := by decide +kernel
theorem dX3_ordersDecidedBy_110 : decode cX3_ordersDecidedBy 110 = .ok (.invokestatic 145, 3) := by decide +kernel
theorem dX3_ordersDecidedBy_113 : decode cX3_ordersDecidedBy 113 = .ok (.imul, 1) := by decide +kernel
theorem dX3_ordersDecidedBy_114 : decode cX3_ordersDecidedBy 114 = .ok (.iadd, 1) := by decide +kernel
theorem dX3_ordersDecidedBy_115 : decode cX3_ordersDecidedBy 115 = .ok (.istore 4, 2) := by decide +kernel
theorem dX3_ordersDecidedBy_117 : decode cX3_ordersDecidedBy 117 = .ok (.iinc 5 1, 3) := by decide +kernel
theorem dX3_ordersDecidedBy_120 : decode cX3_ordersDecidedBy 120 = .ok (.goto (-85), 3) := by decide +kernel
theorem dX3_ordersDecidedBy_123 : decode cX3_ordersDecidedBy 123 = .ok (.iload 4, 2) := by decide +kernel
theorem dX3_ordersDecidedBy_125 : decode cX3_ordersDecidedBy 125 = .ok (.ireturn, 1) := by decide +kernel
set_option maxRecDepth 20000 in
theorem ggX3_ordersOf_J6_bitCount_0f7a4 : GoodIn wsX3_ordersOf wsJ6_bitCount_0f7a4 := goodIn_r _ [5, 6, 7, 8] (by decide +kernel) (by decide +kernel)
set_option maxRecDepth 20000 in
theorem gX3_ordersOf_J6_bitCount_0f7a4 : GoodIn wsX3_ordersOf (va_wsS RX3 234 yJ6_bitCount_0f7a4 wsJ6_bitCount_0f7a4) := goodIn_app (goodIn_of _ (by decide +kernel)) ggX3_ordersOf_J6_bitCount_0f7a4
theorem dX3_ordersOf_0 : decode cX3_ordersOf 0 = .ok (.iload_n 0, 1) := by decide +kernel
theorem dX3_ordersOf_1 : decode cX3_ordersOf 1 = .ok (.invokestatic 234, 3) := by decide +kernel
theorem dX3_ordersOf_4 : decode cX3_ordersOf 4 = .ok (.istore_n 1, 1) := by decide +kernel
theorem dX3_ordersOf_5 : decode cX3_ordersOf 5 = .ok (.iload_n 1, 1) := by decide +kernel
theorem dX3_ordersOf_6 : decode cX3_ordersOf 6 = .ok (.getstatic 239, 3) := by decide +kernel
theorem dX3_ordersOf_9 : decode cX3_ordersOf 9 = .ok (.arraylength, 1) := by decide +kernel
theorem dX3_ordersOf_10 : decode cX3_ordersOf 10 = .ok (.if_icmp .ge 11, 3) := by decide +kernel
theorem dX3_ordersOf_13 : decode cX3_ordersOf 13 = .ok (.getstatic 239, 3) := by decide +kernel
theorem dX3_ordersOf_16 : decode cX3_ordersOf 16 = .ok (.iload_n 1, 1) := by decide +kernel
theorem dX3_ordersOf_17 : decode cX3_ordersOf 17 = .ok (.iaload, 1) := by decide +kernel
theorem dX3_ordersOf_18 : decode cX3_ordersOf 18 = .ok (.goto 4, 3) := by decide +kernel
theorem dX3_ordersOf_21 : decode cX3_ordersOf 21 = .ok (.iconst 0, 1) := by decide +kernel
theorem dX3_ordersOf_22 : decode cX3_ordersOf 22 = .ok (.ireturn, 1) := by decide +kernel
theorem dX3_begin_0 : decode cX3_begin 0 = .ok (.aload_n 0, 1) := by decide +kernel
theorem dX3_begin_1 : decode cX3_begin 1 = .ok (.bipush 31, 2) := by decide +kernel
theorem dX3_begin_3 : decode cX3_begin 3 = .ok (.aload_n 0, 1) := by decide +kernel
theorem dX3_begin_4 : decode cX3_begin 4 = .ok (.getfield 209, 3) := by decide +kernel
theorem dX3_begin_7 : decode cX3_begin 7 = .ok (.imul, 1) := by decide +kernel
theorem dX3_begin_8 : decode cX3_begin 8 = .ok (.iload_n 1, 1) := by decide +kernel
theorem dX3_begin_9 : decode cX3_begin 9 = .ok (.iadd, 1) := by decide +kernel
theorem dX3_begin_10 : decode cX3_begin 10 = .ok (.putfield 209, 3) := by decide +kernel
theorem dX3_begin_13 : decode cX3_begin 13 = .ok (.return_, 1) := by decide +kernel
set_option maxRecDepth 20000 in
theorem ggX3_grownTells_X3_begin : GoodIn wsX3_grownTells wsX3_begin := goodIn_r _ [7, 8, 9, 10, 11, 12, 13, 14, 15] (by decide +kernel) (by decide +kernel)
set_option maxRecDepth 20000 in
theorem gX3_grownTells_X3_begin : GoodIn wsX3_grownTells (wsV RX3 242 RX3 yX3_begin wsX3_begin) := goodIn_app (goodIn_of _ (by decide +kernel)) ggX3_grownTells_X3_begin
theorem dX3_grownTells_0 : decode cX3_grownTells 0 = .ok (.aload_n 0, 1) := by decide +kernel
theorem dX3_grownTells_1 : decode cX3_grownTells 1 = .ok (.iconst 1, 1) := by decide +kernel
theorem dX3_grownTells_2 : decode cX3_grownTells 2 = .ok (.invokevirtual 242, 3) := by decide +kernel
theorem dX3_grownTells_5 : decode cX3_grownTells 5 = .ok (.aload_n 0, 1) := by decide +kernel
theorem dX3_grownTells_6 : decode cX3_grownTells 6 = .ok (.getfield 20, 3) := by decide +kernel
theorem dX3_grownTells_9 : decode cX3_grownTells 9 = .ok (.getfield 80, 3) := by decide +kernel
theorem dX3_grownTells_12 : decode cX3_grownTells 12 = .ok (.iload_n 1, 1) := by decide +kernel
theorem dX3_grownTells_13 : decode cX3_grownTells 13 = .ok (.iaload, 1) := by decide +kernel
theorem dX3_grownTells_14 : decode cX3_grownTells 14 = .ok (.ireturn, 1) := by decide +kernel
set_option maxRecDepth 20000 in
theorem ggX3_shyTells_X3_begin : GoodIn wsX3_shyTells wsX3_begin := goodIn_r _ [5, 6, 13, 14, 15, 16, 17, 18, 19] (by decide +kernel) (by decide +kernel)
set_option maxRecDepth 20000 in
theorem gX3_shyTells_X3_begin : GoodIn wsX3_shyTells (wsV RX3 242 RX3 yX3_begin wsX3_begin) := goodIn_app (goodIn_of _ (by decide +kernel)) ggX3_shyTells_X3_begin
set_option maxRecDepth 20000 in
theorem ggX3_shyTells_X3_grownTells : GoodIn wsX3_shyTells wsX3_grownTells := goodIn_r _ [10, 11, 12, 1, 2, 3, 4, 5, 6, 13, 14, 15, 16, 17, 18, 19, 20, 21, 22, 23, 24, 25] (by decide +kernel) (by decide +kernel)
set_option maxRecDepth 20000 in
theorem gX3_shyTells_X3_grownTells : GoodIn wsX3_shyTells (wsV RX3 194 RX3 yX3_grownTells wsX3_grownTells) := goodIn_app (goodIn_of _ (by decide +kernel)) ggX3_shyTells_X3_grownTells
theorem dX3_shyTells_0 : decode cX3_shyTells 0 = .ok (.aload_n 0, 1) := by decide +kernel
theorem dX3_shyTells_1 : decode cX3_shyTells 1 = .ok (.iconst 2, 1) := by decide +kernel
theorem dX3_shyTells_2 : decode cX3_shyTells 2 = .ok (.invokevirtual 242, 3) := by decide +kernel
theorem dX3_shyTells_5 : decode cX3_shyTells 5 = .ok (.aload_n 0, 1) := by decide +kernel
theorem dX3_shyTells_6 : decode cX3_shyTells 6 = .ok (.iload_n 1, 1) := by decide +kernel
theorem dX3_shyTells_7 : decode cX3_shyTells 7 = .ok (.invokevirtual 194, 3) := by decide +kernel
theorem dX3_shyTells_10 : decode cX3_shyTells 10 = .ok (.bipush 100, 2) := by decide +kernel
theorem dX3_shyTells_12 : decode cX3_shyTells 12 = .ok (.iadd, 1) := by decide +kernel
theorem dX3_shyTells_13 : decode cX3_shyTells 13 = .ok (.ireturn, 1) := by decide +kernel
set_option maxRecDepth 20000 in
theorem ggX3_childTells_X3_begin : GoodIn wsX3_childTells wsX3_begin := goodIn_r _ [5, 6, 17, 18, 19, 20, 21, 22, 23] (by decide +kernel) (by decide +kernel)
set_option maxRecDepth 20000 in
theorem gX3_childTells_X3_begin : GoodIn wsX3_childTells (wsV RX3 242 RX3 yX3_begin wsX3_begin) := goodIn_app (goodIn_of _ (by decide +kernel)) ggX3_childTells_X3_begin
set_option maxRecDepth 20000 in
theorem ggX3_childTells_X3_shyTells : GoodIn wsX3_childTells wsX3_shyTells := goodIn_r _ [10, 1, 2, 3, 4, 5, 6, 11, 12, 13, 14, 15, 16, 17, 18, 19, 20, 21, 22, 23, 24, 25, 26, 27, 28, 29] (by decide +kernel) (by decide +kernel)
set_option maxRecDepth 20000 in
theorem gX3_childTells_X3_shyTells : GoodIn wsX3_childTells (wsV RX3 197 RX3 yX3_shyTells wsX3_shyTells) := goodIn_app (goodIn_of _ (by decide +kernel)) ggX3_childTells_X3_shyTells
set_option maxRecDepth 20000 in
theorem ggX3_childTells_X3_grownTells : GoodIn wsX3_childTells wsX3_grownTells := goodIn_r _ [14, 15, 16, 1, 2, 3, 4, 5, 6, 17, 18, 19, 20, 21, 22, 23, 24, 25, 26, 27, 28, 29] (by decide +kernel) (by decide +kernel)
set_option maxRecDepth 20000 in
theorem gX3_childTells_X3_grownTells : GoodIn wsX3_childTells (wsV RX3 194 RX3 yX3_grownTells wsX3_grownTells) := goodIn_app (goodIn_of _ (by decide +kernel)) ggX3_childTells_X3_grownTells
theorem dX3_childTells_0 : decode cX3_childTells 0 = .ok (.aload_n 0, 1) := by decide +kernel
theorem dX3_childTells_1 : decode cX3_childTells 1 = .ok (.iconst 3, 1) := by decide +kernel
theorem dX3_childTells_2 : decode cX3_childTells 2 = .ok (.invokevirtual 242, 3) := by decide +kernel
theorem dX3_childTells_5 : decode cX3_childTells 5 = .ok (.aload_n 0, 1) := by decide +kernel
theorem dX3_childTells_6 : decode cX3_childTells 6 = .ok (.iload_n 1, 1) := by decide +kernel
theorem dX3_childTells_7 : decode cX3_childTells 7 = .ok (.invokevirtual 197, 3) := by decide +kernel
theorem dX3_childTells_10 : decode cX3_childTells 10 = .ok (.istore_n 2, 1) := by decide +kernel
theorem dX3_childTells_11 : decode cX3_childTells 11 = .ok (.iload_n 2, 1) := by decide +kernel
theorem dX3_childTells_12 : decode cX3_childTells 12 = .ok (.aload_n 0, 1) := by decide +kernel
theorem dX3_childTells_13 : decode cX3_childTells 13 = .ok (.iload_n 1, 1) := by decide +kernel
theorem dX3_childTells_14 : decode cX3_childTells 14 = .ok (.invokevirtual 194, 3) := by decide +kernel
theorem dX3_childTells_17 : decode cX3_childTells 17 = .ok (.iadd, 1) := by decide +kernel
theorem dX3_childTells_18 : decode cX3_childTells 18 = .ok (.ireturn, 1) := by decide +kernel
set_option maxRecDepth 20000 in
theorem ggX3_lentIsCalled_X3_begin : GoodIn wsX3_lentIsCalled wsX3_begin := goodIn_r _ [5, 6, 7, 8, 9, 10, 11, 12, 13] (by decide +kernel) (by decide +kernel)
set_option maxRecDepth 20000 in
theorem gX3_lentIsCalled_X3_begin : GoodIn wsX3_lentIsCalled (wsV RX3 242 RX3 yX3_begin wsX3_begin) := goodIn_app (goodIn_of _ (by decide +kernel)) ggX3_lentIsCalled_X3_begin
theorem dX3_lentIsCalled_0 : decode cX3_lentIsCalled 0 = .ok (.aload_n 0, 1) := by decide +kernel
theorem dX3_lentIsCalled_1 : decode cX3_lentIsCalled 1 = .ok (.iconst 4, 1) := by decide +kernel
theorem dX3_lentIsCalled_2 : decode cX3_lentIsCalled 2 = .ok (.invokevirtual 242, 3) := by decide +kernel
theorem dX3_lentIsCalled_5 : decode cX3_lentIsCalled 5 = .ok (.iload_n 1, 1) := by decide +kernel
theorem dX3_lentIsCalled_6 : decode cX3_lentIsCalled 6 = .ok (.ireturn, 1) := by decide +kernel
set_option maxRecDepth 20000 in
theorem ggX3_childIsCalled_X3_begin : GoodIn wsX3_childIsCalled wsX3_begin := goodIn_r _ [5, 6, 7, 8, 9, 10, 11, 12, 13] (by decide +kernel) (by decide +kernel)
set_option maxRecDepth 20000 in
theorem gX3_childIsCalled_X3_begin : GoodIn wsX3_childIsCalled (wsV RX3 242 RX3 yX3_begin wsX3_begin) := goodIn_app (goodIn_of _ (by decide +kernel)) ggX3_childIsCalled_X3_begin
theorem dX3_childIsCalled_0 : decode cX3_childIsCalled 0 = .ok (.aload_n 0, 1) := by decide +kernel
theorem dX3_childIsCalled_1 : decode cX3_childIsCalled 1 = .ok (.iconst 5, 1) := by decide +kernel
theorem dX3_childIsCalled_2 : decode cX3_childIsCalled 2 = .ok (.invokevirtual 242, 3) := by decide +kernel
theorem dX3_childIsCalled_5 : decode cX3_childIsCalled 5 = .ok (.bipush 30, 2) := by decide +kernel
theorem dX3_childIsCalled_7 : decode cX3_childIsCalled 7 = .ok (.ireturn, 1) := by decide +kernel
theorem dX4_init_0 : decode cX4_init 0 = .ok (.aload_n 0, 1) := by decide +kernel
theorem dX4_init_1 : decode cX4_init 1 = .ok (.invokespecial 1, 3) := by decide +kernel
theorem dX4_init_4 : decode cX4_init 4 = .ok (.aload_n 0, 1) := by decide +kernel
theorem dX4_init_5 : decode cX4_init 5 = .ok (.iconst 4, 1) := by decide +kernel
theorem dX4_init_6 : decode cX4_init 6 = .ok (.newarray .int, 2) := by decide +kernel
theorem dX4_init_8 : decode cX4_init 8 = .ok (.dup, 1) := by decide +kernel
theorem dX4_init_9 : decode cX4_init 9 = .ok (.iconst 0, 1) := by decide +kernel
theorem dX4_init_10 : decode cX4_init 10 = .ok (.bipush (-9), 2) := by decide +kernel
theorem dX4_init_12 : decode cX4_init 12 = .ok (.iastore, 1) := by decide +kernel
theorem dX4_init_13 : decode cX4_init 13 = .ok (.dup, 1) := by decide +kernel
theorem dX4_init_14 : decode cX4_init 14 = .ok (.iconst 1, 1) := by decide +kernel
theorem dX4_init_15 : decode cX4_init 15 = .ok (.bipush (-9), 2) := by decide +kernel
theorem dX4_init_17 : decode cX4_init 17 = .ok (.iastore, 1) := by decide +kernel
theorem dX4_init_18 : decode cX4_init 18 = .ok (.dup, 1) := by decide +kernel
theorem dX4_init_19 : decode cX4_init 19 = .ok (.iconst 2, 1) := by decide +kernel
theorem dX4_init_20 : decode cX4_init 20 = .ok (.bipush (-9), 2) := by decide +kernel
theorem dX4_init_22 : decode cX4_init 22 = .ok (.iastore, 1) := by decide +kernel
theorem dX4_init_23 : decode cX4_init 23 = .ok (.dup, 1) := by decide +kernel
theorem dX4_init_24 : decode cX4_init 24 = .ok (.iconst 3, 1) := by decide +kernel
theorem dX4_init_25 : decode cX4_init 25 = .ok (.bipush (-9), 2) := by decide +kernel
theorem dX4_init_27 : decode cX4_init 27 = .ok (.iastore, 1) := by decide +kernel
theorem dX4_init_28 : decode cX4_init 28 = .ok (.putfield 9, 3) := by decide +kernel
theorem dX4_init_31 : decode cX4_init 31 = .ok (.aload_n 0, 1) := by decide +kernel
theorem dX4_init_32 : decode cX4_init 32 = .ok (.iconst 4, 1) := by decide +kernel
theorem dX4_init_33 : decode cX4_init 33 = .ok (.newarray .int, 2) := by decide +kernel
theorem dX4_init_35 : decode cX4_init 35 = .ok (.putfield 13, 3) := by decide +kernel
theorem dX4_init_38 : decode cX4_init 38 = .ok (.aload_n 0, 1) := by decide +kernel
theorem dX4_init_39 : decode cX4_init 39 = .ok (.sipush 240, 3) := by decide +kernel
theorem dX4_init_42 : decode cX4_init 42 = .ok (.newarray .int, 2) := by decide +kernel
theorem dX4_init_44 : decode cX4_init 44 = .ok (.putfield 16, 3) := by decide +kernel
theorem dX4_init_47 : decode cX4_init 47 = .ok (.aload_n 0, 1) := by decide +kernel
theorem dX4_init_48 : decode cX4_init 48 = .ok (.bipush 6, 2) := by decide +kernel
theorem dX4_init_50 : decode cX4_init 50 = .ok (.newarray .int, 2) := by decide +kernel
theorem dX4_init_52 : decode cX4_init 52 = .ok (.putfield 19, 3) := by decide +kernel
theorem dX4_init_55 : decode cX4_init 55 = .ok (.aload_n 0, 1) := by decide +kernel
theorem dX4_init_56 : decode cX4_init 56 = .ok (.bipush 6, 2) := by decide +kernel
theorem dX4_init_58 : decode cX4_init 58 = .ok (.newarray .int, 2) := by decide +kernel
theorem dX4_init_60 : decode cX4_init 60 = .ok (.putfield 22, 3) := by decide +kernel
theorem dX4_init_63 : decode cX4_init 63 = .ok (.aload_n 0, 1) := by decide +kernel
theorem dX4_init_64 : decode cX4_init 64 = .ok (.bipush 6, 2) := by decide +kernel
theorem dX4_init_66 : decode cX4_init 66 = .ok (.newarray .int, 2) := by decide +kernel
theorem dX4_init_68 : decode cX4_init 68 = .ok (.putfield 25, 3) := by decide +kernel
theorem dX4_init_71 : decode cX4_init 71 = .ok (.aload_n 0, 1) := by decide +kernel
theorem dX4_init_72 : decode cX4_init 72 = .ok (.bipush 24, 2) := by decide +kernel
theorem dX4_init_74 : decode cX4_init 74 = .ok (.newarray .int, 2) := by decide +kernel
theorem dX4_init_76 : decode cX4_init 76 = .ok (.putfield 28, 3) := by decide +kernel
theorem dX4_init_79 : decode cX4_init 79 = .ok (.aload_n 0, 1) := by decide +kernel
theorem dX4_init_80 : decode cX4_init 80 = .ok (.bipush 6, 2) := by decide +kernel
theorem dX4_init_82 : decode cX4_init 82 = .ok (.newarray .int, 2) := by decide +kernel
theorem dX4_init_84 : decode cX4_init 84 = .ok (.putfield 31, 3) := by decide +kernel
theorem dX4_init_87 : decode cX4_init 87 = .ok (.aload_n 0, 1) := by decide +kernel
theorem dX4_init_88 : decode cX4_init 88 = .ok (.bipush 6, 2) := by decide +kernel
theorem dX4_init_90 : decode cX4_init 90 = .ok (.newarray .int, 2) := by decide +kernel
theorem dX4_init_92 : decode cX4_init 92 = .ok (.putfield 34, 3) := by decide +kernel
theorem dX4_init_95 : decode cX4_init 95 = .ok (.aload_n 0, 1) := by decide +kernel
theorem dX4_init_96 : decode cX4_init 96 = .ok (.bipush 8, 2) := by decide +kernel
theorem dX4_init_98 : decode cX4_init 98 = .ok (.newarray .int, 2) := by decide +kernel
theorem dX4_init_100 : decode cX4_init 100 = .ok (.putfield 37, 3) := by decide +kernel
theorem dX4_init_103 : decode cX4_init 103 = .ok (.aload_n 0, 1) := by decide +kernel
theorem dX4_init_104 : decode cX4_init 104 = .ok (.bipush 8, 2) := by decide +kernel
theorem dX4_init_106 : decode cX4_init 106 = .ok (.newarray .int, 2) := by decide +kernel
theorem dX4_init_108 : decode cX4_init 108 = .ok (.putfield 40, 3) := by decide +kernel
theorem dX4_init_111 : decode cX4_init 111 = .ok (.aload_n 0, 1) := by decide +kernel
theorem dX4_init_112 : decode cX4_init 112 = .ok (.bipush 8, 2) := by decide +kernel
theorem dX4_init_114 : decode cX4_init 114 = .ok (.newarray .int, 2) := by decide +kernel
theorem dX4_init_116 : decode cX4_init 116 = .ok (.putfield 43, 3) := by decide +kernel
theorem dX4_init_119 : decode cX4_init 119 = .ok (.return_, 1) := by decide +kernel
theorem dX4_fails_0 : decode cX4_fails 0 = .ok (.aload_n 0, 1) := by decide +kernel
theorem dX4_fails_1 : decode cX4_fails 1 = .ok (.iload_n 1, 1) := by decide +kernel
theorem dX4_fails_2 : decode cX4_fails 2 = .ok (.putfield 46, 3) := by decide +kernel
theorem dX4_fails_5 : decode cX4_fails 5 = .ok (.bipush (-10), 2) := by decide +kernel
theorem dX4_fails_7 : decode cX4_fails 7 = .ok (.iload_n 1, 1) := by decide +kernel
theorem dX4_fails_8 : decode cX4_fails 8 = .ok (.isub, 1) := by decide +kernel
theorem dX4_fails_9 : decode cX4_fails 9 = .ok (.ireturn, 1) := by decide +kernel
theorem dX4_lost_0 : decode cX4_lost 0 = .ok (.aload_n 0, 1) := by decide +kernel
theorem dX4_lost_1 : decode cX4_lost 1 = .ok (.iload_n 1, 1) := by decide +kernel
theorem dX4_lost_2 : decode cX4_lost 2 = .ok (.putfield 46, 3) := by decide +kernel
theorem dX4_lost_5 : decode cX4_lost 5 = .ok (.ldc2_w 50, 3) := by decide +kernel
theorem dX4_lost_8 : decode cX4_lost 8 = .ok (.lreturn, 1) := by decide +kernel
theorem dX4_within_0 : decode cX4_within 0 = .ok (.iload_n 0, 1) := by decide +kernel
theorem dX4_within_1 : decode cX4_within 1 = .ok (.iload_n 1, 1) := by decide +kernel
theorem dX4_within_2 : decode cX4_within 2 = .ok (.if_icmp .lt 12, 3) := by decide +kernel
theorem dX4_within_5 : decode cX4_within 5 = .ok (.iload_n 0, 1) := by decide +kernel
theorem dX4_within_6 : decode cX4_within 6 = .ok (.iload_n 2, 1) := by decide +kernel
theorem dX4_within_7 : decode cX4_within 7 = .ok (.if_icmp .gt 7, 3) := by decide +kernel
theorem dX4_within_10 : decode cX4_within 10 = .ok (.iconst 1, 1) := by decide +kernel
theorem dX4_within_11 : decode cX4_within 11 = .ok (.goto 4, 3) := by decide +kernel
theorem dX4_within_14 : decode cX4_within 14 = .ok (.iconst 0, 1) := by decide +kernel
theorem dX4_within_15 : decode cX4_within 15 = .ok (.ireturn, 1) := by decide +kernel
set_option maxRecDepth 20000 in
theorem ggX4_isSheet_X4_within : GoodIn wsX4_isSheet wsX4_within := goodIn_r _ [4] (by decide +kernel) (by decide +kernel)
set_option maxRecDepth 20000 in
theorem gX4_isSheet_X4_within : GoodIn wsX4_isSheet (va_wsS RX4 52 yX4_within wsX4_within) := goodIn_app (goodIn_of _ (by decide +kernel)) ggX4_isSheet_X4_within
theorem dX4_isSheet_0 : decode cX4_isSheet 0 = .ok (.iload_n 0, 1) := by decide +kernel
theorem dX4_isSheet_1 : decode cX4_isSheet 1 = .ok (.iconst 0, 1) := by decide +kernel
theorem dX4_isSheet_2 : decode cX4_isSheet 2 = .ok (.iconst 3, 1) := by decide +kernel
theorem dX4_isSheet_3 : decode cX4_isSheet 3 = .ok (.invokestatic 52, 3) := by decide +kernel
theorem dX4_isSheet_6 : decode cX4_isSheet 6 = .ok (.ireturn, 1) := by decide +kernel
set_option maxRecDepth 20000 in
theorem ggX4_isSort_X4_within : GoodIn wsX4_isSort wsX4_within := goodIn_r _ [4] (by decide +kernel) (by decide +kernel)
set_option maxRecDepth 20000 in
theorem gX4_isSort_X4_within : GoodIn wsX4_isSort (va_wsS RX4 52 yX4_within wsX4_within) := goodIn_app (goodIn_of _ (by decide +kernel)) ggX4_isSort_X4_within
theorem dX4_isSort_0 : decode cX4_isSort 0 = .ok (.iload_n 0, 1) := by decide +kernel
theorem dX4_isSort_1 : decode cX4_isSort 1 = .ok (.iconst 0, 1) := by decide +kernel
theorem dX4_isSort_2 : decode cX4_isSort 2 = .ok (.iconst 2, 1) := by decide +kernel
theorem dX4_isSort_3 : decode cX4_isSort 3 = .ok (.invokestatic 52, 3) := by decide +kernel
theorem dX4_isSort_6 : decode cX4_isSort 6 = .ok (.ireturn, 1) := by decide +kernel
theorem dX4_against_0 : decode cX4_against 0 = .ok (.aload_n 0, 1) := by decide +kernel
theorem dX4_against_1 : decode cX4_against 1 = .ok (.getfield 9, 3) := by decide +kernel
theorem dX4_against_4 : decode cX4_against 4 = .ok (.iload_n 1, 1) := by decide +kernel
theorem dX4_against_5 : decode cX4_against 5 = .ok (.iaload, 1) := by decide +kernel
theorem dX4_against_6 : decode cX4_against 6 = .ok (.bipush (-9), 2) := by decide +kernel
theorem dX4_against_8 : decode cX4_against 8 = .ok (.if_icmp .eq 15, 3) := by decide +kernel
theorem dX4_against_11 : decode cX4_against 11 = .ok (.aload_n 0, 1) := by decide +kernel
theorem dX4_against_12 : decode cX4_against 12 = .ok (.getfield 9, 3) := by decide +kernel
theorem dX4_against_15 : decode cX4_against 15 = .ok (.iload_n 1, 1) := by decide +kernel
theorem dX4_against_16 : decode cX4_against 16 = .ok (.iaload, 1) := by decide +kernel
theorem dX4_against_17 : decode cX4_against 17 = .ok (.iload_n 2, 1) := by decide +kernel
theorem dX4_against_18 : decode cX4_against 18 = .ok (.if_icmp .eq 5, 3) := by decide +kernel
theorem dX4_against_21 : decode cX4_against 21 = .ok (.iconst 2, 1) := by decide +kernel
theorem dX4_against_22 : decode cX4_against 22 = .ok (.ireturn, 1) := by decide +kernel
theorem dX4_against_23 : decode cX4_against 23 = .ok (.aload_n 0, 1) := by decide +kernel
theorem dX4_against_24 : decode cX4_against 24 = .ok (.getfield 9, 3) := by decide +kernel
theorem dX4_against_27 : decode cX4_against 27 = .ok (.iload_n 1, 1) := by decide +kernel
theorem dX4_against_28 : decode cX4_against 28 = .ok (.iaload, 1) := by decide +kernel
theorem dX4_against_29 : decode cX4_against 29 = .ok (.bipush (-9), 2) := by decide +kernel
theorem dX4_against_31 : decode cX4_against 31 = .ok (.if_icmp .ne 5, 3) := by decide +kernel
theorem dX4_against_34 : decode cX4_against 34 = .ok (.iconst 1, 1) := by decide +kernel
theorem dX4_against_35 : decode cX4_against 35 = .ok (.ireturn, 1) := by decide +kernel
theorem dX4_against_36 : decode cX4_against 36 = .ok (.iload 4, 2) := by decide +kernel
theorem dX4_against_38 : decode cX4_against 38 = .ok (.ifCond .ge 5, 3) := by decide +kernel
theorem dX4_against_41 : decode cX4_against 41 = .ok (.iconst 4, 1) := by decide +kernel
theorem dX4_against_42 : decode cX4_against 42 = .ok (.ireturn, 1) := by decide +kernel
theorem dX4_against_43 : decode cX4_against 43 = .ok (.iload_n 3, 1) := by decide +kernel
theorem dX4_against_44 : decode cX4_against 44 = .ok (.ifCond .lt 26, 3) := by decide +kernel
theorem dX4_against_47 : decode cX4_against 47 = .ok (.iload_n 3, 1) := by decide +kernel
theorem dX4_against_48 : decode cX4_against 48 = .ok (.aload_n 0, 1) := by decide +kernel
theorem dX4_against_49 : decode cX4_against 49 = .ok (.getfield 13, 3) := by decide +kernel
theorem dX4_against_52 : decode cX4_against 52 = .ok (.iload_n 1, 1) := by decide +kernel
theorem dX4_against_53 : decode cX4_against 53 = .ok (.iaload, 1) := by decide +kernel
theorem dX4_against_54 : decode cX4_against 54 = .ok (.if_icmp .gt 16, 3) := by decide +kernel
theorem dX4_against_57 : decode cX4_against 57 = .ok (.iload 4, 2) := by decide +kernel
theorem dX4_against_59 : decode cX4_against 59 = .ok (.aload_n 0, 1) := by decide +kernel
theorem dX4_against_60 : decode cX4_against 60 = .ok (.getfield 13, 3) := by decide +kernel
theorem dX4_against_63 : decode cX4_against 63 = .ok (.iload_n 1, 1) := by decide +kernel
theorem dX4_against_64 : decode cX4_against 64 = .ok (.iaload, 1) := by decide +kernel
theorem dX4_against_65 : decode cX4_against 65 = .ok (.iload_n 3, 1) := by decide +kernel
theorem dX4_against_66 : decode cX4_against 66 = .ok (.isub, 1) := by decide +kernel
theorem dX4_against_67 : decode cX4_against 67 = .ok (.if_icmp .le 7, 3) := by decide +kernel
theorem dX4_against_70 : decode cX4_against 70 = .ok (.iconst 3, 1) := by decide +kernel
theorem dX4_against_71 : decode cX4_against 71 = .ok (.goto 4, 3) := by decide +kernel
theorem dX4_against_74 : decode cX4_against 74 = .ok (.iconst 0, 1) := by decide +kernel
theorem dX4_against_75 : decode cX4_against 75 = .ok (.ireturn, 1) := by decide +kernel
theorem dX4_isPerson_0 : decode cX4_isPerson 0 = .ok (.iload_n 1, 1) := by decide +kernel
theorem dX4_isPerson_1 : decode cX4_isPerson 1 = .ok (.ifCond .lt 15, 3) := by decide +kernel
theorem dX4_isPerson_4 : decode cX4_isPerson 4 = .ok (.iload_n 1, 1) := by decide +kernel
theorem dX4_isPerson_5 : decode cX4_isPerson 5 = .ok (.aload_n 0, 1) := by decide +kernel
theorem dX4_isPerson_6 : decode cX4_isPerson 6 = .ok (.getfield 56, 3) := by decide +kernel
theorem dX4_isPerson_9 : decode cX4_isPerson 9 = .ok (.if_icmp .ge 7, 3) := by decide +kernel
theorem dX4_isPerson_12 : decode cX4_isPerson 12 = .ok (.iconst 1, 1) := by decide +kernel
theorem dX4_isPerson_13 : decode cX4_isPerson 13 = .ok (.goto 4, 3) := by decide +kernel
theorem dX4_isPerson_16 : decode cX4_isPerson 16 = .ok (.iconst 0, 1) := by decide +kernel
theorem dX4_isPerson_17 : decode cX4_isPerson 17 = .ok (.ireturn, 1) := by decide +kernel
theorem dX4_isOf_0 : decode cX4_isOf 0 = .ok (.iload_n 0, 1) := by decide +kernel
theorem dX4_isOf_1 : decode cX4_isOf 1 = .ok (.iload_n 1, 1) := by decide +kernel
theorem dX4_isOf_2 : decode cX4_isOf 2 = .ok (.ishr, 1) := by decide +kernel
theorem dX4_isOf_3 : decode cX4_isOf 3 = .ok (.iconst 1, 1) := by decide +kernel
theorem dX4_isOf_4 : decode cX4_isOf 4 = .ok (.iand, 1) := by decide +kernel
theorem dX4_isOf_5 : decode cX4_isOf 5 = .ok (.iconst 1, 1) := by decide +kernel
theorem dX4_isOf_6 : decode cX4_isOf 6 = .ok (.if_icmp .ne 7, 3) := by decide +kernel
theorem dX4_isOf_9 : decode cX4_isOf 9 = .ok (.iconst 1, 1) := by decide +kernel
theorem dX4_isOf_10 : decode cX4_isOf 10 = .ok (.goto 4, 3) := by decide +kernel
theorem dX4_isOf_13 : decode cX4_isOf 13 = .ok (.iconst 0, 1) := by decide +kernel
theorem dX4_isOf_14 : decode cX4_isOf 14 = .ok (.ireturn, 1) := by decide +kernel
theorem dX4_size_0 : decode cX4_size 0 = .ok (.iconst 0, 1) := by decide +kernel
theorem dX4_size_1 : decode cX4_size 1 = .ok (.istore_n 1, 1) := by decide +kernel
theorem dX4_size_2 : decode cX4_size 2 = .ok (.iload_n 0, 1) := by decide +kernel
theorem dX4_size_3 : decode cX4_size 3 = .ok (.istore_n 2, 1) := by decide +kernel
theorem dX4_size_4 : decode cX4_size 4 = .ok (.iload_n 2, 1) := by decide +kernel
theorem dX4_size_5 : decode cX4_size 5 = .ok (.ifCond .le 16, 3) := by decide +kernel
theorem dX4_size_8 : decode cX4_size 8 = .ok (.iload_n 1, 1) := by decide +kernel
theorem dX4_size_9 : decode cX4_size 9 = .ok (.iload_n 2, 1) := by decide +kernel
theorem dX4_size_10 : decode cX4_size 10 = .ok (.iconst 1, 1) := by decide +kernel
theorem dX4_size_11 : decode cX4_size 11 = .ok (.iand, 1) := by decide +kernel
theorem dX4_size_12 : decode cX4_size 12 = .ok (.iadd, 1) := by decide +kernel
theorem dX4_size_13 : decode cX4_size 13 = .ok (.istore_n 1, 1) := by decide +kernel
theorem dX4_size_14 : decode cX4_size 14 = .ok (.iload_n 2, 1) := by decide +kernel
theorem dX4_size_15 : decode cX4_size 15 = .ok (.iconst 1, 1) := by decide +kernel
theorem dX4_size_16 : decode cX4_size 16 = .ok (.ishr, 1) := by decide +kernel
theorem dX4_size_17 : decode cX4_size 17 = .ok (.istore_n 2, 1) := by decide +kernel
theorem dX4_size_18 : decode cX4_size 18 = .ok (.goto (-14), 3) := by decide +kernel
theorem dX4_size_21 : decode cX4_size 21 = .ok (.iload_n 1, 1) := by decide +kernel
theorem dX4_size_22 : decode cX4_size 22 = .ok (.ireturn, 1) := by decide +kernel
set_option maxRecDepth 20000 in
theorem ggX4_digit_X4_within : GoodIn wsX4_digit wsX4_within := goodIn_r _ [6] (by decide +kernel) (by decide +kernel)
set_option maxRecDepth 20000 in
theorem gX4_digit_X4_within : GoodIn wsX4_digit (va_wsS RX4 52 yX4_within wsX4_within) := goodIn_app (goodIn_of _ (by decide +kernel)) ggX4_digit_X4_within
theorem dX4_digit_0 : decode cX4_digit 0 = .ok (.aload_n 0, 1) := by decide +kernel
theorem dX4_digit_1 : decode cX4_digit 1 = .ok (.getfield 59, 3) := by decide +kernel
theorem dX4_digit_4 : decode cX4_digit 4 = .ok (.iload_n 1, 1) := by decide +kernel
theorem dX4_digit_5 : decode cX4_digit 5 = .ok (.if_icmp .ge 26, 3) := by decide +kernel
theorem dX4_digit_8 : decode cX4_digit 8 = .ok (.aload_n 0, 1) := by decide +kernel
theorem dX4_digit_9 : decode cX4_digit 9 = .ok (.getfield 16, 3) := by decide +kernel
theorem dX4_digit_12 : decode cX4_digit 12 = .ok (.aload_n 0, 1) := by decide +kernel
theorem dX4_digit_13 : decode cX4_digit 13 = .ok (.getfield 59, 3) := by decide +kernel
theorem dX4_digit_16 : decode cX4_digit 16 = .ok (.iaload, 1) := by decide +kernel
theorem dX4_digit_17 : decode cX4_digit 17 = .ok (.bipush 48, 2) := by decide +kernel
theorem dX4_digit_19 : decode cX4_digit 19 = .ok (.iload_n 2, 1) := by decide +kernel
theorem dX4_digit_20 : decode cX4_digit 20 = .ok (.iadd, 1) := by decide +kernel
theorem dX4_digit_21 : decode cX4_digit 21 = .ok (.bipush 48, 2) := by decide +kernel
theorem dX4_digit_23 : decode cX4_digit 23 = .ok (.iload_n 3, 1) := by decide +kernel
theorem dX4_digit_24 : decode cX4_digit 24 = .ok (.iadd, 1) := by decide +kernel
theorem dX4_digit_25 : decode cX4_digit 25 = .ok (.invokestatic 52, 3) := by decide +kernel
theorem dX4_digit_28 : decode cX4_digit 28 = .ok (.ifCond .ne 6, 3) := by decide +kernel
theorem dX4_digit_31 : decode cX4_digit 31 = .ok (.bipush (-9), 2) := by decide +kernel
theorem dX4_digit_33 : decode cX4_digit 33 = .ok (.ireturn, 1) := by decide +kernel
theorem dX4_digit_34 : decode cX4_digit 34 = .ok (.aload_n 0, 1) := by decide +kernel
theorem dX4_digit_35 : decode cX4_digit 35 = .ok (.dup, 1) := by decide +kernel
theorem dX4_digit_36 : decode cX4_digit 36 = .ok (.getfield 59, 3) := by decide +kernel
theorem dX4_digit_39 : decode cX4_digit 39 = .ok (.iconst 1, 1) := by decide +kernel
theorem dX4_digit_40 : decode cX4_digit 40 = .ok (.iadd, 1) := by decide +kernel
theorem dX4_digit_41 : decode cX4_digit 41 = .ok (.putfield 59, 3) := by decide +kernel
theorem dX4_digit_44 : decode cX4_digit 44 = .ok (.aload_n 0, 1) := by decide +kernel
theorem dX4_digit_45 : decode cX4_digit 45 = .ok (.getfield 16, 3) := by decide +kernel
theorem dX4_digit_48 : decode cX4_digit 48 = .ok (.aload_n 0, 1) := by decide +kernel
theorem dX4_digit_49 : decode cX4_digit 49 = .ok (.getfield 59, 3) := by decide +kernel
theorem dX4_digit_52 : decode cX4_digit 52 = .ok (.iconst 1, 1) := by decide +kernel
theorem dX4_digit_53 : decode cX4_digit 53 = .ok (.isub, 1) := by decide +kernel
theorem dX4_digit_54 : decode cX4_digit 54 = .ok (.iaload, 1) := by decide +kernel
theorem dX4_digit_55 : decode cX4_digit 55 = .ok (.bipush 48, 2) := by decide +kernel
theorem dX4_digit_57 : decode cX4_digit 57 = .ok (.isub, 1) := by decide +kernel
theorem dX4_digit_58 : decode cX4_digit 58 = .ok (.ireturn, 1) := by decide +kernel
set_option maxRecDepth 20000 in
theorem ggX4_twoDigits_X4_digit : GoodIn wsX4_twoDigits wsX4_digit := goodIn_r _ [5, 6, 7, 8, 9, 4, 10, 11, 12, 13, 14, 15, 16, 17, 18, 19, 20, 21, 22, 23, 24, 25, 26, 27, 28, 29, 30, 31, 32, 33, 34] (by decide +kernel) (by decide +kernel)
set_option maxRecDepth 20000 in
theorem gX4_twoDigits_X4_digit : GoodIn wsX4_twoDigits (wsV RX4 62 RX4 yX4_digit wsX4_digit) := goodIn_app (goodIn_of _ (by decide +kernel)) ggX4_twoDigits_X4_digit
theorem dX4_twoDigits_0 : decode cX4_twoDigits 0 = .ok (.aload_n 0, 1) := by decide +kernel
theorem dX4_twoDigits_1 : decode cX4_twoDigits 1 = .ok (.iload_n 1, 1) := by decide +kernel
theorem dX4_twoDigits_2 : decode cX4_twoDigits 2 = .ok (.iconst 0, 1) := by decide +kernel
theorem dX4_twoDigits_3 : decode cX4_twoDigits 3 = .ok (.iload_n 2, 1) := by decide +kernel
theorem dX4_twoDigits_4 : decode cX4_twoDigits 4 = .ok (.invokevirtual 62, 3) := by decide +kernel
theorem dX4_twoDigits_7 : decode cX4_twoDigits 7 = .ok (.istore_n 3, 1) := by decide +kernel
theorem dX4_twoDigits_8 : decode cX4_twoDigits 8 = .ok (.iload_n 3, 1) := by decide +kernel
theorem dX4_twoDigits_9 : decode cX4_twoDigits 9 = .ok (.bipush (-9), 2) := by decide +kernel
theorem dX4_twoDigits_11 : decode cX4_twoDigits 11 = .ok (.if_icmp .ne 6, 3) := by decide +kernel
theorem dX4_twoDigits_14 : decode cX4_twoDigits 14 = .ok (.bipush (-9), 2) := by decide +kernel
theorem dX4_twoDigits_16 : decode cX4_twoDigits 16 = .ok (.ireturn, 1) := by decide +kernel
theorem dX4_twoDigits_17 : decode cX4_twoDigits 17 = .ok (.aload_n 0, 1) := by decide +kernel
theorem dX4_twoDigits_18 : decode cX4_twoDigits 18 = .ok (.iload_n 1, 1) := by decide +kernel
theorem dX4_twoDigits_19 : decode cX4_twoDigits 19 = .ok (.iconst 0, 1) := by decide +kernel
theorem dX4_twoDigits_20 : decode cX4_twoDigits 20 = .ok (.bipush 9, 2) := by decide +kernel
theorem dX4_twoDigits_22 : decode cX4_twoDigits 22 = .ok (.invokevirtual 62, 3) := by decide +kernel
end
section
theorem dX4_twoDigits_25 : decode cX4_twoDigits 25 = .ok (.istore 4, 2) := by decide +kernel
theorem dX4_twoDigits_27 : decode cX4_twoDigits 27 = .ok (.iload 4, 2) := by decide +kernel
theorem dX4_twoDigits_29 : decode cX4_twoDigits 29 = .ok (.bipush (-9), 2) := by decide +kernel
theorem dX4_twoDigits_31 : decode cX4_twoDigits 31 = .ok (.if_icmp .ne 8, 3) := by decide +kernel
theorem dX4_twoDigits_34 : decode cX4_twoDigits 34 = .ok (.bipush (-9), 2) := by decide +kernel
theorem dX4_twoDigits_36 : decode cX4_twoDigits 36 = .ok (.goto 10, 3) := by decide +kernel
theorem dX4_twoDigits_39 : decode cX4_twoDigits 39 = .ok (.bipush 10, 2) := by decide +kernel
theorem dX4_twoDigits_41 : decode cX4_twoDigits 41 = .ok (.iload_n 3, 1) := by decide +kernel
theorem dX4_twoDigits_42 : decode cX4_twoDigits 42 = .ok (.imul, 1) := by decide +kernel
theorem dX4_twoDigits_43 : decode cX4_twoDigits 43 = .ok (.iload 4, 2) := by decide +kernel
theorem dX4_twoDigits_45 : decode cX4_twoDigits 45 = .ok (.iadd, 1) := by decide +kernel
theorem dX4_twoDigits_46 : decode cX4_twoDigits 46 = .ok (.ireturn, 1) := by decide +kernel
theorem dX4_isSign_0 : decode cX4_isSign 0 = .ok (.aload_n 0, 1) := by decide +kernel
theorem dX4_isSign_1 : decode cX4_isSign 1 = .ok (.getfield 59, 3) := by decide +kernel
theorem dX4_isSign_4 : decode cX4_isSign 4 = .ok (.iload_n 1, 1) := by decide +kernel
theorem dX4_isSign_5 : decode cX4_isSign 5 = .ok (.if_icmp .ge 16, 3) := by decide +kernel
theorem dX4_isSign_8 : decode cX4_isSign 8 = .ok (.aload_n 0, 1) := by decide +kernel
theorem dX4_isSign_9 : decode cX4_isSign 9 = .ok (.getfield 16, 3) := by decide +kernel
theorem dX4_isSign_12 : decode cX4_isSign 12 = .ok (.aload_n 0, 1) := by decide +kernel
theorem dX4_isSign_13 : decode cX4_isSign 13 = .ok (.getfield 59, 3) := by decide +kernel
theorem dX4_isSign_16 : decode cX4_isSign 16 = .ok (.iaload, 1) := by decide +kernel
theorem dX4_isSign_17 : decode cX4_isSign 17 = .ok (.iload_n 2, 1) := by decide +kernel
theorem dX4_isSign_18 : decode cX4_isSign 18 = .ok (.if_icmp .eq 5, 3) := by decide +kernel
theorem dX4_isSign_21 : decode cX4_isSign 21 = .ok (.iconst 0, 1) := by decide +kernel
theorem dX4_isSign_22 : decode cX4_isSign 22 = .ok (.ireturn, 1) := by decide +kernel
theorem dX4_isSign_23 : decode cX4_isSign 23 = .ok (.aload_n 0, 1) := by decide +kernel
theorem dX4_isSign_24 : decode cX4_isSign 24 = .ok (.dup, 1) := by decide +kernel
theorem dX4_isSign_25 : decode cX4_isSign 25 = .ok (.getfield 59, 3) := by decide +kernel
theorem dX4_isSign_28 : decode cX4_isSign 28 = .ok (.iconst 1, 1) := by decide +kernel
theorem dX4_isSign_29 : decode cX4_isSign 29 = .ok (.iadd, 1) := by decide +kernel
theorem dX4_isSign_30 : decode cX4_isSign 30 = .ok (.putfield 59, 3) := by decide +kernel
theorem dX4_isSign_33 : decode cX4_isSign 33 = .ok (.iconst 1, 1) := by decide +kernel
theorem dX4_isSign_34 : decode cX4_isSign 34 = .ok (.ireturn, 1) := by decide +kernel
set_option maxRecDepth 20000 in
theorem ggX4_town_X4_isSheet : GoodIn wsX4_town wsX4_isSheet := goodIn_r _ [7, 8, 9, 6, 10] (by decide +kernel) (by decide +kernel)
set_option maxRecDepth 20000 in
theorem gX4_town_X4_isSheet : GoodIn wsX4_town (va_wsS RX4 66 yX4_isSheet wsX4_isSheet) := goodIn_app (goodIn_of _ (by decide +kernel)) ggX4_town_X4_isSheet
set_option maxRecDepth 20000 in
theorem ggX4_town_X4_isSort : GoodIn wsX4_town wsX4_isSort := goodIn_r _ [13, 8, 9, 6, 10] (by decide +kernel) (by decide +kernel)
set_option maxRecDepth 20000 in
theorem gX4_town_X4_isSort : GoodIn wsX4_town (va_wsS RX4 70 yX4_isSort wsX4_isSort) := goodIn_app (goodIn_of _ (by decide +kernel)) ggX4_town_X4_isSort
set_option maxRecDepth 20000 in
theorem ggX4_town_X4_against : GoodIn wsX4_town wsX4_against := goodIn_r _ [17, 18, 19, 59, 60, 61, 62, 63, 64, 65, 66, 67, 68, 69, 70, 71, 72, 73, 74, 75, 76, 77, 78, 79, 80, 81, 82] (by decide +kernel) (by decide +kernel)
set_option maxRecDepth 20000 in
theorem gX4_town_X4_against : GoodIn wsX4_town (wsV RX4 73 RX4 yX4_against wsX4_against) := goodIn_app (goodIn_of _ (by decide +kernel)) ggX4_town_X4_against
set_option maxRecDepth 20000 in
theorem ggX4_town_X4_fails : GoodIn wsX4_town wsX4_fails := goodIn_r _ [23, 1, 59, 60, 61, 62, 63, 64, 65, 66, 67, 68, 69, 70, 71, 72, 73, 74, 75, 76, 77, 78, 79, 80, 81, 82] (by decide +kernel) (by decide +kernel)
set_option maxRecDepth 20000 in
theorem gX4_town_X4_fails : GoodIn wsX4_town (wsV RX4 77 RX4 yX4_fails wsX4_fails) := goodIn_app (goodIn_of _ (by decide +kernel)) ggX4_town_X4_fails
set_option maxRecDepth 20000 in
theorem ggX4_town_X4_readTown : GoodIn wsX4_town wsX4_readTown := goodIn_r _ [27, 28, 29, 2, 30, 31, 32, 6, 33, 34, 35, 36, 37, 38, 39, 40, 41, 42, 8, 9, 10, 43, 44, 45, 46, 47, 59, 60, 61, 62, 63, 64, 65, 66, 67, 68, 69, 70, 71, 72, 73, 74, 75, 76, 77, 78, 79, 80, 81, 82] (by decide +kernel) (by decide +kernel)
set_option maxRecDepth 20000 in
theorem gX4_town_X4_readTown : GoodIn wsX4_town (wsV RX4 81 RX4 yX4_readTown wsX4_readTown) := goodIn_app (goodIn_of _ (by decide +kernel)) ggX4_town_X4_readTown
set_option maxRecDepth 20000 in
theorem ggX4_town_X4_takeTown : GoodIn wsX4_town wsX4_takeTown := goodIn_r _ [51, 29, 52, 28, 3, 53, 54, 47, 55, 56, 57, 58, 59, 60, 61, 62, 63, 64, 65, 66, 67, 68, 69, 70, 71, 72, 73, 74, 75, 76, 77, 78, 79, 80, 81, 82] (by decide +kernel) (by decide +kernel)
set_option maxRecDepth 20000 in
theorem gX4_town_X4_takeTown : GoodIn wsX4_town (wsV RX4 84 RX4 yX4_takeTown wsX4_takeTown) := goodIn_app (goodIn_of _ (by decide +kernel)) ggX4_town_X4_takeTown
theorem dX4_town_0 : decode cX4_town 0 = .ok (.aload_n 0, 1) := by decide +kernel
theorem dX4_town_1 : decode cX4_town 1 = .ok (.iconst 0, 1) := by decide +kernel
theorem dX4_town_2 : decode cX4_town 2 = .ok (.putfield 46, 3) := by decide +kernel
theorem dX4_town_5 : decode cX4_town 5 = .ok (.iload_n 1, 1) := by decide +kernel
theorem dX4_town_6 : decode cX4_town 6 = .ok (.invokestatic 66, 3) := by decide +kernel
theorem dX4_town_9 : decode cX4_town 9 = .ok (.ifCond .ne 5, 3) := by decide +kernel
theorem dX4_town_12 : decode cX4_town 12 = .ok (.iconst (-1), 1) := by decide +kernel
theorem dX4_town_13 : decode cX4_town 13 = .ok (.ireturn, 1) := by decide +kernel
theorem dX4_town_14 : decode cX4_town 14 = .ok (.iload_n 2, 1) := by decide +kernel
theorem dX4_town_15 : decode cX4_town 15 = .ok (.invokestatic 70, 3) := by decide +kernel
theorem dX4_town_18 : decode cX4_town 18 = .ok (.ifCond .ne 6, 3) := by decide +kernel
theorem dX4_town_21 : decode cX4_town 21 = .ok (.bipush (-2), 2) := by decide +kernel
theorem dX4_town_23 : decode cX4_town 23 = .ok (.ireturn, 1) := by decide +kernel
theorem dX4_town_24 : decode cX4_town 24 = .ok (.aload_n 0, 1) := by decide +kernel
theorem dX4_town_25 : decode cX4_town 25 = .ok (.iload_n 1, 1) := by decide +kernel
theorem dX4_town_26 : decode cX4_town 26 = .ok (.iload_n 2, 1) := by decide +kernel
theorem dX4_town_27 : decode cX4_town 27 = .ok (.iload_n 3, 1) := by decide +kernel
theorem dX4_town_28 : decode cX4_town 28 = .ok (.iload 4, 2) := by decide +kernel
theorem dX4_town_30 : decode cX4_town 30 = .ok (.invokevirtual 73, 3) := by decide +kernel
theorem dX4_town_33 : decode cX4_town 33 = .ok (.istore 5, 2) := by decide +kernel
theorem dX4_town_35 : decode cX4_town 35 = .ok (.iload 5, 2) := by decide +kernel
theorem dX4_town_37 : decode cX4_town 37 = .ok (.ifCond .eq 10, 3) := by decide +kernel
theorem dX4_town_40 : decode cX4_town 40 = .ok (.aload_n 0, 1) := by decide +kernel
theorem dX4_town_41 : decode cX4_town 41 = .ok (.iload 5, 2) := by decide +kernel
theorem dX4_town_43 : decode cX4_town 43 = .ok (.invokevirtual 77, 3) := by decide +kernel
theorem dX4_town_46 : decode cX4_town 46 = .ok (.ireturn, 1) := by decide +kernel
theorem dX4_town_47 : decode cX4_town 47 = .ok (.bipush 60, 2) := by decide +kernel
theorem dX4_town_49 : decode cX4_town 49 = .ok (.iload_n 1, 1) := by decide +kernel
theorem dX4_town_50 : decode cX4_town 50 = .ok (.imul, 1) := by decide +kernel
theorem dX4_town_51 : decode cX4_town 51 = .ok (.iload_n 3, 1) := by decide +kernel
theorem dX4_town_52 : decode cX4_town 52 = .ok (.iadd, 1) := by decide +kernel
theorem dX4_town_53 : decode cX4_town 53 = .ok (.istore 6, 2) := by decide +kernel
theorem dX4_town_55 : decode cX4_town 55 = .ok (.aload_n 0, 1) := by decide +kernel
theorem dX4_town_56 : decode cX4_town 56 = .ok (.iload 6, 2) := by decide +kernel
theorem dX4_town_58 : decode cX4_town 58 = .ok (.putfield 59, 3) := by decide +kernel
theorem dX4_town_61 : decode cX4_town 61 = .ok (.aload_n 0, 1) := by decide +kernel
theorem dX4_town_62 : decode cX4_town 62 = .ok (.iload 6, 2) := by decide +kernel
theorem dX4_town_64 : decode cX4_town 64 = .ok (.iload 4, 2) := by decide +kernel
theorem dX4_town_66 : decode cX4_town 66 = .ok (.iadd, 1) := by decide +kernel
theorem dX4_town_67 : decode cX4_town 67 = .ok (.invokevirtual 81, 3) := by decide +kernel
theorem dX4_town_70 : decode cX4_town 70 = .ok (.ifCond .ne 14, 3) := by decide +kernel
theorem dX4_town_73 : decode cX4_town 73 = .ok (.bipush (-100), 2) := by decide +kernel
theorem dX4_town_75 : decode cX4_town 75 = .ok (.aload_n 0, 1) := by decide +kernel
theorem dX4_town_76 : decode cX4_town 76 = .ok (.getfield 59, 3) := by decide +kernel
theorem dX4_town_79 : decode cX4_town 79 = .ok (.iload 6, 2) := by decide +kernel
theorem dX4_town_81 : decode cX4_town 81 = .ok (.isub, 1) := by decide +kernel
theorem dX4_town_82 : decode cX4_town 82 = .ok (.isub, 1) := by decide +kernel
theorem dX4_town_83 : decode cX4_town 83 = .ok (.ireturn, 1) := by decide +kernel
theorem dX4_town_84 : decode cX4_town 84 = .ok (.aload_n 0, 1) := by decide +kernel
theorem dX4_town_85 : decode cX4_town 85 = .ok (.invokevirtual 84, 3) := by decide +kernel
theorem dX4_town_88 : decode cX4_town 88 = .ok (.aload_n 0, 1) := by decide +kernel
theorem dX4_town_89 : decode cX4_town 89 = .ok (.getfield 56, 3) := by decide +kernel
theorem dX4_town_92 : decode cX4_town 92 = .ok (.ireturn, 1) := by decide +kernel
theorem dX4_takeTown_0 : decode cX4_takeTown 0 = .ok (.aload_n 0, 1) := by decide +kernel
theorem dX4_takeTown_1 : decode cX4_takeTown 1 = .ok (.aload_n 0, 1) := by decide +kernel
theorem dX4_takeTown_2 : decode cX4_takeTown 2 = .ok (.getfield 87, 3) := by decide +kernel
theorem dX4_takeTown_5 : decode cX4_takeTown 5 = .ok (.putfield 90, 3) := by decide +kernel
theorem dX4_takeTown_8 : decode cX4_takeTown 8 = .ok (.aload_n 0, 1) := by decide +kernel
theorem dX4_takeTown_9 : decode cX4_takeTown 9 = .ok (.aload_n 0, 1) := by decide +kernel
theorem dX4_takeTown_10 : decode cX4_takeTown 10 = .ok (.getfield 93, 3) := by decide +kernel
theorem dX4_takeTown_13 : decode cX4_takeTown 13 = .ok (.putfield 56, 3) := by decide +kernel
theorem dX4_takeTown_16 : decode cX4_takeTown 16 = .ok (.aload_n 0, 1) := by decide +kernel
theorem dX4_takeTown_17 : decode cX4_takeTown 17 = .ok (.iconst 0, 1) := by decide +kernel
theorem dX4_takeTown_18 : decode cX4_takeTown 18 = .ok (.putfield 96, 3) := by decide +kernel
theorem dX4_takeTown_21 : decode cX4_takeTown 21 = .ok (.iconst 0, 1) := by decide +kernel
theorem dX4_takeTown_22 : decode cX4_takeTown 22 = .ok (.istore_n 1, 1) := by decide +kernel
theorem dX4_takeTown_23 : decode cX4_takeTown 23 = .ok (.iload_n 1, 1) := by decide +kernel
theorem dX4_takeTown_24 : decode cX4_takeTown 24 = .ok (.aload_n 0, 1) := by decide +kernel
theorem dX4_takeTown_25 : decode cX4_takeTown 25 = .ok (.getfield 56, 3) := by decide +kernel
theorem dX4_takeTown_28 : decode cX4_takeTown 28 = .ok (.if_icmp .ge 76, 3) := by decide +kernel
theorem dX4_takeTown_31 : decode cX4_takeTown 31 = .ok (.aload_n 0, 1) := by decide +kernel
theorem dX4_takeTown_32 : decode cX4_takeTown 32 = .ok (.getfield 19, 3) := by decide +kernel
theorem dX4_takeTown_35 : decode cX4_takeTown 35 = .ok (.iload_n 1, 1) := by decide +kernel
theorem dX4_takeTown_36 : decode cX4_takeTown 36 = .ok (.aload_n 0, 1) := by decide +kernel
theorem dX4_takeTown_37 : decode cX4_takeTown 37 = .ok (.getfield 28, 3) := by decide +kernel
theorem dX4_takeTown_40 : decode cX4_takeTown 40 = .ok (.iconst 4, 1) := by decide +kernel
theorem dX4_takeTown_41 : decode cX4_takeTown 41 = .ok (.iload_n 1, 1) := by decide +kernel
theorem dX4_takeTown_42 : decode cX4_takeTown 42 = .ok (.imul, 1) := by decide +kernel
theorem dX4_takeTown_43 : decode cX4_takeTown 43 = .ok (.iaload, 1) := by decide +kernel
theorem dX4_takeTown_44 : decode cX4_takeTown 44 = .ok (.iastore, 1) := by decide +kernel
theorem dX4_takeTown_45 : decode cX4_takeTown 45 = .ok (.aload_n 0, 1) := by decide +kernel
theorem dX4_takeTown_46 : decode cX4_takeTown 46 = .ok (.getfield 22, 3) := by decide +kernel
theorem dX4_takeTown_49 : decode cX4_takeTown 49 = .ok (.iload_n 1, 1) := by decide +kernel
theorem dX4_takeTown_50 : decode cX4_takeTown 50 = .ok (.aload_n 0, 1) := by decide +kernel
theorem dX4_takeTown_51 : decode cX4_takeTown 51 = .ok (.getfield 28, 3) := by decide +kernel
theorem dX4_takeTown_54 : decode cX4_takeTown 54 = .ok (.iconst 4, 1) := by decide +kernel
theorem dX4_takeTown_55 : decode cX4_takeTown 55 = .ok (.iload_n 1, 1) := by decide +kernel
theorem dX4_takeTown_56 : decode cX4_takeTown 56 = .ok (.imul, 1) := by decide +kernel
theorem dX4_takeTown_57 : decode cX4_takeTown 57 = .ok (.iconst 1, 1) := by decide +kernel
theorem dX4_takeTown_58 : decode cX4_takeTown 58 = .ok (.iadd, 1) := by decide +kernel
theorem dX4_takeTown_59 : decode cX4_takeTown 59 = .ok (.iaload, 1) := by decide +kernel
theorem dX4_takeTown_60 : decode cX4_takeTown 60 = .ok (.iastore, 1) := by decide +kernel
theorem dX4_takeTown_61 : decode cX4_takeTown 61 = .ok (.aload_n 0, 1) := by decide +kernel
theorem dX4_takeTown_62 : decode cX4_takeTown 62 = .ok (.getfield 25, 3) := by decide +kernel
theorem dX4_takeTown_65 : decode cX4_takeTown 65 = .ok (.iload_n 1, 1) := by decide +kernel
theorem dX4_takeTown_66 : decode cX4_takeTown 66 = .ok (.aload_n 0, 1) := by decide +kernel
theorem dX4_takeTown_67 : decode cX4_takeTown 67 = .ok (.getfield 28, 3) := by decide +kernel
theorem dX4_takeTown_70 : decode cX4_takeTown 70 = .ok (.iconst 4, 1) := by decide +kernel
theorem dX4_takeTown_71 : decode cX4_takeTown 71 = .ok (.iload_n 1, 1) := by decide +kernel
theorem dX4_takeTown_72 : decode cX4_takeTown 72 = .ok (.imul, 1) := by decide +kernel
theorem dX4_takeTown_73 : decode cX4_takeTown 73 = .ok (.iconst 2, 1) := by decide +kernel
theorem dX4_takeTown_74 : decode cX4_takeTown 74 = .ok (.iadd, 1) := by decide +kernel
theorem dX4_takeTown_75 : decode cX4_takeTown 75 = .ok (.iaload, 1) := by decide +kernel
theorem dX4_takeTown_76 : decode cX4_takeTown 76 = .ok (.iastore, 1) := by decide +kernel
theorem dX4_takeTown_77 : decode cX4_takeTown 77 = .ok (.aload_n 0, 1) := by decide +kernel
theorem dX4_takeTown_78 : decode cX4_takeTown 78 = .ok (.dup, 1) := by decide +kernel
theorem dX4_takeTown_79 : decode cX4_takeTown 79 = .ok (.getfield 96, 3) := by decide +kernel
theorem dX4_takeTown_82 : decode cX4_takeTown 82 = .ok (.aload_n 0, 1) := by decide +kernel
theorem dX4_takeTown_83 : decode cX4_takeTown 83 = .ok (.getfield 28, 3) := by decide +kernel
theorem dX4_takeTown_86 : decode cX4_takeTown 86 = .ok (.iconst 4, 1) := by decide +kernel
theorem dX4_takeTown_87 : decode cX4_takeTown 87 = .ok (.iload_n 1, 1) := by decide +kernel
theorem dX4_takeTown_88 : decode cX4_takeTown 88 = .ok (.imul, 1) := by decide +kernel
theorem dX4_takeTown_89 : decode cX4_takeTown 89 = .ok (.iconst 3, 1) := by decide +kernel
theorem dX4_takeTown_90 : decode cX4_takeTown 90 = .ok (.iadd, 1) := by decide +kernel
theorem dX4_takeTown_91 : decode cX4_takeTown 91 = .ok (.iaload, 1) := by decide +kernel
theorem dX4_takeTown_92 : decode cX4_takeTown 92 = .ok (.iload_n 1, 1) := by decide +kernel
theorem dX4_takeTown_93 : decode cX4_takeTown 93 = .ok (.ishl, 1) := by decide +kernel
theorem dX4_takeTown_94 : decode cX4_takeTown 94 = .ok (.ior, 1) := by decide +kernel
theorem dX4_takeTown_95 : decode cX4_takeTown 95 = .ok (.putfield 96, 3) := by decide +kernel
theorem dX4_takeTown_98 : decode cX4_takeTown 98 = .ok (.iinc 1 1, 3) := by decide +kernel
theorem dX4_takeTown_101 : decode cX4_takeTown 101 = .ok (.goto (-78), 3) := by decide +kernel
theorem dX4_takeTown_104 : decode cX4_takeTown 104 = .ok (.aload_n 0, 1) := by decide +kernel
theorem dX4_takeTown_105 : decode cX4_takeTown 105 = .ok (.iconst 0, 1) := by decide +kernel
theorem dX4_takeTown_106 : decode cX4_takeTown 106 = .ok (.putfield 99, 3) := by decide +kernel
theorem dX4_takeTown_109 : decode cX4_takeTown 109 = .ok (.aload_n 0, 1) := by decide +kernel
theorem dX4_takeTown_110 : decode cX4_takeTown 110 = .ok (.iconst 0, 1) := by decide +kernel
theorem dX4_takeTown_111 : decode cX4_takeTown 111 = .ok (.putfield 102, 3) := by decide +kernel
theorem dX4_takeTown_114 : decode cX4_takeTown 114 = .ok (.return_, 1) := by decide +kernel
set_option maxRecDepth 20000 in
theorem ggX4_readTown_X4_isSign : GoodIn wsX4_readTown wsX4_isSign := goodIn_r _ [8, 3, 9, 26, 27, 28, 29, 30, 31, 32, 33, 34, 35, 36, 37, 38, 39, 40, 41, 42, 43, 44, 45, 46, 47, 48, 49] (by decide +kernel) (by decide +kernel)
set_option maxRecDepth 20000 in
theorem gX4_readTown_X4_isSign : GoodIn wsX4_readTown (wsV RX4 105 RX4 yX4_isSign wsX4_isSign) := goodIn_app (goodIn_of _ (by decide +kernel)) ggX4_readTown_X4_isSign
set_option maxRecDepth 20000 in
theorem ggX4_readTown_X4_twoDigits : GoodIn wsX4_readTown wsX4_twoDigits := goodIn_r _ [13, 14, 15, 16, 7, 17, 3, 9, 18, 19, 20, 26, 27, 28, 29, 30, 31, 32, 33, 34, 35, 36, 37, 38, 39, 40, 41, 42, 43, 44, 45, 46, 47, 48, 49] (by decide +kernel) (by decide +kernel)
set_option maxRecDepth 20000 in
theorem gX4_readTown_X4_twoDigits : GoodIn wsX4_readTown (wsV RX4 109 RX4 yX4_twoDigits wsX4_twoDigits) := goodIn_app (goodIn_of _ (by decide +kernel)) ggX4_readTown_X4_twoDigits
set_option maxRecDepth 20000 in
theorem ggX4_readTown_X4_readPerson : GoodIn wsX4_readTown wsX4_readPerson := goodIn_r _ [24, 3, 9, 1, 25, 10, 11, 12, 7, 13, 14, 15, 16, 17, 18, 19, 20, 26, 27, 28, 29, 30, 31, 32, 33, 34, 35, 36, 37, 38, 39, 40, 41, 42, 43, 44, 45, 46, 47, 48, 49] (by decide +kernel) (by decide +kernel)
set_option maxRecDepth 20000 in
theorem gX4_readTown_X4_readPerson : GoodIn wsX4_readTown (wsV RX4 113 RX4 yX4_readPerson wsX4_readPerson) := goodIn_app (goodIn_of _ (by decide +kernel)) ggX4_readTown_X4_readPerson
theorem dX4_readTown_0 : decode cX4_readTown 0 = .ok (.aload_n 0, 1) := by decide +kernel
theorem dX4_readTown_1 : decode cX4_readTown 1 = .ok (.iconst 0, 1) := by decide +kernel
theorem dX4_readTown_2 : decode cX4_readTown 2 = .ok (.putfield 93, 3) := by decide +kernel
theorem dX4_readTown_5 : decode cX4_readTown 5 = .ok (.aload_n 0, 1) := by decide +kernel
theorem dX4_readTown_6 : decode cX4_readTown 6 = .ok (.iload_n 1, 1) := by decide +kernel
theorem dX4_readTown_7 : decode cX4_readTown 7 = .ok (.bipush 116, 2) := by decide +kernel
theorem dX4_readTown_9 : decode cX4_readTown 9 = .ok (.invokevirtual 105, 3) := by decide +kernel
theorem dX4_readTown_12 : decode cX4_readTown 12 = .ok (.ifCond .ne 5, 3) := by decide +kernel
theorem dX4_readTown_15 : decode cX4_readTown 15 = .ok (.iconst 0, 1) := by decide +kernel
theorem dX4_readTown_16 : decode cX4_readTown 16 = .ok (.ireturn, 1) := by decide +kernel
theorem dX4_readTown_17 : decode cX4_readTown 17 = .ok (.aload_n 0, 1) := by decide +kernel
theorem dX4_readTown_18 : decode cX4_readTown 18 = .ok (.aload_n 0, 1) := by decide +kernel
theorem dX4_readTown_19 : decode cX4_readTown 19 = .ok (.iload_n 1, 1) := by decide +kernel
theorem dX4_readTown_20 : decode cX4_readTown 20 = .ok (.iconst 4, 1) := by decide +kernel
theorem dX4_readTown_21 : decode cX4_readTown 21 = .ok (.invokevirtual 109, 3) := by decide +kernel
theorem dX4_readTown_24 : decode cX4_readTown 24 = .ok (.putfield 87, 3) := by decide +kernel
theorem dX4_readTown_27 : decode cX4_readTown 27 = .ok (.aload_n 0, 1) := by decide +kernel
theorem dX4_readTown_28 : decode cX4_readTown 28 = .ok (.getfield 87, 3) := by decide +kernel
theorem dX4_readTown_31 : decode cX4_readTown 31 = .ok (.bipush (-9), 2) := by decide +kernel
theorem dX4_readTown_33 : decode cX4_readTown 33 = .ok (.if_icmp .ne 5, 3) := by decide +kernel
theorem dX4_readTown_36 : decode cX4_readTown 36 = .ok (.iconst 0, 1) := by decide +kernel
theorem dX4_readTown_37 : decode cX4_readTown 37 = .ok (.ireturn, 1) := by decide +kernel
theorem dX4_readTown_38 : decode cX4_readTown 38 = .ok (.aload_n 0, 1) := by decide +kernel
theorem dX4_readTown_39 : decode cX4_readTown 39 = .ok (.getfield 93, 3) := by decide +kernel
theorem dX4_readTown_42 : decode cX4_readTown 42 = .ok (.iconst 2, 1) := by decide +kernel
theorem dX4_readTown_43 : decode cX4_readTown 43 = .ok (.if_icmp .lt 20, 3) := by decide +kernel
theorem dX4_readTown_46 : decode cX4_readTown 46 = .ok (.aload_n 0, 1) := by decide +kernel
theorem dX4_readTown_47 : decode cX4_readTown 47 = .ok (.getfield 93, 3) := by decide +kernel
theorem dX4_readTown_50 : decode cX4_readTown 50 = .ok (.bipush 6, 2) := by decide +kernel
theorem dX4_readTown_52 : decode cX4_readTown 52 = .ok (.if_icmp .ge 31, 3) := by decide +kernel
theorem dX4_readTown_55 : decode cX4_readTown 55 = .ok (.aload_n 0, 1) := by decide +kernel
theorem dX4_readTown_56 : decode cX4_readTown 56 = .ok (.getfield 59, 3) := by decide +kernel
theorem dX4_readTown_59 : decode cX4_readTown 59 = .ok (.iload_n 1, 1) := by decide +kernel
theorem dX4_readTown_60 : decode cX4_readTown 60 = .ok (.if_icmp .ge 23, 3) := by decide +kernel
theorem dX4_readTown_63 : decode cX4_readTown 63 = .ok (.aload_n 0, 1) := by decide +kernel
theorem dX4_readTown_64 : decode cX4_readTown 64 = .ok (.iload_n 1, 1) := by decide +kernel
theorem dX4_readTown_65 : decode cX4_readTown 65 = .ok (.bipush 59, 2) := by decide +kernel
theorem dX4_readTown_67 : decode cX4_readTown 67 = .ok (.invokevirtual 105, 3) := by decide +kernel
theorem dX4_readTown_70 : decode cX4_readTown 70 = .ok (.ifCond .eq 11, 3) := by decide +kernel
theorem dX4_readTown_73 : decode cX4_readTown 73 = .ok (.aload_n 0, 1) := by decide +kernel
theorem dX4_readTown_74 : decode cX4_readTown 74 = .ok (.iload_n 1, 1) := by decide +kernel
theorem dX4_readTown_75 : decode cX4_readTown 75 = .ok (.invokevirtual 113, 3) := by decide +kernel
theorem dX4_readTown_78 : decode cX4_readTown 78 = .ok (.ifCond .ne (-40), 3) := by decide +kernel
theorem dX4_readTown_81 : decode cX4_readTown 81 = .ok (.iconst 0, 1) := by decide +kernel
theorem dX4_readTown_82 : decode cX4_readTown 82 = .ok (.ireturn, 1) := by decide +kernel
theorem dX4_readTown_83 : decode cX4_readTown 83 = .ok (.aload_n 0, 1) := by decide +kernel
theorem dX4_readTown_84 : decode cX4_readTown 84 = .ok (.getfield 59, 3) := by decide +kernel
theorem dX4_readTown_87 : decode cX4_readTown 87 = .ok (.iload_n 1, 1) := by decide +kernel
theorem dX4_readTown_88 : decode cX4_readTown 88 = .ok (.if_icmp .ne 7, 3) := by decide +kernel
theorem dX4_readTown_91 : decode cX4_readTown 91 = .ok (.iconst 1, 1) := by decide +kernel
theorem dX4_readTown_92 : decode cX4_readTown 92 = .ok (.goto 4, 3) := by decide +kernel
theorem dX4_readTown_95 : decode cX4_readTown 95 = .ok (.iconst 0, 1) := by decide +kernel
theorem dX4_readTown_96 : decode cX4_readTown 96 = .ok (.ireturn, 1) := by decide +kernel
set_option maxRecDepth 20000 in
theorem ggX4_readPerson_X4_twoDigits : GoodIn wsX4_readPerson wsX4_twoDigits := goodIn_r _ [9, 10, 11, 12, 8, 13, 1, 2, 14, 15, 16, 17, 18, 19, 20, 21, 22, 23, 24, 25, 26, 27, 28, 29, 30, 31, 32, 33, 34, 35, 36, 37, 38, 39, 40] (by decide +kernel) (by decide +kernel)
set_option maxRecDepth 20000 in
theorem gX4_readPerson_X4_twoDigits : GoodIn wsX4_readPerson (wsV RX4 109 RX4 yX4_twoDigits wsX4_twoDigits) := goodIn_app (goodIn_of _ (by decide +kernel)) ggX4_readPerson_X4_twoDigits
set_option maxRecDepth 20000 in
theorem ggX4_readPerson_X4_digit : GoodIn wsX4_readPerson wsX4_digit := goodIn_r _ [13, 1, 2, 14, 15, 8, 16, 17, 18, 19, 20, 21, 22, 23, 24, 25, 26, 27, 28, 29, 30, 31, 32, 33, 34, 35, 36, 37, 38, 39, 40] (by decide +kernel) (by decide +kernel)
set_option maxRecDepth 20000 in
theorem gX4_readPerson_X4_digit : GoodIn wsX4_readPerson (wsV RX4 62 RX4 yX4_digit wsX4_digit) := goodIn_app (goodIn_of _ (by decide +kernel)) ggX4_readPerson_X4_digit
theorem dX4_readPerson_0 : decode cX4_readPerson 0 = .ok (.aload_n 0, 1) := by decide +kernel
theorem dX4_readPerson_1 : decode cX4_readPerson 1 = .ok (.getfield 59, 3) := by decide +kernel
theorem dX4_readPerson_4 : decode cX4_readPerson 4 = .ok (.iload_n 1, 1) := by decide +kernel
theorem dX4_readPerson_5 : decode cX4_readPerson 5 = .ok (.if_icmp .ge 15, 3) := by decide +kernel
theorem dX4_readPerson_8 : decode cX4_readPerson 8 = .ok (.aload_n 0, 1) := by decide +kernel
theorem dX4_readPerson_9 : decode cX4_readPerson 9 = .ok (.getfield 16, 3) := by decide +kernel
theorem dX4_readPerson_12 : decode cX4_readPerson 12 = .ok (.aload_n 0, 1) := by decide +kernel
theorem dX4_readPerson_13 : decode cX4_readPerson 13 = .ok (.getfield 59, 3) := by decide +kernel
theorem dX4_readPerson_16 : decode cX4_readPerson 16 = .ok (.iaload, 1) := by decide +kernel
theorem dX4_readPerson_17 : decode cX4_readPerson 17 = .ok (.goto 4, 3) := by decide +kernel
theorem dX4_readPerson_20 : decode cX4_readPerson 20 = .ok (.iconst 0, 1) := by decide +kernel
theorem dX4_readPerson_21 : decode cX4_readPerson 21 = .ok (.istore_n 2, 1) := by decide +kernel
theorem dX4_readPerson_22 : decode cX4_readPerson 22 = .ok (.iconst 4, 1) := by decide +kernel
theorem dX4_readPerson_23 : decode cX4_readPerson 23 = .ok (.aload_n 0, 1) := by decide +kernel
theorem dX4_readPerson_24 : decode cX4_readPerson 24 = .ok (.getfield 93, 3) := by decide +kernel
theorem dX4_readPerson_27 : decode cX4_readPerson 27 = .ok (.imul, 1) := by decide +kernel
theorem dX4_readPerson_28 : decode cX4_readPerson 28 = .ok (.istore_n 3, 1) := by decide +kernel
theorem dX4_readPerson_29 : decode cX4_readPerson 29 = .ok (.aload_n 0, 1) := by decide +kernel
theorem dX4_readPerson_30 : decode cX4_readPerson 30 = .ok (.getfield 28, 3) := by decide +kernel
theorem dX4_readPerson_33 : decode cX4_readPerson 33 = .ok (.iload_n 3, 1) := by decide +kernel
theorem dX4_readPerson_34 : decode cX4_readPerson 34 = .ok (.iload_n 2, 1) := by decide +kernel
theorem dX4_readPerson_35 : decode cX4_readPerson 35 = .ok (.bipush 111, 2) := by decide +kernel
theorem dX4_readPerson_37 : decode cX4_readPerson 37 = .ok (.if_icmp .ne 7, 3) := by decide +kernel
theorem dX4_readPerson_40 : decode cX4_readPerson 40 = .ok (.iconst 0, 1) := by decide +kernel
theorem dX4_readPerson_41 : decode cX4_readPerson 41 = .ok (.goto 25, 3) := by decide +kernel
theorem dX4_readPerson_44 : decode cX4_readPerson 44 = .ok (.iload_n 2, 1) := by decide +kernel
theorem dX4_readPerson_45 : decode cX4_readPerson 45 = .ok (.bipush 115, 2) := by decide +kernel
theorem dX4_readPerson_47 : decode cX4_readPerson 47 = .ok (.if_icmp .ne 7, 3) := by decide +kernel
theorem dX4_readPerson_50 : decode cX4_readPerson 50 = .ok (.iconst 1, 1) := by decide +kernel
theorem dX4_readPerson_51 : decode cX4_readPerson 51 = .ok (.goto 15, 3) := by decide +kernel
theorem dX4_readPerson_54 : decode cX4_readPerson 54 = .ok (.iload_n 2, 1) := by decide +kernel
theorem dX4_readPerson_55 : decode cX4_readPerson 55 = .ok (.bipush 99, 2) := by decide +kernel
theorem dX4_readPerson_57 : decode cX4_readPerson 57 = .ok (.if_icmp .ne 7, 3) := by decide +kernel
theorem dX4_readPerson_60 : decode cX4_readPerson 60 = .ok (.iconst 2, 1) := by decide +kernel
theorem dX4_readPerson_61 : decode cX4_readPerson 61 = .ok (.goto 5, 3) := by decide +kernel
theorem dX4_readPerson_64 : decode cX4_readPerson 64 = .ok (.bipush (-9), 2) := by decide +kernel
theorem dX4_readPerson_66 : decode cX4_readPerson 66 = .ok (.iastore, 1) := by decide +kernel
theorem dX4_readPerson_67 : decode cX4_readPerson 67 = .ok (.aload_n 0, 1) := by decide +kernel
theorem dX4_readPerson_68 : decode cX4_readPerson 68 = .ok (.getfield 28, 3) := by decide +kernel
theorem dX4_readPerson_71 : decode cX4_readPerson 71 = .ok (.iload_n 3, 1) := by decide +kernel
theorem dX4_readPerson_72 : decode cX4_readPerson 72 = .ok (.iaload, 1) := by decide +kernel
theorem dX4_readPerson_73 : decode cX4_readPerson 73 = .ok (.bipush (-9), 2) := by decide +kernel
theorem dX4_readPerson_75 : decode cX4_readPerson 75 = .ok (.if_icmp .ne 5, 3) := by decide +kernel
theorem dX4_readPerson_78 : decode cX4_readPerson 78 = .ok (.iconst 0, 1) := by decide +kernel
theorem dX4_readPerson_79 : decode cX4_readPerson 79 = .ok (.ireturn, 1) := by decide +kernel
theorem dX4_readPerson_80 : decode cX4_readPerson 80 = .ok (.aload_n 0, 1) := by decide +kernel
theorem dX4_readPerson_81 : decode cX4_readPerson 81 = .ok (.dup, 1) := by decide +kernel
theorem dX4_readPerson_82 : decode cX4_readPerson 82 = .ok (.getfield 59, 3) := by decide +kernel
theorem dX4_readPerson_85 : decode cX4_readPerson 85 = .ok (.iconst 1, 1) := by decide +kernel
theorem dX4_readPerson_86 : decode cX4_readPerson 86 = .ok (.iadd, 1) := by decide +kernel
theorem dX4_readPerson_87 : decode cX4_readPerson 87 = .ok (.putfield 59, 3) := by decide +kernel
theorem dX4_readPerson_90 : decode cX4_readPerson 90 = .ok (.aload_n 0, 1) := by decide +kernel
theorem dX4_readPerson_91 : decode cX4_readPerson 91 = .ok (.getfield 28, 3) := by decide +kernel
theorem dX4_readPerson_94 : decode cX4_readPerson 94 = .ok (.iload_n 3, 1) := by decide +kernel
theorem dX4_readPerson_95 : decode cX4_readPerson 95 = .ok (.iconst 1, 1) := by decide +kernel
theorem dX4_readPerson_96 : decode cX4_readPerson 96 = .ok (.iadd, 1) := by decide +kernel
theorem dX4_readPerson_97 : decode cX4_readPerson 97 = .ok (.aload_n 0, 1) := by decide +kernel
theorem dX4_readPerson_98 : decode cX4_readPerson 98 = .ok (.iload_n 1, 1) := by decide +kernel
theorem dX4_readPerson_99 : decode cX4_readPerson 99 = .ok (.iconst 3, 1) := by decide +kernel
theorem dX4_readPerson_100 : decode cX4_readPerson 100 = .ok (.invokevirtual 109, 3) := by decide +kernel
theorem dX4_readPerson_103 : decode cX4_readPerson 103 = .ok (.iastore, 1) := by decide +kernel
theorem dX4_readPerson_104 : decode cX4_readPerson 104 = .ok (.aload_n 0, 1) := by decide +kernel
theorem dX4_readPerson_105 : decode cX4_readPerson 105 = .ok (.getfield 28, 3) := by decide +kernel
theorem dX4_readPerson_108 : decode cX4_readPerson 108 = .ok (.iload_n 3, 1) := by decide +kernel
theorem dX4_readPerson_109 : decode cX4_readPerson 109 = .ok (.iconst 1, 1) := by decide +kernel
theorem dX4_readPerson_110 : decode cX4_readPerson 110 = .ok (.iadd, 1) := by decide +kernel
theorem dX4_readPerson_111 : decode cX4_readPerson 111 = .ok (.iaload, 1) := by decide +kernel
theorem dX4_readPerson_112 : decode cX4_readPerson 112 = .ok (.bipush (-9), 2) := by decide +kernel
theorem dX4_readPerson_114 : decode cX4_readPerson 114 = .ok (.if_icmp .ne 5, 3) := by decide +kernel
theorem dX4_readPerson_117 : decode cX4_readPerson 117 = .ok (.iconst 0, 1) := by decide +kernel
theorem dX4_readPerson_118 : decode cX4_readPerson 118 = .ok (.ireturn, 1) := by decide +kernel
theorem dX4_readPerson_119 : decode cX4_readPerson 119 = .ok (.aload_n 0, 1) := by decide +kernel
theorem dX4_readPerson_120 : decode cX4_readPerson 120 = .ok (.getfield 28, 3) := by decide +kernel
theorem dX4_readPerson_123 : decode cX4_readPerson 123 = .ok (.iload_n 3, 1) := by decide +kernel
theorem dX4_readPerson_124 : decode cX4_readPerson 124 = .ok (.iconst 2, 1) := by decide +kernel
theorem dX4_readPerson_125 : decode cX4_readPerson 125 = .ok (.iadd, 1) := by decide +kernel
theorem dX4_readPerson_126 : decode cX4_readPerson 126 = .ok (.aload_n 0, 1) := by decide +kernel
theorem dX4_readPerson_127 : decode cX4_readPerson 127 = .ok (.iload_n 1, 1) := by decide +kernel
theorem dX4_readPerson_128 : decode cX4_readPerson 128 = .ok (.iconst 1, 1) := by decide +kernel
theorem dX4_readPerson_129 : decode cX4_readPerson 129 = .ok (.bipush 9, 2) := by decide +kernel
theorem dX4_readPerson_131 : decode cX4_readPerson 131 = .ok (.invokevirtual 62, 3) := by decide +kernel
theorem dX4_readPerson_134 : decode cX4_readPerson 134 = .ok (.iastore, 1) := by decide +kernel
theorem dX4_readPerson_135 : decode cX4_readPerson 135 = .ok (.aload_n 0, 1) := by decide +kernel
theorem dX4_readPerson_136 : decode cX4_readPerson 136 = .ok (.getfield 28, 3) := by decide +kernel
theorem dX4_readPerson_139 : decode cX4_readPerson 139 = .ok (.iload_n 3, 1) := by decide +kernel
theorem dX4_readPerson_140 : decode cX4_readPerson 140 = .ok (.iconst 2, 1) := by decide +kernel
theorem dX4_readPerson_141 : decode cX4_readPerson 141 = .ok (.iadd, 1) := by decide +kernel
theorem dX4_readPerson_142 : decode cX4_readPerson 142 = .ok (.iaload, 1) := by decide +kernel
theorem dX4_readPerson_143 : decode cX4_readPerson 143 = .ok (.bipush (-9), 2) := by decide +kernel
theorem dX4_readPerson_145 : decode cX4_readPerson 145 = .ok (.if_icmp .ne 5, 3) := by decide +kernel
theorem dX4_readPerson_148 : decode cX4_readPerson 148 = .ok (.iconst 0, 1) := by decide +kernel
theorem dX4_readPerson_149 : decode cX4_readPerson 149 = .ok (.ireturn, 1) := by decide +kernel
theorem dX4_readPerson_150 : decode cX4_readPerson 150 = .ok (.aload_n 0, 1) := by decide +kernel
theorem dX4_readPerson_151 : decode cX4_readPerson 151 = .ok (.getfield 28, 3) := by decide +kernel
theorem dX4_readPerson_154 : decode cX4_readPerson 154 = .ok (.iload_n 3, 1) := by decide +kernel
theorem dX4_readPerson_155 : decode cX4_readPerson 155 = .ok (.iconst 3, 1) := by decide +kernel
theorem dX4_readPerson_156 : decode cX4_readPerson 156 = .ok (.iadd, 1) := by decide +kernel
theorem dX4_readPerson_157 : decode cX4_readPerson 157 = .ok (.aload_n 0, 1) := by decide +kernel
theorem dX4_readPerson_158 : decode cX4_readPerson 158 = .ok (.iload_n 1, 1) := by decide +kernel
theorem dX4_readPerson_159 : decode cX4_readPerson 159 = .ok (.iconst 0, 1) := by decide +kernel
theorem dX4_readPerson_160 : decode cX4_readPerson 160 = .ok (.iconst 1, 1) := by decide +kernel
theorem dX4_readPerson_161 : decode cX4_readPerson 161 = .ok (.invokevirtual 62, 3) := by decide +kernel
theorem dX4_readPerson_164 : decode cX4_readPerson 164 = .ok (.iastore, 1) := by decide +kernel
theorem dX4_readPerson_165 : decode cX4_readPerson 165 = .ok (.aload_n 0, 1) := by decide +kernel
theorem dX4_readPerson_166 : decode cX4_readPerson 166 = .ok (.dup, 1) := by decide +kernel
theorem dX4_readPerson_167 : decode cX4_readPerson 167 = .ok (.getfield 93, 3) := by decide +kernel
theorem dX4_readPerson_170 : decode cX4_readPerson 170 = .ok (.iconst 1, 1) := by decide +kernel
theorem dX4_readPerson_171 : decode cX4_readPerson 171 = .ok (.iadd, 1) := by decide +kernel
theorem dX4_readPerson_172 : decode cX4_readPerson 172 = .ok (.putfield 93, 3) := by decide +kernel
theorem dX4_readPerson_175 : decode cX4_readPerson 175 = .ok (.aload_n 0, 1) := by decide +kernel
theorem dX4_readPerson_176 : decode cX4_readPerson 176 = .ok (.getfield 28, 3) := by decide +kernel
theorem dX4_readPerson_179 : decode cX4_readPerson 179 = .ok (.iload_n 3, 1) := by decide +kernel
theorem dX4_readPerson_180 : decode cX4_readPerson 180 = .ok (.iconst 3, 1) := by decide +kernel
theorem dX4_readPerson_181 : decode cX4_readPerson 181 = .ok (.iadd, 1) := by decide +kernel
theorem dX4_readPerson_182 : decode cX4_readPerson 182 = .ok (.iaload, 1) := by decide +kernel
theorem dX4_readPerson_183 : decode cX4_readPerson 183 = .ok (.bipush (-9), 2) := by decide +kernel
theorem dX4_readPerson_185 : decode cX4_readPerson 185 = .ok (.if_icmp .eq 7, 3) := by decide +kernel
theorem dX4_readPerson_188 : decode cX4_readPerson 188 = .ok (.iconst 1, 1) := by decide +kernel
theorem dX4_readPerson_189 : decode cX4_readPerson 189 = .ok (.goto 4, 3) := by decide +kernel
theorem dX4_readPerson_192 : decode cX4_readPerson 192 = .ok (.iconst 0, 1) := by decide +kernel
theorem dX4_readPerson_193 : decode cX4_readPerson 193 = .ok (.ireturn, 1) := by decide +kernel
theorem dX4_saysBy_0 : decode cX4_saysBy 0 = .ok (.iload_n 2, 1) := by decide +kernel
theorem dX4_saysBy_1 : decode cX4_saysBy 1 = .ok (.aload_n 0, 1) := by decide +kernel
theorem dX4_saysBy_2 : decode cX4_saysBy 2 = .ok (.getfield 25, 3) := by decide +kernel
theorem dX4_saysBy_5 : decode cX4_saysBy 5 = .ok (.iload_n 1, 1) := by decide +kernel
theorem dX4_saysBy_6 : decode cX4_saysBy 6 = .ok (.iaload, 1) := by decide +kernel
theorem dX4_saysBy_7 : decode cX4_saysBy 7 = .ok (.idiv, 1) := by decide +kernel
theorem dX4_saysBy_8 : decode cX4_saysBy 8 = .ok (.istore_n 3, 1) := by decide +kernel
theorem dX4_saysBy_9 : decode cX4_saysBy 9 = .ok (.aload_n 0, 1) := by decide +kernel
theorem dX4_saysBy_10 : decode cX4_saysBy 10 = .ok (.getfield 19, 3) := by decide +kernel
theorem dX4_saysBy_13 : decode cX4_saysBy 13 = .ok (.iload_n 1, 1) := by decide +kernel
theorem dX4_saysBy_14 : decode cX4_saysBy 14 = .ok (.iaload, 1) := by decide +kernel
theorem dX4_saysBy_15 : decode cX4_saysBy 15 = .ok (.iconst 1, 1) := by decide +kernel
theorem dX4_saysBy_16 : decode cX4_saysBy 16 = .ok (.if_icmp .ne 15, 3) := by decide +kernel
theorem dX4_saysBy_19 : decode cX4_saysBy 19 = .ok (.iload_n 3, 1) := by decide +kernel
theorem dX4_saysBy_20 : decode cX4_saysBy 20 = .ok (.ifCond .le 9, 3) := by decide +kernel
theorem dX4_saysBy_23 : decode cX4_saysBy 23 = .ok (.iload_n 3, 1) := by decide +kernel
theorem dX4_saysBy_24 : decode cX4_saysBy 24 = .ok (.iconst 1, 1) := by decide +kernel
theorem dX4_saysBy_25 : decode cX4_saysBy 25 = .ok (.isub, 1) := by decide +kernel
theorem dX4_saysBy_26 : decode cX4_saysBy 26 = .ok (.goto 4, 3) := by decide +kernel
theorem dX4_saysBy_29 : decode cX4_saysBy 29 = .ok (.iconst 0, 1) := by decide +kernel
theorem dX4_saysBy_30 : decode cX4_saysBy 30 = .ok (.ireturn, 1) := by decide +kernel
theorem dX4_saysBy_31 : decode cX4_saysBy 31 = .ok (.aload_n 0, 1) := by decide +kernel
theorem dX4_saysBy_32 : decode cX4_saysBy 32 = .ok (.getfield 19, 3) := by decide +kernel
theorem dX4_saysBy_35 : decode cX4_saysBy 35 = .ok (.iload_n 1, 1) := by decide +kernel
theorem dX4_saysBy_36 : decode cX4_saysBy 36 = .ok (.iaload, 1) := by decide +kernel
theorem dX4_saysBy_37 : decode cX4_saysBy 37 = .ok (.ifCond .ne 7, 3) := by decide +kernel
theorem dX4_saysBy_40 : decode cX4_saysBy 40 = .ok (.iload_n 3, 1) := by decide +kernel
theorem dX4_saysBy_41 : decode cX4_saysBy 41 = .ok (.goto 6, 3) := by decide +kernel
theorem dX4_saysBy_44 : decode cX4_saysBy 44 = .ok (.iconst 2, 1) := by decide +kernel
theorem dX4_saysBy_45 : decode cX4_saysBy 45 = .ok (.iload_n 3, 1) := by decide +kernel
theorem dX4_saysBy_46 : decode cX4_saysBy 46 = .ok (.imul, 1) := by decide +kernel
theorem dX4_saysBy_47 : decode cX4_saysBy 47 = .ok (.ireturn, 1) := by decide +kernel
set_option maxRecDepth 20000 in
theorem ggX4_ofPerson_X4_isPerson : GoodIn wsX4_ofPerson wsX4_isPerson := goodIn_r _ [9, 10, 15, 16, 17, 18, 19, 20, 21, 22, 23, 24, 25, 26, 27, 28, 29, 30, 31, 32, 33, 34, 35, 36, 37, 38] (by decide +kernel) (by decide +kernel)
set_option maxRecDepth 20000 in
theorem gX4_ofPerson_X4_isPerson : GoodIn wsX4_ofPerson (wsV RX4 116 RX4 yX4_isPerson wsX4_isPerson) := goodIn_app (goodIn_of _ (by decide +kernel)) ggX4_ofPerson_X4_isPerson
set_option maxRecDepth 20000 in
theorem ggX4_ofPerson_X4_saysBy : GoodIn wsX4_ofPerson wsX4_saysBy := goodIn_r _ [14, 3, 1, 15, 16, 17, 18, 19, 20, 21, 22, 23, 24, 25, 26, 27, 28, 29, 30, 31, 32, 33, 34, 35, 36, 37, 38] (by decide +kernel) (by decide +kernel)
set_option maxRecDepth 20000 in
theorem gX4_ofPerson_X4_saysBy : GoodIn wsX4_ofPerson (wsV RX4 119 RX4 yX4_saysBy wsX4_saysBy) := goodIn_app (goodIn_of _ (by decide +kernel)) ggX4_ofPerson_X4_saysBy
theorem dX4_ofPerson_0 : decode cX4_ofPerson 0 = .ok (.aload_n 0, 1) := by decide +kernel
theorem dX4_ofPerson_1 : decode cX4_ofPerson 1 = .ok (.iload_n 1, 1) := by decide +kernel
theorem dX4_ofPerson_2 : decode cX4_ofPerson 2 = .ok (.invokevirtual 116, 3) := by decide +kernel
theorem dX4_ofPerson_5 : decode cX4_ofPerson 5 = .ok (.ifCond .ne 5, 3) := by decide +kernel
theorem dX4_ofPerson_8 : decode cX4_ofPerson 8 = .ok (.iconst (-1), 1) := by decide +kernel
theorem dX4_ofPerson_9 : decode cX4_ofPerson 9 = .ok (.ireturn, 1) := by decide +kernel
theorem dX4_ofPerson_10 : decode cX4_ofPerson 10 = .ok (.iload_n 2, 1) := by decide +kernel
theorem dX4_ofPerson_11 : decode cX4_ofPerson 11 = .ok (.tableswitch 75 0 4 #[33, 40, 47, 54, 63], 33) := by decide +kernel
theorem dX4_ofPerson_44 : decode cX4_ofPerson 44 = .ok (.aload_n 0, 1) := by decide +kernel
theorem dX4_ofPerson_45 : decode cX4_ofPerson 45 = .ok (.getfield 19, 3) := by decide +kernel
theorem dX4_ofPerson_48 : decode cX4_ofPerson 48 = .ok (.iload_n 1, 1) := by decide +kernel
theorem dX4_ofPerson_49 : decode cX4_ofPerson 49 = .ok (.iaload, 1) := by decide +kernel
theorem dX4_ofPerson_50 : decode cX4_ofPerson 50 = .ok (.ireturn, 1) := by decide +kernel
theorem dX4_ofPerson_51 : decode cX4_ofPerson 51 = .ok (.aload_n 0, 1) := by decide +kernel
theorem dX4_ofPerson_52 : decode cX4_ofPerson 52 = .ok (.getfield 22, 3) := by decide +kernel
theorem dX4_ofPerson_55 : decode cX4_ofPerson 55 = .ok (.iload_n 1, 1) := by decide +kernel
theorem dX4_ofPerson_56 : decode cX4_ofPerson 56 = .ok (.iaload, 1) := by decide +kernel
theorem dX4_ofPerson_57 : decode cX4_ofPerson 57 = .ok (.ireturn, 1) := by decide +kernel
theorem dX4_ofPerson_58 : decode cX4_ofPerson 58 = .ok (.aload_n 0, 1) := by decide +kernel
theorem dX4_ofPerson_59 : decode cX4_ofPerson 59 = .ok (.getfield 25, 3) := by decide +kernel
theorem dX4_ofPerson_62 : decode cX4_ofPerson 62 = .ok (.iload_n 1, 1) := by decide +kernel
theorem dX4_ofPerson_63 : decode cX4_ofPerson 63 = .ok (.iaload, 1) := by decide +kernel
theorem dX4_ofPerson_64 : decode cX4_ofPerson 64 = .ok (.ireturn, 1) := by decide +kernel
theorem dX4_ofPerson_65 : decode cX4_ofPerson 65 = .ok (.aload_n 0, 1) := by decide +kernel
theorem dX4_ofPerson_66 : decode cX4_ofPerson 66 = .ok (.getfield 96, 3) := by decide +kernel
theorem dX4_ofPerson_69 : decode cX4_ofPerson 69 = .ok (.iload_n 1, 1) := by decide +kernel
theorem dX4_ofPerson_70 : decode cX4_ofPerson 70 = .ok (.ishr, 1) := by decide +kernel
theorem dX4_ofPerson_71 : decode cX4_ofPerson 71 = .ok (.iconst 1, 1) := by decide +kernel
theorem dX4_ofPerson_72 : decode cX4_ofPerson 72 = .ok (.iand, 1) := by decide +kernel
theorem dX4_ofPerson_73 : decode cX4_ofPerson 73 = .ok (.ireturn, 1) := by decide +kernel
theorem dX4_ofPerson_74 : decode cX4_ofPerson 74 = .ok (.aload_n 0, 1) := by decide +kernel
theorem dX4_ofPerson_75 : decode cX4_ofPerson 75 = .ok (.iload_n 1, 1) := by decide +kernel
theorem dX4_ofPerson_76 : decode cX4_ofPerson 76 = .ok (.aload_n 0, 1) := by decide +kernel
theorem dX4_ofPerson_77 : decode cX4_ofPerson 77 = .ok (.getfield 22, 3) := by decide +kernel
theorem dX4_ofPerson_80 : decode cX4_ofPerson 80 = .ok (.iload_n 1, 1) := by decide +kernel
theorem dX4_ofPerson_81 : decode cX4_ofPerson 81 = .ok (.iaload, 1) := by decide +kernel
theorem dX4_ofPerson_82 : decode cX4_ofPerson 82 = .ok (.invokevirtual 119, 3) := by decide +kernel
theorem dX4_ofPerson_85 : decode cX4_ofPerson 85 = .ok (.ireturn, 1) := by decide +kernel
theorem dX4_ofPerson_86 : decode cX4_ofPerson 86 = .ok (.bipush (-2), 2) := by decide +kernel
theorem dX4_ofPerson_88 : decode cX4_ofPerson 88 = .ok (.ireturn, 1) := by decide +kernel
set_option maxRecDepth 20000 in
theorem ggX4_tune_X4_isPerson : GoodIn wsX4_tune wsX4_isPerson := goodIn_r _ [6, 7, 11, 12, 13, 14, 15, 16, 17, 18, 19, 20, 21, 22, 23, 24, 25, 26, 27, 28, 29, 30, 31, 32, 33, 34] (by decide +kernel) (by decide +kernel)
set_option maxRecDepth 20000 in
theorem gX4_tune_X4_isPerson : GoodIn wsX4_tune (wsV RX4 116 RX4 yX4_isPerson wsX4_isPerson) := goodIn_app (goodIn_of _ (by decide +kernel)) ggX4_tune_X4_isPerson
set_option maxRecDepth 20000 in
theorem ggX4_tune_X4_within : GoodIn wsX4_tune wsX4_within := goodIn_r _ [10] (by decide +kernel) (by decide +kernel)
set_option maxRecDepth 20000 in
theorem gX4_tune_X4_within : GoodIn wsX4_tune (va_wsS RX4 52 yX4_within wsX4_within) := goodIn_app (goodIn_of _ (by decide +kernel)) ggX4_tune_X4_within
theorem dX4_tune_0 : decode cX4_tune 0 = .ok (.aload_n 0, 1) := by decide +kernel
theorem dX4_tune_1 : decode cX4_tune 1 = .ok (.iload_n 1, 1) := by decide +kernel
theorem dX4_tune_2 : decode cX4_tune 2 = .ok (.invokevirtual 116, 3) := by decide +kernel
theorem dX4_tune_5 : decode cX4_tune 5 = .ok (.ifCond .ne 5, 3) := by decide +kernel
theorem dX4_tune_8 : decode cX4_tune 8 = .ok (.iconst (-1), 1) := by decide +kernel
theorem dX4_tune_9 : decode cX4_tune 9 = .ok (.ireturn, 1) := by decide +kernel
theorem dX4_tune_10 : decode cX4_tune 10 = .ok (.iload_n 2, 1) := by decide +kernel
theorem dX4_tune_11 : decode cX4_tune 11 = .ok (.iconst 1, 1) := by decide +kernel
theorem dX4_tune_12 : decode cX4_tune 12 = .ok (.bipush 9, 2) := by decide +kernel
theorem dX4_tune_14 : decode cX4_tune 14 = .ok (.invokestatic 52, 3) := by decide +kernel
theorem dX4_tune_17 : decode cX4_tune 17 = .ok (.ifCond .ne 6, 3) := by decide +kernel
theorem dX4_tune_20 : decode cX4_tune 20 = .ok (.bipush (-2), 2) := by decide +kernel
theorem dX4_tune_22 : decode cX4_tune 22 = .ok (.ireturn, 1) := by decide +kernel
theorem dX4_tune_23 : decode cX4_tune 23 = .ok (.aload_n 0, 1) := by decide +kernel
theorem dX4_tune_24 : decode cX4_tune 24 = .ok (.getfield 25, 3) := by decide +kernel
theorem dX4_tune_27 : decode cX4_tune 27 = .ok (.iload_n 1, 1) := by decide +kernel
theorem dX4_tune_28 : decode cX4_tune 28 = .ok (.iaload, 1) := by decide +kernel
theorem dX4_tune_29 : decode cX4_tune 29 = .ok (.istore_n 3, 1) := by decide +kernel
theorem dX4_tune_30 : decode cX4_tune 30 = .ok (.aload_n 0, 1) := by decide +kernel
theorem dX4_tune_31 : decode cX4_tune 31 = .ok (.getfield 25, 3) := by decide +kernel
theorem dX4_tune_34 : decode cX4_tune 34 = .ok (.iload_n 1, 1) := by decide +kernel
theorem dX4_tune_35 : decode cX4_tune 35 = .ok (.iload_n 2, 1) := by decide +kernel
theorem dX4_tune_36 : decode cX4_tune 36 = .ok (.iastore, 1) := by decide +kernel
theorem dX4_tune_37 : decode cX4_tune 37 = .ok (.iload_n 3, 1) := by decide +kernel
theorem dX4_tune_38 : decode cX4_tune 38 = .ok (.ireturn, 1) := by decide +kernel
set_option maxRecDepth 20000 in
theorem ggX4_saidNow_X4_isOf : GoodIn wsX4_saidNow wsX4_isOf := goodIn_r _ [7] (by decide +kernel) (by decide +kernel)
set_option maxRecDepth 20000 in
theorem gX4_saidNow_X4_isOf : GoodIn wsX4_saidNow (va_wsS RX4 122 yX4_isOf wsX4_isOf) := goodIn_app (goodIn_of _ (by decide +kernel)) ggX4_saidNow_X4_isOf
set_option maxRecDepth 20000 in
theorem ggX4_saidNow_X4_saysBy : GoodIn wsX4_saidNow wsX4_saysBy := goodIn_r _ [11, 12, 13, 14, 15, 16, 17, 18, 19, 20, 21, 22, 23, 24, 25, 26, 27, 28, 29, 30, 31, 32, 33, 34, 35, 36, 37] (by decide +kernel) (by decide +kernel)
set_option maxRecDepth 20000 in
theorem gX4_saidNow_X4_saysBy : GoodIn wsX4_saidNow (wsV RX4 119 RX4 yX4_saysBy wsX4_saysBy) := goodIn_app (goodIn_of _ (by decide +kernel)) ggX4_saidNow_X4_saysBy
theorem dX4_saidNow_0 : decode cX4_saidNow 0 = .ok (.iconst 0, 1) := by decide +kernel
theorem dX4_saidNow_1 : decode cX4_saidNow 1 = .ok (.istore_n 1, 1) := by decide +kernel
theorem dX4_saidNow_2 : decode cX4_saidNow 2 = .ok (.iconst 0, 1) := by decide +kernel
theorem dX4_saidNow_3 : decode cX4_saidNow 3 = .ok (.istore_n 2, 1) := by decide +kernel
theorem dX4_saidNow_4 : decode cX4_saidNow 4 = .ok (.iload_n 2, 1) := by decide +kernel
theorem dX4_saidNow_5 : decode cX4_saidNow 5 = .ok (.aload_n 0, 1) := by decide +kernel
theorem dX4_saidNow_6 : decode cX4_saidNow 6 = .ok (.getfield 56, 3) := by decide +kernel
theorem dX4_saidNow_9 : decode cX4_saidNow 9 = .ok (.if_icmp .ge 38, 3) := by decide +kernel
theorem dX4_saidNow_12 : decode cX4_saidNow 12 = .ok (.iload_n 1, 1) := by decide +kernel
theorem dX4_saidNow_13 : decode cX4_saidNow 13 = .ok (.aload_n 0, 1) := by decide +kernel
theorem dX4_saidNow_14 : decode cX4_saidNow 14 = .ok (.getfield 96, 3) := by decide +kernel
theorem dX4_saidNow_17 : decode cX4_saidNow 17 = .ok (.iload_n 2, 1) := by decide +kernel
theorem dX4_saidNow_18 : decode cX4_saidNow 18 = .ok (.invokestatic 122, 3) := by decide +kernel
theorem dX4_saidNow_21 : decode cX4_saidNow 21 = .ok (.ifCond .eq 17, 3) := by decide +kernel
theorem dX4_saidNow_24 : decode cX4_saidNow 24 = .ok (.aload_n 0, 1) := by decide +kernel
theorem dX4_saidNow_25 : decode cX4_saidNow 25 = .ok (.iload_n 2, 1) := by decide +kernel
theorem dX4_saidNow_26 : decode cX4_saidNow 26 = .ok (.aload_n 0, 1) := by decide +kernel
theorem dX4_saidNow_27 : decode cX4_saidNow 27 = .ok (.getfield 22, 3) := by decide +kernel
theorem dX4_saidNow_30 : decode cX4_saidNow 30 = .ok (.iload_n 2, 1) := by decide +kernel
theorem dX4_saidNow_31 : decode cX4_saidNow 31 = .ok (.iaload, 1) := by decide +kernel
theorem dX4_saidNow_32 : decode cX4_saidNow 32 = .ok (.invokevirtual 119, 3) := by decide +kernel
theorem dX4_saidNow_35 : decode cX4_saidNow 35 = .ok (.goto 4, 3) := by decide +kernel
theorem dX4_saidNow_38 : decode cX4_saidNow 38 = .ok (.iconst 0, 1) := by decide +kernel
theorem dX4_saidNow_39 : decode cX4_saidNow 39 = .ok (.iadd, 1) := by decide +kernel
theorem dX4_saidNow_40 : decode cX4_saidNow 40 = .ok (.istore_n 1, 1) := by decide +kernel
theorem dX4_saidNow_41 : decode cX4_saidNow 41 = .ok (.iinc 2 1, 3) := by decide +kernel
theorem dX4_saidNow_44 : decode cX4_saidNow 44 = .ok (.goto (-40), 3) := by decide +kernel
theorem dX4_saidNow_47 : decode cX4_saidNow 47 = .ok (.iload_n 1, 1) := by decide +kernel
theorem dX4_saidNow_48 : decode cX4_saidNow 48 = .ok (.ireturn, 1) := by decide +kernel
set_option maxRecDepth 20000 in
theorem ggX4_partsOf_X4_isOf : GoodIn wsX4_partsOf wsX4_isOf := goodIn_r _ [6] (by decide +kernel) (by decide +kernel)
set_option maxRecDepth 20000 in
theorem gX4_partsOf_X4_isOf : GoodIn wsX4_partsOf (va_wsS RX4 122 yX4_isOf wsX4_isOf) := goodIn_app (goodIn_of _ (by decide +kernel)) ggX4_partsOf_X4_isOf
theorem dX4_partsOf_0 : decode cX4_partsOf 0 = .ok (.iconst 0, 1) := by decide +kernel
theorem dX4_partsOf_1 : decode cX4_partsOf 1 = .ok (.istore_n 2, 1) := by decide +kernel
theorem dX4_partsOf_2 : decode cX4_partsOf 2 = .ok (.iconst 0, 1) := by decide +kernel
theorem dX4_partsOf_3 : decode cX4_partsOf 3 = .ok (.istore_n 3, 1) := by decide +kernel
theorem dX4_partsOf_4 : decode cX4_partsOf 4 = .ok (.iload_n 3, 1) := by decide +kernel
theorem dX4_partsOf_5 : decode cX4_partsOf 5 = .ok (.aload_n 0, 1) := by decide +kernel
theorem dX4_partsOf_6 : decode cX4_partsOf 6 = .ok (.getfield 56, 3) := by decide +kernel
theorem dX4_partsOf_9 : decode cX4_partsOf 9 = .ok (.if_icmp .ge 30, 3) := by decide +kernel
theorem dX4_partsOf_12 : decode cX4_partsOf 12 = .ok (.iload_n 2, 1) := by decide +kernel
theorem dX4_partsOf_13 : decode cX4_partsOf 13 = .ok (.iload_n 1, 1) := by decide +kernel
theorem dX4_partsOf_14 : decode cX4_partsOf 14 = .ok (.iload_n 3, 1) := by decide +kernel
theorem dX4_partsOf_15 : decode cX4_partsOf 15 = .ok (.invokestatic 122, 3) := by decide +kernel
theorem dX4_partsOf_18 : decode cX4_partsOf 18 = .ok (.ifCond .eq 12, 3) := by decide +kernel
theorem dX4_partsOf_21 : decode cX4_partsOf 21 = .ok (.aload_n 0, 1) := by decide +kernel
theorem dX4_partsOf_22 : decode cX4_partsOf 22 = .ok (.getfield 22, 3) := by decide +kernel
theorem dX4_partsOf_25 : decode cX4_partsOf 25 = .ok (.iload_n 3, 1) := by decide +kernel
theorem dX4_partsOf_26 : decode cX4_partsOf 26 = .ok (.iaload, 1) := by decide +kernel
theorem dX4_partsOf_27 : decode cX4_partsOf 27 = .ok (.goto 4, 3) := by decide +kernel
theorem dX4_partsOf_30 : decode cX4_partsOf 30 = .ok (.iconst 0, 1) := by decide +kernel
theorem dX4_partsOf_31 : decode cX4_partsOf 31 = .ok (.iadd, 1) := by decide +kernel
theorem dX4_partsOf_32 : decode cX4_partsOf 32 = .ok (.istore_n 2, 1) := by decide +kernel
theorem dX4_partsOf_33 : decode cX4_partsOf 33 = .ok (.iinc 3 1, 3) := by decide +kernel
theorem dX4_partsOf_36 : decode cX4_partsOf 36 = .ok (.goto (-32), 3) := by decide +kernel
theorem dX4_partsOf_39 : decode cX4_partsOf 39 = .ok (.iload_n 2, 1) := by decide +kernel
theorem dX4_partsOf_40 : decode cX4_partsOf 40 = .ok (.ireturn, 1) := by decide +kernel
set_option maxRecDepth 20000 in
theorem ggX4_heard_X4_within : GoodIn wsX4_heard wsX4_within := goodIn_r _ [6] (by decide +kernel) (by decide +kernel)
set_option maxRecDepth 20000 in
theorem gX4_heard_X4_within : GoodIn wsX4_heard (va_wsS RX4 52 yX4_within wsX4_within) := goodIn_app (goodIn_of _ (by decide +kernel)) ggX4_heard_X4_within
set_option maxRecDepth 20000 in
theorem ggX4_heard_X4_saidNow : GoodIn wsX4_heard wsX4_saidNow := goodIn_r _ [10, 1, 2, 11, 12, 13, 5, 14, 15, 16, 17, 18, 19, 20, 25, 26, 27, 28, 29, 30, 31, 32, 33, 34, 35, 36, 37, 38, 39, 40, 41, 42, 43, 44, 45, 46, 47, 48] (by decide +kernel) (by decide +kernel)
set_option maxRecDepth 20000 in
theorem gX4_heard_X4_saidNow : GoodIn wsX4_heard (wsV RX4 125 RX4 yX4_saidNow wsX4_saidNow) := goodIn_app (goodIn_of _ (by decide +kernel)) ggX4_heard_X4_saidNow
set_option maxRecDepth 20000 in
theorem ggX4_heard_X4_partsOf : GoodIn wsX4_heard wsX4_partsOf := goodIn_r _ [24, 1, 11, 12, 13, 5, 14, 25, 26, 27, 28, 29, 30, 31, 32, 33, 34, 35, 36, 37, 38, 39, 40, 41, 42, 43, 44, 45, 46, 47, 48] (by decide +kernel) (by decide +kernel)
set_option maxRecDepth 20000 in
theorem gX4_heard_X4_partsOf : GoodIn wsX4_heard (wsV RX4 129 RX4 yX4_partsOf wsX4_partsOf) := goodIn_app (goodIn_of _ (by decide +kernel)) ggX4_heard_X4_partsOf
theorem dX4_heard_0 : decode cX4_heard 0 = .ok (.iload_n 1, 1) := by decide +kernel
theorem dX4_heard_1 : decode cX4_heard 1 = .ok (.iconst 0, 1) := by decide +kernel
theorem dX4_heard_2 : decode cX4_heard 2 = .ok (.iconst 2, 1) := by decide +kernel
theorem dX4_heard_3 : decode cX4_heard 3 = .ok (.invokestatic 52, 3) := by decide +kernel
theorem dX4_heard_6 : decode cX4_heard 6 = .ok (.ifCond .ne 6, 3) := by decide +kernel
theorem dX4_heard_9 : decode cX4_heard 9 = .ok (.bipush (-2), 2) := by decide +kernel
theorem dX4_heard_11 : decode cX4_heard 11 = .ok (.ireturn, 1) := by decide +kernel
theorem dX4_heard_12 : decode cX4_heard 12 = .ok (.aload_n 0, 1) := by decide +kernel
theorem dX4_heard_13 : decode cX4_heard 13 = .ok (.getfield 56, 3) := by decide +kernel
theorem dX4_heard_16 : decode cX4_heard 16 = .ok (.ifCond .ne 6, 3) := by decide +kernel
theorem dX4_heard_19 : decode cX4_heard 19 = .ok (.bipush (-3), 2) := by decide +kernel
theorem dX4_heard_21 : decode cX4_heard 21 = .ok (.ireturn, 1) := by decide +kernel
theorem dX4_heard_22 : decode cX4_heard 22 = .ok (.iload_n 1, 1) := by decide +kernel
theorem dX4_heard_23 : decode cX4_heard 23 = .ok (.ifCond .ne 10, 3) := by decide +kernel
theorem dX4_heard_26 : decode cX4_heard 26 = .ok (.aload_n 0, 1) := by decide +kernel
theorem dX4_heard_27 : decode cX4_heard 27 = .ok (.invokevirtual 125, 3) := by decide +kernel
theorem dX4_heard_30 : decode cX4_heard 30 = .ok (.goto 23, 3) := by decide +kernel
theorem dX4_heard_33 : decode cX4_heard 33 = .ok (.iload_n 1, 1) := by decide +kernel
theorem dX4_heard_34 : decode cX4_heard 34 = .ok (.iconst 1, 1) := by decide +kernel
theorem dX4_heard_35 : decode cX4_heard 35 = .ok (.if_icmp .ne 10, 3) := by decide +kernel
theorem dX4_heard_38 : decode cX4_heard 38 = .ok (.aload_n 0, 1) := by decide +kernel
theorem dX4_heard_39 : decode cX4_heard 39 = .ok (.getfield 96, 3) := by decide +kernel
theorem dX4_heard_42 : decode cX4_heard 42 = .ok (.goto 11, 3) := by decide +kernel
theorem dX4_heard_45 : decode cX4_heard 45 = .ok (.aload_n 0, 1) := by decide +kernel
theorem dX4_heard_46 : decode cX4_heard 46 = .ok (.aload_n 0, 1) := by decide +kernel
theorem dX4_heard_47 : decode cX4_heard 47 = .ok (.getfield 96, 3) := by decide +kernel
theorem dX4_heard_50 : decode cX4_heard 50 = .ok (.invokevirtual 129, 3) := by decide +kernel
theorem dX4_heard_53 : decode cX4_heard 53 = .ok (.ireturn, 1) := by decide +kernel
set_option maxRecDepth 20000 in
theorem ggX4_shareOf_X4_partsOf : GoodIn wsX4_shareOf wsX4_partsOf := goodIn_r _ [6, 1, 7, 8, 9, 5, 10, 14, 15, 16, 17, 18, 19, 20, 21, 22, 23, 24, 25, 26, 27, 28, 29, 30, 31, 32, 33, 34, 35, 36, 37] (by decide +kernel) (by decide +kernel)
set_option maxRecDepth 20000 in
theorem gX4_shareOf_X4_partsOf : GoodIn wsX4_shareOf (wsV RX4 129 RX4 yX4_partsOf wsX4_partsOf) := goodIn_app (goodIn_of _ (by decide +kernel)) ggX4_shareOf_X4_partsOf
set_option maxRecDepth 20000 in
theorem ggX4_shareOf_X4_size : GoodIn wsX4_shareOf wsX4_size := goodIn_r _ [13] (by decide +kernel) (by decide +kernel)
set_option maxRecDepth 20000 in
theorem gX4_shareOf_X4_size : GoodIn wsX4_shareOf (va_wsS RX4 132 yX4_size wsX4_size) := goodIn_app (goodIn_of _ (by decide +kernel)) ggX4_shareOf_X4_size
set_option maxRecDepth 20000 in
theorem ggX4_shareOf_X4_isOf : GoodIn wsX4_shareOf wsX4_isOf := goodIn_r _ [10] (by decide +kernel) (by decide +kernel)
set_option maxRecDepth 20000 in
theorem gX4_shareOf_X4_isOf : GoodIn wsX4_shareOf (va_wsS RX4 122 yX4_isOf wsX4_isOf) := goodIn_app (goodIn_of _ (by decide +kernel)) ggX4_shareOf_X4_isOf
theorem dX4_shareOf_0 : decode cX4_shareOf 0 = .ok (.aload_n 0, 1) := by decide +kernel
theorem dX4_shareOf_1 : decode cX4_shareOf 1 = .ok (.iload_n 1, 1) := by decide +kernel
theorem dX4_shareOf_2 : decode cX4_shareOf 2 = .ok (.invokevirtual 129, 3) := by decide +kernel
theorem dX4_shareOf_5 : decode cX4_shareOf 5 = .ok (.istore 4, 2) := by decide +kernel
theorem dX4_shareOf_7 : decode cX4_shareOf 7 = .ok (.iload_n 1, 1) := by decide +kernel
theorem dX4_shareOf_8 : decode cX4_shareOf 8 = .ok (.invokestatic 132, 3) := by decide +kernel
theorem dX4_shareOf_11 : decode cX4_shareOf 11 = .ok (.istore 5, 2) := by decide +kernel
theorem dX4_shareOf_13 : decode cX4_shareOf 13 = .ok (.iconst 0, 1) := by decide +kernel
theorem dX4_shareOf_14 : decode cX4_shareOf 14 = .ok (.istore 6, 2) := by decide +kernel
theorem dX4_shareOf_16 : decode cX4_shareOf 16 = .ok (.iload_n 2, 1) := by decide +kernel
theorem dX4_shareOf_17 : decode cX4_shareOf 17 = .ok (.istore 7, 2) := by decide +kernel
theorem dX4_shareOf_19 : decode cX4_shareOf 19 = .ok (.iload 7, 2) := by decide +kernel
theorem dX4_shareOf_21 : decode cX4_shareOf 21 = .ok (.iload_n 3, 1) := by decide +kernel
theorem dX4_shareOf_22 : decode cX4_shareOf 22 = .ok (.if_icmp .eq 46, 3) := by decide +kernel
theorem dX4_shareOf_25 : decode cX4_shareOf 25 = .ok (.iload 6, 2) := by decide +kernel
theorem dX4_shareOf_27 : decode cX4_shareOf 27 = .ok (.iload_n 1, 1) := by decide +kernel
theorem dX4_shareOf_28 : decode cX4_shareOf 28 = .ok (.iload 7, 2) := by decide +kernel
theorem dX4_shareOf_30 : decode cX4_shareOf 30 = .ok (.invokestatic 122, 3) := by decide +kernel
theorem dX4_shareOf_33 : decode cX4_shareOf 33 = .ok (.ifCond .eq 7, 3) := by decide +kernel
theorem dX4_shareOf_36 : decode cX4_shareOf 36 = .ok (.iconst 1, 1) := by decide +kernel
theorem dX4_shareOf_37 : decode cX4_shareOf 37 = .ok (.goto 4, 3) := by decide +kernel
theorem dX4_shareOf_40 : decode cX4_shareOf 40 = .ok (.iconst 0, 1) := by decide +kernel
theorem dX4_shareOf_41 : decode cX4_shareOf 41 = .ok (.iadd, 1) := by decide +kernel
theorem dX4_shareOf_42 : decode cX4_shareOf 42 = .ok (.istore 6, 2) := by decide +kernel
theorem dX4_shareOf_44 : decode cX4_shareOf 44 = .ok (.iload 7, 2) := by decide +kernel
theorem dX4_shareOf_46 : decode cX4_shareOf 46 = .ok (.iconst 1, 1) := by decide +kernel
theorem dX4_shareOf_47 : decode cX4_shareOf 47 = .ok (.iadd, 1) := by decide +kernel
theorem dX4_shareOf_48 : decode cX4_shareOf 48 = .ok (.aload_n 0, 1) := by decide +kernel
theorem dX4_shareOf_49 : decode cX4_shareOf 49 = .ok (.getfield 56, 3) := by decide +kernel
theorem dX4_shareOf_52 : decode cX4_shareOf 52 = .ok (.if_icmp .ne 7, 3) := by decide +kernel
theorem dX4_shareOf_55 : decode cX4_shareOf 55 = .ok (.iconst 0, 1) := by decide +kernel
theorem dX4_shareOf_56 : decode cX4_shareOf 56 = .ok (.goto 7, 3) := by decide +kernel
theorem dX4_shareOf_59 : decode cX4_shareOf 59 = .ok (.iload 7, 2) := by decide +kernel
theorem dX4_shareOf_61 : decode cX4_shareOf 61 = .ok (.iconst 1, 1) := by decide +kernel
theorem dX4_shareOf_62 : decode cX4_shareOf 62 = .ok (.iadd, 1) := by decide +kernel
theorem dX4_shareOf_63 : decode cX4_shareOf 63 = .ok (.istore 7, 2) := by decide +kernel
theorem dX4_shareOf_65 : decode cX4_shareOf 65 = .ok (.goto (-46), 3) := by decide +kernel
theorem dX4_shareOf_68 : decode cX4_shareOf 68 = .ok (.iload 4, 2) := by decide +kernel
theorem dX4_shareOf_70 : decode cX4_shareOf 70 = .ok (.iload 5, 2) := by decide +kernel
theorem dX4_shareOf_72 : decode cX4_shareOf 72 = .ok (.idiv, 1) := by decide +kernel
theorem dX4_shareOf_73 : decode cX4_shareOf 73 = .ok (.iload 6, 2) := by decide +kernel
theorem dX4_shareOf_75 : decode cX4_shareOf 75 = .ok (.iload 4, 2) := by decide +kernel
theorem dX4_shareOf_77 : decode cX4_shareOf 77 = .ok (.iload 5, 2) := by decide +kernel
theorem dX4_shareOf_79 : decode cX4_shareOf 79 = .ok (.irem, 1) := by decide +kernel
theorem dX4_shareOf_80 : decode cX4_shareOf 80 = .ok (.if_icmp .ge 7, 3) := by decide +kernel
theorem dX4_shareOf_83 : decode cX4_shareOf 83 = .ok (.iconst 1, 1) := by decide +kernel
theorem dX4_shareOf_84 : decode cX4_shareOf 84 = .ok (.goto 4, 3) := by decide +kernel
theorem dX4_shareOf_87 : decode cX4_shareOf 87 = .ok (.iconst 0, 1) := by decide +kernel
theorem dX4_shareOf_88 : decode cX4_shareOf 88 = .ok (.iadd, 1) := by decide +kernel
theorem dX4_shareOf_89 : decode cX4_shareOf 89 = .ok (.ireturn, 1) := by decide +kernel
set_option maxRecDepth 20000 in
theorem ggX4_doDay_X4_isOf : GoodIn wsX4_doDay wsX4_isOf := goodIn_r _ [8] (by decide +kernel) (by decide +kernel)
set_option maxRecDepth 20000 in
theorem gX4_doDay_X4_isOf : GoodIn wsX4_doDay (va_wsS RX4 122 yX4_isOf wsX4_isOf) := goodIn_app (goodIn_of _ (by decide +kernel)) ggX4_doDay_X4_isOf
set_option maxRecDepth 20000 in
theorem ggX4_doDay_X4_shareOf : GoodIn wsX4_doDay wsX4_shareOf := goodIn_r _ [12, 1, 13, 14, 15, 7, 16, 4, 5, 6, 8, 17, 18, 19, 20, 21, 22, 23, 24, 25, 26, 27, 28, 29, 30, 31, 32, 33, 34, 35, 36, 37, 38, 39, 40, 41, 42, 43] (by decide +kernel) (by decide +kernel)
set_option maxRecDepth 20000 in
theorem gX4_doDay_X4_shareOf : GoodIn wsX4_doDay (wsV RX4 135 RX4 yX4_shareOf wsX4_shareOf) := goodIn_app (goodIn_of _ (by decide +kernel)) ggX4_doDay_X4_shareOf
theorem dX4_doDay_0 : decode cX4_doDay 0 = .ok (.iconst 0, 1) := by decide +kernel
theorem dX4_doDay_1 : decode cX4_doDay 1 = .ok (.istore_n 2, 1) := by decide +kernel
theorem dX4_doDay_2 : decode cX4_doDay 2 = .ok (.iload_n 2, 1) := by decide +kernel
theorem dX4_doDay_3 : decode cX4_doDay 3 = .ok (.aload_n 0, 1) := by decide +kernel
theorem dX4_doDay_4 : decode cX4_doDay 4 = .ok (.getfield 56, 3) := by decide +kernel
theorem dX4_doDay_7 : decode cX4_doDay 7 = .ok (.if_icmp .ge 45, 3) := by decide +kernel
theorem dX4_doDay_10 : decode cX4_doDay 10 = .ok (.aload_n 0, 1) := by decide +kernel
theorem dX4_doDay_11 : decode cX4_doDay 11 = .ok (.getfield 31, 3) := by decide +kernel
theorem dX4_doDay_14 : decode cX4_doDay 14 = .ok (.iload_n 2, 1) := by decide +kernel
theorem dX4_doDay_15 : decode cX4_doDay 15 = .ok (.aload_n 0, 1) := by decide +kernel
theorem dX4_doDay_16 : decode cX4_doDay 16 = .ok (.getfield 96, 3) := by decide +kernel
theorem dX4_doDay_19 : decode cX4_doDay 19 = .ok (.iload_n 2, 1) := by decide +kernel
theorem dX4_doDay_20 : decode cX4_doDay 20 = .ok (.invokestatic 122, 3) := by decide +kernel
theorem dX4_doDay_23 : decode cX4_doDay 23 = .ok (.ifCond .eq 16, 3) := by decide +kernel
theorem dX4_doDay_26 : decode cX4_doDay 26 = .ok (.aload_n 0, 1) := by decide +kernel
theorem dX4_doDay_27 : decode cX4_doDay 27 = .ok (.aload_n 0, 1) := by decide +kernel
theorem dX4_doDay_28 : decode cX4_doDay 28 = .ok (.getfield 96, 3) := by decide +kernel
theorem dX4_doDay_31 : decode cX4_doDay 31 = .ok (.iload_n 1, 1) := by decide +kernel
theorem dX4_doDay_32 : decode cX4_doDay 32 = .ok (.iload_n 2, 1) := by decide +kernel
theorem dX4_doDay_33 : decode cX4_doDay 33 = .ok (.invokevirtual 135, 3) := by decide +kernel
theorem dX4_doDay_36 : decode cX4_doDay 36 = .ok (.goto 9, 3) := by decide +kernel
theorem dX4_doDay_39 : decode cX4_doDay 39 = .ok (.aload_n 0, 1) := by decide +kernel
theorem dX4_doDay_40 : decode cX4_doDay 40 = .ok (.getfield 22, 3) := by decide +kernel
theorem dX4_doDay_43 : decode cX4_doDay 43 = .ok (.iload_n 2, 1) := by decide +kernel
theorem dX4_doDay_44 : decode cX4_doDay 44 = .ok (.iaload, 1) := by decide +kernel
theorem dX4_doDay_45 : decode cX4_doDay 45 = .ok (.iastore, 1) := by decide +kernel
theorem dX4_doDay_46 : decode cX4_doDay 46 = .ok (.iinc 2 1, 3) := by decide +kernel
theorem dX4_doDay_49 : decode cX4_doDay 49 = .ok (.goto (-47), 3) := by decide +kernel
theorem dX4_doDay_52 : decode cX4_doDay 52 = .ok (.iconst 0, 1) := by decide +kernel
theorem dX4_doDay_53 : decode cX4_doDay 53 = .ok (.istore_n 2, 1) := by decide +kernel
theorem dX4_doDay_54 : decode cX4_doDay 54 = .ok (.iload_n 2, 1) := by decide +kernel
theorem dX4_doDay_55 : decode cX4_doDay 55 = .ok (.aload_n 0, 1) := by decide +kernel
theorem dX4_doDay_56 : decode cX4_doDay 56 = .ok (.getfield 56, 3) := by decide +kernel
theorem dX4_doDay_59 : decode cX4_doDay 59 = .ok (.if_icmp .ge 21, 3) := by decide +kernel
theorem dX4_doDay_62 : decode cX4_doDay 62 = .ok (.aload_n 0, 1) := by decide +kernel
theorem dX4_doDay_63 : decode cX4_doDay 63 = .ok (.getfield 22, 3) := by decide +kernel
theorem dX4_doDay_66 : decode cX4_doDay 66 = .ok (.iload_n 2, 1) := by decide +kernel
theorem dX4_doDay_67 : decode cX4_doDay 67 = .ok (.aload_n 0, 1) := by decide +kernel
theorem dX4_doDay_68 : decode cX4_doDay 68 = .ok (.getfield 31, 3) := by decide +kernel
theorem dX4_doDay_71 : decode cX4_doDay 71 = .ok (.iload_n 2, 1) := by decide +kernel
theorem dX4_doDay_72 : decode cX4_doDay 72 = .ok (.iaload, 1) := by decide +kernel
theorem dX4_doDay_73 : decode cX4_doDay 73 = .ok (.iastore, 1) := by decide +kernel
theorem dX4_doDay_74 : decode cX4_doDay 74 = .ok (.iinc 2 1, 3) := by decide +kernel
theorem dX4_doDay_77 : decode cX4_doDay 77 = .ok (.goto (-23), 3) := by decide +kernel
theorem dX4_doDay_80 : decode cX4_doDay 80 = .ok (.return_, 1) := by decide +kernel
set_option maxRecDepth 20000 in
theorem ggX4_day_X4_isPerson : GoodIn wsX4_day wsX4_isPerson := goodIn_r _ [7, 8, 29, 30, 31, 32, 33, 34, 35, 36, 37, 38, 39, 40, 41, 42, 43, 44, 45, 46, 47, 48, 49, 50, 51, 52] (by decide +kernel) (by decide +kernel)
set_option maxRecDepth 20000 in
theorem gX4_day_X4_isPerson : GoodIn wsX4_day (wsV RX4 116 RX4 yX4_isPerson wsX4_isPerson) := goodIn_app (goodIn_of _ (by decide +kernel)) ggX4_day_X4_isPerson
set_option maxRecDepth 20000 in
theorem ggX4_day_X4_partsOf : GoodIn wsX4_day wsX4_partsOf := goodIn_r _ [12, 8, 13, 14, 15, 6, 16, 29, 30, 31, 32, 33, 34, 35, 36, 37, 38, 39, 40, 41, 42, 43, 44, 45, 46, 47, 48, 49, 50, 51, 52] (by decide +kernel) (by decide +kernel)
set_option maxRecDepth 20000 in
theorem gX4_day_X4_partsOf : GoodIn wsX4_day (wsV RX4 129 RX4 yX4_partsOf wsX4_partsOf) := goodIn_app (goodIn_of _ (by decide +kernel)) ggX4_day_X4_partsOf
set_option maxRecDepth 20000 in
theorem ggX4_day_X4_size : GoodIn wsX4_day wsX4_size := goodIn_r _ [19] (by decide +kernel) (by decide +kernel)
set_option maxRecDepth 20000 in
theorem gX4_day_X4_size : GoodIn wsX4_day (va_wsS RX4 132 yX4_size wsX4_size) := goodIn_app (goodIn_of _ (by decide +kernel)) ggX4_day_X4_size
set_option maxRecDepth 20000 in
theorem ggX4_day_X4_doDay : GoodIn wsX4_day wsX4_doDay := goodIn_r _ [23, 8, 24, 1, 13, 14, 15, 6, 16, 25, 26, 27, 28, 9, 10, 11, 12, 17, 18, 19, 29, 30, 31, 32, 33, 34, 35, 36, 37, 38, 39, 40, 41, 42, 43, 44, 45, 46, 47, 48, 49, 50, 51, 52] (by decide +kernel) (by decide +kernel)
set_option maxRecDepth 20000 in
theorem gX4_day_X4_doDay : GoodIn wsX4_day (wsV RX4 138 RX4 yX4_doDay wsX4_doDay) := goodIn_app (goodIn_of _ (by decide +kernel)) ggX4_day_X4_doDay
theorem dX4_day_0 : decode cX4_day 0 = .ok (.aload_n 0, 1) := by decide +kernel
theorem dX4_day_1 : decode cX4_day 1 = .ok (.iload_n 1, 1) := by decide +kernel
theorem dX4_day_2 : decode cX4_day 2 = .ok (.invokevirtual 116, 3) := by decide +kernel
theorem dX4_day_5 : decode cX4_day 5 = .ok (.ifCond .ne 5, 3) := by decide +kernel
theorem dX4_day_8 : decode cX4_day 8 = .ok (.iconst (-1), 1) := by decide +kernel
theorem dX4_day_9 : decode cX4_day 9 = .ok (.ireturn, 1) := by decide +kernel
theorem dX4_day_10 : decode cX4_day 10 = .ok (.aload_n 0, 1) := by decide +kernel
theorem dX4_day_11 : decode cX4_day 11 = .ok (.getfield 96, 3) := by decide +kernel
theorem dX4_day_14 : decode cX4_day 14 = .ok (.ifCond .ne 6, 3) := by decide +kernel
theorem dX4_day_17 : decode cX4_day 17 = .ok (.bipush (-3), 2) := by decide +kernel
theorem dX4_day_19 : decode cX4_day 19 = .ok (.ireturn, 1) := by decide +kernel
theorem dX4_day_20 : decode cX4_day 20 = .ok (.aload_n 0, 1) := by decide +kernel
theorem dX4_day_21 : decode cX4_day 21 = .ok (.aload_n 0, 1) := by decide +kernel
theorem dX4_day_22 : decode cX4_day 22 = .ok (.getfield 96, 3) := by decide +kernel
theorem dX4_day_25 : decode cX4_day 25 = .ok (.invokevirtual 129, 3) := by decide +kernel
theorem dX4_day_28 : decode cX4_day 28 = .ok (.aload_n 0, 1) := by decide +kernel
theorem dX4_day_29 : decode cX4_day 29 = .ok (.getfield 96, 3) := by decide +kernel
theorem dX4_day_32 : decode cX4_day 32 = .ok (.invokestatic 132, 3) := by decide +kernel
theorem dX4_day_35 : decode cX4_day 35 = .ok (.idiv, 1) := by decide +kernel
theorem dX4_day_36 : decode cX4_day 36 = .ok (.istore_n 2, 1) := by decide +kernel
theorem dX4_day_37 : decode cX4_day 37 = .ok (.aload_n 0, 1) := by decide +kernel
theorem dX4_day_38 : decode cX4_day 38 = .ok (.iload_n 1, 1) := by decide +kernel
theorem dX4_day_39 : decode cX4_day 39 = .ok (.invokevirtual 138, 3) := by decide +kernel
theorem dX4_day_42 : decode cX4_day 42 = .ok (.aload_n 0, 1) := by decide +kernel
theorem dX4_day_43 : decode cX4_day 43 = .ok (.dup, 1) := by decide +kernel
theorem dX4_day_44 : decode cX4_day 44 = .ok (.getfield 99, 3) := by decide +kernel
theorem dX4_day_47 : decode cX4_day 47 = .ok (.iconst 1, 1) := by decide +kernel
theorem dX4_day_48 : decode cX4_day 48 = .ok (.iadd, 1) := by decide +kernel
theorem dX4_day_49 : decode cX4_day 49 = .ok (.putfield 99, 3) := by decide +kernel
theorem dX4_day_52 : decode cX4_day 52 = .ok (.iload_n 2, 1) := by decide +kernel
theorem dX4_day_53 : decode cX4_day 53 = .ok (.ireturn, 1) := by decide +kernel
set_option maxRecDepth 20000 in
theorem ggX4_doLeave_X4_isOf : GoodIn wsX4_doLeave wsX4_isOf := goodIn_r _ [8] (by decide +kernel) (by decide +kernel)
set_option maxRecDepth 20000 in
theorem gX4_doLeave_X4_isOf : GoodIn wsX4_doLeave (va_wsS RX4 122 yX4_isOf wsX4_isOf) := goodIn_app (goodIn_of _ (by decide +kernel)) ggX4_doLeave_X4_isOf
theorem dX4_doLeave_0 : decode cX4_doLeave 0 = .ok (.aload_n 0, 1) := by decide +kernel
theorem dX4_doLeave_1 : decode cX4_doLeave 1 = .ok (.dup, 1) := by decide +kernel
theorem dX4_doLeave_2 : decode cX4_doLeave 2 = .ok (.getfield 96, 3) := by decide +kernel
theorem dX4_doLeave_5 : decode cX4_doLeave 5 = .ok (.iconst 1, 1) := by decide +kernel
theorem dX4_doLeave_6 : decode cX4_doLeave 6 = .ok (.iload_n 1, 1) := by decide +kernel
theorem dX4_doLeave_7 : decode cX4_doLeave 7 = .ok (.ishl, 1) := by decide +kernel
theorem dX4_doLeave_8 : decode cX4_doLeave 8 = .ok (.iconst (-1), 1) := by decide +kernel
theorem dX4_doLeave_9 : decode cX4_doLeave 9 = .ok (.ixor, 1) := by decide +kernel
theorem dX4_doLeave_10 : decode cX4_doLeave 10 = .ok (.iand, 1) := by decide +kernel
theorem dX4_doLeave_11 : decode cX4_doLeave 11 = .ok (.putfield 96, 3) := by decide +kernel
theorem dX4_doLeave_14 : decode cX4_doLeave 14 = .ok (.aload_n 0, 1) := by decide +kernel
theorem dX4_doLeave_15 : decode cX4_doLeave 15 = .ok (.getfield 22, 3) := by decide +kernel
theorem dX4_doLeave_18 : decode cX4_doLeave 18 = .ok (.iload_n 1, 1) := by decide +kernel
theorem dX4_doLeave_19 : decode cX4_doLeave 19 = .ok (.iaload, 1) := by decide +kernel
theorem dX4_doLeave_20 : decode cX4_doLeave 20 = .ok (.istore_n 2, 1) := by decide +kernel
theorem dX4_doLeave_21 : decode cX4_doLeave 21 = .ok (.aload_n 0, 1) := by decide +kernel
theorem dX4_doLeave_22 : decode cX4_doLeave 22 = .ok (.getfield 22, 3) := by decide +kernel
theorem dX4_doLeave_25 : decode cX4_doLeave 25 = .ok (.iload_n 1, 1) := by decide +kernel
theorem dX4_doLeave_26 : decode cX4_doLeave 26 = .ok (.iconst 0, 1) := by decide +kernel
theorem dX4_doLeave_27 : decode cX4_doLeave 27 = .ok (.iastore, 1) := by decide +kernel
theorem dX4_doLeave_28 : decode cX4_doLeave 28 = .ok (.aload_n 0, 1) := by decide +kernel
theorem dX4_doLeave_29 : decode cX4_doLeave 29 = .ok (.getfield 96, 3) := by decide +kernel
theorem dX4_doLeave_32 : decode cX4_doLeave 32 = .ok (.ifCond .ne 14, 3) := by decide +kernel
theorem dX4_doLeave_35 : decode cX4_doLeave 35 = .ok (.aload_n 0, 1) := by decide +kernel
theorem dX4_doLeave_36 : decode cX4_doLeave 36 = .ok (.dup, 1) := by decide +kernel
theorem dX4_doLeave_37 : decode cX4_doLeave 37 = .ok (.getfield 90, 3) := by decide +kernel
theorem dX4_doLeave_40 : decode cX4_doLeave 40 = .ok (.iload_n 2, 1) := by decide +kernel
theorem dX4_doLeave_41 : decode cX4_doLeave 41 = .ok (.iadd, 1) := by decide +kernel
theorem dX4_doLeave_42 : decode cX4_doLeave 42 = .ok (.putfield 90, 3) := by decide +kernel
theorem dX4_doLeave_45 : decode cX4_doLeave 45 = .ok (.return_, 1) := by decide +kernel
theorem dX4_doLeave_46 : decode cX4_doLeave 46 = .ok (.iconst 0, 1) := by decide +kernel
theorem dX4_doLeave_47 : decode cX4_doLeave 47 = .ok (.istore_n 3, 1) := by decide +kernel
theorem dX4_doLeave_48 : decode cX4_doLeave 48 = .ok (.iload_n 2, 1) := by decide +kernel
theorem dX4_doLeave_49 : decode cX4_doLeave 49 = .ok (.ifCond .le 48, 3) := by decide +kernel
theorem dX4_doLeave_52 : decode cX4_doLeave 52 = .ok (.aload_n 0, 1) := by decide +kernel
theorem dX4_doLeave_53 : decode cX4_doLeave 53 = .ok (.getfield 96, 3) := by decide +kernel
theorem dX4_doLeave_56 : decode cX4_doLeave 56 = .ok (.iload_n 3, 1) := by decide +kernel
theorem dX4_doLeave_57 : decode cX4_doLeave 57 = .ok (.invokestatic 122, 3) := by decide +kernel
theorem dX4_doLeave_60 : decode cX4_doLeave 60 = .ok (.ifCond .eq 16, 3) := by decide +kernel
theorem dX4_doLeave_63 : decode cX4_doLeave 63 = .ok (.aload_n 0, 1) := by decide +kernel
theorem dX4_doLeave_64 : decode cX4_doLeave 64 = .ok (.getfield 22, 3) := by decide +kernel
theorem dX4_doLeave_67 : decode cX4_doLeave 67 = .ok (.iload_n 3, 1) := by decide +kernel
theorem dX4_doLeave_68 : decode cX4_doLeave 68 = .ok (.dup2, 1) := by decide +kernel
theorem dX4_doLeave_69 : decode cX4_doLeave 69 = .ok (.iaload, 1) := by decide +kernel
theorem dX4_doLeave_70 : decode cX4_doLeave 70 = .ok (.iconst 1, 1) := by decide +kernel
theorem dX4_doLeave_71 : decode cX4_doLeave 71 = .ok (.iadd, 1) := by decide +kernel
theorem dX4_doLeave_72 : decode cX4_doLeave 72 = .ok (.iastore, 1) := by decide +kernel
theorem dX4_doLeave_73 : decode cX4_doLeave 73 = .ok (.iinc 2 (-1), 3) := by decide +kernel
theorem dX4_doLeave_76 : decode cX4_doLeave 76 = .ok (.iload_n 3, 1) := by decide +kernel
theorem dX4_doLeave_77 : decode cX4_doLeave 77 = .ok (.iconst 1, 1) := by decide +kernel
theorem dX4_doLeave_78 : decode cX4_doLeave 78 = .ok (.iadd, 1) := by decide +kernel
theorem dX4_doLeave_79 : decode cX4_doLeave 79 = .ok (.aload_n 0, 1) := by decide +kernel
theorem dX4_doLeave_80 : decode cX4_doLeave 80 = .ok (.getfield 56, 3) := by decide +kernel
theorem dX4_doLeave_83 : decode cX4_doLeave 83 = .ok (.if_icmp .ne 7, 3) := by decide +kernel
theorem dX4_doLeave_86 : decode cX4_doLeave 86 = .ok (.iconst 0, 1) := by decide +kernel
theorem dX4_doLeave_87 : decode cX4_doLeave 87 = .ok (.goto 6, 3) := by decide +kernel
theorem dX4_doLeave_90 : decode cX4_doLeave 90 = .ok (.iload_n 3, 1) := by decide +kernel
theorem dX4_doLeave_91 : decode cX4_doLeave 91 = .ok (.iconst 1, 1) := by decide +kernel
theorem dX4_doLeave_92 : decode cX4_doLeave 92 = .ok (.iadd, 1) := by decide +kernel
theorem dX4_doLeave_93 : decode cX4_doLeave 93 = .ok (.istore_n 3, 1) := by decide +kernel
theorem dX4_doLeave_94 : decode cX4_doLeave 94 = .ok (.goto (-46), 3) := by decide +kernel
theorem dX4_doLeave_97 : decode cX4_doLeave 97 = .ok (.return_, 1) := by decide +kernel
set_option maxRecDepth 20000 in
theorem ggX4_leave_X4_isPerson : GoodIn wsX4_leave wsX4_isPerson := goodIn_r _ [7, 8, 17, 18, 19, 20, 21, 22, 23, 24, 25, 26, 27, 28, 29, 30, 31, 32, 33, 34, 35, 36, 37, 38, 39, 40] (by decide +kernel) (by decide +kernel)
set_option maxRecDepth 20000 in
theorem gX4_leave_X4_isPerson : GoodIn wsX4_leave (wsV RX4 116 RX4 yX4_isPerson wsX4_isPerson) := goodIn_app (goodIn_of _ (by decide +kernel)) ggX4_leave_X4_isPerson
set_option maxRecDepth 20000 in
theorem ggX4_leave_X4_isOf : GoodIn wsX4_leave wsX4_isOf := goodIn_r _ [11] (by decide +kernel) (by decide +kernel)
set_option maxRecDepth 20000 in
theorem gX4_leave_X4_isOf : GoodIn wsX4_leave (va_wsS RX4 122 yX4_isOf wsX4_isOf) := goodIn_app (goodIn_of _ (by decide +kernel)) ggX4_leave_X4_isOf
set_option maxRecDepth 20000 in
theorem ggX4_leave_X4_doLeave : GoodIn wsX4_leave wsX4_doLeave := goodIn_r _ [15, 1, 2, 16, 8, 9, 10, 6, 11, 17, 18, 19, 20, 21, 22, 23, 24, 25, 26, 27, 28, 29, 30, 31, 32, 33, 34, 35, 36, 37, 38, 39, 40] (by decide +kernel) (by decide +kernel)
set_option maxRecDepth 20000 in
theorem gX4_leave_X4_doLeave : GoodIn wsX4_leave (wsV RX4 142 RX4 yX4_doLeave wsX4_doLeave) := goodIn_app (goodIn_of _ (by decide +kernel)) ggX4_leave_X4_doLeave
theorem dX4_leave_0 : decode cX4_leave 0 = .ok (.aload_n 0, 1) := by decide +kernel
theorem dX4_leave_1 : decode cX4_leave 1 = .ok (.iload_n 1, 1) := by decide +kernel
theorem dX4_leave_2 : decode cX4_leave 2 = .ok (.invokevirtual 116, 3) := by decide +kernel
theorem dX4_leave_5 : decode cX4_leave 5 = .ok (.ifCond .ne 5, 3) := by decide +kernel
theorem dX4_leave_8 : decode cX4_leave 8 = .ok (.iconst (-1), 1) := by decide +kernel
theorem dX4_leave_9 : decode cX4_leave 9 = .ok (.ireturn, 1) := by decide +kernel
theorem dX4_leave_10 : decode cX4_leave 10 = .ok (.aload_n 0, 1) := by decide +kernel
theorem dX4_leave_11 : decode cX4_leave 11 = .ok (.getfield 96, 3) := by decide +kernel
theorem dX4_leave_14 : decode cX4_leave 14 = .ok (.iload_n 1, 1) := by decide +kernel
theorem dX4_leave_15 : decode cX4_leave 15 = .ok (.invokestatic 122, 3) := by decide +kernel
theorem dX4_leave_18 : decode cX4_leave 18 = .ok (.ifCond .ne 6, 3) := by decide +kernel
theorem dX4_leave_21 : decode cX4_leave 21 = .ok (.bipush (-3), 2) := by decide +kernel
theorem dX4_leave_23 : decode cX4_leave 23 = .ok (.ireturn, 1) := by decide +kernel
theorem dX4_leave_24 : decode cX4_leave 24 = .ok (.aload_n 0, 1) := by decide +kernel
theorem dX4_leave_25 : decode cX4_leave 25 = .ok (.getfield 22, 3) := by decide +kernel
theorem dX4_leave_28 : decode cX4_leave 28 = .ok (.iload_n 1, 1) := by decide +kernel
theorem dX4_leave_29 : decode cX4_leave 29 = .ok (.iaload, 1) := by decide +kernel
theorem dX4_leave_30 : decode cX4_leave 30 = .ok (.istore_n 2, 1) := by decide +kernel
theorem dX4_leave_31 : decode cX4_leave 31 = .ok (.aload_n 0, 1) := by decide +kernel
theorem dX4_leave_32 : decode cX4_leave 32 = .ok (.iload_n 1, 1) := by decide +kernel
theorem dX4_leave_33 : decode cX4_leave 33 = .ok (.invokevirtual 142, 3) := by decide +kernel
theorem dX4_leave_36 : decode cX4_leave 36 = .ok (.iload_n 2, 1) := by decide +kernel
theorem dX4_leave_37 : decode cX4_leave 37 = .ok (.ireturn, 1) := by decide +kernel
set_option maxRecDepth 20000 in
theorem ggX4_come_X4_isPerson : GoodIn wsX4_come wsX4_isPerson := goodIn_r _ [6, 7, 14, 15, 16, 17, 18, 19, 20, 21, 22, 23, 24, 25, 26, 27, 28, 29, 30, 31, 32, 33, 34, 35, 36, 37] (by decide +kernel) (by decide +kernel)
set_option maxRecDepth 20000 in
theorem gX4_come_X4_isPerson : GoodIn wsX4_come (wsV RX4 116 RX4 yX4_isPerson wsX4_isPerson) := goodIn_app (goodIn_of _ (by decide +kernel)) ggX4_come_X4_isPerson
set_option maxRecDepth 20000 in
theorem ggX4_come_X4_isOf : GoodIn wsX4_come wsX4_isOf := goodIn_r _ [10] (by decide +kernel) (by decide +kernel)
set_option maxRecDepth 20000 in
theorem gX4_come_X4_isOf : GoodIn wsX4_come (va_wsS RX4 122 yX4_isOf wsX4_isOf) := goodIn_app (goodIn_of _ (by decide +kernel)) ggX4_come_X4_isOf
set_option maxRecDepth 20000 in
theorem ggX4_come_X4_size : GoodIn wsX4_come wsX4_size := goodIn_r _ [13] (by decide +kernel) (by decide +kernel)
set_option maxRecDepth 20000 in
theorem gX4_come_X4_size : GoodIn wsX4_come (va_wsS RX4 132 yX4_size wsX4_size) := goodIn_app (goodIn_of _ (by decide +kernel)) ggX4_come_X4_size
theorem dX4_come_0 : decode cX4_come 0 = .ok (.aload_n 0, 1) := by decide +kernel
theorem dX4_come_1 : decode cX4_come 1 = .ok (.iload_n 1, 1) := by decide +kernel
theorem dX4_come_2 : decode cX4_come 2 = .ok (.invokevirtual 116, 3) := by decide +kernel
theorem dX4_come_5 : decode cX4_come 5 = .ok (.ifCond .ne 5, 3) := by decide +kernel
theorem dX4_come_8 : decode cX4_come 8 = .ok (.iconst (-1), 1) := by decide +kernel
theorem dX4_come_9 : decode cX4_come 9 = .ok (.ireturn, 1) := by decide +kernel
theorem dX4_come_10 : decode cX4_come 10 = .ok (.aload_n 0, 1) := by decide +kernel
theorem dX4_come_11 : decode cX4_come 11 = .ok (.getfield 96, 3) := by decide +kernel
theorem dX4_come_14 : decode cX4_come 14 = .ok (.iload_n 1, 1) := by decide +kernel
theorem dX4_come_15 : decode cX4_come 15 = .ok (.invokestatic 122, 3) := by decide +kernel
theorem dX4_come_18 : decode cX4_come 18 = .ok (.ifCond .eq 6, 3) := by decide +kernel
theorem dX4_come_21 : decode cX4_come 21 = .ok (.bipush (-3), 2) := by decide +kernel
theorem dX4_come_23 : decode cX4_come 23 = .ok (.ireturn, 1) := by decide +kernel
theorem dX4_come_24 : decode cX4_come 24 = .ok (.aload_n 0, 1) := by decide +kernel
theorem dX4_come_25 : decode cX4_come 25 = .ok (.dup, 1) := by decide +kernel
theorem dX4_come_26 : decode cX4_come 26 = .ok (.getfield 96, 3) := by decide +kernel
theorem dX4_come_29 : decode cX4_come 29 = .ok (.iconst 1, 1) := by decide +kernel
theorem dX4_come_30 : decode cX4_come 30 = .ok (.iload_n 1, 1) := by decide +kernel
theorem dX4_come_31 : decode cX4_come 31 = .ok (.ishl, 1) := by decide +kernel
theorem dX4_come_32 : decode cX4_come 32 = .ok (.ior, 1) := by decide +kernel
theorem dX4_come_33 : decode cX4_come 33 = .ok (.putfield 96, 3) := by decide +kernel
theorem dX4_come_36 : decode cX4_come 36 = .ok (.aload_n 0, 1) := by decide +kernel
theorem dX4_come_37 : decode cX4_come 37 = .ok (.getfield 96, 3) := by decide +kernel
theorem dX4_come_40 : decode cX4_come 40 = .ok (.invokestatic 132, 3) := by decide +kernel
theorem dX4_come_43 : decode cX4_come 43 = .ok (.ireturn, 1) := by decide +kernel
set_option maxRecDepth 20000 in
theorem ggX4_doGather_X4_isOf : GoodIn wsX4_doGather wsX4_isOf := goodIn_r _ [7] (by decide +kernel) (by decide +kernel)
set_option maxRecDepth 20000 in
theorem gX4_doGather_X4_isOf : GoodIn wsX4_doGather (va_wsS RX4 122 yX4_isOf wsX4_isOf) := goodIn_app (goodIn_of _ (by decide +kernel)) ggX4_doGather_X4_isOf
theorem dX4_doGather_0 : decode cX4_doGather 0 = .ok (.iconst 0, 1) := by decide +kernel
theorem dX4_doGather_1 : decode cX4_doGather 1 = .ok (.istore_n 2, 1) := by decide +kernel
theorem dX4_doGather_2 : decode cX4_doGather 2 = .ok (.iconst 0, 1) := by decide +kernel
theorem dX4_doGather_3 : decode cX4_doGather 3 = .ok (.istore_n 3, 1) := by decide +kernel
theorem dX4_doGather_4 : decode cX4_doGather 4 = .ok (.iload_n 3, 1) := by decide +kernel
theorem dX4_doGather_5 : decode cX4_doGather 5 = .ok (.aload_n 0, 1) := by decide +kernel
theorem dX4_doGather_6 : decode cX4_doGather 6 = .ok (.getfield 56, 3) := by decide +kernel
theorem dX4_doGather_9 : decode cX4_doGather 9 = .ok (.if_icmp .ge 47, 3) := by decide +kernel
theorem dX4_doGather_12 : decode cX4_doGather 12 = .ok (.iload_n 3, 1) := by decide +kernel
theorem dX4_doGather_13 : decode cX4_doGather 13 = .ok (.iload_n 1, 1) := by decide +kernel
theorem dX4_doGather_14 : decode cX4_doGather 14 = .ok (.if_icmp .eq 36, 3) := by decide +kernel
theorem dX4_doGather_17 : decode cX4_doGather 17 = .ok (.aload_n 0, 1) := by decide +kernel
theorem dX4_doGather_18 : decode cX4_doGather 18 = .ok (.getfield 96, 3) := by decide +kernel
theorem dX4_doGather_21 : decode cX4_doGather 21 = .ok (.iload_n 3, 1) := by decide +kernel
theorem dX4_doGather_22 : decode cX4_doGather 22 = .ok (.invokestatic 122, 3) := by decide +kernel
theorem dX4_doGather_25 : decode cX4_doGather 25 = .ok (.ifCond .eq 25, 3) := by decide +kernel
theorem dX4_doGather_28 : decode cX4_doGather 28 = .ok (.aload_n 0, 1) := by decide +kernel
theorem dX4_doGather_29 : decode cX4_doGather 29 = .ok (.getfield 22, 3) := by decide +kernel
theorem dX4_doGather_32 : decode cX4_doGather 32 = .ok (.iload_n 3, 1) := by decide +kernel
theorem dX4_doGather_33 : decode cX4_doGather 33 = .ok (.iaload, 1) := by decide +kernel
theorem dX4_doGather_34 : decode cX4_doGather 34 = .ok (.ifCond .le 16, 3) := by decide +kernel
theorem dX4_doGather_37 : decode cX4_doGather 37 = .ok (.aload_n 0, 1) := by decide +kernel
theorem dX4_doGather_38 : decode cX4_doGather 38 = .ok (.getfield 22, 3) := by decide +kernel
theorem dX4_doGather_41 : decode cX4_doGather 41 = .ok (.iload_n 3, 1) := by decide +kernel
theorem dX4_doGather_42 : decode cX4_doGather 42 = .ok (.dup2, 1) := by decide +kernel
theorem dX4_doGather_43 : decode cX4_doGather 43 = .ok (.iaload, 1) := by decide +kernel
theorem dX4_doGather_44 : decode cX4_doGather 44 = .ok (.iconst 1, 1) := by decide +kernel
theorem dX4_doGather_45 : decode cX4_doGather 45 = .ok (.isub, 1) := by decide +kernel
theorem dX4_doGather_46 : decode cX4_doGather 46 = .ok (.iastore, 1) := by decide +kernel
theorem dX4_doGather_47 : decode cX4_doGather 47 = .ok (.iinc 2 1, 3) := by decide +kernel
theorem dX4_doGather_50 : decode cX4_doGather 50 = .ok (.iinc 3 1, 3) := by decide +kernel
theorem dX4_doGather_53 : decode cX4_doGather 53 = .ok (.goto (-49), 3) := by decide +kernel
theorem dX4_doGather_56 : decode cX4_doGather 56 = .ok (.aload_n 0, 1) := by decide +kernel
theorem dX4_doGather_57 : decode cX4_doGather 57 = .ok (.getfield 22, 3) := by decide +kernel
theorem dX4_doGather_60 : decode cX4_doGather 60 = .ok (.iload_n 1, 1) := by decide +kernel
theorem dX4_doGather_61 : decode cX4_doGather 61 = .ok (.dup2, 1) := by decide +kernel
theorem dX4_doGather_62 : decode cX4_doGather 62 = .ok (.iaload, 1) := by decide +kernel
theorem dX4_doGather_63 : decode cX4_doGather 63 = .ok (.iload_n 2, 1) := by decide +kernel
theorem dX4_doGather_64 : decode cX4_doGather 64 = .ok (.iadd, 1) := by decide +kernel
theorem dX4_doGather_65 : decode cX4_doGather 65 = .ok (.iastore, 1) := by decide +kernel
theorem dX4_doGather_66 : decode cX4_doGather 66 = .ok (.iload_n 2, 1) := by decide +kernel
theorem dX4_doGather_67 : decode cX4_doGather 67 = .ok (.ireturn, 1) := by decide +kernel
set_option maxRecDepth 20000 in
theorem ggX4_gather_X4_isPerson : GoodIn wsX4_gather wsX4_isPerson := goodIn_r _ [6, 7, 16, 17, 18, 19, 20, 21, 22, 23, 24, 25, 26, 27, 28, 29, 30, 31, 32, 33, 34, 35, 36, 37, 38, 39] (by decide +kernel) (by decide +kernel)
set_option maxRecDepth 20000 in
theorem gX4_gather_X4_isPerson : GoodIn wsX4_gather (wsV RX4 116 RX4 yX4_isPerson wsX4_isPerson) := goodIn_app (goodIn_of _ (by decide +kernel)) ggX4_gather_X4_isPerson
set_option maxRecDepth 20000 in
theorem ggX4_gather_X4_isOf : GoodIn wsX4_gather wsX4_isOf := goodIn_r _ [10] (by decide +kernel) (by decide +kernel)
set_option maxRecDepth 20000 in
theorem gX4_gather_X4_isOf : GoodIn wsX4_gather (va_wsS RX4 122 yX4_isOf wsX4_isOf) := goodIn_app (goodIn_of _ (by decide +kernel)) ggX4_gather_X4_isOf
set_option maxRecDepth 20000 in
theorem ggX4_gather_X4_doGather : GoodIn wsX4_gather wsX4_doGather := goodIn_r _ [14, 7, 1, 15, 8, 9, 5, 10, 16, 17, 18, 19, 20, 21, 22, 23, 24, 25, 26, 27, 28, 29, 30, 31, 32, 33, 34, 35, 36, 37, 38, 39] (by decide +kernel) (by decide +kernel)
set_option maxRecDepth 20000 in
theorem gX4_gather_X4_doGather : GoodIn wsX4_gather (wsV RX4 145 RX4 yX4_doGather wsX4_doGather) := goodIn_app (goodIn_of _ (by decide +kernel)) ggX4_gather_X4_doGather
theorem dX4_gather_0 : decode cX4_gather 0 = .ok (.aload_n 0, 1) := by decide +kernel
theorem dX4_gather_1 : decode cX4_gather 1 = .ok (.iload_n 1, 1) := by decide +kernel
theorem dX4_gather_2 : decode cX4_gather 2 = .ok (.invokevirtual 116, 3) := by decide +kernel
theorem dX4_gather_5 : decode cX4_gather 5 = .ok (.ifCond .ne 5, 3) := by decide +kernel
theorem dX4_gather_8 : decode cX4_gather 8 = .ok (.iconst (-1), 1) := by decide +kernel
theorem dX4_gather_9 : decode cX4_gather 9 = .ok (.ireturn, 1) := by decide +kernel
theorem dX4_gather_10 : decode cX4_gather 10 = .ok (.aload_n 0, 1) := by decide +kernel
theorem dX4_gather_11 : decode cX4_gather 11 = .ok (.getfield 96, 3) := by decide +kernel
theorem dX4_gather_14 : decode cX4_gather 14 = .ok (.iload_n 1, 1) := by decide +kernel
theorem dX4_gather_15 : decode cX4_gather 15 = .ok (.invokestatic 122, 3) := by decide +kernel
theorem dX4_gather_18 : decode cX4_gather 18 = .ok (.ifCond .eq 11, 3) := by decide +kernel
theorem dX4_gather_21 : decode cX4_gather 21 = .ok (.aload_n 0, 1) := by decide +kernel
theorem dX4_gather_22 : decode cX4_gather 22 = .ok (.iload_n 1, 1) := by decide +kernel
theorem dX4_gather_23 : decode cX4_gather 23 = .ok (.invokevirtual 145, 3) := by decide +kernel
theorem dX4_gather_26 : decode cX4_gather 26 = .ok (.goto 5, 3) := by decide +kernel
theorem dX4_gather_29 : decode cX4_gather 29 = .ok (.bipush (-3), 2) := by decide +kernel
theorem dX4_gather_31 : decode cX4_gather 31 = .ok (.ireturn, 1) := by decide +kernel
set_option maxRecDepth 20000 in
theorem ggX4_pack_X4_isPerson : GoodIn wsX4_pack wsX4_isPerson := goodIn_r _ [7, 8, 12, 13, 14, 15, 16, 17, 18, 19, 20, 21, 22, 23, 24, 25, 26, 27, 28, 29, 30, 31, 32, 33, 34, 35] (by decide +kernel) (by decide +kernel)
set_option maxRecDepth 20000 in
theorem gX4_pack_X4_isPerson : GoodIn wsX4_pack (wsV RX4 116 RX4 yX4_isPerson wsX4_isPerson) := goodIn_app (goodIn_of _ (by decide +kernel)) ggX4_pack_X4_isPerson
set_option maxRecDepth 20000 in
theorem ggX4_pack_X4_within : GoodIn wsX4_pack wsX4_within := goodIn_r _ [11] (by decide +kernel) (by decide +kernel)
set_option maxRecDepth 20000 in
theorem gX4_pack_X4_within : GoodIn wsX4_pack (va_wsS RX4 52 yX4_within wsX4_within) := goodIn_app (goodIn_of _ (by decide +kernel)) ggX4_pack_X4_within
theorem dX4_pack_0 : decode cX4_pack 0 = .ok (.aload_n 0, 1) := by decide +kernel
theorem dX4_pack_1 : decode cX4_pack 1 = .ok (.iload_n 1, 1) := by decide +kernel
theorem dX4_pack_2 : decode cX4_pack 2 = .ok (.invokevirtual 116, 3) := by decide +kernel
theorem dX4_pack_5 : decode cX4_pack 5 = .ok (.ifCond .ne 5, 3) := by decide +kernel
theorem dX4_pack_8 : decode cX4_pack 8 = .ok (.iconst (-1), 1) := by decide +kernel
theorem dX4_pack_9 : decode cX4_pack 9 = .ok (.ireturn, 1) := by decide +kernel
theorem dX4_pack_10 : decode cX4_pack 10 = .ok (.iload_n 2, 1) := by decide +kernel
theorem dX4_pack_11 : decode cX4_pack 11 = .ok (.iconst 1, 1) := by decide +kernel
theorem dX4_pack_12 : decode cX4_pack 12 = .ok (.bipush 99, 2) := by decide +kernel
theorem dX4_pack_14 : decode cX4_pack 14 = .ok (.invokestatic 52, 3) := by decide +kernel
theorem dX4_pack_17 : decode cX4_pack 17 = .ok (.ifCond .ne 6, 3) := by decide +kernel
theorem dX4_pack_20 : decode cX4_pack 20 = .ok (.bipush (-2), 2) := by decide +kernel
theorem dX4_pack_22 : decode cX4_pack 22 = .ok (.ireturn, 1) := by decide +kernel
theorem dX4_pack_23 : decode cX4_pack 23 = .ok (.aload_n 0, 1) := by decide +kernel
theorem dX4_pack_24 : decode cX4_pack 24 = .ok (.getfield 22, 3) := by decide +kernel
theorem dX4_pack_27 : decode cX4_pack 27 = .ok (.iload_n 1, 1) := by decide +kernel
theorem dX4_pack_28 : decode cX4_pack 28 = .ok (.iaload, 1) := by decide +kernel
theorem dX4_pack_29 : decode cX4_pack 29 = .ok (.iload_n 2, 1) := by decide +kernel
theorem dX4_pack_30 : decode cX4_pack 30 = .ok (.if_icmp .ge 6, 3) := by decide +kernel
theorem dX4_pack_33 : decode cX4_pack 33 = .ok (.bipush (-3), 2) := by decide +kernel
theorem dX4_pack_35 : decode cX4_pack 35 = .ok (.ireturn, 1) := by decide +kernel
theorem dX4_pack_36 : decode cX4_pack 36 = .ok (.aload_n 0, 1) := by decide +kernel
theorem dX4_pack_37 : decode cX4_pack 37 = .ok (.getfield 22, 3) := by decide +kernel
theorem dX4_pack_40 : decode cX4_pack 40 = .ok (.iload_n 1, 1) := by decide +kernel
theorem dX4_pack_41 : decode cX4_pack 41 = .ok (.dup2, 1) := by decide +kernel
theorem dX4_pack_42 : decode cX4_pack 42 = .ok (.iaload, 1) := by decide +kernel
theorem dX4_pack_43 : decode cX4_pack 43 = .ok (.iload_n 2, 1) := by decide +kernel
theorem dX4_pack_44 : decode cX4_pack 44 = .ok (.isub, 1) := by decide +kernel
theorem dX4_pack_45 : decode cX4_pack 45 = .ok (.iastore, 1) := by decide +kernel
theorem dX4_pack_46 : decode cX4_pack 46 = .ok (.aload_n 0, 1) := by decide +kernel
theorem dX4_pack_47 : decode cX4_pack 47 = .ok (.dup, 1) := by decide +kernel
theorem dX4_pack_48 : decode cX4_pack 48 = .ok (.getfield 90, 3) := by decide +kernel
theorem dX4_pack_51 : decode cX4_pack 51 = .ok (.iload_n 2, 1) := by decide +kernel
theorem dX4_pack_52 : decode cX4_pack 52 = .ok (.iadd, 1) := by decide +kernel
theorem dX4_pack_53 : decode cX4_pack 53 = .ok (.putfield 90, 3) := by decide +kernel
theorem dX4_pack_56 : decode cX4_pack 56 = .ok (.aload_n 0, 1) := by decide +kernel
theorem dX4_pack_57 : decode cX4_pack 57 = .ok (.getfield 90, 3) := by decide +kernel
theorem dX4_pack_60 : decode cX4_pack 60 = .ok (.ireturn, 1) := by decide +kernel
theorem dX4_doOpen_0 : decode cX4_doOpen 0 = .ok (.aload_n 0, 1) := by decide +kernel
theorem dX4_doOpen_1 : decode cX4_doOpen 1 = .ok (.getfield 90, 3) := by decide +kernel
theorem dX4_doOpen_4 : decode cX4_doOpen 4 = .ok (.istore_n 2, 1) := by decide +kernel
theorem dX4_doOpen_5 : decode cX4_doOpen 5 = .ok (.aload_n 0, 1) := by decide +kernel
theorem dX4_doOpen_6 : decode cX4_doOpen 6 = .ok (.getfield 22, 3) := by decide +kernel
theorem dX4_doOpen_9 : decode cX4_doOpen 9 = .ok (.iload_n 1, 1) := by decide +kernel
theorem dX4_doOpen_10 : decode cX4_doOpen 10 = .ok (.dup2, 1) := by decide +kernel
theorem dX4_doOpen_11 : decode cX4_doOpen 11 = .ok (.iaload, 1) := by decide +kernel
theorem dX4_doOpen_12 : decode cX4_doOpen 12 = .ok (.iload_n 2, 1) := by decide +kernel
theorem dX4_doOpen_13 : decode cX4_doOpen 13 = .ok (.iadd, 1) := by decide +kernel
theorem dX4_doOpen_14 : decode cX4_doOpen 14 = .ok (.iastore, 1) := by decide +kernel
theorem dX4_doOpen_15 : decode cX4_doOpen 15 = .ok (.aload_n 0, 1) := by decide +kernel
theorem dX4_doOpen_16 : decode cX4_doOpen 16 = .ok (.iconst 0, 1) := by decide +kernel
theorem dX4_doOpen_17 : decode cX4_doOpen 17 = .ok (.putfield 90, 3) := by decide +kernel
theorem dX4_doOpen_20 : decode cX4_doOpen 20 = .ok (.iload_n 2, 1) := by decide +kernel
theorem dX4_doOpen_21 : decode cX4_doOpen 21 = .ok (.ireturn, 1) := by decide +kernel
set_option maxRecDepth 20000 in
theorem ggX4_open_X4_isPerson : GoodIn wsX4_open wsX4_isPerson := goodIn_r _ [7, 8, 17, 18, 19, 20, 21, 22, 23, 24, 25, 26, 27, 28, 29, 30, 31, 32, 33, 34, 35, 36, 37, 38, 39, 40] (by decide +kernel) (by decide +kernel)
set_option maxRecDepth 20000 in
theorem gX4_open_X4_isPerson : GoodIn wsX4_open (wsV RX4 116 RX4 yX4_isPerson wsX4_isPerson) := goodIn_app (goodIn_of _ (by decide +kernel)) ggX4_open_X4_isPerson
set_option maxRecDepth 20000 in
theorem ggX4_open_X4_isOf : GoodIn wsX4_open wsX4_isOf := goodIn_r _ [11] (by decide +kernel) (by decide +kernel)
set_option maxRecDepth 20000 in
theorem gX4_open_X4_isOf : GoodIn wsX4_open (va_wsS RX4 122 yX4_isOf wsX4_isOf) := goodIn_app (goodIn_of _ (by decide +kernel)) ggX4_open_X4_isOf
set_option maxRecDepth 20000 in
theorem ggX4_open_X4_doOpen : GoodIn wsX4_open wsX4_doOpen := goodIn_r _ [15, 2, 16, 17, 18, 19, 20, 21, 22, 23, 24, 25, 26, 27, 28, 29, 30, 31, 32, 33, 34, 35, 36, 37, 38, 39, 40] (by decide +kernel) (by decide +kernel)
set_option maxRecDepth 20000 in
theorem gX4_open_X4_doOpen : GoodIn wsX4_open (wsV RX4 148 RX4 yX4_doOpen wsX4_doOpen) := goodIn_app (goodIn_of _ (by decide +kernel)) ggX4_open_X4_doOpen
theorem dX4_open_0 : decode cX4_open 0 = .ok (.aload_n 0, 1) := by decide +kernel
theorem dX4_open_1 : decode cX4_open 1 = .ok (.iload_n 1, 1) := by decide +kernel
theorem dX4_open_2 : decode cX4_open 2 = .ok (.invokevirtual 116, 3) := by decide +kernel
theorem dX4_open_5 : decode cX4_open 5 = .ok (.ifCond .ne 5, 3) := by decide +kernel
theorem dX4_open_8 : decode cX4_open 8 = .ok (.iconst (-1), 1) := by decide +kernel
theorem dX4_open_9 : decode cX4_open 9 = .ok (.ireturn, 1) := by decide +kernel
theorem dX4_open_10 : decode cX4_open 10 = .ok (.aload_n 0, 1) := by decide +kernel
theorem dX4_open_11 : decode cX4_open 11 = .ok (.getfield 96, 3) := by decide +kernel
theorem dX4_open_14 : decode cX4_open 14 = .ok (.iload_n 1, 1) := by decide +kernel
theorem dX4_open_15 : decode cX4_open 15 = .ok (.invokestatic 122, 3) := by decide +kernel
theorem dX4_open_18 : decode cX4_open 18 = .ok (.ifCond .eq 18, 3) := by decide +kernel
theorem dX4_open_21 : decode cX4_open 21 = .ok (.aload_n 0, 1) := by decide +kernel
theorem dX4_open_22 : decode cX4_open 22 = .ok (.getfield 90, 3) := by decide +kernel
theorem dX4_open_25 : decode cX4_open 25 = .ok (.ifCond .le 11, 3) := by decide +kernel
theorem dX4_open_28 : decode cX4_open 28 = .ok (.aload_n 0, 1) := by decide +kernel
theorem dX4_open_29 : decode cX4_open 29 = .ok (.iload_n 1, 1) := by decide +kernel
theorem dX4_open_30 : decode cX4_open 30 = .ok (.invokevirtual 148, 3) := by decide +kernel
theorem dX4_open_33 : decode cX4_open 33 = .ok (.goto 5, 3) := by decide +kernel
theorem dX4_open_36 : decode cX4_open 36 = .ok (.bipush (-3), 2) := by decide +kernel
theorem dX4_open_38 : decode cX4_open 38 = .ok (.ireturn, 1) := by decide +kernel
theorem dX4_keep_0 : decode cX4_keep 0 = .ok (.aload_n 0, 1) := by decide +kernel
theorem dX4_keep_1 : decode cX4_keep 1 = .ok (.aload_n 0, 1) := by decide +kernel
theorem dX4_keep_2 : decode cX4_keep 2 = .ok (.getfield 90, 3) := by decide +kernel
theorem dX4_keep_5 : decode cX4_keep 5 = .ok (.putfield 151, 3) := by decide +kernel
theorem dX4_keep_8 : decode cX4_keep 8 = .ok (.aload_n 0, 1) := by decide +kernel
theorem dX4_keep_9 : decode cX4_keep 9 = .ok (.aload_n 0, 1) := by decide +kernel
theorem dX4_keep_10 : decode cX4_keep 10 = .ok (.getfield 96, 3) := by decide +kernel
theorem dX4_keep_13 : decode cX4_keep 13 = .ok (.putfield 154, 3) := by decide +kernel
theorem dX4_keep_16 : decode cX4_keep 16 = .ok (.iconst 0, 1) := by decide +kernel
theorem dX4_keep_17 : decode cX4_keep 17 = .ok (.istore_n 1, 1) := by decide +kernel
theorem dX4_keep_18 : decode cX4_keep 18 = .ok (.iload_n 1, 1) := by decide +kernel
theorem dX4_keep_19 : decode cX4_keep 19 = .ok (.aload_n 0, 1) := by decide +kernel
theorem dX4_keep_20 : decode cX4_keep 20 = .ok (.getfield 56, 3) := by decide +kernel
theorem dX4_keep_23 : decode cX4_keep 23 = .ok (.if_icmp .ge 21, 3) := by decide +kernel
theorem dX4_keep_26 : decode cX4_keep 26 = .ok (.aload_n 0, 1) := by decide +kernel
theorem dX4_keep_27 : decode cX4_keep 27 = .ok (.getfield 34, 3) := by decide +kernel
theorem dX4_keep_30 : decode cX4_keep 30 = .ok (.iload_n 1, 1) := by decide +kernel
theorem dX4_keep_31 : decode cX4_keep 31 = .ok (.aload_n 0, 1) := by decide +kernel
theorem dX4_keep_32 : decode cX4_keep 32 = .ok (.getfield 22, 3) := by decide +kernel
theorem dX4_keep_35 : decode cX4_keep 35 = .ok (.iload_n 1, 1) := by decide +kernel
theorem dX4_keep_36 : decode cX4_keep 36 = .ok (.iaload, 1) := by decide +kernel
theorem dX4_keep_37 : decode cX4_keep 37 = .ok (.iastore, 1) := by decide +kernel
theorem dX4_keep_38 : decode cX4_keep 38 = .ok (.iinc 1 1, 3) := by decide +kernel
theorem dX4_keep_41 : decode cX4_keep 41 = .ok (.goto (-23), 3) := by decide +kernel
theorem dX4_keep_44 : decode cX4_keep 44 = .ok (.return_, 1) := by decide +kernel
theorem dX4_putBack_0 : decode cX4_putBack 0 = .ok (.aload_n 0, 1) := by decide +kernel
theorem dX4_putBack_1 : decode cX4_putBack 1 = .ok (.aload_n 0, 1) := by decide +kernel
theorem dX4_putBack_2 : decode cX4_putBack 2 = .ok (.getfield 151, 3) := by decide +kernel
theorem dX4_putBack_5 : decode cX4_putBack 5 = .ok (.putfield 90, 3) := by decide +kernel
theorem dX4_putBack_8 : decode cX4_putBack 8 = .ok (.aload_n 0, 1) := by decide +kernel
theorem dX4_putBack_9 : decode cX4_putBack 9 = .ok (.aload_n 0, 1) := by decide +kernel
theorem dX4_putBack_10 : decode cX4_putBack 10 = .ok (.getfield 154, 3) := by decide +kernel
theorem dX4_putBack_13 : decode cX4_putBack 13 = .ok (.putfield 96, 3) := by decide +kernel
end
section
theorem dX4_putBack_16 : decode cX4_putBack 16 = .ok (.iconst 0, 1) := by decide +kernel
theorem dX4_putBack_17 : decode cX4_putBack 17 = .ok (.istore_n 1, 1) := by decide +kernel
theorem dX4_putBack_18 : decode cX4_putBack 18 = .ok (.iload_n 1, 1) := by decide +kernel
theorem dX4_putBack_19 : decode cX4_putBack 19 = .ok (.aload_n 0, 1) := by decide +kernel
theorem dX4_putBack_20 : decode cX4_putBack 20 = .ok (.getfield 56, 3) := by decide +kernel
theorem dX4_putBack_23 : decode cX4_putBack 23 = .ok (.if_icmp .ge 21, 3) := by decide +kernel
theorem dX4_putBack_26 : decode cX4_putBack 26 = .ok (.aload_n 0, 1) := by decide +kernel
theorem dX4_putBack_27 : decode cX4_putBack 27 = .ok (.getfield 22, 3) := by decide +kernel
theorem dX4_putBack_30 : decode cX4_putBack 30 = .ok (.iload_n 1, 1) := by decide +kernel
theorem dX4_putBack_31 : decode cX4_putBack 31 = .ok (.aload_n 0, 1) := by decide +kernel
theorem dX4_putBack_32 : decode cX4_putBack 32 = .ok (.getfield 34, 3) := by decide +kernel
theorem dX4_putBack_35 : decode cX4_putBack 35 = .ok (.iload_n 1, 1) := by decide +kernel
theorem dX4_putBack_36 : decode cX4_putBack 36 = .ok (.iaload, 1) := by decide +kernel
theorem dX4_putBack_37 : decode cX4_putBack 37 = .ok (.iastore, 1) := by decide +kernel
theorem dX4_putBack_38 : decode cX4_putBack 38 = .ok (.iinc 1 1, 3) := by decide +kernel
theorem dX4_putBack_41 : decode cX4_putBack 41 = .ok (.goto (-23), 3) := by decide +kernel
theorem dX4_putBack_44 : decode cX4_putBack 44 = .ok (.return_, 1) := by decide +kernel
set_option maxRecDepth 20000 in
theorem ggX4_canBe_X4_isOf : GoodIn wsX4_canBe wsX4_isOf := goodIn_r _ [6] (by decide +kernel) (by decide +kernel)
set_option maxRecDepth 20000 in
theorem gX4_canBe_X4_isOf : GoodIn wsX4_canBe (va_wsS RX4 122 yX4_isOf wsX4_isOf) := goodIn_app (goodIn_of _ (by decide +kernel)) ggX4_canBe_X4_isOf
theorem dX4_canBe_0 : decode cX4_canBe 0 = .ok (.iload_n 2, 1) := by decide +kernel
theorem dX4_canBe_1 : decode cX4_canBe 1 = .ok (.tableswitch 89 0 4 #[35, 89, 48, 89, 65], 35) := by decide +kernel
theorem dX4_canBe_36 : decode cX4_canBe 36 = .ok (.aload_n 0, 1) := by decide +kernel
theorem dX4_canBe_37 : decode cX4_canBe 37 = .ok (.getfield 96, 3) := by decide +kernel
theorem dX4_canBe_40 : decode cX4_canBe 40 = .ok (.ifCond .eq 7, 3) := by decide +kernel
theorem dX4_canBe_43 : decode cX4_canBe 43 = .ok (.iconst 1, 1) := by decide +kernel
theorem dX4_canBe_44 : decode cX4_canBe 44 = .ok (.goto 4, 3) := by decide +kernel
theorem dX4_canBe_47 : decode cX4_canBe 47 = .ok (.iconst 0, 1) := by decide +kernel
theorem dX4_canBe_48 : decode cX4_canBe 48 = .ok (.ireturn, 1) := by decide +kernel
theorem dX4_canBe_49 : decode cX4_canBe 49 = .ok (.aload_n 0, 1) := by decide +kernel
theorem dX4_canBe_50 : decode cX4_canBe 50 = .ok (.getfield 96, 3) := by decide +kernel
theorem dX4_canBe_53 : decode cX4_canBe 53 = .ok (.iload_n 1, 1) := by decide +kernel
theorem dX4_canBe_54 : decode cX4_canBe 54 = .ok (.invokestatic 122, 3) := by decide +kernel
theorem dX4_canBe_57 : decode cX4_canBe 57 = .ok (.ifCond .ne 7, 3) := by decide +kernel
theorem dX4_canBe_60 : decode cX4_canBe 60 = .ok (.iconst 1, 1) := by decide +kernel
theorem dX4_canBe_61 : decode cX4_canBe 61 = .ok (.goto 4, 3) := by decide +kernel
theorem dX4_canBe_64 : decode cX4_canBe 64 = .ok (.iconst 0, 1) := by decide +kernel
theorem dX4_canBe_65 : decode cX4_canBe 65 = .ok (.ireturn, 1) := by decide +kernel
theorem dX4_canBe_66 : decode cX4_canBe 66 = .ok (.aload_n 0, 1) := by decide +kernel
theorem dX4_canBe_67 : decode cX4_canBe 67 = .ok (.getfield 96, 3) := by decide +kernel
theorem dX4_canBe_70 : decode cX4_canBe 70 = .ok (.iload_n 1, 1) := by decide +kernel
theorem dX4_canBe_71 : decode cX4_canBe 71 = .ok (.invokestatic 122, 3) := by decide +kernel
theorem dX4_canBe_74 : decode cX4_canBe 74 = .ok (.ifCond .eq 14, 3) := by decide +kernel
theorem dX4_canBe_77 : decode cX4_canBe 77 = .ok (.aload_n 0, 1) := by decide +kernel
theorem dX4_canBe_78 : decode cX4_canBe 78 = .ok (.getfield 90, 3) := by decide +kernel
theorem dX4_canBe_81 : decode cX4_canBe 81 = .ok (.ifCond .le 7, 3) := by decide +kernel
theorem dX4_canBe_84 : decode cX4_canBe 84 = .ok (.iconst 1, 1) := by decide +kernel
theorem dX4_canBe_85 : decode cX4_canBe 85 = .ok (.goto 4, 3) := by decide +kernel
theorem dX4_canBe_88 : decode cX4_canBe 88 = .ok (.iconst 0, 1) := by decide +kernel
theorem dX4_canBe_89 : decode cX4_canBe 89 = .ok (.ireturn, 1) := by decide +kernel
theorem dX4_canBe_90 : decode cX4_canBe 90 = .ok (.aload_n 0, 1) := by decide +kernel
theorem dX4_canBe_91 : decode cX4_canBe 91 = .ok (.getfield 96, 3) := by decide +kernel
theorem dX4_canBe_94 : decode cX4_canBe 94 = .ok (.iload_n 1, 1) := by decide +kernel
theorem dX4_canBe_95 : decode cX4_canBe 95 = .ok (.invokestatic 122, 3) := by decide +kernel
theorem dX4_canBe_98 : decode cX4_canBe 98 = .ok (.ireturn, 1) := by decide +kernel
set_option maxRecDepth 20000 in
theorem ggX4_does_X4_doDay : GoodIn wsX4_does wsX4_doDay := goodIn_r _ [6, 7, 8, 1, 9, 10, 11, 5, 12, 13, 14, 15, 16, 17, 18, 19, 20, 21, 22, 23, 37, 38, 39, 40, 41, 42, 43, 44, 45, 46, 47, 48, 49, 50, 51, 52, 53, 54, 55, 56, 57, 58, 59, 60] (by decide +kernel) (by decide +kernel)
set_option maxRecDepth 20000 in
theorem gX4_does_X4_doDay : GoodIn wsX4_does (wsV RX4 138 RX4 yX4_doDay wsX4_doDay) := goodIn_app (goodIn_of _ (by decide +kernel)) ggX4_does_X4_doDay
set_option maxRecDepth 20000 in
theorem ggX4_does_X4_doLeave : GoodIn wsX4_does wsX4_doLeave := goodIn_r _ [27, 1, 9, 28, 7, 10, 11, 5, 12, 37, 38, 39, 40, 41, 42, 43, 44, 45, 46, 47, 48, 49, 50, 51, 52, 53, 54, 55, 56, 57, 58, 59, 60] (by decide +kernel) (by decide +kernel)
set_option maxRecDepth 20000 in
theorem gX4_does_X4_doLeave : GoodIn wsX4_does (wsV RX4 142 RX4 yX4_doLeave wsX4_doLeave) := goodIn_app (goodIn_of _ (by decide +kernel)) ggX4_does_X4_doLeave
set_option maxRecDepth 20000 in
theorem ggX4_does_X4_doGather : GoodIn wsX4_does wsX4_doGather := goodIn_r _ [32, 7, 1, 9, 10, 11, 5, 12, 37, 38, 39, 40, 41, 42, 43, 44, 45, 46, 47, 48, 49, 50, 51, 52, 53, 54, 55, 56, 57, 58, 59, 60] (by decide +kernel) (by decide +kernel)
set_option maxRecDepth 20000 in
theorem gX4_does_X4_doGather : GoodIn wsX4_does (wsV RX4 145 RX4 yX4_doGather wsX4_doGather) := goodIn_app (goodIn_of _ (by decide +kernel)) ggX4_does_X4_doGather
set_option maxRecDepth 20000 in
theorem ggX4_does_X4_doOpen : GoodIn wsX4_does wsX4_doOpen := goodIn_r _ [36, 28, 9, 37, 38, 39, 40, 41, 42, 43, 44, 45, 46, 47, 48, 49, 50, 51, 52, 53, 54, 55, 56, 57, 58, 59, 60] (by decide +kernel) (by decide +kernel)
set_option maxRecDepth 20000 in
theorem gX4_does_X4_doOpen : GoodIn wsX4_does (wsV RX4 148 RX4 yX4_doOpen wsX4_doOpen) := goodIn_app (goodIn_of _ (by decide +kernel)) ggX4_does_X4_doOpen
theorem dX4_does_0 : decode cX4_does 0 = .ok (.iload_n 2, 1) := by decide +kernel
theorem dX4_does_1 : decode cX4_does 1 = .ok (.tableswitch 63 0 3 #[31, 37, 43, 56], 31) := by decide +kernel
theorem dX4_does_32 : decode cX4_does 32 = .ok (.aload_n 0, 1) := by decide +kernel
theorem dX4_does_33 : decode cX4_does 33 = .ok (.iload_n 1, 1) := by decide +kernel
theorem dX4_does_34 : decode cX4_does 34 = .ok (.invokevirtual 138, 3) := by decide +kernel
theorem dX4_does_37 : decode cX4_does 37 = .ok (.return_, 1) := by decide +kernel
theorem dX4_does_38 : decode cX4_does 38 = .ok (.aload_n 0, 1) := by decide +kernel
theorem dX4_does_39 : decode cX4_does 39 = .ok (.iload_n 1, 1) := by decide +kernel
theorem dX4_does_40 : decode cX4_does 40 = .ok (.invokevirtual 142, 3) := by decide +kernel
theorem dX4_does_43 : decode cX4_does 43 = .ok (.return_, 1) := by decide +kernel
theorem dX4_does_44 : decode cX4_does 44 = .ok (.aload_n 0, 1) := by decide +kernel
theorem dX4_does_45 : decode cX4_does 45 = .ok (.dup, 1) := by decide +kernel
theorem dX4_does_46 : decode cX4_does 46 = .ok (.getfield 96, 3) := by decide +kernel
theorem dX4_does_49 : decode cX4_does 49 = .ok (.iconst 1, 1) := by decide +kernel
theorem dX4_does_50 : decode cX4_does 50 = .ok (.iload_n 1, 1) := by decide +kernel
theorem dX4_does_51 : decode cX4_does 51 = .ok (.ishl, 1) := by decide +kernel
theorem dX4_does_52 : decode cX4_does 52 = .ok (.ior, 1) := by decide +kernel
theorem dX4_does_53 : decode cX4_does 53 = .ok (.putfield 96, 3) := by decide +kernel
theorem dX4_does_56 : decode cX4_does 56 = .ok (.return_, 1) := by decide +kernel
theorem dX4_does_57 : decode cX4_does 57 = .ok (.aload_n 0, 1) := by decide +kernel
theorem dX4_does_58 : decode cX4_does 58 = .ok (.iload_n 1, 1) := by decide +kernel
theorem dX4_does_59 : decode cX4_does 59 = .ok (.invokevirtual 145, 3) := by decide +kernel
theorem dX4_does_62 : decode cX4_does 62 = .ok (.pop, 1) := by decide +kernel
theorem dX4_does_63 : decode cX4_does 63 = .ok (.return_, 1) := by decide +kernel
theorem dX4_does_64 : decode cX4_does 64 = .ok (.aload_n 0, 1) := by decide +kernel
theorem dX4_does_65 : decode cX4_does 65 = .ok (.iload_n 1, 1) := by decide +kernel
theorem dX4_does_66 : decode cX4_does 66 = .ok (.invokevirtual 148, 3) := by decide +kernel
theorem dX4_does_69 : decode cX4_does 69 = .ok (.pop, 1) := by decide +kernel
theorem dX4_does_70 : decode cX4_does 70 = .ok (.return_, 1) := by decide +kernel
set_option maxRecDepth 20000 in
theorem ggX4_goYear_X4_canBe : GoodIn wsX4_goYear wsX4_canBe := goodIn_r _ [6, 7, 8, 9, 10, 5, 11, 46, 47, 48, 49, 50, 51, 52, 53, 54, 55, 56, 57, 58, 59, 60, 61, 62, 63, 64, 65, 66, 67, 68, 69] (by decide +kernel) (by decide +kernel)
set_option maxRecDepth 20000 in
theorem gX4_goYear_X4_canBe : GoodIn wsX4_goYear (wsV RX4 157 RX4 yX4_canBe wsX4_canBe) := goodIn_app (goodIn_of _ (by decide +kernel)) ggX4_goYear_X4_canBe
set_option maxRecDepth 20000 in
theorem ggX4_goYear_X4_does : GoodIn wsX4_goYear wsX4_does := goodIn_r _ [15, 7, 16, 17, 18, 5, 19, 20, 21, 22, 9, 10, 11, 23, 24, 25, 26, 27, 28, 29, 30, 31, 32, 33, 34, 35, 36, 37, 8, 38, 39, 40, 41, 42, 43, 44, 45, 46, 47, 48, 49, 50, 51, 52, 53, 54, 55, 56, 57, 58, 59, 60, 61, 62, 63, 64, 65, 66, 67, 68, 69] (by decide +kernel) (by decide +kernel)
set_option maxRecDepth 20000 in
theorem gX4_goYear_X4_does : GoodIn wsX4_goYear (wsV RX4 160 RX4 yX4_does wsX4_does) := goodIn_app (goodIn_of _ (by decide +kernel)) ggX4_goYear_X4_does
theorem dX4_goYear_0 : decode cX4_goYear 0 = .ok (.iconst 0, 1) := by decide +kernel
theorem dX4_goYear_1 : decode cX4_goYear 1 = .ok (.istore_n 3, 1) := by decide +kernel
theorem dX4_goYear_2 : decode cX4_goYear 2 = .ok (.iload_n 3, 1) := by decide +kernel
theorem dX4_goYear_3 : decode cX4_goYear 3 = .ok (.iload_n 2, 1) := by decide +kernel
theorem dX4_goYear_4 : decode cX4_goYear 4 = .ok (.if_icmp .ge 56, 3) := by decide +kernel
theorem dX4_goYear_7 : decode cX4_goYear 7 = .ok (.aload_n 0, 1) := by decide +kernel
theorem dX4_goYear_8 : decode cX4_goYear 8 = .ok (.getfield 16, 3) := by decide +kernel
theorem dX4_goYear_11 : decode cX4_goYear 11 = .ok (.iload_n 1, 1) := by decide +kernel
theorem dX4_goYear_12 : decode cX4_goYear 12 = .ok (.iconst 2, 1) := by decide +kernel
theorem dX4_goYear_13 : decode cX4_goYear 13 = .ok (.iload_n 3, 1) := by decide +kernel
theorem dX4_goYear_14 : decode cX4_goYear 14 = .ok (.imul, 1) := by decide +kernel
theorem dX4_goYear_15 : decode cX4_goYear 15 = .ok (.iadd, 1) := by decide +kernel
theorem dX4_goYear_16 : decode cX4_goYear 16 = .ok (.iaload, 1) := by decide +kernel
theorem dX4_goYear_17 : decode cX4_goYear 17 = .ok (.istore 4, 2) := by decide +kernel
theorem dX4_goYear_19 : decode cX4_goYear 19 = .ok (.aload_n 0, 1) := by decide +kernel
theorem dX4_goYear_20 : decode cX4_goYear 20 = .ok (.getfield 16, 3) := by decide +kernel
theorem dX4_goYear_23 : decode cX4_goYear 23 = .ok (.iload_n 1, 1) := by decide +kernel
theorem dX4_goYear_24 : decode cX4_goYear 24 = .ok (.iconst 2, 1) := by decide +kernel
theorem dX4_goYear_25 : decode cX4_goYear 25 = .ok (.iload_n 3, 1) := by decide +kernel
theorem dX4_goYear_26 : decode cX4_goYear 26 = .ok (.imul, 1) := by decide +kernel
theorem dX4_goYear_27 : decode cX4_goYear 27 = .ok (.iadd, 1) := by decide +kernel
theorem dX4_goYear_28 : decode cX4_goYear 28 = .ok (.iconst 1, 1) := by decide +kernel
theorem dX4_goYear_29 : decode cX4_goYear 29 = .ok (.iadd, 1) := by decide +kernel
theorem dX4_goYear_30 : decode cX4_goYear 30 = .ok (.iaload, 1) := by decide +kernel
theorem dX4_goYear_31 : decode cX4_goYear 31 = .ok (.istore 5, 2) := by decide +kernel
theorem dX4_goYear_33 : decode cX4_goYear 33 = .ok (.aload_n 0, 1) := by decide +kernel
theorem dX4_goYear_34 : decode cX4_goYear 34 = .ok (.iload 4, 2) := by decide +kernel
theorem dX4_goYear_36 : decode cX4_goYear 36 = .ok (.iload 5, 2) := by decide +kernel
theorem dX4_goYear_38 : decode cX4_goYear 38 = .ok (.invokevirtual 157, 3) := by decide +kernel
theorem dX4_goYear_41 : decode cX4_goYear 41 = .ok (.ifCond .ne 5, 3) := by decide +kernel
theorem dX4_goYear_44 : decode cX4_goYear 44 = .ok (.iload_n 3, 1) := by decide +kernel
theorem dX4_goYear_45 : decode cX4_goYear 45 = .ok (.ireturn, 1) := by decide +kernel
theorem dX4_goYear_46 : decode cX4_goYear 46 = .ok (.aload_n 0, 1) := by decide +kernel
theorem dX4_goYear_47 : decode cX4_goYear 47 = .ok (.iload 4, 2) := by decide +kernel
theorem dX4_goYear_49 : decode cX4_goYear 49 = .ok (.iload 5, 2) := by decide +kernel
theorem dX4_goYear_51 : decode cX4_goYear 51 = .ok (.invokevirtual 160, 3) := by decide +kernel
theorem dX4_goYear_54 : decode cX4_goYear 54 = .ok (.iinc 3 1, 3) := by decide +kernel
theorem dX4_goYear_57 : decode cX4_goYear 57 = .ok (.goto (-55), 3) := by decide +kernel
theorem dX4_goYear_60 : decode cX4_goYear 60 = .ok (.bipush (-9), 2) := by decide +kernel
theorem dX4_goYear_62 : decode cX4_goYear 62 = .ok (.ireturn, 1) := by decide +kernel
set_option maxRecDepth 20000 in
theorem ggX4_year_X4_isSheet : GoodIn wsX4_year wsX4_isSheet := goodIn_r _ [7, 8, 9, 6, 10] (by decide +kernel) (by decide +kernel)
set_option maxRecDepth 20000 in
theorem gX4_year_X4_isSheet : GoodIn wsX4_year (va_wsS RX4 66 yX4_isSheet wsX4_isSheet) := goodIn_app (goodIn_of _ (by decide +kernel)) ggX4_year_X4_isSheet
set_option maxRecDepth 20000 in
theorem ggX4_year_X4_isSort : GoodIn wsX4_year wsX4_isSort := goodIn_r _ [13, 8, 9, 6, 10] (by decide +kernel) (by decide +kernel)
set_option maxRecDepth 20000 in
theorem gX4_year_X4_isSort : GoodIn wsX4_year (va_wsS RX4 70 yX4_isSort wsX4_isSort) := goodIn_app (goodIn_of _ (by decide +kernel)) ggX4_year_X4_isSort
set_option maxRecDepth 20000 in
theorem ggX4_year_X4_within : GoodIn wsX4_year wsX4_within := goodIn_r _ [10] (by decide +kernel) (by decide +kernel)
set_option maxRecDepth 20000 in
theorem gX4_year_X4_within : GoodIn wsX4_year (va_wsS RX4 52 yX4_within wsX4_within) := goodIn_app (goodIn_of _ (by decide +kernel)) ggX4_year_X4_within
set_option maxRecDepth 20000 in
theorem ggX4_year_X4_against : GoodIn wsX4_year wsX4_against := goodIn_r _ [17, 18, 19, 99, 100, 101, 102, 103, 104, 105, 106, 107, 108, 109, 110, 111, 112, 113, 114, 115, 116, 117, 118, 119, 120, 121, 122] (by decide +kernel) (by decide +kernel)
set_option maxRecDepth 20000 in
theorem gX4_year_X4_against : GoodIn wsX4_year (wsV RX4 73 RX4 yX4_against wsX4_against) := goodIn_app (goodIn_of _ (by decide +kernel)) ggX4_year_X4_against
set_option maxRecDepth 20000 in
theorem ggX4_year_X4_fails : GoodIn wsX4_year wsX4_fails := goodIn_r _ [23, 1, 99, 100, 101, 102, 103, 104, 105, 106, 107, 108, 109, 110, 111, 112, 113, 114, 115, 116, 117, 118, 119, 120, 121, 122] (by decide +kernel) (by decide +kernel)
set_option maxRecDepth 20000 in
theorem gX4_year_X4_fails : GoodIn wsX4_year (wsV RX4 77 RX4 yX4_fails wsX4_fails) := goodIn_app (goodIn_of _ (by decide +kernel)) ggX4_year_X4_fails
set_option maxRecDepth 20000 in
theorem ggX4_year_X4_isPerson : GoodIn wsX4_year wsX4_isPerson := goodIn_r _ [27, 2, 99, 100, 101, 102, 103, 104, 105, 106, 107, 108, 109, 110, 111, 112, 113, 114, 115, 116, 117, 118, 119, 120, 121, 122] (by decide +kernel) (by decide +kernel)
set_option maxRecDepth 20000 in
theorem gX4_year_X4_isPerson : GoodIn wsX4_year (wsV RX4 116 RX4 yX4_isPerson wsX4_isPerson) := goodIn_app (goodIn_of _ (by decide +kernel)) ggX4_year_X4_isPerson
set_option maxRecDepth 20000 in
theorem ggX4_year_X4_keep : GoodIn wsX4_year wsX4_keep := goodIn_r _ [31, 32, 33, 34, 35, 2, 36, 37, 99, 100, 101, 102, 103, 104, 105, 106, 107, 108, 109, 110, 111, 112, 113, 114, 115, 116, 117, 118, 119, 120, 121, 122] (by decide +kernel) (by decide +kernel)
set_option maxRecDepth 20000 in
theorem gX4_year_X4_keep : GoodIn wsX4_year (wsV RX4 164 RX4 yX4_keep wsX4_keep) := goodIn_app (goodIn_of _ (by decide +kernel)) ggX4_year_X4_keep
set_option maxRecDepth 20000 in
theorem ggX4_year_X4_goYear : GoodIn wsX4_year wsX4_goYear := goodIn_r _ [41, 3, 42, 43, 44, 6, 45, 34, 32, 46, 47, 48, 49, 50, 51, 52, 53, 54, 55, 56, 2, 57, 37, 58, 59, 60, 61, 62, 63, 64, 65, 66, 67, 68, 69, 70, 71, 72, 73, 74, 75, 76, 77, 78, 79, 80, 99, 100, 101, 102, 103, 104, 105, 106, 107, 108, 109, 110, 111, 112, 113, 114, 115, 116, 117, 118, 119, 120, 121, 122] (by decide +kernel) (by decide +kernel)
set_option maxRecDepth 20000 in
theorem gX4_year_X4_goYear : GoodIn wsX4_year (wsV RX4 167 RX4 yX4_goYear wsX4_goYear) := goodIn_app (goodIn_of _ (by decide +kernel)) ggX4_year_X4_goYear
set_option maxRecDepth 20000 in
theorem ggX4_year_X4_tellYear : GoodIn wsX4_year wsX4_tellYear := goodIn_r _ [84, 37, 32, 34, 24, 25, 26, 6, 27, 2, 85, 86, 87, 88, 46, 47, 48, 89, 90, 91, 92, 93, 94, 99, 100, 101, 102, 103, 104, 105, 106, 107, 108, 109, 110, 111, 112, 113, 114, 115, 116, 117, 118, 119, 120, 121, 122] (by decide +kernel) (by decide +kernel)
set_option maxRecDepth 20000 in
theorem gX4_year_X4_tellYear : GoodIn wsX4_year (wsV RX4 170 RX4 yX4_tellYear wsX4_tellYear) := goodIn_app (goodIn_of _ (by decide +kernel)) ggX4_year_X4_tellYear
set_option maxRecDepth 20000 in
theorem ggX4_year_X4_putBack : GoodIn wsX4_year wsX4_putBack := goodIn_r _ [98, 33, 32, 35, 34, 2, 37, 36, 99, 100, 101, 102, 103, 104, 105, 106, 107, 108, 109, 110, 111, 112, 113, 114, 115, 116, 117, 118, 119, 120, 121, 122] (by decide +kernel) (by decide +kernel)
set_option maxRecDepth 20000 in
theorem gX4_year_X4_putBack : GoodIn wsX4_year (wsV RX4 173 RX4 yX4_putBack wsX4_putBack) := goodIn_app (goodIn_of _ (by decide +kernel)) ggX4_year_X4_putBack
theorem dX4_year_0 : decode cX4_year 0 = .ok (.aload_n 0, 1) := by decide +kernel
theorem dX4_year_1 : decode cX4_year 1 = .ok (.iconst 0, 1) := by decide +kernel
theorem dX4_year_2 : decode cX4_year 2 = .ok (.putfield 46, 3) := by decide +kernel
theorem dX4_year_5 : decode cX4_year 5 = .ok (.iload_n 1, 1) := by decide +kernel
theorem dX4_year_6 : decode cX4_year 6 = .ok (.invokestatic 66, 3) := by decide +kernel
theorem dX4_year_9 : decode cX4_year 9 = .ok (.ifCond .ne 5, 3) := by decide +kernel
theorem dX4_year_12 : decode cX4_year 12 = .ok (.iconst (-1), 1) := by decide +kernel
theorem dX4_year_13 : decode cX4_year 13 = .ok (.ireturn, 1) := by decide +kernel
theorem dX4_year_14 : decode cX4_year 14 = .ok (.iload_n 2, 1) := by decide +kernel
theorem dX4_year_15 : decode cX4_year 15 = .ok (.invokestatic 70, 3) := by decide +kernel
theorem dX4_year_18 : decode cX4_year 18 = .ok (.ifCond .eq 36, 3) := by decide +kernel
theorem dX4_year_21 : decode cX4_year 21 = .ok (.iload 4, 2) := by decide +kernel
theorem dX4_year_23 : decode cX4_year 23 = .ok (.iconst 0, 1) := by decide +kernel
theorem dX4_year_24 : decode cX4_year 24 = .ok (.bipush 20, 2) := by decide +kernel
theorem dX4_year_26 : decode cX4_year 26 = .ok (.invokestatic 52, 3) := by decide +kernel
theorem dX4_year_29 : decode cX4_year 29 = .ok (.ifCond .eq 25, 3) := by decide +kernel
theorem dX4_year_32 : decode cX4_year 32 = .ok (.iload 5, 2) := by decide +kernel
theorem dX4_year_34 : decode cX4_year 34 = .ok (.iconst 0, 1) := by decide +kernel
theorem dX4_year_35 : decode cX4_year 35 = .ok (.iconst 3, 1) := by decide +kernel
theorem dX4_year_36 : decode cX4_year 36 = .ok (.invokestatic 52, 3) := by decide +kernel
theorem dX4_year_39 : decode cX4_year 39 = .ok (.ifCond .ne 18, 3) := by decide +kernel
theorem dX4_year_42 : decode cX4_year 42 = .ok (.iload 5, 2) := by decide +kernel
theorem dX4_year_44 : decode cX4_year 44 = .ok (.bipush 10, 2) := by decide +kernel
theorem dX4_year_46 : decode cX4_year 46 = .ok (.bipush 15, 2) := by decide +kernel
theorem dX4_year_48 : decode cX4_year 48 = .ok (.invokestatic 52, 3) := by decide +kernel
theorem dX4_year_51 : decode cX4_year 51 = .ok (.ifCond .ne 6, 3) := by decide +kernel
theorem dX4_year_54 : decode cX4_year 54 = .ok (.bipush (-2), 2) := by decide +kernel
theorem dX4_year_56 : decode cX4_year 56 = .ok (.ireturn, 1) := by decide +kernel
theorem dX4_year_57 : decode cX4_year 57 = .ok (.aload_n 0, 1) := by decide +kernel
theorem dX4_year_58 : decode cX4_year 58 = .ok (.iload_n 1, 1) := by decide +kernel
theorem dX4_year_59 : decode cX4_year 59 = .ok (.iload_n 2, 1) := by decide +kernel
theorem dX4_year_60 : decode cX4_year 60 = .ok (.iload_n 3, 1) := by decide +kernel
theorem dX4_year_61 : decode cX4_year 61 = .ok (.iconst 2, 1) := by decide +kernel
theorem dX4_year_62 : decode cX4_year 62 = .ok (.iload 4, 2) := by decide +kernel
theorem dX4_year_64 : decode cX4_year 64 = .ok (.imul, 1) := by decide +kernel
theorem dX4_year_65 : decode cX4_year 65 = .ok (.invokevirtual 73, 3) := by decide +kernel
theorem dX4_year_68 : decode cX4_year 68 = .ok (.istore 6, 2) := by decide +kernel
theorem dX4_year_70 : decode cX4_year 70 = .ok (.iload 6, 2) := by decide +kernel
theorem dX4_year_72 : decode cX4_year 72 = .ok (.ifCond .eq 10, 3) := by decide +kernel
theorem dX4_year_75 : decode cX4_year 75 = .ok (.aload_n 0, 1) := by decide +kernel
theorem dX4_year_76 : decode cX4_year 76 = .ok (.iload 6, 2) := by decide +kernel
theorem dX4_year_78 : decode cX4_year 78 = .ok (.invokevirtual 77, 3) := by decide +kernel
theorem dX4_year_81 : decode cX4_year 81 = .ok (.ireturn, 1) := by decide +kernel
theorem dX4_year_82 : decode cX4_year 82 = .ok (.aload_n 0, 1) := by decide +kernel
theorem dX4_year_83 : decode cX4_year 83 = .ok (.getfield 56, 3) := by decide +kernel
theorem dX4_year_86 : decode cX4_year 86 = .ok (.ifCond .ne 6, 3) := by decide +kernel
theorem dX4_year_89 : decode cX4_year 89 = .ok (.bipush (-3), 2) := by decide +kernel
theorem dX4_year_91 : decode cX4_year 91 = .ok (.ireturn, 1) := by decide +kernel
theorem dX4_year_92 : decode cX4_year 92 = .ok (.bipush 60, 2) := by decide +kernel
theorem dX4_year_94 : decode cX4_year 94 = .ok (.iload_n 1, 1) := by decide +kernel
theorem dX4_year_95 : decode cX4_year 95 = .ok (.imul, 1) := by decide +kernel
theorem dX4_year_96 : decode cX4_year 96 = .ok (.iload_n 3, 1) := by decide +kernel
theorem dX4_year_97 : decode cX4_year 97 = .ok (.iadd, 1) := by decide +kernel
theorem dX4_year_98 : decode cX4_year 98 = .ok (.istore 7, 2) := by decide +kernel
theorem dX4_year_100 : decode cX4_year 100 = .ok (.iconst 0, 1) := by decide +kernel
theorem dX4_year_101 : decode cX4_year 101 = .ok (.istore 8, 2) := by decide +kernel
theorem dX4_year_103 : decode cX4_year 103 = .ok (.iload 8, 2) := by decide +kernel
theorem dX4_year_105 : decode cX4_year 105 = .ok (.iload 4, 2) := by decide +kernel
theorem dX4_year_107 : decode cX4_year 107 = .ok (.if_icmp .ge 55, 3) := by decide +kernel
theorem dX4_year_110 : decode cX4_year 110 = .ok (.aload_n 0, 1) := by decide +kernel
theorem dX4_year_111 : decode cX4_year 111 = .ok (.aload_n 0, 1) := by decide +kernel
theorem dX4_year_112 : decode cX4_year 112 = .ok (.getfield 16, 3) := by decide +kernel
theorem dX4_year_115 : decode cX4_year 115 = .ok (.iload 7, 2) := by decide +kernel
theorem dX4_year_117 : decode cX4_year 117 = .ok (.iconst 2, 1) := by decide +kernel
theorem dX4_year_118 : decode cX4_year 118 = .ok (.iload 8, 2) := by decide +kernel
theorem dX4_year_120 : decode cX4_year 120 = .ok (.imul, 1) := by decide +kernel
theorem dX4_year_121 : decode cX4_year 121 = .ok (.iadd, 1) := by decide +kernel
theorem dX4_year_122 : decode cX4_year 122 = .ok (.iaload, 1) := by decide +kernel
theorem dX4_year_123 : decode cX4_year 123 = .ok (.invokevirtual 116, 3) := by decide +kernel
theorem dX4_year_126 : decode cX4_year 126 = .ok (.ifCond .ne 5, 3) := by decide +kernel
theorem dX4_year_129 : decode cX4_year 129 = .ok (.iconst (-1), 1) := by decide +kernel
theorem dX4_year_130 : decode cX4_year 130 = .ok (.ireturn, 1) := by decide +kernel
theorem dX4_year_131 : decode cX4_year 131 = .ok (.aload_n 0, 1) := by decide +kernel
theorem dX4_year_132 : decode cX4_year 132 = .ok (.getfield 16, 3) := by decide +kernel
theorem dX4_year_135 : decode cX4_year 135 = .ok (.iload 7, 2) := by decide +kernel
theorem dX4_year_137 : decode cX4_year 137 = .ok (.iconst 2, 1) := by decide +kernel
theorem dX4_year_138 : decode cX4_year 138 = .ok (.iload 8, 2) := by decide +kernel
theorem dX4_year_140 : decode cX4_year 140 = .ok (.imul, 1) := by decide +kernel
theorem dX4_year_141 : decode cX4_year 141 = .ok (.iadd, 1) := by decide +kernel
theorem dX4_year_142 : decode cX4_year 142 = .ok (.iconst 1, 1) := by decide +kernel
theorem dX4_year_143 : decode cX4_year 143 = .ok (.iadd, 1) := by decide +kernel
theorem dX4_year_144 : decode cX4_year 144 = .ok (.iaload, 1) := by decide +kernel
theorem dX4_year_145 : decode cX4_year 145 = .ok (.iconst 0, 1) := by decide +kernel
theorem dX4_year_146 : decode cX4_year 146 = .ok (.iconst 4, 1) := by decide +kernel
theorem dX4_year_147 : decode cX4_year 147 = .ok (.invokestatic 52, 3) := by decide +kernel
theorem dX4_year_150 : decode cX4_year 150 = .ok (.ifCond .ne 6, 3) := by decide +kernel
theorem dX4_year_153 : decode cX4_year 153 = .ok (.bipush (-2), 2) := by decide +kernel
theorem dX4_year_155 : decode cX4_year 155 = .ok (.ireturn, 1) := by decide +kernel
theorem dX4_year_156 : decode cX4_year 156 = .ok (.iinc 8 1, 3) := by decide +kernel
theorem dX4_year_159 : decode cX4_year 159 = .ok (.goto (-56), 3) := by decide +kernel
theorem dX4_year_162 : decode cX4_year 162 = .ok (.aload_n 0, 1) := by decide +kernel
theorem dX4_year_163 : decode cX4_year 163 = .ok (.invokevirtual 164, 3) := by decide +kernel
theorem dX4_year_166 : decode cX4_year 166 = .ok (.aload_n 0, 1) := by decide +kernel
theorem dX4_year_167 : decode cX4_year 167 = .ok (.iload 7, 2) := by decide +kernel
theorem dX4_year_169 : decode cX4_year 169 = .ok (.iload 4, 2) := by decide +kernel
theorem dX4_year_171 : decode cX4_year 171 = .ok (.invokevirtual 167, 3) := by decide +kernel
theorem dX4_year_174 : decode cX4_year 174 = .ok (.istore 8, 2) := by decide +kernel
theorem dX4_year_176 : decode cX4_year 176 = .ok (.aload_n 0, 1) := by decide +kernel
theorem dX4_year_177 : decode cX4_year 177 = .ok (.iload 5, 2) := by decide +kernel
theorem dX4_year_179 : decode cX4_year 179 = .ok (.invokevirtual 170, 3) := by decide +kernel
theorem dX4_year_182 : decode cX4_year 182 = .ok (.istore 9, 2) := by decide +kernel
theorem dX4_year_184 : decode cX4_year 184 = .ok (.aload_n 0, 1) := by decide +kernel
theorem dX4_year_185 : decode cX4_year 185 = .ok (.invokevirtual 173, 3) := by decide +kernel
theorem dX4_year_188 : decode cX4_year 188 = .ok (.iload 5, 2) := by decide +kernel
theorem dX4_year_190 : decode cX4_year 190 = .ok (.iconst 1, 1) := by decide +kernel
theorem dX4_year_191 : decode cX4_year 191 = .ok (.if_icmp .ne 8, 3) := by decide +kernel
theorem dX4_year_194 : decode cX4_year 194 = .ok (.iload 8, 2) := by decide +kernel
theorem dX4_year_196 : decode cX4_year 196 = .ok (.goto 20, 3) := by decide +kernel
theorem dX4_year_199 : decode cX4_year 199 = .ok (.iload 8, 2) := by decide +kernel
theorem dX4_year_201 : decode cX4_year 201 = .ok (.bipush (-9), 2) := by decide +kernel
theorem dX4_year_203 : decode cX4_year 203 = .ok (.if_icmp .ne 8, 3) := by decide +kernel
theorem dX4_year_206 : decode cX4_year 206 = .ok (.iload 9, 2) := by decide +kernel
theorem dX4_year_208 : decode cX4_year 208 = .ok (.goto 8, 3) := by decide +kernel
theorem dX4_year_211 : decode cX4_year 211 = .ok (.bipush (-100), 2) := by decide +kernel
theorem dX4_year_213 : decode cX4_year 213 = .ok (.iload 8, 2) := by decide +kernel
theorem dX4_year_215 : decode cX4_year 215 = .ok (.isub, 1) := by decide +kernel
theorem dX4_year_216 : decode cX4_year 216 = .ok (.ireturn, 1) := by decide +kernel
set_option maxRecDepth 20000 in
theorem ggX4_tellYear_X4_isPerson : GoodIn wsX4_tellYear wsX4_isPerson := goodIn_r _ [8, 9, 23, 24, 25, 26, 27, 28, 29, 30, 31, 32, 33, 34, 35, 36, 37, 38, 39, 40, 41, 42, 43, 44, 45, 46] (by decide +kernel) (by decide +kernel)
set_option maxRecDepth 20000 in
theorem gX4_tellYear_X4_isPerson : GoodIn wsX4_tellYear (wsV RX4 116 RX4 yX4_isPerson wsX4_isPerson) := goodIn_app (goodIn_of _ (by decide +kernel)) ggX4_tellYear_X4_isPerson
set_option maxRecDepth 20000 in
theorem ggX4_tellYear_X4_saidNow : GoodIn wsX4_tellYear wsX4_saidNow := goodIn_r _ [13, 9, 3, 1, 14, 15, 7, 16, 17, 18, 19, 20, 21, 22, 23, 24, 25, 26, 27, 28, 29, 30, 31, 32, 33, 34, 35, 36, 37, 38, 39, 40, 41, 42, 43, 44, 45, 46] (by decide +kernel) (by decide +kernel)
set_option maxRecDepth 20000 in
theorem gX4_tellYear_X4_saidNow : GoodIn wsX4_tellYear (wsV RX4 125 RX4 yX4_saidNow wsX4_saidNow) := goodIn_app (goodIn_of _ (by decide +kernel)) ggX4_tellYear_X4_saidNow
theorem dX4_tellYear_0 : decode cX4_tellYear 0 = .ok (.iload_n 1, 1) := by decide +kernel
theorem dX4_tellYear_1 : decode cX4_tellYear 1 = .ok (.bipush 10, 2) := by decide +kernel
theorem dX4_tellYear_3 : decode cX4_tellYear 3 = .ok (.if_icmp .lt 29, 3) := by decide +kernel
theorem dX4_tellYear_6 : decode cX4_tellYear 6 = .ok (.aload_n 0, 1) := by decide +kernel
theorem dX4_tellYear_7 : decode cX4_tellYear 7 = .ok (.iload_n 1, 1) := by decide +kernel
theorem dX4_tellYear_8 : decode cX4_tellYear 8 = .ok (.bipush 10, 2) := by decide +kernel
theorem dX4_tellYear_10 : decode cX4_tellYear 10 = .ok (.isub, 1) := by decide +kernel
theorem dX4_tellYear_11 : decode cX4_tellYear 11 = .ok (.invokevirtual 116, 3) := by decide +kernel
theorem dX4_tellYear_14 : decode cX4_tellYear 14 = .ok (.ifCond .eq 15, 3) := by decide +kernel
theorem dX4_tellYear_17 : decode cX4_tellYear 17 = .ok (.aload_n 0, 1) := by decide +kernel
theorem dX4_tellYear_18 : decode cX4_tellYear 18 = .ok (.getfield 22, 3) := by decide +kernel
theorem dX4_tellYear_21 : decode cX4_tellYear 21 = .ok (.iload_n 1, 1) := by decide +kernel
theorem dX4_tellYear_22 : decode cX4_tellYear 22 = .ok (.bipush 10, 2) := by decide +kernel
theorem dX4_tellYear_24 : decode cX4_tellYear 24 = .ok (.isub, 1) := by decide +kernel
theorem dX4_tellYear_25 : decode cX4_tellYear 25 = .ok (.iaload, 1) := by decide +kernel
theorem dX4_tellYear_26 : decode cX4_tellYear 26 = .ok (.goto 5, 3) := by decide +kernel
theorem dX4_tellYear_29 : decode cX4_tellYear 29 = .ok (.bipush (-9), 2) := by decide +kernel
theorem dX4_tellYear_31 : decode cX4_tellYear 31 = .ok (.ireturn, 1) := by decide +kernel
theorem dX4_tellYear_32 : decode cX4_tellYear 32 = .ok (.iload_n 1, 1) := by decide +kernel
theorem dX4_tellYear_33 : decode cX4_tellYear 33 = .ok (.ifCond .ne 10, 3) := by decide +kernel
theorem dX4_tellYear_36 : decode cX4_tellYear 36 = .ok (.aload_n 0, 1) := by decide +kernel
theorem dX4_tellYear_37 : decode cX4_tellYear 37 = .ok (.getfield 90, 3) := by decide +kernel
theorem dX4_tellYear_40 : decode cX4_tellYear 40 = .ok (.goto 19, 3) := by decide +kernel
theorem dX4_tellYear_43 : decode cX4_tellYear 43 = .ok (.iload_n 1, 1) := by decide +kernel
theorem dX4_tellYear_44 : decode cX4_tellYear 44 = .ok (.iconst 2, 1) := by decide +kernel
theorem dX4_tellYear_45 : decode cX4_tellYear 45 = .ok (.if_icmp .ne 10, 3) := by decide +kernel
theorem dX4_tellYear_48 : decode cX4_tellYear 48 = .ok (.aload_n 0, 1) := by decide +kernel
theorem dX4_tellYear_49 : decode cX4_tellYear 49 = .ok (.getfield 96, 3) := by decide +kernel
theorem dX4_tellYear_52 : decode cX4_tellYear 52 = .ok (.goto 7, 3) := by decide +kernel
theorem dX4_tellYear_55 : decode cX4_tellYear 55 = .ok (.aload_n 0, 1) := by decide +kernel
theorem dX4_tellYear_56 : decode cX4_tellYear 56 = .ok (.invokevirtual 125, 3) := by decide +kernel
theorem dX4_tellYear_59 : decode cX4_tellYear 59 = .ok (.ireturn, 1) := by decide +kernel
set_option maxRecDepth 20000 in
theorem ggX4_asked_X4_isPerson : GoodIn wsX4_asked wsX4_isPerson := goodIn_r _ [8, 2, 22, 23, 24, 25, 26, 27, 28, 29, 30, 31, 32, 33, 34, 35, 36, 37, 38, 39, 40, 41, 42, 43, 44, 45] (by decide +kernel) (by decide +kernel)
set_option maxRecDepth 20000 in
theorem gX4_asked_X4_isPerson : GoodIn wsX4_asked (wsV RX4 116 RX4 yX4_isPerson wsX4_isPerson) := goodIn_app (goodIn_of _ (by decide +kernel)) ggX4_asked_X4_isPerson
set_option maxRecDepth 20000 in
theorem ggX4_asked_X4_within : GoodIn wsX4_asked wsX4_within := goodIn_r _ [11] (by decide +kernel) (by decide +kernel)
set_option maxRecDepth 20000 in
theorem gX4_asked_X4_within : GoodIn wsX4_asked (va_wsS RX4 52 yX4_within wsX4_within) := goodIn_app (goodIn_of _ (by decide +kernel)) ggX4_asked_X4_within
set_option maxRecDepth 20000 in
theorem ggX4_asked_X4_partsOf : GoodIn wsX4_asked wsX4_partsOf := goodIn_r _ [15, 2, 3, 16, 17, 7, 18, 22, 23, 24, 25, 26, 27, 28, 29, 30, 31, 32, 33, 34, 35, 36, 37, 38, 39, 40, 41, 42, 43, 44, 45] (by decide +kernel) (by decide +kernel)
set_option maxRecDepth 20000 in
theorem gX4_asked_X4_partsOf : GoodIn wsX4_asked (wsV RX4 129 RX4 yX4_partsOf wsX4_partsOf) := goodIn_app (goodIn_of _ (by decide +kernel)) ggX4_asked_X4_partsOf
set_option maxRecDepth 20000 in
theorem ggX4_asked_X4_size : GoodIn wsX4_asked wsX4_size := goodIn_r _ [21] (by decide +kernel) (by decide +kernel)
set_option maxRecDepth 20000 in
theorem gX4_asked_X4_size : GoodIn wsX4_asked (va_wsS RX4 132 yX4_size wsX4_size) := goodIn_app (goodIn_of _ (by decide +kernel)) ggX4_asked_X4_size
theorem dX4_asked_0 : decode cX4_asked 0 = .ok (.aload_n 0, 1) := by decide +kernel
theorem dX4_asked_1 : decode cX4_asked 1 = .ok (.iload_n 1, 1) := by decide +kernel
theorem dX4_asked_2 : decode cX4_asked 2 = .ok (.invokevirtual 116, 3) := by decide +kernel
theorem dX4_asked_5 : decode cX4_asked 5 = .ok (.ifCond .ne 5, 3) := by decide +kernel
theorem dX4_asked_8 : decode cX4_asked 8 = .ok (.iconst (-1), 1) := by decide +kernel
theorem dX4_asked_9 : decode cX4_asked 9 = .ok (.ireturn, 1) := by decide +kernel
theorem dX4_asked_10 : decode cX4_asked 10 = .ok (.iload_n 2, 1) := by decide +kernel
theorem dX4_asked_11 : decode cX4_asked 11 = .ok (.iconst 0, 1) := by decide +kernel
theorem dX4_asked_12 : decode cX4_asked 12 = .ok (.sipush 300, 3) := by decide +kernel
theorem dX4_asked_15 : decode cX4_asked 15 = .ok (.invokestatic 52, 3) := by decide +kernel
theorem dX4_asked_18 : decode cX4_asked 18 = .ok (.ifCond .eq 12, 3) := by decide +kernel
theorem dX4_asked_21 : decode cX4_asked 21 = .ok (.iload_n 3, 1) := by decide +kernel
theorem dX4_asked_22 : decode cX4_asked 22 = .ok (.iconst 0, 1) := by decide +kernel
theorem dX4_asked_23 : decode cX4_asked 23 = .ok (.iconst 1, 1) := by decide +kernel
theorem dX4_asked_24 : decode cX4_asked 24 = .ok (.invokestatic 52, 3) := by decide +kernel
theorem dX4_asked_27 : decode cX4_asked 27 = .ok (.ifCond .ne 6, 3) := by decide +kernel
theorem dX4_asked_30 : decode cX4_asked 30 = .ok (.bipush (-2), 2) := by decide +kernel
theorem dX4_asked_32 : decode cX4_asked 32 = .ok (.ireturn, 1) := by decide +kernel
theorem dX4_asked_33 : decode cX4_asked 33 = .ok (.aload_n 0, 1) := by decide +kernel
theorem dX4_asked_34 : decode cX4_asked 34 = .ok (.getfield 96, 3) := by decide +kernel
theorem dX4_asked_37 : decode cX4_asked 37 = .ok (.iconst 1, 1) := by decide +kernel
theorem dX4_asked_38 : decode cX4_asked 38 = .ok (.iload_n 1, 1) := by decide +kernel
theorem dX4_asked_39 : decode cX4_asked 39 = .ok (.ishl, 1) := by decide +kernel
theorem dX4_asked_40 : decode cX4_asked 40 = .ok (.iconst (-1), 1) := by decide +kernel
theorem dX4_asked_41 : decode cX4_asked 41 = .ok (.ixor, 1) := by decide +kernel
theorem dX4_asked_42 : decode cX4_asked 42 = .ok (.iand, 1) := by decide +kernel
theorem dX4_asked_43 : decode cX4_asked 43 = .ok (.istore 4, 2) := by decide +kernel
theorem dX4_asked_45 : decode cX4_asked 45 = .ok (.bipush (-9), 2) := by decide +kernel
theorem dX4_asked_47 : decode cX4_asked 47 = .ok (.istore 5, 2) := by decide +kernel
theorem dX4_asked_49 : decode cX4_asked 49 = .ok (.iconst 0, 1) := by decide +kernel
theorem dX4_asked_50 : decode cX4_asked 50 = .ok (.istore 6, 2) := by decide +kernel
theorem dX4_asked_52 : decode cX4_asked 52 = .ok (.iconst 0, 1) := by decide +kernel
theorem dX4_asked_53 : decode cX4_asked 53 = .ok (.istore 7, 2) := by decide +kernel
theorem dX4_asked_55 : decode cX4_asked 55 = .ok (.iload 7, 2) := by decide +kernel
theorem dX4_asked_57 : decode cX4_asked 57 = .ok (.iconst 1, 1) := by decide +kernel
theorem dX4_asked_58 : decode cX4_asked 58 = .ok (.aload_n 0, 1) := by decide +kernel
theorem dX4_asked_59 : decode cX4_asked 59 = .ok (.getfield 56, 3) := by decide +kernel
theorem dX4_asked_62 : decode cX4_asked 62 = .ok (.ishl, 1) := by decide +kernel
theorem dX4_asked_63 : decode cX4_asked 63 = .ok (.if_icmp .ge 88, 3) := by decide +kernel
theorem dX4_asked_66 : decode cX4_asked 66 = .ok (.aload_n 0, 1) := by decide +kernel
theorem dX4_asked_67 : decode cX4_asked 67 = .ok (.getfield 22, 3) := by decide +kernel
theorem dX4_asked_70 : decode cX4_asked 70 = .ok (.iload_n 1, 1) := by decide +kernel
theorem dX4_asked_71 : decode cX4_asked 71 = .ok (.iaload, 1) := by decide +kernel
theorem dX4_asked_72 : decode cX4_asked 72 = .ok (.aload_n 0, 1) := by decide +kernel
theorem dX4_asked_73 : decode cX4_asked 73 = .ok (.iload 7, 2) := by decide +kernel
theorem dX4_asked_75 : decode cX4_asked 75 = .ok (.invokevirtual 129, 3) := by decide +kernel
theorem dX4_asked_78 : decode cX4_asked 78 = .ok (.iadd, 1) := by decide +kernel
theorem dX4_asked_79 : decode cX4_asked 79 = .ok (.istore 8, 2) := by decide +kernel
theorem dX4_asked_81 : decode cX4_asked 81 = .ok (.iload 7, 2) := by decide +kernel
theorem dX4_asked_83 : decode cX4_asked 83 = .ok (.iload 4, 2) := by decide +kernel
theorem dX4_asked_85 : decode cX4_asked 85 = .ok (.iconst (-1), 1) := by decide +kernel
theorem dX4_asked_86 : decode cX4_asked 86 = .ok (.ixor, 1) := by decide +kernel
theorem dX4_asked_87 : decode cX4_asked 87 = .ok (.iand, 1) := by decide +kernel
theorem dX4_asked_88 : decode cX4_asked 88 = .ok (.ifCond .ne 57, 3) := by decide +kernel
theorem dX4_asked_91 : decode cX4_asked 91 = .ok (.iload 8, 2) := by decide +kernel
theorem dX4_asked_93 : decode cX4_asked 93 = .ok (.iload_n 2, 1) := by decide +kernel
theorem dX4_asked_94 : decode cX4_asked 94 = .ok (.if_icmp .lt 51, 3) := by decide +kernel
theorem dX4_asked_97 : decode cX4_asked 97 = .ok (.iload 5, 2) := by decide +kernel
theorem dX4_asked_99 : decode cX4_asked 99 = .ok (.bipush (-9), 2) := by decide +kernel
theorem dX4_asked_101 : decode cX4_asked 101 = .ok (.if_icmp .eq 36, 3) := by decide +kernel
theorem dX4_asked_104 : decode cX4_asked 104 = .ok (.iload 7, 2) := by decide +kernel
theorem dX4_asked_106 : decode cX4_asked 106 = .ok (.invokestatic 132, 3) := by decide +kernel
theorem dX4_asked_109 : decode cX4_asked 109 = .ok (.iload 5, 2) := by decide +kernel
theorem dX4_asked_111 : decode cX4_asked 111 = .ok (.invokestatic 132, 3) := by decide +kernel
theorem dX4_asked_114 : decode cX4_asked 114 = .ok (.if_icmp .lt 23, 3) := by decide +kernel
theorem dX4_asked_117 : decode cX4_asked 117 = .ok (.iload 7, 2) := by decide +kernel
theorem dX4_asked_119 : decode cX4_asked 119 = .ok (.invokestatic 132, 3) := by decide +kernel
theorem dX4_asked_122 : decode cX4_asked 122 = .ok (.iload 5, 2) := by decide +kernel
theorem dX4_asked_124 : decode cX4_asked 124 = .ok (.invokestatic 132, 3) := by decide +kernel
theorem dX4_asked_127 : decode cX4_asked 127 = .ok (.if_icmp .ne 18, 3) := by decide +kernel
theorem dX4_asked_130 : decode cX4_asked 130 = .ok (.iload 8, 2) := by decide +kernel
theorem dX4_asked_132 : decode cX4_asked 132 = .ok (.iload 6, 2) := by decide +kernel
theorem dX4_asked_134 : decode cX4_asked 134 = .ok (.if_icmp .ge 11, 3) := by decide +kernel
theorem dX4_asked_137 : decode cX4_asked 137 = .ok (.iload 7, 2) := by decide +kernel
theorem dX4_asked_139 : decode cX4_asked 139 = .ok (.istore 5, 2) := by decide +kernel
theorem dX4_asked_141 : decode cX4_asked 141 = .ok (.iload 8, 2) := by decide +kernel
theorem dX4_asked_143 : decode cX4_asked 143 = .ok (.istore 6, 2) := by decide +kernel
theorem dX4_asked_145 : decode cX4_asked 145 = .ok (.iinc 7 1, 3) := by decide +kernel
theorem dX4_asked_148 : decode cX4_asked 148 = .ok (.goto (-93), 3) := by decide +kernel
theorem dX4_asked_151 : decode cX4_asked 151 = .ok (.iload_n 3, 1) := by decide +kernel
theorem dX4_asked_152 : decode cX4_asked 152 = .ok (.ifCond .eq 10, 3) := by decide +kernel
theorem dX4_asked_155 : decode cX4_asked 155 = .ok (.iload 5, 2) := by decide +kernel
theorem dX4_asked_157 : decode cX4_asked 157 = .ok (.bipush (-9), 2) := by decide +kernel
theorem dX4_asked_159 : decode cX4_asked 159 = .ok (.if_icmp .ne 8, 3) := by decide +kernel
theorem dX4_asked_162 : decode cX4_asked 162 = .ok (.iload 5, 2) := by decide +kernel
theorem dX4_asked_164 : decode cX4_asked 164 = .ok (.goto 5, 3) := by decide +kernel
theorem dX4_asked_167 : decode cX4_asked 167 = .ok (.iload 6, 2) := by decide +kernel
theorem dX4_asked_169 : decode cX4_asked 169 = .ok (.ireturn, 1) := by decide +kernel
set_option maxRecDepth 20000 in
theorem ggX4_gatherings_X4_isPerson : GoodIn wsX4_gatherings wsX4_isPerson := goodIn_r _ [6, 7, 31, 32, 33, 34, 35, 36, 37, 38, 39, 40, 41, 42, 43, 44, 45, 46, 47, 48, 49, 50, 51, 52, 53, 54] (by decide +kernel) (by decide +kernel)
set_option maxRecDepth 20000 in
theorem gX4_gatherings_X4_isPerson : GoodIn wsX4_gatherings (wsV RX4 116 RX4 yX4_isPerson wsX4_isPerson) := goodIn_app (goodIn_of _ (by decide +kernel)) ggX4_gatherings_X4_isPerson
set_option maxRecDepth 20000 in
theorem ggX4_gatherings_X4_within : GoodIn wsX4_gatherings wsX4_within := goodIn_r _ [10] (by decide +kernel) (by decide +kernel)
set_option maxRecDepth 20000 in
theorem gX4_gatherings_X4_within : GoodIn wsX4_gatherings (va_wsS RX4 52 yX4_within wsX4_within) := goodIn_app (goodIn_of _ (by decide +kernel)) ggX4_gatherings_X4_within
set_option maxRecDepth 20000 in
theorem ggX4_gatherings_X4_keep : GoodIn wsX4_gatherings wsX4_keep := goodIn_r _ [14, 15, 16, 17, 18, 7, 19, 1, 31, 32, 33, 34, 35, 36, 37, 38, 39, 40, 41, 42, 43, 44, 45, 46, 47, 48, 49, 50, 51, 52, 53, 54] (by decide +kernel) (by decide +kernel)
set_option maxRecDepth 20000 in
theorem gX4_gatherings_X4_keep : GoodIn wsX4_gatherings (wsV RX4 164 RX4 yX4_keep wsX4_keep) := goodIn_app (goodIn_of _ (by decide +kernel)) ggX4_gatherings_X4_keep
set_option maxRecDepth 20000 in
theorem ggX4_gatherings_X4_doGather : GoodIn wsX4_gatherings wsX4_doGather := goodIn_r _ [23, 7, 17, 1, 24, 25, 5, 26, 31, 32, 33, 34, 35, 36, 37, 38, 39, 40, 41, 42, 43, 44, 45, 46, 47, 48, 49, 50, 51, 52, 53, 54] (by decide +kernel) (by decide +kernel)
set_option maxRecDepth 20000 in
theorem gX4_gatherings_X4_doGather : GoodIn wsX4_gatherings (wsV RX4 145 RX4 yX4_doGather wsX4_doGather) := goodIn_app (goodIn_of _ (by decide +kernel)) ggX4_gatherings_X4_doGather
set_option maxRecDepth 20000 in
theorem ggX4_gatherings_X4_putBack : GoodIn wsX4_gatherings wsX4_putBack := goodIn_r _ [30, 16, 15, 18, 17, 7, 1, 19, 31, 32, 33, 34, 35, 36, 37, 38, 39, 40, 41, 42, 43, 44, 45, 46, 47, 48, 49, 50, 51, 52, 53, 54] (by decide +kernel) (by decide +kernel)
set_option maxRecDepth 20000 in
theorem gX4_gatherings_X4_putBack : GoodIn wsX4_gatherings (wsV RX4 173 RX4 yX4_putBack wsX4_putBack) := goodIn_app (goodIn_of _ (by decide +kernel)) ggX4_gatherings_X4_putBack
theorem dX4_gatherings_0 : decode cX4_gatherings 0 = .ok (.aload_n 0, 1) := by decide +kernel
theorem dX4_gatherings_1 : decode cX4_gatherings 1 = .ok (.iload_n 1, 1) := by decide +kernel
theorem dX4_gatherings_2 : decode cX4_gatherings 2 = .ok (.invokevirtual 116, 3) := by decide +kernel
theorem dX4_gatherings_5 : decode cX4_gatherings 5 = .ok (.ifCond .ne 5, 3) := by decide +kernel
theorem dX4_gatherings_8 : decode cX4_gatherings 8 = .ok (.iconst (-1), 1) := by decide +kernel
theorem dX4_gatherings_9 : decode cX4_gatherings 9 = .ok (.ireturn, 1) := by decide +kernel
theorem dX4_gatherings_10 : decode cX4_gatherings 10 = .ok (.iload_n 2, 1) := by decide +kernel
theorem dX4_gatherings_11 : decode cX4_gatherings 11 = .ok (.iconst 0, 1) := by decide +kernel
theorem dX4_gatherings_12 : decode cX4_gatherings 12 = .ok (.sipush 300, 3) := by decide +kernel
theorem dX4_gatherings_15 : decode cX4_gatherings 15 = .ok (.invokestatic 52, 3) := by decide +kernel
theorem dX4_gatherings_18 : decode cX4_gatherings 18 = .ok (.ifCond .ne 6, 3) := by decide +kernel
theorem dX4_gatherings_21 : decode cX4_gatherings 21 = .ok (.bipush (-2), 2) := by decide +kernel
theorem dX4_gatherings_23 : decode cX4_gatherings 23 = .ok (.ireturn, 1) := by decide +kernel
theorem dX4_gatherings_24 : decode cX4_gatherings 24 = .ok (.aload_n 0, 1) := by decide +kernel
theorem dX4_gatherings_25 : decode cX4_gatherings 25 = .ok (.invokevirtual 164, 3) := by decide +kernel
theorem dX4_gatherings_28 : decode cX4_gatherings 28 = .ok (.iconst 0, 1) := by decide +kernel
theorem dX4_gatherings_29 : decode cX4_gatherings 29 = .ok (.istore_n 3, 1) := by decide +kernel
theorem dX4_gatherings_30 : decode cX4_gatherings 30 = .ok (.iconst 1, 1) := by decide +kernel
theorem dX4_gatherings_31 : decode cX4_gatherings 31 = .ok (.istore 4, 2) := by decide +kernel
theorem dX4_gatherings_33 : decode cX4_gatherings 33 = .ok (.aload_n 0, 1) := by decide +kernel
theorem dX4_gatherings_34 : decode cX4_gatherings 34 = .ok (.getfield 22, 3) := by decide +kernel
theorem dX4_gatherings_37 : decode cX4_gatherings 37 = .ok (.iload_n 1, 1) := by decide +kernel
theorem dX4_gatherings_38 : decode cX4_gatherings 38 = .ok (.iaload, 1) := by decide +kernel
theorem dX4_gatherings_39 : decode cX4_gatherings 39 = .ok (.iload_n 2, 1) := by decide +kernel
theorem dX4_gatherings_40 : decode cX4_gatherings 40 = .ok (.if_icmp .ge 21, 3) := by decide +kernel
theorem dX4_gatherings_43 : decode cX4_gatherings 43 = .ok (.iload 4, 2) := by decide +kernel
theorem dX4_gatherings_45 : decode cX4_gatherings 45 = .ok (.ifCond .le 16, 3) := by decide +kernel
theorem dX4_gatherings_48 : decode cX4_gatherings 48 = .ok (.aload_n 0, 1) := by decide +kernel
theorem dX4_gatherings_49 : decode cX4_gatherings 49 = .ok (.iload_n 1, 1) := by decide +kernel
theorem dX4_gatherings_50 : decode cX4_gatherings 50 = .ok (.invokevirtual 145, 3) := by decide +kernel
theorem dX4_gatherings_53 : decode cX4_gatherings 53 = .ok (.istore 4, 2) := by decide +kernel
theorem dX4_gatherings_55 : decode cX4_gatherings 55 = .ok (.iinc 3 1, 3) := by decide +kernel
theorem dX4_gatherings_58 : decode cX4_gatherings 58 = .ok (.goto (-25), 3) := by decide +kernel
theorem dX4_gatherings_61 : decode cX4_gatherings 61 = .ok (.aload_n 0, 1) := by decide +kernel
theorem dX4_gatherings_62 : decode cX4_gatherings 62 = .ok (.getfield 22, 3) := by decide +kernel
theorem dX4_gatherings_65 : decode cX4_gatherings 65 = .ok (.iload_n 1, 1) := by decide +kernel
theorem dX4_gatherings_66 : decode cX4_gatherings 66 = .ok (.iaload, 1) := by decide +kernel
theorem dX4_gatherings_67 : decode cX4_gatherings 67 = .ok (.iload_n 2, 1) := by decide +kernel
theorem dX4_gatherings_68 : decode cX4_gatherings 68 = .ok (.if_icmp .lt 7, 3) := by decide +kernel
theorem dX4_gatherings_71 : decode cX4_gatherings 71 = .ok (.iconst 1, 1) := by decide +kernel
theorem dX4_gatherings_72 : decode cX4_gatherings 72 = .ok (.goto 4, 3) := by decide +kernel
theorem dX4_gatherings_75 : decode cX4_gatherings 75 = .ok (.iconst 0, 1) := by decide +kernel
theorem dX4_gatherings_76 : decode cX4_gatherings 76 = .ok (.istore 5, 2) := by decide +kernel
theorem dX4_gatherings_78 : decode cX4_gatherings 78 = .ok (.aload_n 0, 1) := by decide +kernel
theorem dX4_gatherings_79 : decode cX4_gatherings 79 = .ok (.invokevirtual 173, 3) := by decide +kernel
theorem dX4_gatherings_82 : decode cX4_gatherings 82 = .ok (.iload 5, 2) := by decide +kernel
theorem dX4_gatherings_84 : decode cX4_gatherings 84 = .ok (.ifCond .eq 7, 3) := by decide +kernel
theorem dX4_gatherings_87 : decode cX4_gatherings 87 = .ok (.iload_n 3, 1) := by decide +kernel
theorem dX4_gatherings_88 : decode cX4_gatherings 88 = .ok (.goto 5, 3) := by decide +kernel
theorem dX4_gatherings_91 : decode cX4_gatherings 91 = .ok (.bipush (-9), 2) := by decide +kernel
theorem dX4_gatherings_93 : decode cX4_gatherings 93 = .ok (.ireturn, 1) := by decide +kernel
set_option maxRecDepth 20000 in
theorem ggX4_missingTo_X4_isOf : GoodIn wsX4_missingTo wsX4_isOf := goodIn_r _ [7] (by decide +kernel) (by decide +kernel)
set_option maxRecDepth 20000 in
theorem gX4_missingTo_X4_isOf : GoodIn wsX4_missingTo (va_wsS RX4 122 yX4_isOf wsX4_isOf) := goodIn_app (goodIn_of _ (by decide +kernel)) ggX4_missingTo_X4_isOf
theorem dX4_missingTo_0 : decode cX4_missingTo 0 = .ok (.iconst 0, 1) := by decide +kernel
theorem dX4_missingTo_1 : decode cX4_missingTo 1 = .ok (.istore_n 2, 1) := by decide +kernel
theorem dX4_missingTo_2 : decode cX4_missingTo 2 = .ok (.iconst 0, 1) := by decide +kernel
theorem dX4_missingTo_3 : decode cX4_missingTo 3 = .ok (.istore_n 3, 1) := by decide +kernel
theorem dX4_missingTo_4 : decode cX4_missingTo 4 = .ok (.iload_n 3, 1) := by decide +kernel
theorem dX4_missingTo_5 : decode cX4_missingTo 5 = .ok (.aload_n 0, 1) := by decide +kernel
theorem dX4_missingTo_6 : decode cX4_missingTo 6 = .ok (.getfield 56, 3) := by decide +kernel
theorem dX4_missingTo_9 : decode cX4_missingTo 9 = .ok (.if_icmp .ge 45, 3) := by decide +kernel
theorem dX4_missingTo_12 : decode cX4_missingTo 12 = .ok (.iload_n 2, 1) := by decide +kernel
theorem dX4_missingTo_13 : decode cX4_missingTo 13 = .ok (.aload_n 0, 1) := by decide +kernel
theorem dX4_missingTo_14 : decode cX4_missingTo 14 = .ok (.getfield 96, 3) := by decide +kernel
theorem dX4_missingTo_17 : decode cX4_missingTo 17 = .ok (.iload_n 3, 1) := by decide +kernel
theorem dX4_missingTo_18 : decode cX4_missingTo 18 = .ok (.invokestatic 122, 3) := by decide +kernel
theorem dX4_missingTo_21 : decode cX4_missingTo 21 = .ok (.ifCond .eq 24, 3) := by decide +kernel
theorem dX4_missingTo_24 : decode cX4_missingTo 24 = .ok (.aload_n 0, 1) := by decide +kernel
theorem dX4_missingTo_25 : decode cX4_missingTo 25 = .ok (.getfield 22, 3) := by decide +kernel
theorem dX4_missingTo_28 : decode cX4_missingTo 28 = .ok (.iload_n 3, 1) := by decide +kernel
theorem dX4_missingTo_29 : decode cX4_missingTo 29 = .ok (.iaload, 1) := by decide +kernel
theorem dX4_missingTo_30 : decode cX4_missingTo 30 = .ok (.iload_n 1, 1) := by decide +kernel
theorem dX4_missingTo_31 : decode cX4_missingTo 31 = .ok (.if_icmp .ge 14, 3) := by decide +kernel
theorem dX4_missingTo_34 : decode cX4_missingTo 34 = .ok (.iload_n 1, 1) := by decide +kernel
theorem dX4_missingTo_35 : decode cX4_missingTo 35 = .ok (.aload_n 0, 1) := by decide +kernel
theorem dX4_missingTo_36 : decode cX4_missingTo 36 = .ok (.getfield 22, 3) := by decide +kernel
theorem dX4_missingTo_39 : decode cX4_missingTo 39 = .ok (.iload_n 3, 1) := by decide +kernel
theorem dX4_missingTo_40 : decode cX4_missingTo 40 = .ok (.iaload, 1) := by decide +kernel
theorem dX4_missingTo_41 : decode cX4_missingTo 41 = .ok (.isub, 1) := by decide +kernel
theorem dX4_missingTo_42 : decode cX4_missingTo 42 = .ok (.goto 4, 3) := by decide +kernel
theorem dX4_missingTo_45 : decode cX4_missingTo 45 = .ok (.iconst 0, 1) := by decide +kernel
theorem dX4_missingTo_46 : decode cX4_missingTo 46 = .ok (.iadd, 1) := by decide +kernel
theorem dX4_missingTo_47 : decode cX4_missingTo 47 = .ok (.istore_n 2, 1) := by decide +kernel
theorem dX4_missingTo_48 : decode cX4_missingTo 48 = .ok (.iinc 3 1, 3) := by decide +kernel
theorem dX4_missingTo_51 : decode cX4_missingTo 51 = .ok (.goto (-47), 3) := by decide +kernel
theorem dX4_missingTo_54 : decode cX4_missingTo 54 = .ok (.iload_n 2, 1) := by decide +kernel
theorem dX4_missingTo_55 : decode cX4_missingTo 55 = .ok (.ireturn, 1) := by decide +kernel
set_option maxRecDepth 20000 in
theorem ggX4_level_X4_within : GoodIn wsX4_level wsX4_within := goodIn_r _ [6] (by decide +kernel) (by decide +kernel)
set_option maxRecDepth 20000 in
theorem gX4_level_X4_within : GoodIn wsX4_level (va_wsS RX4 52 yX4_within wsX4_within) := goodIn_app (goodIn_of _ (by decide +kernel)) ggX4_level_X4_within
set_option maxRecDepth 20000 in
theorem ggX4_level_X4_missingTo : GoodIn wsX4_level wsX4_missingTo := goodIn_r _ [10, 11, 1, 12, 13, 14, 5, 15, 16, 17, 18, 19, 20, 21, 22, 23, 24, 25, 26, 27, 28, 29, 30, 31, 32, 33, 34, 35, 36, 37, 38, 39] (by decide +kernel) (by decide +kernel)
set_option maxRecDepth 20000 in
theorem gX4_level_X4_missingTo : GoodIn wsX4_level (wsV RX4 176 RX4 yX4_missingTo wsX4_missingTo) := goodIn_app (goodIn_of _ (by decide +kernel)) ggX4_level_X4_missingTo
theorem dX4_level_0 : decode cX4_level 0 = .ok (.iload_n 1, 1) := by decide +kernel
theorem dX4_level_1 : decode cX4_level 1 = .ok (.iconst 0, 1) := by decide +kernel
theorem dX4_level_2 : decode cX4_level 2 = .ok (.iconst 1, 1) := by decide +kernel
theorem dX4_level_3 : decode cX4_level 3 = .ok (.invokestatic 52, 3) := by decide +kernel
theorem dX4_level_6 : decode cX4_level 6 = .ok (.ifCond .ne 6, 3) := by decide +kernel
theorem dX4_level_9 : decode cX4_level 9 = .ok (.bipush (-2), 2) := by decide +kernel
theorem dX4_level_11 : decode cX4_level 11 = .ok (.ireturn, 1) := by decide +kernel
theorem dX4_level_12 : decode cX4_level 12 = .ok (.aload_n 0, 1) := by decide +kernel
theorem dX4_level_13 : decode cX4_level 13 = .ok (.getfield 96, 3) := by decide +kernel
theorem dX4_level_16 : decode cX4_level 16 = .ok (.ifCond .ne 6, 3) := by decide +kernel
theorem dX4_level_19 : decode cX4_level 19 = .ok (.bipush (-3), 2) := by decide +kernel
theorem dX4_level_21 : decode cX4_level 21 = .ok (.ireturn, 1) := by decide +kernel
theorem dX4_level_22 : decode cX4_level 22 = .ok (.iconst 0, 1) := by decide +kernel
theorem dX4_level_23 : decode cX4_level 23 = .ok (.istore_n 2, 1) := by decide +kernel
theorem dX4_level_24 : decode cX4_level 24 = .ok (.aload_n 0, 1) := by decide +kernel
theorem dX4_level_25 : decode cX4_level 25 = .ok (.iload_n 2, 1) := by decide +kernel
theorem dX4_level_26 : decode cX4_level 26 = .ok (.iconst 1, 1) := by decide +kernel
theorem dX4_level_27 : decode cX4_level 27 = .ok (.iadd, 1) := by decide +kernel
theorem dX4_level_28 : decode cX4_level 28 = .ok (.invokevirtual 176, 3) := by decide +kernel
theorem dX4_level_31 : decode cX4_level 31 = .ok (.aload_n 0, 1) := by decide +kernel
theorem dX4_level_32 : decode cX4_level 32 = .ok (.getfield 90, 3) := by decide +kernel
theorem dX4_level_35 : decode cX4_level 35 = .ok (.if_icmp .gt 9, 3) := by decide +kernel
theorem dX4_level_38 : decode cX4_level 38 = .ok (.iinc 2 1, 3) := by decide +kernel
theorem dX4_level_41 : decode cX4_level 41 = .ok (.goto (-17), 3) := by decide +kernel
theorem dX4_level_44 : decode cX4_level 44 = .ok (.iload_n 1, 1) := by decide +kernel
theorem dX4_level_45 : decode cX4_level 45 = .ok (.ifCond .ne 7, 3) := by decide +kernel
theorem dX4_level_48 : decode cX4_level 48 = .ok (.iload_n 2, 1) := by decide +kernel
theorem dX4_level_49 : decode cX4_level 49 = .ok (.goto 13, 3) := by decide +kernel
theorem dX4_level_52 : decode cX4_level 52 = .ok (.aload_n 0, 1) := by decide +kernel
theorem dX4_level_53 : decode cX4_level 53 = .ok (.getfield 90, 3) := by decide +kernel
theorem dX4_level_56 : decode cX4_level 56 = .ok (.aload_n 0, 1) := by decide +kernel
theorem dX4_level_57 : decode cX4_level 57 = .ok (.iload_n 2, 1) := by decide +kernel
theorem dX4_level_58 : decode cX4_level 58 = .ok (.invokevirtual 176, 3) := by decide +kernel
theorem dX4_level_61 : decode cX4_level 61 = .ok (.isub, 1) := by decide +kernel
theorem dX4_level_62 : decode cX4_level 62 = .ok (.ireturn, 1) := by decide +kernel
set_option maxRecDepth 20000 in
theorem ggX4_were_X4_isPerson : GoodIn wsX4_were wsX4_isPerson := goodIn_r _ [6, 1, 25, 26, 27, 28, 29, 30, 31, 32, 33, 34, 35, 36, 37, 38, 39, 40, 41, 42, 43, 44, 45, 46, 47, 48] (by decide +kernel) (by decide +kernel)
set_option maxRecDepth 20000 in
theorem gX4_were_X4_isPerson : GoodIn wsX4_were (wsV RX4 116 RX4 yX4_isPerson wsX4_isPerson) := goodIn_app (goodIn_of _ (by decide +kernel)) ggX4_were_X4_isPerson
set_option maxRecDepth 20000 in
theorem ggX4_were_X4_within : GoodIn wsX4_were wsX4_within := goodIn_r _ [9] (by decide +kernel) (by decide +kernel)
set_option maxRecDepth 20000 in
theorem gX4_were_X4_within : GoodIn wsX4_were (va_wsS RX4 52 yX4_within wsX4_within) := goodIn_app (goodIn_of _ (by decide +kernel)) ggX4_were_X4_within
set_option maxRecDepth 20000 in
theorem ggX4_were_X4_isOf : GoodIn wsX4_were wsX4_isOf := goodIn_r _ [12] (by decide +kernel) (by decide +kernel)
set_option maxRecDepth 20000 in
theorem gX4_were_X4_isOf : GoodIn wsX4_were (va_wsS RX4 122 yX4_isOf wsX4_isOf) := goodIn_app (goodIn_of _ (by decide +kernel)) ggX4_were_X4_isOf
set_option maxRecDepth 20000 in
theorem ggX4_were_X4_shareOf : GoodIn wsX4_were wsX4_shareOf := goodIn_r _ [16, 1, 17, 18, 19, 5, 20, 21, 10, 11, 12, 22, 23, 24, 25, 26, 27, 28, 29, 30, 31, 32, 33, 34, 35, 36, 37, 38, 39, 40, 41, 42, 43, 44, 45, 46, 47, 48] (by decide +kernel) (by decide +kernel)
set_option maxRecDepth 20000 in
theorem gX4_were_X4_shareOf : GoodIn wsX4_were (wsV RX4 135 RX4 yX4_shareOf wsX4_shareOf) := goodIn_app (goodIn_of _ (by decide +kernel)) ggX4_were_X4_shareOf
theorem dX4_were_0 : decode cX4_were 0 = .ok (.aload_n 0, 1) := by decide +kernel
theorem dX4_were_1 : decode cX4_were 1 = .ok (.iload_n 1, 1) := by decide +kernel
theorem dX4_were_2 : decode cX4_were 2 = .ok (.invokevirtual 116, 3) := by decide +kernel
theorem dX4_were_5 : decode cX4_were 5 = .ok (.ifCond .ne 5, 3) := by decide +kernel
theorem dX4_were_8 : decode cX4_were 8 = .ok (.iconst (-1), 1) := by decide +kernel
theorem dX4_were_9 : decode cX4_were 9 = .ok (.ireturn, 1) := by decide +kernel
theorem dX4_were_10 : decode cX4_were 10 = .ok (.iload_n 2, 1) := by decide +kernel
theorem dX4_were_11 : decode cX4_were 11 = .ok (.iconst 0, 1) := by decide +kernel
theorem dX4_were_12 : decode cX4_were 12 = .ok (.sipush 300, 3) := by decide +kernel
theorem dX4_were_15 : decode cX4_were 15 = .ok (.invokestatic 52, 3) := by decide +kernel
theorem dX4_were_18 : decode cX4_were 18 = .ok (.ifCond .eq 12, 3) := by decide +kernel
theorem dX4_were_21 : decode cX4_were 21 = .ok (.iload_n 3, 1) := by decide +kernel
theorem dX4_were_22 : decode cX4_were 22 = .ok (.iconst 0, 1) := by decide +kernel
theorem dX4_were_23 : decode cX4_were 23 = .ok (.iconst 2, 1) := by decide +kernel
theorem dX4_were_24 : decode cX4_were 24 = .ok (.invokestatic 52, 3) := by decide +kernel
theorem dX4_were_27 : decode cX4_were 27 = .ok (.ifCond .ne 6, 3) := by decide +kernel
theorem dX4_were_30 : decode cX4_were 30 = .ok (.bipush (-2), 2) := by decide +kernel
theorem dX4_were_32 : decode cX4_were 32 = .ok (.ireturn, 1) := by decide +kernel
theorem dX4_were_33 : decode cX4_were 33 = .ok (.iconst 0, 1) := by decide +kernel
theorem dX4_were_34 : decode cX4_were 34 = .ok (.istore 4, 2) := by decide +kernel
theorem dX4_were_36 : decode cX4_were 36 = .ok (.bipush (-9), 2) := by decide +kernel
theorem dX4_were_38 : decode cX4_were 38 = .ok (.istore 5, 2) := by decide +kernel
theorem dX4_were_40 : decode cX4_were 40 = .ok (.iconst 1, 1) := by decide +kernel
theorem dX4_were_41 : decode cX4_were 41 = .ok (.aload_n 0, 1) := by decide +kernel
theorem dX4_were_42 : decode cX4_were 42 = .ok (.getfield 56, 3) := by decide +kernel
theorem dX4_were_45 : decode cX4_were 45 = .ok (.ishl, 1) := by decide +kernel
theorem dX4_were_46 : decode cX4_were 46 = .ok (.iconst 1, 1) := by decide +kernel
theorem dX4_were_47 : decode cX4_were 47 = .ok (.isub, 1) := by decide +kernel
theorem dX4_were_48 : decode cX4_were 48 = .ok (.istore 6, 2) := by decide +kernel
theorem dX4_were_50 : decode cX4_were 50 = .ok (.iconst 0, 1) := by decide +kernel
theorem dX4_were_51 : decode cX4_were 51 = .ok (.istore 7, 2) := by decide +kernel
theorem dX4_were_53 : decode cX4_were 53 = .ok (.iload 7, 2) := by decide +kernel
theorem dX4_were_55 : decode cX4_were 55 = .ok (.iconst 1, 1) := by decide +kernel
theorem dX4_were_56 : decode cX4_were 56 = .ok (.aload_n 0, 1) := by decide +kernel
theorem dX4_were_57 : decode cX4_were 57 = .ok (.getfield 56, 3) := by decide +kernel
theorem dX4_were_60 : decode cX4_were 60 = .ok (.ishl, 1) := by decide +kernel
theorem dX4_were_61 : decode cX4_were 61 = .ok (.if_icmp .ge 56, 3) := by decide +kernel
theorem dX4_were_64 : decode cX4_were 64 = .ok (.iload 7, 2) := by decide +kernel
theorem dX4_were_66 : decode cX4_were 66 = .ok (.iload_n 1, 1) := by decide +kernel
theorem dX4_were_67 : decode cX4_were 67 = .ok (.invokestatic 122, 3) := by decide +kernel
theorem dX4_were_70 : decode cX4_were 70 = .ok (.ifCond .eq 41, 3) := by decide +kernel
theorem dX4_were_73 : decode cX4_were 73 = .ok (.aload_n 0, 1) := by decide +kernel
theorem dX4_were_74 : decode cX4_were 74 = .ok (.iload 7, 2) := by decide +kernel
theorem dX4_were_76 : decode cX4_were 76 = .ok (.iconst 0, 1) := by decide +kernel
theorem dX4_were_77 : decode cX4_were 77 = .ok (.iload_n 1, 1) := by decide +kernel
theorem dX4_were_78 : decode cX4_were 78 = .ok (.invokevirtual 135, 3) := by decide +kernel
theorem dX4_were_81 : decode cX4_were 81 = .ok (.iload_n 2, 1) := by decide +kernel
theorem dX4_were_82 : decode cX4_were 82 = .ok (.if_icmp .ne 29, 3) := by decide +kernel
theorem dX4_were_85 : decode cX4_were 85 = .ok (.iinc 4 1, 3) := by decide +kernel
theorem dX4_were_88 : decode cX4_were 88 = .ok (.iload 5, 2) := by decide +kernel
theorem dX4_were_90 : decode cX4_were 90 = .ok (.bipush (-9), 2) := by decide +kernel
theorem dX4_were_92 : decode cX4_were 92 = .ok (.if_icmp .ne 8, 3) := by decide +kernel
theorem dX4_were_95 : decode cX4_were 95 = .ok (.iload 7, 2) := by decide +kernel
theorem dX4_were_97 : decode cX4_were 97 = .ok (.goto 5, 3) := by decide +kernel
theorem dX4_were_100 : decode cX4_were 100 = .ok (.iload 5, 2) := by decide +kernel
theorem dX4_were_102 : decode cX4_were 102 = .ok (.istore 5, 2) := by decide +kernel
theorem dX4_were_104 : decode cX4_were 104 = .ok (.iload 6, 2) := by decide +kernel
theorem dX4_were_106 : decode cX4_were 106 = .ok (.iload 7, 2) := by decide +kernel
theorem dX4_were_108 : decode cX4_were 108 = .ok (.iand, 1) := by decide +kernel
theorem dX4_were_109 : decode cX4_were 109 = .ok (.istore 6, 2) := by decide +kernel
theorem dX4_were_111 : decode cX4_were 111 = .ok (.iinc 7 1, 3) := by decide +kernel
theorem dX4_were_114 : decode cX4_were 114 = .ok (.goto (-61), 3) := by decide +kernel
theorem dX4_were_117 : decode cX4_were 117 = .ok (.iload_n 3, 1) := by decide +kernel
theorem dX4_were_118 : decode cX4_were 118 = .ok (.ifCond .ne 8, 3) := by decide +kernel
theorem dX4_were_121 : decode cX4_were 121 = .ok (.iload 4, 2) := by decide +kernel
theorem dX4_were_123 : decode cX4_were 123 = .ok (.goto 20, 3) := by decide +kernel
theorem dX4_were_126 : decode cX4_were 126 = .ok (.iload_n 3, 1) := by decide +kernel
theorem dX4_were_127 : decode cX4_were 127 = .ok (.iconst 1, 1) := by decide +kernel
theorem dX4_were_128 : decode cX4_were 128 = .ok (.if_icmp .eq 8, 3) := by decide +kernel
theorem dX4_were_131 : decode cX4_were 131 = .ok (.iload 4, 2) := by decide +kernel
theorem dX4_were_133 : decode cX4_were 133 = .ok (.ifCond .ne 8, 3) := by decide +kernel
theorem dX4_were_136 : decode cX4_were 136 = .ok (.iload 5, 2) := by decide +kernel
theorem dX4_were_138 : decode cX4_were 138 = .ok (.goto 5, 3) := by decide +kernel
theorem dX4_were_141 : decode cX4_were 141 = .ok (.iload 6, 2) := by decide +kernel
theorem dX4_were_143 : decode cX4_were 143 = .ok (.ireturn, 1) := by decide +kernel
set_option maxRecDepth 20000 in
theorem ggX4_rounds_X4_within : GoodIn wsX4_rounds wsX4_within := goodIn_r _ [6] (by decide +kernel) (by decide +kernel)
set_option maxRecDepth 20000 in
theorem gX4_rounds_X4_within : GoodIn wsX4_rounds (va_wsS RX4 52 yX4_within wsX4_within) := goodIn_app (goodIn_of _ (by decide +kernel)) ggX4_rounds_X4_within
theorem dX4_rounds_0 : decode cX4_rounds 0 = .ok (.iload_n 1, 1) := by decide +kernel
theorem dX4_rounds_1 : decode cX4_rounds 1 = .ok (.iconst 1, 1) := by decide +kernel
theorem dX4_rounds_2 : decode cX4_rounds 2 = .ok (.bipush 9, 2) := by decide +kernel
theorem dX4_rounds_4 : decode cX4_rounds 4 = .ok (.invokestatic 52, 3) := by decide +kernel
theorem dX4_rounds_7 : decode cX4_rounds 7 = .ok (.ifCond .eq 12, 3) := by decide +kernel
theorem dX4_rounds_10 : decode cX4_rounds 10 = .ok (.iload_n 2, 1) := by decide +kernel
theorem dX4_rounds_11 : decode cX4_rounds 11 = .ok (.iconst 0, 1) := by decide +kernel
theorem dX4_rounds_12 : decode cX4_rounds 12 = .ok (.iconst 1, 1) := by decide +kernel
theorem dX4_rounds_13 : decode cX4_rounds 13 = .ok (.invokestatic 52, 3) := by decide +kernel
theorem dX4_rounds_16 : decode cX4_rounds 16 = .ok (.ifCond .ne 6, 3) := by decide +kernel
theorem dX4_rounds_19 : decode cX4_rounds 19 = .ok (.bipush (-2), 2) := by decide +kernel
theorem dX4_rounds_21 : decode cX4_rounds 21 = .ok (.ireturn, 1) := by decide +kernel
theorem dX4_rounds_22 : decode cX4_rounds 22 = .ok (.aload_n 0, 1) := by decide +kernel
theorem dX4_rounds_23 : decode cX4_rounds 23 = .ok (.getfield 56, 3) := by decide +kernel
theorem dX4_rounds_26 : decode cX4_rounds 26 = .ok (.ifCond .ne 6, 3) := by decide +kernel
theorem dX4_rounds_29 : decode cX4_rounds 29 = .ok (.bipush (-3), 2) := by decide +kernel
theorem dX4_rounds_31 : decode cX4_rounds 31 = .ok (.ireturn, 1) := by decide +kernel
theorem dX4_rounds_32 : decode cX4_rounds 32 = .ok (.aload_n 0, 1) := by decide +kernel
theorem dX4_rounds_33 : decode cX4_rounds 33 = .ok (.getfield 90, 3) := by decide +kernel
theorem dX4_rounds_36 : decode cX4_rounds 36 = .ok (.iload_n 1, 1) := by decide +kernel
theorem dX4_rounds_37 : decode cX4_rounds 37 = .ok (.iconst 1, 1) := by decide +kernel
theorem dX4_rounds_38 : decode cX4_rounds 38 = .ok (.iadd, 1) := by decide +kernel
theorem dX4_rounds_39 : decode cX4_rounds 39 = .ok (.irem, 1) := by decide +kernel
theorem dX4_rounds_40 : decode cX4_rounds 40 = .ok (.istore_n 3, 1) := by decide +kernel
theorem dX4_rounds_41 : decode cX4_rounds 41 = .ok (.iload_n 2, 1) := by decide +kernel
theorem dX4_rounds_42 : decode cX4_rounds 42 = .ok (.ifCond .ne 15, 3) := by decide +kernel
theorem dX4_rounds_45 : decode cX4_rounds 45 = .ok (.iload_n 3, 1) := by decide +kernel
theorem dX4_rounds_46 : decode cX4_rounds 46 = .ok (.ifCond .ne 7, 3) := by decide +kernel
theorem dX4_rounds_49 : decode cX4_rounds 49 = .ok (.iconst 0, 1) := by decide +kernel
theorem dX4_rounds_50 : decode cX4_rounds 50 = .ok (.goto 17, 3) := by decide +kernel
theorem dX4_rounds_53 : decode cX4_rounds 53 = .ok (.iconst 1, 1) := by decide +kernel
theorem dX4_rounds_54 : decode cX4_rounds 54 = .ok (.goto 13, 3) := by decide +kernel
theorem dX4_rounds_57 : decode cX4_rounds 57 = .ok (.iload_n 3, 1) := by decide +kernel
theorem dX4_rounds_58 : decode cX4_rounds 58 = .ok (.ifCond .ne 8, 3) := by decide +kernel
theorem dX4_rounds_61 : decode cX4_rounds 61 = .ok (.bipush (-9), 2) := by decide +kernel
theorem dX4_rounds_63 : decode cX4_rounds 63 = .ok (.goto 4, 3) := by decide +kernel
theorem dX4_rounds_66 : decode cX4_rounds 66 = .ok (.iload_n 3, 1) := by decide +kernel
theorem dX4_rounds_67 : decode cX4_rounds 67 = .ok (.ireturn, 1) := by decide +kernel
theorem dX4_factorial_0 : decode cX4_factorial 0 = .ok (.lconst 1, 1) := by decide +kernel
theorem dX4_factorial_1 : decode cX4_factorial 1 = .ok (.lstore_n 1, 1) := by decide +kernel
theorem dX4_factorial_2 : decode cX4_factorial 2 = .ok (.iconst 2, 1) := by decide +kernel
theorem dX4_factorial_3 : decode cX4_factorial 3 = .ok (.istore_n 3, 1) := by decide +kernel
theorem dX4_factorial_4 : decode cX4_factorial 4 = .ok (.iload_n 3, 1) := by decide +kernel
theorem dX4_factorial_5 : decode cX4_factorial 5 = .ok (.iload_n 0, 1) := by decide +kernel
theorem dX4_factorial_6 : decode cX4_factorial 6 = .ok (.if_icmp .gt 14, 3) := by decide +kernel
theorem dX4_factorial_9 : decode cX4_factorial 9 = .ok (.lload_n 1, 1) := by decide +kernel
theorem dX4_factorial_10 : decode cX4_factorial 10 = .ok (.iload_n 3, 1) := by decide +kernel
theorem dX4_factorial_11 : decode cX4_factorial 11 = .ok (.i2l, 1) := by decide +kernel
theorem dX4_factorial_12 : decode cX4_factorial 12 = .ok (.lmul, 1) := by decide +kernel
theorem dX4_factorial_13 : decode cX4_factorial 13 = .ok (.lstore_n 1, 1) := by decide +kernel
theorem dX4_factorial_14 : decode cX4_factorial 14 = .ok (.iinc 3 1, 3) := by decide +kernel
theorem dX4_factorial_17 : decode cX4_factorial 17 = .ok (.goto (-13), 3) := by decide +kernel
theorem dX4_factorial_20 : decode cX4_factorial 20 = .ok (.lload_n 1, 1) := by decide +kernel
theorem dX4_factorial_21 : decode cX4_factorial 21 = .ok (.lreturn, 1) := by decide +kernel
set_option maxRecDepth 20000 in
theorem ggX4_worth_X4_isPerson : GoodIn wsX4_worth wsX4_isPerson := goodIn_r _ [9, 3, 29, 30, 31, 32, 33, 34, 35, 36, 37, 38, 39, 40, 41, 42, 43, 44, 45, 46, 47, 48, 49, 50, 51, 52] (by decide +kernel) (by decide +kernel)
set_option maxRecDepth 20000 in
theorem gX4_worth_X4_isPerson : GoodIn wsX4_worth (wsV RX4 116 RX4 yX4_isPerson wsX4_isPerson) := goodIn_app (goodIn_of _ (by decide +kernel)) ggX4_worth_X4_isPerson
set_option maxRecDepth 20000 in
theorem ggX4_worth_X4_within : GoodIn wsX4_worth wsX4_within := goodIn_r _ [12] (by decide +kernel) (by decide +kernel)
set_option maxRecDepth 20000 in
theorem gX4_worth_X4_within : GoodIn wsX4_worth (va_wsS RX4 52 yX4_within wsX4_within) := goodIn_app (goodIn_of _ (by decide +kernel)) ggX4_worth_X4_within
set_option maxRecDepth 20000 in
theorem ggX4_worth_X4_isOf : GoodIn wsX4_worth wsX4_isOf := goodIn_r _ [15] (by decide +kernel) (by decide +kernel)
set_option maxRecDepth 20000 in
theorem gX4_worth_X4_isOf : GoodIn wsX4_worth (va_wsS RX4 122 yX4_isOf wsX4_isOf) := goodIn_app (goodIn_of _ (by decide +kernel)) ggX4_worth_X4_isOf
set_option maxRecDepth 20000 in
theorem ggX4_worth_X4_partsOf : GoodIn wsX4_worth wsX4_partsOf := goodIn_r _ [19, 3, 4, 13, 14, 8, 15, 29, 30, 31, 32, 33, 34, 35, 36, 37, 38, 39, 40, 41, 42, 43, 44, 45, 46, 47, 48, 49, 50, 51, 52] (by decide +kernel) (by decide +kernel)
set_option maxRecDepth 20000 in
theorem gX4_worth_X4_partsOf : GoodIn wsX4_worth (wsV RX4 129 RX4 yX4_partsOf wsX4_partsOf) := goodIn_app (goodIn_of _ (by decide +kernel)) ggX4_worth_X4_partsOf
set_option maxRecDepth 20000 in
theorem ggX4_worth_X4_size : GoodIn wsX4_worth wsX4_size := goodIn_r _ [22] (by decide +kernel) (by decide +kernel)
set_option maxRecDepth 20000 in
theorem gX4_worth_X4_size : GoodIn wsX4_worth (va_wsS RX4 132 yX4_size wsX4_size) := goodIn_app (goodIn_of _ (by decide +kernel)) ggX4_worth_X4_size
set_option maxRecDepth 20000 in
theorem ggX4_worth_X4_factorial : GoodIn wsX4_worth wsX4_factorial := goodIn_r _ [25] (by decide +kernel) (by decide +kernel)
set_option maxRecDepth 20000 in
theorem gX4_worth_X4_factorial : GoodIn wsX4_worth (va_wsS RX4 179 yX4_factorial wsX4_factorial) := goodIn_app (goodIn_of _ (by decide +kernel)) ggX4_worth_X4_factorial
set_option maxRecDepth 20000 in
theorem ggX4_worth_X4_inLeastTerms : GoodIn wsX4_worth wsX4_inLeastTerms := goodIn_r _ [28] (by decide +kernel) (by decide +kernel)
set_option maxRecDepth 20000 in
theorem gX4_worth_X4_inLeastTerms : GoodIn wsX4_worth (va_wsS RX4 183 yX4_inLeastTerms wsX4_inLeastTerms) := goodIn_app (goodIn_of _ (by decide +kernel)) ggX4_worth_X4_inLeastTerms
theorem dX4_worth_0 : decode cX4_worth 0 = .ok (.aload_n 0, 1) := by decide +kernel
theorem dX4_worth_1 : decode cX4_worth 1 = .ok (.iload_n 1, 1) := by decide +kernel
theorem dX4_worth_2 : decode cX4_worth 2 = .ok (.invokevirtual 116, 3) := by decide +kernel
theorem dX4_worth_5 : decode cX4_worth 5 = .ok (.ifCond .eq 23, 3) := by decide +kernel
theorem dX4_worth_8 : decode cX4_worth 8 = .ok (.iload_n 2, 1) := by decide +kernel
theorem dX4_worth_9 : decode cX4_worth 9 = .ok (.iconst 0, 1) := by decide +kernel
theorem dX4_worth_10 : decode cX4_worth 10 = .ok (.iconst 1, 1) := by decide +kernel
theorem dX4_worth_11 : decode cX4_worth 11 = .ok (.invokestatic 52, 3) := by decide +kernel
theorem dX4_worth_14 : decode cX4_worth 14 = .ok (.ifCond .eq 14, 3) := by decide +kernel
theorem dX4_worth_17 : decode cX4_worth 17 = .ok (.aload_n 0, 1) := by decide +kernel
theorem dX4_worth_18 : decode cX4_worth 18 = .ok (.getfield 96, 3) := by decide +kernel
theorem dX4_worth_21 : decode cX4_worth 21 = .ok (.iload_n 1, 1) := by decide +kernel
theorem dX4_worth_22 : decode cX4_worth 22 = .ok (.invokestatic 122, 3) := by decide +kernel
theorem dX4_worth_25 : decode cX4_worth 25 = .ok (.ifCond .ne 7, 3) := by decide +kernel
theorem dX4_worth_28 : decode cX4_worth 28 = .ok (.ldc2_w 50, 3) := by decide +kernel
theorem dX4_worth_31 : decode cX4_worth 31 = .ok (.lreturn, 1) := by decide +kernel
theorem dX4_worth_32 : decode cX4_worth 32 = .ok (.aload_n 0, 1) := by decide +kernel
theorem dX4_worth_33 : decode cX4_worth 33 = .ok (.aload_n 0, 1) := by decide +kernel
theorem dX4_worth_34 : decode cX4_worth 34 = .ok (.getfield 96, 3) := by decide +kernel
theorem dX4_worth_37 : decode cX4_worth 37 = .ok (.invokevirtual 129, 3) := by decide +kernel
theorem dX4_worth_40 : decode cX4_worth 40 = .ok (.istore_n 3, 1) := by decide +kernel
theorem dX4_worth_41 : decode cX4_worth 41 = .ok (.aload_n 0, 1) := by decide +kernel
theorem dX4_worth_42 : decode cX4_worth 42 = .ok (.getfield 96, 3) := by decide +kernel
theorem dX4_worth_45 : decode cX4_worth 45 = .ok (.iconst 1, 1) := by decide +kernel
theorem dX4_worth_46 : decode cX4_worth 46 = .ok (.iload_n 1, 1) := by decide +kernel
theorem dX4_worth_47 : decode cX4_worth 47 = .ok (.ishl, 1) := by decide +kernel
theorem dX4_worth_48 : decode cX4_worth 48 = .ok (.iconst (-1), 1) := by decide +kernel
theorem dX4_worth_49 : decode cX4_worth 49 = .ok (.ixor, 1) := by decide +kernel
theorem dX4_worth_50 : decode cX4_worth 50 = .ok (.iand, 1) := by decide +kernel
theorem dX4_worth_51 : decode cX4_worth 51 = .ok (.istore 4, 2) := by decide +kernel
theorem dX4_worth_53 : decode cX4_worth 53 = .ok (.aload_n 0, 1) := by decide +kernel
theorem dX4_worth_54 : decode cX4_worth 54 = .ok (.getfield 96, 3) := by decide +kernel
theorem dX4_worth_57 : decode cX4_worth 57 = .ok (.invokestatic 132, 3) := by decide +kernel
theorem dX4_worth_60 : decode cX4_worth 60 = .ok (.istore 5, 2) := by decide +kernel
theorem dX4_worth_62 : decode cX4_worth 62 = .ok (.lconst 0, 1) := by decide +kernel
theorem dX4_worth_63 : decode cX4_worth 63 = .ok (.lstore 6, 2) := by decide +kernel
theorem dX4_worth_65 : decode cX4_worth 65 = .ok (.iconst 0, 1) := by decide +kernel
theorem dX4_worth_66 : decode cX4_worth 66 = .ok (.istore 8, 2) := by decide +kernel
theorem dX4_worth_68 : decode cX4_worth 68 = .ok (.iload 8, 2) := by decide +kernel
theorem dX4_worth_70 : decode cX4_worth 70 = .ok (.iconst 1, 1) := by decide +kernel
theorem dX4_worth_71 : decode cX4_worth 71 = .ok (.aload_n 0, 1) := by decide +kernel
theorem dX4_worth_72 : decode cX4_worth 72 = .ok (.getfield 56, 3) := by decide +kernel
theorem dX4_worth_75 : decode cX4_worth 75 = .ok (.ishl, 1) := by decide +kernel
theorem dX4_worth_76 : decode cX4_worth 76 = .ok (.if_icmp .ge 77, 3) := by decide +kernel
theorem dX4_worth_79 : decode cX4_worth 79 = .ok (.aload_n 0, 1) := by decide +kernel
theorem dX4_worth_80 : decode cX4_worth 80 = .ok (.iload 8, 2) := by decide +kernel
theorem dX4_worth_82 : decode cX4_worth 82 = .ok (.invokevirtual 129, 3) := by decide +kernel
theorem dX4_worth_85 : decode cX4_worth 85 = .ok (.istore 9, 2) := by decide +kernel
theorem dX4_worth_87 : decode cX4_worth 87 = .ok (.iload 8, 2) := by decide +kernel
theorem dX4_worth_89 : decode cX4_worth 89 = .ok (.iload 4, 2) := by decide +kernel
theorem dX4_worth_91 : decode cX4_worth 91 = .ok (.iconst (-1), 1) := by decide +kernel
theorem dX4_worth_92 : decode cX4_worth 92 = .ok (.ixor, 1) := by decide +kernel
theorem dX4_worth_93 : decode cX4_worth 93 = .ok (.iand, 1) := by decide +kernel
theorem dX4_worth_94 : decode cX4_worth 94 = .ok (.ifCond .ne 53, 3) := by decide +kernel
theorem dX4_worth_97 : decode cX4_worth 97 = .ok (.iconst 2, 1) := by decide +kernel
theorem dX4_worth_98 : decode cX4_worth 98 = .ok (.iload 9, 2) := by decide +kernel
theorem dX4_worth_100 : decode cX4_worth 100 = .ok (.imul, 1) := by decide +kernel
theorem dX4_worth_101 : decode cX4_worth 101 = .ok (.iload_n 3, 1) := by decide +kernel
theorem dX4_worth_102 : decode cX4_worth 102 = .ok (.if_icmp .gt 45, 3) := by decide +kernel
theorem dX4_worth_105 : decode cX4_worth 105 = .ok (.iconst 2, 1) := by decide +kernel
theorem dX4_worth_106 : decode cX4_worth 106 = .ok (.iload 9, 2) := by decide +kernel
theorem dX4_worth_108 : decode cX4_worth 108 = .ok (.aload_n 0, 1) := by decide +kernel
theorem dX4_worth_109 : decode cX4_worth 109 = .ok (.getfield 22, 3) := by decide +kernel
theorem dX4_worth_112 : decode cX4_worth 112 = .ok (.iload_n 1, 1) := by decide +kernel
theorem dX4_worth_113 : decode cX4_worth 113 = .ok (.iaload, 1) := by decide +kernel
theorem dX4_worth_114 : decode cX4_worth 114 = .ok (.iadd, 1) := by decide +kernel
theorem dX4_worth_115 : decode cX4_worth 115 = .ok (.imul, 1) := by decide +kernel
theorem dX4_worth_116 : decode cX4_worth 116 = .ok (.iload_n 3, 1) := by decide +kernel
theorem dX4_worth_117 : decode cX4_worth 117 = .ok (.if_icmp .le 30, 3) := by decide +kernel
theorem dX4_worth_120 : decode cX4_worth 120 = .ok (.lload 6, 2) := by decide +kernel
theorem dX4_worth_122 : decode cX4_worth 122 = .ok (.iload 8, 2) := by decide +kernel
theorem dX4_worth_124 : decode cX4_worth 124 = .ok (.invokestatic 132, 3) := by decide +kernel
theorem dX4_worth_127 : decode cX4_worth 127 = .ok (.invokestatic 179, 3) := by decide +kernel
theorem dX4_worth_130 : decode cX4_worth 130 = .ok (.iload 5, 2) := by decide +kernel
theorem dX4_worth_132 : decode cX4_worth 132 = .ok (.iconst 1, 1) := by decide +kernel
theorem dX4_worth_133 : decode cX4_worth 133 = .ok (.isub, 1) := by decide +kernel
theorem dX4_worth_134 : decode cX4_worth 134 = .ok (.iload 8, 2) := by decide +kernel
theorem dX4_worth_136 : decode cX4_worth 136 = .ok (.invokestatic 132, 3) := by decide +kernel
theorem dX4_worth_139 : decode cX4_worth 139 = .ok (.isub, 1) := by decide +kernel
theorem dX4_worth_140 : decode cX4_worth 140 = .ok (.invokestatic 179, 3) := by decide +kernel
theorem dX4_worth_143 : decode cX4_worth 143 = .ok (.lmul, 1) := by decide +kernel
theorem dX4_worth_144 : decode cX4_worth 144 = .ok (.ladd, 1) := by decide +kernel
theorem dX4_worth_145 : decode cX4_worth 145 = .ok (.lstore 6, 2) := by decide +kernel
theorem dX4_worth_147 : decode cX4_worth 147 = .ok (.iinc 8 1, 3) := by decide +kernel
theorem dX4_worth_150 : decode cX4_worth 150 = .ok (.goto (-82), 3) := by decide +kernel
theorem dX4_worth_153 : decode cX4_worth 153 = .ok (.lload 6, 2) := by decide +kernel
theorem dX4_worth_155 : decode cX4_worth 155 = .ok (.iload 5, 2) := by decide +kernel
theorem dX4_worth_157 : decode cX4_worth 157 = .ok (.invokestatic 179, 3) := by decide +kernel
theorem dX4_worth_160 : decode cX4_worth 160 = .ok (.iload_n 2, 1) := by decide +kernel
theorem dX4_worth_161 : decode cX4_worth 161 = .ok (.invokestatic 183, 3) := by decide +kernel
theorem dX4_worth_164 : decode cX4_worth 164 = .ok (.lreturn, 1) := by decide +kernel
set_option maxRecDepth 20000 in
theorem ggX4_mean_X4_within : GoodIn wsX4_mean wsX4_within := goodIn_r _ [6] (by decide +kernel) (by decide +kernel)
set_option maxRecDepth 20000 in
theorem gX4_mean_X4_within : GoodIn wsX4_mean (va_wsS RX4 52 yX4_within wsX4_within) := goodIn_app (goodIn_of _ (by decide +kernel)) ggX4_mean_X4_within
set_option maxRecDepth 20000 in
theorem ggX4_mean_X4_partsOf : GoodIn wsX4_mean wsX4_partsOf := goodIn_r _ [10, 11, 12, 13, 14, 5, 15, 22, 23, 24, 25, 26, 27, 28, 29, 30, 31, 32, 33, 34, 35, 36, 37, 38, 39, 40, 41, 42, 43, 44, 45] (by decide +kernel) (by decide +kernel)
set_option maxRecDepth 20000 in
theorem gX4_mean_X4_partsOf : GoodIn wsX4_mean (wsV RX4 129 RX4 yX4_partsOf wsX4_partsOf) := goodIn_app (goodIn_of _ (by decide +kernel)) ggX4_mean_X4_partsOf
set_option maxRecDepth 20000 in
theorem ggX4_mean_X4_size : GoodIn wsX4_mean wsX4_size := goodIn_r _ [18] (by decide +kernel) (by decide +kernel)
set_option maxRecDepth 20000 in
theorem gX4_mean_X4_size : GoodIn wsX4_mean (va_wsS RX4 132 yX4_size wsX4_size) := goodIn_app (goodIn_of _ (by decide +kernel)) ggX4_mean_X4_size
set_option maxRecDepth 20000 in
theorem ggX4_mean_X4_inLeastTerms : GoodIn wsX4_mean wsX4_inLeastTerms := goodIn_r _ [21] (by decide +kernel) (by decide +kernel)
set_option maxRecDepth 20000 in
theorem gX4_mean_X4_inLeastTerms : GoodIn wsX4_mean (va_wsS RX4 183 yX4_inLeastTerms wsX4_inLeastTerms) := goodIn_app (goodIn_of _ (by decide +kernel)) ggX4_mean_X4_inLeastTerms
theorem dX4_mean_0 : decode cX4_mean 0 = .ok (.iload_n 1, 1) := by decide +kernel
theorem dX4_mean_1 : decode cX4_mean 1 = .ok (.iconst 0, 1) := by decide +kernel
theorem dX4_mean_2 : decode cX4_mean 2 = .ok (.iconst 1, 1) := by decide +kernel
theorem dX4_mean_3 : decode cX4_mean 3 = .ok (.invokestatic 52, 3) := by decide +kernel
theorem dX4_mean_6 : decode cX4_mean 6 = .ok (.ifCond .eq 10, 3) := by decide +kernel
theorem dX4_mean_9 : decode cX4_mean 9 = .ok (.aload_n 0, 1) := by decide +kernel
theorem dX4_mean_10 : decode cX4_mean 10 = .ok (.getfield 96, 3) := by decide +kernel
theorem dX4_mean_13 : decode cX4_mean 13 = .ok (.ifCond .ne 7, 3) := by decide +kernel
theorem dX4_mean_16 : decode cX4_mean 16 = .ok (.ldc2_w 50, 3) := by decide +kernel
theorem dX4_mean_19 : decode cX4_mean 19 = .ok (.lreturn, 1) := by decide +kernel
theorem dX4_mean_20 : decode cX4_mean 20 = .ok (.aload_n 0, 1) := by decide +kernel
theorem dX4_mean_21 : decode cX4_mean 21 = .ok (.aload_n 0, 1) := by decide +kernel
theorem dX4_mean_22 : decode cX4_mean 22 = .ok (.getfield 96, 3) := by decide +kernel
theorem dX4_mean_25 : decode cX4_mean 25 = .ok (.invokevirtual 129, 3) := by decide +kernel
theorem dX4_mean_28 : decode cX4_mean 28 = .ok (.i2l, 1) := by decide +kernel
theorem dX4_mean_29 : decode cX4_mean 29 = .ok (.aload_n 0, 1) := by decide +kernel
theorem dX4_mean_30 : decode cX4_mean 30 = .ok (.getfield 96, 3) := by decide +kernel
theorem dX4_mean_33 : decode cX4_mean 33 = .ok (.invokestatic 132, 3) := by decide +kernel
theorem dX4_mean_36 : decode cX4_mean 36 = .ok (.i2l, 1) := by decide +kernel
theorem dX4_mean_37 : decode cX4_mean 37 = .ok (.iload_n 1, 1) := by decide +kernel
theorem dX4_mean_38 : decode cX4_mean 38 = .ok (.invokestatic 183, 3) := by decide +kernel
theorem dX4_mean_41 : decode cX4_mean 41 = .ok (.lreturn, 1) := by decide +kernel
theorem dX4_inLeastTerms_0 : decode cX4_inLeastTerms 0 = .ok (.lload_n 0, 1) := by decide +kernel
theorem dX4_inLeastTerms_1 : decode cX4_inLeastTerms 1 = .ok (.lstore 5, 2) := by decide +kernel
theorem dX4_inLeastTerms_3 : decode cX4_inLeastTerms 3 = .ok (.lload_n 2, 1) := by decide +kernel
theorem dX4_inLeastTerms_4 : decode cX4_inLeastTerms 4 = .ok (.lstore 7, 2) := by decide +kernel
theorem dX4_inLeastTerms_6 : decode cX4_inLeastTerms 6 = .ok (.lload 7, 2) := by decide +kernel
theorem dX4_inLeastTerms_8 : decode cX4_inLeastTerms 8 = .ok (.lconst 0, 1) := by decide +kernel
theorem dX4_inLeastTerms_9 : decode cX4_inLeastTerms 9 = .ok (.lcmp, 1) := by decide +kernel
theorem dX4_inLeastTerms_10 : decode cX4_inLeastTerms 10 = .ok (.ifCond .eq 21, 3) := by decide +kernel
theorem dX4_inLeastTerms_13 : decode cX4_inLeastTerms 13 = .ok (.lload 5, 2) := by decide +kernel
theorem dX4_inLeastTerms_15 : decode cX4_inLeastTerms 15 = .ok (.lload 7, 2) := by decide +kernel
theorem dX4_inLeastTerms_17 : decode cX4_inLeastTerms 17 = .ok (.lrem, 1) := by decide +kernel
theorem dX4_inLeastTerms_18 : decode cX4_inLeastTerms 18 = .ok (.lstore 9, 2) := by decide +kernel
theorem dX4_inLeastTerms_20 : decode cX4_inLeastTerms 20 = .ok (.lload 7, 2) := by decide +kernel
theorem dX4_inLeastTerms_22 : decode cX4_inLeastTerms 22 = .ok (.lstore 5, 2) := by decide +kernel
theorem dX4_inLeastTerms_24 : decode cX4_inLeastTerms 24 = .ok (.lload 9, 2) := by decide +kernel
theorem dX4_inLeastTerms_26 : decode cX4_inLeastTerms 26 = .ok (.lstore 7, 2) := by decide +kernel
theorem dX4_inLeastTerms_28 : decode cX4_inLeastTerms 28 = .ok (.goto (-22), 3) := by decide +kernel
theorem dX4_inLeastTerms_31 : decode cX4_inLeastTerms 31 = .ok (.iload 4, 2) := by decide +kernel
theorem dX4_inLeastTerms_33 : decode cX4_inLeastTerms 33 = .ok (.ifCond .ne 10, 3) := by decide +kernel
theorem dX4_inLeastTerms_36 : decode cX4_inLeastTerms 36 = .ok (.lload_n 0, 1) := by decide +kernel
theorem dX4_inLeastTerms_37 : decode cX4_inLeastTerms 37 = .ok (.lload 5, 2) := by decide +kernel
theorem dX4_inLeastTerms_39 : decode cX4_inLeastTerms 39 = .ok (.ldiv, 1) := by decide +kernel
theorem dX4_inLeastTerms_40 : decode cX4_inLeastTerms 40 = .ok (.goto 7, 3) := by decide +kernel
theorem dX4_inLeastTerms_43 : decode cX4_inLeastTerms 43 = .ok (.lload_n 2, 1) := by decide +kernel
theorem dX4_inLeastTerms_44 : decode cX4_inLeastTerms 44 = .ok (.lload 5, 2) := by decide +kernel
theorem dX4_inLeastTerms_46 : decode cX4_inLeastTerms 46 = .ok (.ldiv, 1) := by decide +kernel
theorem dX4_inLeastTerms_47 : decode cX4_inLeastTerms 47 = .ok (.lreturn, 1) := by decide +kernel
set_option maxRecDepth 20000 in
theorem ggX4_reading_X4_isPerson : GoodIn wsX4_reading wsX4_isPerson := goodIn_r _ [9, 10, 14, 15, 16, 17, 18, 19, 20, 21, 22, 23, 24, 25, 26, 27, 28, 29, 30, 31, 32, 33, 34, 35, 36, 37] (by decide +kernel) (by decide +kernel)
set_option maxRecDepth 20000 in
theorem gX4_reading_X4_isPerson : GoodIn wsX4_reading (wsV RX4 116 RX4 yX4_isPerson wsX4_isPerson) := goodIn_app (goodIn_of _ (by decide +kernel)) ggX4_reading_X4_isPerson
set_option maxRecDepth 20000 in
theorem ggX4_reading_X4_within : GoodIn wsX4_reading wsX4_within := goodIn_r _ [13] (by decide +kernel) (by decide +kernel)
set_option maxRecDepth 20000 in
theorem gX4_reading_X4_within : GoodIn wsX4_reading (va_wsS RX4 52 yX4_within wsX4_within) := goodIn_app (goodIn_of _ (by decide +kernel)) ggX4_reading_X4_within
theorem dX4_reading_0 : decode cX4_reading 0 = .ok (.aload_n 0, 1) := by decide +kernel
theorem dX4_reading_1 : decode cX4_reading 1 = .ok (.iload_n 1, 1) := by decide +kernel
theorem dX4_reading_2 : decode cX4_reading 2 = .ok (.invokevirtual 116, 3) := by decide +kernel
theorem dX4_reading_5 : decode cX4_reading 5 = .ok (.ifCond .ne 5, 3) := by decide +kernel
theorem dX4_reading_8 : decode cX4_reading 8 = .ok (.iconst (-1), 1) := by decide +kernel
theorem dX4_reading_9 : decode cX4_reading 9 = .ok (.ireturn, 1) := by decide +kernel
theorem dX4_reading_10 : decode cX4_reading 10 = .ok (.iload_n 2, 1) := by decide +kernel
theorem dX4_reading_11 : decode cX4_reading 11 = .ok (.iconst 0, 1) := by decide +kernel
theorem dX4_reading_12 : decode cX4_reading 12 = .ok (.sipush 300, 3) := by decide +kernel
theorem dX4_reading_15 : decode cX4_reading 15 = .ok (.invokestatic 52, 3) := by decide +kernel
theorem dX4_reading_18 : decode cX4_reading 18 = .ok (.ifCond .eq 14, 3) := by decide +kernel
theorem dX4_reading_21 : decode cX4_reading 21 = .ok (.iload_n 3, 1) := by decide +kernel
theorem dX4_reading_22 : decode cX4_reading 22 = .ok (.iconst 0, 1) := by decide +kernel
theorem dX4_reading_23 : decode cX4_reading 23 = .ok (.sipush 600, 3) := by decide +kernel
theorem dX4_reading_26 : decode cX4_reading 26 = .ok (.invokestatic 52, 3) := by decide +kernel
theorem dX4_reading_29 : decode cX4_reading 29 = .ok (.ifCond .ne 6, 3) := by decide +kernel
theorem dX4_reading_32 : decode cX4_reading 32 = .ok (.bipush (-2), 2) := by decide +kernel
theorem dX4_reading_34 : decode cX4_reading 34 = .ok (.ireturn, 1) := by decide +kernel
theorem dX4_reading_35 : decode cX4_reading 35 = .ok (.aload_n 0, 1) := by decide +kernel
theorem dX4_reading_36 : decode cX4_reading 36 = .ok (.getfield 102, 3) := by decide +kernel
theorem dX4_reading_39 : decode cX4_reading 39 = .ok (.bipush 8, 2) := by decide +kernel
theorem dX4_reading_41 : decode cX4_reading 41 = .ok (.if_icmp .ne 6, 3) := by decide +kernel
theorem dX4_reading_44 : decode cX4_reading 44 = .ok (.bipush (-4), 2) := by decide +kernel
theorem dX4_reading_46 : decode cX4_reading 46 = .ok (.ireturn, 1) := by decide +kernel
theorem dX4_reading_47 : decode cX4_reading 47 = .ok (.aload_n 0, 1) := by decide +kernel
theorem dX4_reading_48 : decode cX4_reading 48 = .ok (.getfield 37, 3) := by decide +kernel
theorem dX4_reading_51 : decode cX4_reading 51 = .ok (.aload_n 0, 1) := by decide +kernel
theorem dX4_reading_52 : decode cX4_reading 52 = .ok (.getfield 102, 3) := by decide +kernel
theorem dX4_reading_55 : decode cX4_reading 55 = .ok (.iload_n 1, 1) := by decide +kernel
theorem dX4_reading_56 : decode cX4_reading 56 = .ok (.iastore, 1) := by decide +kernel
theorem dX4_reading_57 : decode cX4_reading 57 = .ok (.aload_n 0, 1) := by decide +kernel
theorem dX4_reading_58 : decode cX4_reading 58 = .ok (.getfield 40, 3) := by decide +kernel
theorem dX4_reading_61 : decode cX4_reading 61 = .ok (.aload_n 0, 1) := by decide +kernel
theorem dX4_reading_62 : decode cX4_reading 62 = .ok (.getfield 102, 3) := by decide +kernel
theorem dX4_reading_65 : decode cX4_reading 65 = .ok (.iload_n 2, 1) := by decide +kernel
theorem dX4_reading_66 : decode cX4_reading 66 = .ok (.iastore, 1) := by decide +kernel
theorem dX4_reading_67 : decode cX4_reading 67 = .ok (.aload_n 0, 1) := by decide +kernel
theorem dX4_reading_68 : decode cX4_reading 68 = .ok (.getfield 43, 3) := by decide +kernel
theorem dX4_reading_71 : decode cX4_reading 71 = .ok (.aload_n 0, 1) := by decide +kernel
theorem dX4_reading_72 : decode cX4_reading 72 = .ok (.getfield 102, 3) := by decide +kernel
theorem dX4_reading_75 : decode cX4_reading 75 = .ok (.iload_n 3, 1) := by decide +kernel
theorem dX4_reading_76 : decode cX4_reading 76 = .ok (.iastore, 1) := by decide +kernel
theorem dX4_reading_77 : decode cX4_reading 77 = .ok (.aload_n 0, 1) := by decide +kernel
theorem dX4_reading_78 : decode cX4_reading 78 = .ok (.dup, 1) := by decide +kernel
theorem dX4_reading_79 : decode cX4_reading 79 = .ok (.getfield 102, 3) := by decide +kernel
theorem dX4_reading_82 : decode cX4_reading 82 = .ok (.iconst 1, 1) := by decide +kernel
theorem dX4_reading_83 : decode cX4_reading 83 = .ok (.iadd, 1) := by decide +kernel
theorem dX4_reading_84 : decode cX4_reading 84 = .ok (.putfield 102, 3) := by decide +kernel
theorem dX4_reading_87 : decode cX4_reading 87 = .ok (.aload_n 0, 1) := by decide +kernel
theorem dX4_reading_88 : decode cX4_reading 88 = .ok (.getfield 102, 3) := by decide +kernel
theorem dX4_reading_91 : decode cX4_reading 91 = .ok (.iconst 1, 1) := by decide +kernel
theorem dX4_reading_92 : decode cX4_reading 92 = .ok (.isub, 1) := by decide +kernel
theorem dX4_reading_93 : decode cX4_reading 93 = .ok (.ireturn, 1) := by decide +kernel
set_option maxRecDepth 20000 in
theorem ggX4_back_X4_within : GoodIn wsX4_back wsX4_within := goodIn_r _ [5] (by decide +kernel) (by decide +kernel)
set_option maxRecDepth 20000 in
theorem gX4_back_X4_within : GoodIn wsX4_back (va_wsS RX4 52 yX4_within wsX4_within) := goodIn_app (goodIn_of _ (by decide +kernel)) ggX4_back_X4_within
theorem dX4_back_0 : decode cX4_back 0 = .ok (.iload_n 1, 1) := by decide +kernel
theorem dX4_back_1 : decode cX4_back 1 = .ok (.iconst 0, 1) := by decide +kernel
theorem dX4_back_2 : decode cX4_back 2 = .ok (.aload_n 0, 1) := by decide +kernel
theorem dX4_back_3 : decode cX4_back 3 = .ok (.getfield 102, 3) := by decide +kernel
theorem dX4_back_6 : decode cX4_back 6 = .ok (.invokestatic 52, 3) := by decide +kernel
theorem dX4_back_9 : decode cX4_back 9 = .ok (.ifCond .ne 6, 3) := by decide +kernel
theorem dX4_back_12 : decode cX4_back 12 = .ok (.bipush (-2), 2) := by decide +kernel
theorem dX4_back_14 : decode cX4_back 14 = .ok (.ireturn, 1) := by decide +kernel
theorem dX4_back_15 : decode cX4_back 15 = .ok (.aload_n 0, 1) := by decide +kernel
theorem dX4_back_16 : decode cX4_back 16 = .ok (.dup, 1) := by decide +kernel
theorem dX4_back_17 : decode cX4_back 17 = .ok (.getfield 102, 3) := by decide +kernel
theorem dX4_back_20 : decode cX4_back 20 = .ok (.iload_n 1, 1) := by decide +kernel
theorem dX4_back_21 : decode cX4_back 21 = .ok (.isub, 1) := by decide +kernel
theorem dX4_back_22 : decode cX4_back 22 = .ok (.putfield 102, 3) := by decide +kernel
theorem dX4_back_25 : decode cX4_back 25 = .ok (.aload_n 0, 1) := by decide +kernel
theorem dX4_back_26 : decode cX4_back 26 = .ok (.getfield 102, 3) := by decide +kernel
theorem dX4_back_29 : decode cX4_back 29 = .ok (.ireturn, 1) := by decide +kernel
set_option maxRecDepth 20000 in
theorem ggX4_areSo_X4_saysBy : GoodIn wsX4_areSo wsX4_saysBy := goodIn_r _ [9, 10, 11, 12, 13, 14, 15, 16, 17, 18, 19, 20, 21, 22, 23, 24, 25, 26, 27, 28, 29, 30, 31, 32, 33, 34, 35] (by decide +kernel) (by decide +kernel)
set_option maxRecDepth 20000 in
theorem gX4_areSo_X4_saysBy : GoodIn wsX4_areSo (wsV RX4 119 RX4 yX4_saysBy wsX4_saysBy) := goodIn_app (goodIn_of _ (by decide +kernel)) ggX4_areSo_X4_saysBy
theorem dX4_areSo_0 : decode cX4_areSo 0 = .ok (.iconst 0, 1) := by decide +kernel
theorem dX4_areSo_1 : decode cX4_areSo 1 = .ok (.istore_n 1, 1) := by decide +kernel
theorem dX4_areSo_2 : decode cX4_areSo 2 = .ok (.iload_n 1, 1) := by decide +kernel
theorem dX4_areSo_3 : decode cX4_areSo 3 = .ok (.aload_n 0, 1) := by decide +kernel
theorem dX4_areSo_4 : decode cX4_areSo 4 = .ok (.getfield 102, 3) := by decide +kernel
theorem dX4_areSo_7 : decode cX4_areSo 7 = .ok (.if_icmp .ge 36, 3) := by decide +kernel
theorem dX4_areSo_10 : decode cX4_areSo 10 = .ok (.aload_n 0, 1) := by decide +kernel
theorem dX4_areSo_11 : decode cX4_areSo 11 = .ok (.aload_n 0, 1) := by decide +kernel
theorem dX4_areSo_12 : decode cX4_areSo 12 = .ok (.getfield 37, 3) := by decide +kernel
theorem dX4_areSo_15 : decode cX4_areSo 15 = .ok (.iload_n 1, 1) := by decide +kernel
theorem dX4_areSo_16 : decode cX4_areSo 16 = .ok (.iaload, 1) := by decide +kernel
theorem dX4_areSo_17 : decode cX4_areSo 17 = .ok (.aload_n 0, 1) := by decide +kernel
theorem dX4_areSo_18 : decode cX4_areSo 18 = .ok (.getfield 40, 3) := by decide +kernel
theorem dX4_areSo_21 : decode cX4_areSo 21 = .ok (.iload_n 1, 1) := by decide +kernel
theorem dX4_areSo_22 : decode cX4_areSo 22 = .ok (.iaload, 1) := by decide +kernel
theorem dX4_areSo_23 : decode cX4_areSo 23 = .ok (.invokevirtual 119, 3) := by decide +kernel
theorem dX4_areSo_26 : decode cX4_areSo 26 = .ok (.aload_n 0, 1) := by decide +kernel
theorem dX4_areSo_27 : decode cX4_areSo 27 = .ok (.getfield 43, 3) := by decide +kernel
theorem dX4_areSo_30 : decode cX4_areSo 30 = .ok (.iload_n 1, 1) := by decide +kernel
theorem dX4_areSo_31 : decode cX4_areSo 31 = .ok (.iaload, 1) := by decide +kernel
theorem dX4_areSo_32 : decode cX4_areSo 32 = .ok (.if_icmp .eq 5, 3) := by decide +kernel
theorem dX4_areSo_35 : decode cX4_areSo 35 = .ok (.iconst 0, 1) := by decide +kernel
theorem dX4_areSo_36 : decode cX4_areSo 36 = .ok (.ireturn, 1) := by decide +kernel
theorem dX4_areSo_37 : decode cX4_areSo 37 = .ok (.iinc 1 1, 3) := by decide +kernel
theorem dX4_areSo_40 : decode cX4_areSo 40 = .ok (.goto (-38), 3) := by decide +kernel
theorem dX4_areSo_43 : decode cX4_areSo 43 = .ok (.iconst 1, 1) := by decide +kernel
theorem dX4_areSo_44 : decode cX4_areSo 44 = .ok (.ireturn, 1) := by decide +kernel
set_option maxRecDepth 20000 in
theorem ggX4_ears_X4_isPerson : GoodIn wsX4_ears wsX4_isPerson := goodIn_r _ [6, 7, 21, 22, 23, 24, 25, 26, 27, 28, 29, 30, 31, 32, 33, 34, 35, 36, 37, 38, 39, 40, 41, 42, 43, 44] (by decide +kernel) (by decide +kernel)
set_option maxRecDepth 20000 in
theorem gX4_ears_X4_isPerson : GoodIn wsX4_ears (wsV RX4 116 RX4 yX4_isPerson wsX4_isPerson) := goodIn_app (goodIn_of _ (by decide +kernel)) ggX4_ears_X4_isPerson
set_option maxRecDepth 20000 in
theorem ggX4_ears_X4_areSo : GoodIn wsX4_ears wsX4_areSo := goodIn_r _ [11, 12, 13, 14, 15, 16, 17, 18, 5, 19, 1, 20, 21, 22, 23, 24, 25, 26, 27, 28, 29, 30, 31, 32, 33, 34, 35, 36, 37, 38, 39, 40, 41, 42, 43, 44] (by decide +kernel) (by decide +kernel)
set_option maxRecDepth 20000 in
theorem gX4_ears_X4_areSo : GoodIn wsX4_ears (wsV RX4 187 RX4 yX4_areSo wsX4_areSo) := goodIn_app (goodIn_of _ (by decide +kernel)) ggX4_ears_X4_areSo
theorem dX4_ears_0 : decode cX4_ears 0 = .ok (.aload_n 0, 1) := by decide +kernel
theorem dX4_ears_1 : decode cX4_ears 1 = .ok (.iload_n 1, 1) := by decide +kernel
theorem dX4_ears_2 : decode cX4_ears 2 = .ok (.invokevirtual 116, 3) := by decide +kernel
theorem dX4_ears_5 : decode cX4_ears 5 = .ok (.ifCond .ne 5, 3) := by decide +kernel
theorem dX4_ears_8 : decode cX4_ears 8 = .ok (.iconst (-1), 1) := by decide +kernel
theorem dX4_ears_9 : decode cX4_ears 9 = .ok (.ireturn, 1) := by decide +kernel
theorem dX4_ears_10 : decode cX4_ears 10 = .ok (.aload_n 0, 1) := by decide +kernel
theorem dX4_ears_11 : decode cX4_ears 11 = .ok (.getfield 25, 3) := by decide +kernel
theorem dX4_ears_14 : decode cX4_ears 14 = .ok (.iload_n 1, 1) := by decide +kernel
theorem dX4_ears_15 : decode cX4_ears 15 = .ok (.iaload, 1) := by decide +kernel
theorem dX4_ears_16 : decode cX4_ears 16 = .ok (.istore_n 2, 1) := by decide +kernel
theorem dX4_ears_17 : decode cX4_ears 17 = .ok (.iconst 0, 1) := by decide +kernel
theorem dX4_ears_18 : decode cX4_ears 18 = .ok (.istore_n 3, 1) := by decide +kernel
theorem dX4_ears_19 : decode cX4_ears 19 = .ok (.iconst 1, 1) := by decide +kernel
theorem dX4_ears_20 : decode cX4_ears 20 = .ok (.istore 4, 2) := by decide +kernel
theorem dX4_ears_22 : decode cX4_ears 22 = .ok (.iload 4, 2) := by decide +kernel
theorem dX4_ears_24 : decode cX4_ears 24 = .ok (.bipush 9, 2) := by decide +kernel
theorem dX4_ears_26 : decode cX4_ears 26 = .ok (.if_icmp .gt 35, 3) := by decide +kernel
theorem dX4_ears_29 : decode cX4_ears 29 = .ok (.aload_n 0, 1) := by decide +kernel
theorem dX4_ears_30 : decode cX4_ears 30 = .ok (.getfield 25, 3) := by decide +kernel
theorem dX4_ears_33 : decode cX4_ears 33 = .ok (.iload_n 1, 1) := by decide +kernel
theorem dX4_ears_34 : decode cX4_ears 34 = .ok (.iload 4, 2) := by decide +kernel
theorem dX4_ears_36 : decode cX4_ears 36 = .ok (.iastore, 1) := by decide +kernel
theorem dX4_ears_37 : decode cX4_ears 37 = .ok (.iload_n 3, 1) := by decide +kernel
theorem dX4_ears_38 : decode cX4_ears 38 = .ok (.aload_n 0, 1) := by decide +kernel
theorem dX4_ears_39 : decode cX4_ears 39 = .ok (.invokevirtual 187, 3) := by decide +kernel
theorem dX4_ears_42 : decode cX4_ears 42 = .ok (.ifCond .eq 10, 3) := by decide +kernel
theorem dX4_ears_45 : decode cX4_ears 45 = .ok (.iconst 1, 1) := by decide +kernel
theorem dX4_ears_46 : decode cX4_ears 46 = .ok (.iload 4, 2) := by decide +kernel
theorem dX4_ears_48 : decode cX4_ears 48 = .ok (.ishl, 1) := by decide +kernel
theorem dX4_ears_49 : decode cX4_ears 49 = .ok (.goto 4, 3) := by decide +kernel
theorem dX4_ears_52 : decode cX4_ears 52 = .ok (.iconst 0, 1) := by decide +kernel
theorem dX4_ears_53 : decode cX4_ears 53 = .ok (.ior, 1) := by decide +kernel
theorem dX4_ears_54 : decode cX4_ears 54 = .ok (.istore_n 3, 1) := by decide +kernel
theorem dX4_ears_55 : decode cX4_ears 55 = .ok (.iinc 4 1, 3) := by decide +kernel
theorem dX4_ears_58 : decode cX4_ears 58 = .ok (.goto (-36), 3) := by decide +kernel
theorem dX4_ears_61 : decode cX4_ears 61 = .ok (.aload_n 0, 1) := by decide +kernel
theorem dX4_ears_62 : decode cX4_ears 62 = .ok (.getfield 25, 3) := by decide +kernel
theorem dX4_ears_65 : decode cX4_ears 65 = .ok (.iload_n 1, 1) := by decide +kernel
theorem dX4_ears_66 : decode cX4_ears 66 = .ok (.iload_n 2, 1) := by decide +kernel
theorem dX4_ears_67 : decode cX4_ears 67 = .ok (.iastore, 1) := by decide +kernel
theorem dX4_ears_68 : decode cX4_ears 68 = .ok (.iload_n 3, 1) := by decide +kernel
theorem dX4_ears_69 : decode cX4_ears 69 = .ok (.ireturn, 1) := by decide +kernel
set_option maxRecDepth 20000 in
theorem ggX4_kinds_X4_isPerson : GoodIn wsX4_kinds wsX4_isPerson := goodIn_r _ [6, 7, 21, 22, 23, 24, 25, 26, 27, 28, 29, 30, 31, 32, 33, 34, 35, 36, 37, 38, 39, 40, 41, 42, 43, 44] (by decide +kernel) (by decide +kernel)
end
section
set_option maxRecDepth 20000 in
theorem gX4_kinds_X4_isPerson : GoodIn wsX4_kinds (wsV RX4 116 RX4 yX4_isPerson wsX4_isPerson) := goodIn_app (goodIn_of _ (by decide +kernel)) ggX4_kinds_X4_isPerson
set_option maxRecDepth 20000 in
theorem ggX4_kinds_X4_areSo : GoodIn wsX4_kinds wsX4_areSo := goodIn_r _ [11, 12, 13, 14, 15, 16, 17, 18, 5, 19, 20, 1, 21, 22, 23, 24, 25, 26, 27, 28, 29, 30, 31, 32, 33, 34, 35, 36, 37, 38, 39, 40, 41, 42, 43, 44] (by decide +kernel) (by decide +kernel)
set_option maxRecDepth 20000 in
theorem gX4_kinds_X4_areSo : GoodIn wsX4_kinds (wsV RX4 187 RX4 yX4_areSo wsX4_areSo) := goodIn_app (goodIn_of _ (by decide +kernel)) ggX4_kinds_X4_areSo
theorem dX4_kinds_0 : decode cX4_kinds 0 = .ok (.aload_n 0, 1) := by decide +kernel
theorem dX4_kinds_1 : decode cX4_kinds 1 = .ok (.iload_n 1, 1) := by decide +kernel
theorem dX4_kinds_2 : decode cX4_kinds 2 = .ok (.invokevirtual 116, 3) := by decide +kernel
theorem dX4_kinds_5 : decode cX4_kinds 5 = .ok (.ifCond .ne 5, 3) := by decide +kernel
theorem dX4_kinds_8 : decode cX4_kinds 8 = .ok (.iconst (-1), 1) := by decide +kernel
theorem dX4_kinds_9 : decode cX4_kinds 9 = .ok (.ireturn, 1) := by decide +kernel
theorem dX4_kinds_10 : decode cX4_kinds 10 = .ok (.aload_n 0, 1) := by decide +kernel
theorem dX4_kinds_11 : decode cX4_kinds 11 = .ok (.getfield 19, 3) := by decide +kernel
theorem dX4_kinds_14 : decode cX4_kinds 14 = .ok (.iload_n 1, 1) := by decide +kernel
theorem dX4_kinds_15 : decode cX4_kinds 15 = .ok (.iaload, 1) := by decide +kernel
theorem dX4_kinds_16 : decode cX4_kinds 16 = .ok (.istore_n 2, 1) := by decide +kernel
theorem dX4_kinds_17 : decode cX4_kinds 17 = .ok (.iconst 0, 1) := by decide +kernel
theorem dX4_kinds_18 : decode cX4_kinds 18 = .ok (.istore_n 3, 1) := by decide +kernel
theorem dX4_kinds_19 : decode cX4_kinds 19 = .ok (.iconst 0, 1) := by decide +kernel
theorem dX4_kinds_20 : decode cX4_kinds 20 = .ok (.istore 4, 2) := by decide +kernel
theorem dX4_kinds_22 : decode cX4_kinds 22 = .ok (.iload 4, 2) := by decide +kernel
theorem dX4_kinds_24 : decode cX4_kinds 24 = .ok (.iconst 3, 1) := by decide +kernel
theorem dX4_kinds_25 : decode cX4_kinds 25 = .ok (.if_icmp .ge 35, 3) := by decide +kernel
theorem dX4_kinds_28 : decode cX4_kinds 28 = .ok (.aload_n 0, 1) := by decide +kernel
theorem dX4_kinds_29 : decode cX4_kinds 29 = .ok (.getfield 19, 3) := by decide +kernel
theorem dX4_kinds_32 : decode cX4_kinds 32 = .ok (.iload_n 1, 1) := by decide +kernel
theorem dX4_kinds_33 : decode cX4_kinds 33 = .ok (.iload 4, 2) := by decide +kernel
theorem dX4_kinds_35 : decode cX4_kinds 35 = .ok (.iastore, 1) := by decide +kernel
theorem dX4_kinds_36 : decode cX4_kinds 36 = .ok (.iload_n 3, 1) := by decide +kernel
theorem dX4_kinds_37 : decode cX4_kinds 37 = .ok (.aload_n 0, 1) := by decide +kernel
theorem dX4_kinds_38 : decode cX4_kinds 38 = .ok (.invokevirtual 187, 3) := by decide +kernel
theorem dX4_kinds_41 : decode cX4_kinds 41 = .ok (.ifCond .eq 10, 3) := by decide +kernel
theorem dX4_kinds_44 : decode cX4_kinds 44 = .ok (.iconst 1, 1) := by decide +kernel
theorem dX4_kinds_45 : decode cX4_kinds 45 = .ok (.iload 4, 2) := by decide +kernel
theorem dX4_kinds_47 : decode cX4_kinds 47 = .ok (.ishl, 1) := by decide +kernel
theorem dX4_kinds_48 : decode cX4_kinds 48 = .ok (.goto 4, 3) := by decide +kernel
theorem dX4_kinds_51 : decode cX4_kinds 51 = .ok (.iconst 0, 1) := by decide +kernel
theorem dX4_kinds_52 : decode cX4_kinds 52 = .ok (.ior, 1) := by decide +kernel
theorem dX4_kinds_53 : decode cX4_kinds 53 = .ok (.istore_n 3, 1) := by decide +kernel
theorem dX4_kinds_54 : decode cX4_kinds 54 = .ok (.iinc 4 1, 3) := by decide +kernel
theorem dX4_kinds_57 : decode cX4_kinds 57 = .ok (.goto (-35), 3) := by decide +kernel
theorem dX4_kinds_60 : decode cX4_kinds 60 = .ok (.aload_n 0, 1) := by decide +kernel
theorem dX4_kinds_61 : decode cX4_kinds 61 = .ok (.getfield 19, 3) := by decide +kernel
theorem dX4_kinds_64 : decode cX4_kinds 64 = .ok (.iload_n 1, 1) := by decide +kernel
theorem dX4_kinds_65 : decode cX4_kinds 65 = .ok (.iload_n 2, 1) := by decide +kernel
theorem dX4_kinds_66 : decode cX4_kinds 66 = .ok (.iastore, 1) := by decide +kernel
theorem dX4_kinds_67 : decode cX4_kinds 67 = .ok (.iload_n 3, 1) := by decide +kernel
theorem dX4_kinds_68 : decode cX4_kinds 68 = .ok (.ireturn, 1) := by decide +kernel
set_option maxRecDepth 20000 in
theorem ggX4_odds_X4_isPerson : GoodIn wsX4_odds wsX4_isPerson := goodIn_r _ [7, 2, 35, 36, 37, 38, 39, 40, 41, 42, 43, 44, 45, 46, 47, 48, 49, 50, 51, 52, 53, 54, 55, 56, 57, 58] (by decide +kernel) (by decide +kernel)
set_option maxRecDepth 20000 in
theorem gX4_odds_X4_isPerson : GoodIn wsX4_odds (wsV RX4 116 RX4 yX4_isPerson wsX4_isPerson) := goodIn_app (goodIn_of _ (by decide +kernel)) ggX4_odds_X4_isPerson
set_option maxRecDepth 20000 in
theorem ggX4_odds_X4_within : GoodIn wsX4_odds wsX4_within := goodIn_r _ [10] (by decide +kernel) (by decide +kernel)
set_option maxRecDepth 20000 in
theorem gX4_odds_X4_within : GoodIn wsX4_odds (va_wsS RX4 52 yX4_within wsX4_within) := goodIn_app (goodIn_of _ (by decide +kernel)) ggX4_odds_X4_within
set_option maxRecDepth 20000 in
theorem ggX4_odds_X4_isOf : GoodIn wsX4_odds wsX4_isOf := goodIn_r _ [13] (by decide +kernel) (by decide +kernel)
set_option maxRecDepth 20000 in
theorem gX4_odds_X4_isOf : GoodIn wsX4_odds (va_wsS RX4 122 yX4_isOf wsX4_isOf) := goodIn_app (goodIn_of _ (by decide +kernel)) ggX4_odds_X4_isOf
set_option maxRecDepth 20000 in
theorem ggX4_odds_X4_shareOf : GoodIn wsX4_odds wsX4_shareOf := goodIn_r _ [17, 2, 18, 19, 20, 6, 21, 22, 11, 12, 13, 23, 24, 25, 35, 36, 37, 38, 39, 40, 41, 42, 43, 44, 45, 46, 47, 48, 49, 50, 51, 52, 53, 54, 55, 56, 57, 58] (by decide +kernel) (by decide +kernel)
set_option maxRecDepth 20000 in
theorem gX4_odds_X4_shareOf : GoodIn wsX4_odds (wsV RX4 135 RX4 yX4_shareOf wsX4_shareOf) := goodIn_app (goodIn_of _ (by decide +kernel)) ggX4_odds_X4_shareOf
set_option maxRecDepth 20000 in
theorem ggX4_odds_X4_saysBy : GoodIn wsX4_odds wsX4_saysBy := goodIn_r _ [29, 30, 31, 35, 36, 37, 38, 39, 40, 41, 42, 43, 44, 45, 46, 47, 48, 49, 50, 51, 52, 53, 54, 55, 56, 57, 58] (by decide +kernel) (by decide +kernel)
set_option maxRecDepth 20000 in
theorem gX4_odds_X4_saysBy : GoodIn wsX4_odds (wsV RX4 119 RX4 yX4_saysBy wsX4_saysBy) := goodIn_app (goodIn_of _ (by decide +kernel)) ggX4_odds_X4_saysBy
set_option maxRecDepth 20000 in
theorem ggX4_odds_X4_inLeastTerms : GoodIn wsX4_odds wsX4_inLeastTerms := goodIn_r _ [34] (by decide +kernel) (by decide +kernel)
set_option maxRecDepth 20000 in
theorem gX4_odds_X4_inLeastTerms : GoodIn wsX4_odds (va_wsS RX4 183 yX4_inLeastTerms wsX4_inLeastTerms) := goodIn_app (goodIn_of _ (by decide +kernel)) ggX4_odds_X4_inLeastTerms
theorem dX4_odds_0 : decode cX4_odds 0 = .ok (.aload_n 0, 1) := by decide +kernel
theorem dX4_odds_1 : decode cX4_odds 1 = .ok (.iload_n 1, 1) := by decide +kernel
theorem dX4_odds_2 : decode cX4_odds 2 = .ok (.invokevirtual 116, 3) := by decide +kernel
theorem dX4_odds_5 : decode cX4_odds 5 = .ok (.ifCond .eq 23, 3) := by decide +kernel
theorem dX4_odds_8 : decode cX4_odds 8 = .ok (.iload_n 2, 1) := by decide +kernel
theorem dX4_odds_9 : decode cX4_odds 9 = .ok (.iconst 0, 1) := by decide +kernel
theorem dX4_odds_10 : decode cX4_odds 10 = .ok (.sipush 600, 3) := by decide +kernel
theorem dX4_odds_13 : decode cX4_odds 13 = .ok (.invokestatic 52, 3) := by decide +kernel
theorem dX4_odds_16 : decode cX4_odds 16 = .ok (.ifCond .eq 12, 3) := by decide +kernel
theorem dX4_odds_19 : decode cX4_odds 19 = .ok (.iload_n 3, 1) := by decide +kernel
theorem dX4_odds_20 : decode cX4_odds 20 = .ok (.iconst 0, 1) := by decide +kernel
theorem dX4_odds_21 : decode cX4_odds 21 = .ok (.iconst 1, 1) := by decide +kernel
theorem dX4_odds_22 : decode cX4_odds 22 = .ok (.invokestatic 52, 3) := by decide +kernel
theorem dX4_odds_25 : decode cX4_odds 25 = .ok (.ifCond .ne 7, 3) := by decide +kernel
theorem dX4_odds_28 : decode cX4_odds 28 = .ok (.ldc2_w 50, 3) := by decide +kernel
theorem dX4_odds_31 : decode cX4_odds 31 = .ok (.lreturn, 1) := by decide +kernel
theorem dX4_odds_32 : decode cX4_odds 32 = .ok (.iconst 0, 1) := by decide +kernel
theorem dX4_odds_33 : decode cX4_odds 33 = .ok (.istore 4, 2) := by decide +kernel
theorem dX4_odds_35 : decode cX4_odds 35 = .ok (.iconst 0, 1) := by decide +kernel
theorem dX4_odds_36 : decode cX4_odds 36 = .ok (.istore 5, 2) := by decide +kernel
theorem dX4_odds_38 : decode cX4_odds 38 = .ok (.iload 5, 2) := by decide +kernel
theorem dX4_odds_40 : decode cX4_odds 40 = .ok (.iconst 1, 1) := by decide +kernel
theorem dX4_odds_41 : decode cX4_odds 41 = .ok (.aload_n 0, 1) := by decide +kernel
theorem dX4_odds_42 : decode cX4_odds 42 = .ok (.getfield 56, 3) := by decide +kernel
theorem dX4_odds_45 : decode cX4_odds 45 = .ok (.ishl, 1) := by decide +kernel
theorem dX4_odds_46 : decode cX4_odds 46 = .ok (.if_icmp .ge 45, 3) := by decide +kernel
theorem dX4_odds_49 : decode cX4_odds 49 = .ok (.iload 4, 2) := by decide +kernel
theorem dX4_odds_51 : decode cX4_odds 51 = .ok (.iload 5, 2) := by decide +kernel
theorem dX4_odds_53 : decode cX4_odds 53 = .ok (.iload_n 1, 1) := by decide +kernel
theorem dX4_odds_54 : decode cX4_odds 54 = .ok (.invokestatic 122, 3) := by decide +kernel
theorem dX4_odds_57 : decode cX4_odds 57 = .ok (.ifCond .eq 24, 3) := by decide +kernel
theorem dX4_odds_60 : decode cX4_odds 60 = .ok (.aload_n 0, 1) := by decide +kernel
theorem dX4_odds_61 : decode cX4_odds 61 = .ok (.iload_n 1, 1) := by decide +kernel
theorem dX4_odds_62 : decode cX4_odds 62 = .ok (.aload_n 0, 1) := by decide +kernel
theorem dX4_odds_63 : decode cX4_odds 63 = .ok (.iload 5, 2) := by decide +kernel
theorem dX4_odds_65 : decode cX4_odds 65 = .ok (.iconst 0, 1) := by decide +kernel
theorem dX4_odds_66 : decode cX4_odds 66 = .ok (.iload_n 1, 1) := by decide +kernel
theorem dX4_odds_67 : decode cX4_odds 67 = .ok (.invokevirtual 135, 3) := by decide +kernel
theorem dX4_odds_70 : decode cX4_odds 70 = .ok (.invokevirtual 119, 3) := by decide +kernel
theorem dX4_odds_73 : decode cX4_odds 73 = .ok (.iload_n 2, 1) := by decide +kernel
theorem dX4_odds_74 : decode cX4_odds 74 = .ok (.if_icmp .lt 7, 3) := by decide +kernel
theorem dX4_odds_77 : decode cX4_odds 77 = .ok (.iconst 1, 1) := by decide +kernel
theorem dX4_odds_78 : decode cX4_odds 78 = .ok (.goto 4, 3) := by decide +kernel
theorem dX4_odds_81 : decode cX4_odds 81 = .ok (.iconst 0, 1) := by decide +kernel
theorem dX4_odds_82 : decode cX4_odds 82 = .ok (.iadd, 1) := by decide +kernel
theorem dX4_odds_83 : decode cX4_odds 83 = .ok (.istore 4, 2) := by decide +kernel
theorem dX4_odds_85 : decode cX4_odds 85 = .ok (.iinc 5 1, 3) := by decide +kernel
theorem dX4_odds_88 : decode cX4_odds 88 = .ok (.goto (-50), 3) := by decide +kernel
theorem dX4_odds_91 : decode cX4_odds 91 = .ok (.iload 4, 2) := by decide +kernel
theorem dX4_odds_93 : decode cX4_odds 93 = .ok (.i2l, 1) := by decide +kernel
theorem dX4_odds_94 : decode cX4_odds 94 = .ok (.lconst 1, 1) := by decide +kernel
theorem dX4_odds_95 : decode cX4_odds 95 = .ok (.aload_n 0, 1) := by decide +kernel
theorem dX4_odds_96 : decode cX4_odds 96 = .ok (.getfield 56, 3) := by decide +kernel
theorem dX4_odds_99 : decode cX4_odds 99 = .ok (.lshl, 1) := by decide +kernel
theorem dX4_odds_100 : decode cX4_odds 100 = .ok (.iload_n 3, 1) := by decide +kernel
theorem dX4_odds_101 : decode cX4_odds 101 = .ok (.invokestatic 183, 3) := by decide +kernel
theorem dX4_odds_104 : decode cX4_odds 104 = .ok (.lreturn, 1) := by decide +kernel
set_option maxRecDepth 20000 in
theorem ggX4_sheet_X4_isSheet : GoodIn wsX4_sheet wsX4_isSheet := goodIn_r _ [8, 9, 10, 7, 11] (by decide +kernel) (by decide +kernel)
set_option maxRecDepth 20000 in
theorem gX4_sheet_X4_isSheet : GoodIn wsX4_sheet (va_wsS RX4 66 yX4_isSheet wsX4_isSheet) := goodIn_app (goodIn_of _ (by decide +kernel)) ggX4_sheet_X4_isSheet
set_option maxRecDepth 20000 in
theorem ggX4_sheet_X4_isSort : GoodIn wsX4_sheet wsX4_isSort := goodIn_r _ [14, 9, 10, 7, 11] (by decide +kernel) (by decide +kernel)
set_option maxRecDepth 20000 in
theorem gX4_sheet_X4_isSort : GoodIn wsX4_sheet (va_wsS RX4 70 yX4_isSort wsX4_isSort) := goodIn_app (goodIn_of _ (by decide +kernel)) ggX4_sheet_X4_isSort
set_option maxRecDepth 20000 in
theorem ggX4_sheet_X4_fails : GoodIn wsX4_sheet wsX4_fails := goodIn_r _ [18, 1, 19, 20, 21, 22, 23, 24, 25, 26, 27, 28, 29, 30, 31, 32, 33, 34, 35, 36, 37, 38, 39, 40, 41, 42] (by decide +kernel) (by decide +kernel)
set_option maxRecDepth 20000 in
theorem gX4_sheet_X4_fails : GoodIn wsX4_sheet (wsV RX4 77 RX4 yX4_fails wsX4_fails) := goodIn_app (goodIn_of _ (by decide +kernel)) ggX4_sheet_X4_fails
theorem dX4_sheet_0 : decode cX4_sheet 0 = .ok (.aload_n 0, 1) := by decide +kernel
theorem dX4_sheet_1 : decode cX4_sheet 1 = .ok (.iconst 0, 1) := by decide +kernel
theorem dX4_sheet_2 : decode cX4_sheet 2 = .ok (.putfield 46, 3) := by decide +kernel
theorem dX4_sheet_5 : decode cX4_sheet 5 = .ok (.iload_n 1, 1) := by decide +kernel
theorem dX4_sheet_6 : decode cX4_sheet 6 = .ok (.invokestatic 66, 3) := by decide +kernel
theorem dX4_sheet_9 : decode cX4_sheet 9 = .ok (.ifCond .ne 5, 3) := by decide +kernel
theorem dX4_sheet_12 : decode cX4_sheet 12 = .ok (.iconst (-1), 1) := by decide +kernel
theorem dX4_sheet_13 : decode cX4_sheet 13 = .ok (.ireturn, 1) := by decide +kernel
theorem dX4_sheet_14 : decode cX4_sheet 14 = .ok (.iload_n 2, 1) := by decide +kernel
theorem dX4_sheet_15 : decode cX4_sheet 15 = .ok (.invokestatic 70, 3) := by decide +kernel
theorem dX4_sheet_18 : decode cX4_sheet 18 = .ok (.ifCond .eq 9, 3) := by decide +kernel
theorem dX4_sheet_21 : decode cX4_sheet 21 = .ok (.iload_n 3, 1) := by decide +kernel
theorem dX4_sheet_22 : decode cX4_sheet 22 = .ok (.bipush 60, 2) := by decide +kernel
theorem dX4_sheet_24 : decode cX4_sheet 24 = .ok (.if_icmp .le 6, 3) := by decide +kernel
theorem dX4_sheet_27 : decode cX4_sheet 27 = .ok (.bipush (-2), 2) := by decide +kernel
theorem dX4_sheet_29 : decode cX4_sheet 29 = .ok (.ireturn, 1) := by decide +kernel
theorem dX4_sheet_30 : decode cX4_sheet 30 = .ok (.iload_n 3, 1) := by decide +kernel
theorem dX4_sheet_31 : decode cX4_sheet 31 = .ok (.ifCond .ge 9, 3) := by decide +kernel
theorem dX4_sheet_34 : decode cX4_sheet 34 = .ok (.aload_n 0, 1) := by decide +kernel
theorem dX4_sheet_35 : decode cX4_sheet 35 = .ok (.iconst 4, 1) := by decide +kernel
theorem dX4_sheet_36 : decode cX4_sheet 36 = .ok (.invokevirtual 77, 3) := by decide +kernel
theorem dX4_sheet_39 : decode cX4_sheet 39 = .ok (.ireturn, 1) := by decide +kernel
theorem dX4_sheet_40 : decode cX4_sheet 40 = .ok (.aload_n 0, 1) := by decide +kernel
theorem dX4_sheet_41 : decode cX4_sheet 41 = .ok (.getfield 9, 3) := by decide +kernel
theorem dX4_sheet_44 : decode cX4_sheet 44 = .ok (.iload_n 1, 1) := by decide +kernel
theorem dX4_sheet_45 : decode cX4_sheet 45 = .ok (.iload_n 2, 1) := by decide +kernel
theorem dX4_sheet_46 : decode cX4_sheet 46 = .ok (.iastore, 1) := by decide +kernel
theorem dX4_sheet_47 : decode cX4_sheet 47 = .ok (.aload_n 0, 1) := by decide +kernel
theorem dX4_sheet_48 : decode cX4_sheet 48 = .ok (.getfield 13, 3) := by decide +kernel
theorem dX4_sheet_51 : decode cX4_sheet 51 = .ok (.iload_n 1, 1) := by decide +kernel
theorem dX4_sheet_52 : decode cX4_sheet 52 = .ok (.iload_n 3, 1) := by decide +kernel
theorem dX4_sheet_53 : decode cX4_sheet 53 = .ok (.iastore, 1) := by decide +kernel
theorem dX4_sheet_54 : decode cX4_sheet 54 = .ok (.iconst 0, 1) := by decide +kernel
theorem dX4_sheet_55 : decode cX4_sheet 55 = .ok (.istore 4, 2) := by decide +kernel
theorem dX4_sheet_57 : decode cX4_sheet 57 = .ok (.iload 4, 2) := by decide +kernel
theorem dX4_sheet_59 : decode cX4_sheet 59 = .ok (.bipush 60, 2) := by decide +kernel
theorem dX4_sheet_61 : decode cX4_sheet 61 = .ok (.if_icmp .ge 22, 3) := by decide +kernel
theorem dX4_sheet_64 : decode cX4_sheet 64 = .ok (.aload_n 0, 1) := by decide +kernel
theorem dX4_sheet_65 : decode cX4_sheet 65 = .ok (.getfield 16, 3) := by decide +kernel
theorem dX4_sheet_68 : decode cX4_sheet 68 = .ok (.bipush 60, 2) := by decide +kernel
theorem dX4_sheet_70 : decode cX4_sheet 70 = .ok (.iload_n 1, 1) := by decide +kernel
theorem dX4_sheet_71 : decode cX4_sheet 71 = .ok (.imul, 1) := by decide +kernel
theorem dX4_sheet_72 : decode cX4_sheet 72 = .ok (.iload 4, 2) := by decide +kernel
theorem dX4_sheet_74 : decode cX4_sheet 74 = .ok (.iadd, 1) := by decide +kernel
theorem dX4_sheet_75 : decode cX4_sheet 75 = .ok (.iconst 0, 1) := by decide +kernel
theorem dX4_sheet_76 : decode cX4_sheet 76 = .ok (.iastore, 1) := by decide +kernel
theorem dX4_sheet_77 : decode cX4_sheet 77 = .ok (.iinc 4 1, 3) := by decide +kernel
theorem dX4_sheet_80 : decode cX4_sheet 80 = .ok (.goto (-23), 3) := by decide +kernel
theorem dX4_sheet_83 : decode cX4_sheet 83 = .ok (.iconst 1, 1) := by decide +kernel
theorem dX4_sheet_84 : decode cX4_sheet 84 = .ok (.ireturn, 1) := by decide +kernel
set_option maxRecDepth 20000 in
theorem ggX4_lose_X4_isSheet : GoodIn wsX4_lose wsX4_isSheet := goodIn_r _ [5, 6, 7, 4, 8] (by decide +kernel) (by decide +kernel)
set_option maxRecDepth 20000 in
theorem gX4_lose_X4_isSheet : GoodIn wsX4_lose (va_wsS RX4 66 yX4_isSheet wsX4_isSheet) := goodIn_app (goodIn_of _ (by decide +kernel)) ggX4_lose_X4_isSheet
theorem dX4_lose_0 : decode cX4_lose 0 = .ok (.iload_n 1, 1) := by decide +kernel
theorem dX4_lose_1 : decode cX4_lose 1 = .ok (.invokestatic 66, 3) := by decide +kernel
theorem dX4_lose_4 : decode cX4_lose 4 = .ok (.ifCond .ne 5, 3) := by decide +kernel
theorem dX4_lose_7 : decode cX4_lose 7 = .ok (.iconst (-1), 1) := by decide +kernel
theorem dX4_lose_8 : decode cX4_lose 8 = .ok (.ireturn, 1) := by decide +kernel
theorem dX4_lose_9 : decode cX4_lose 9 = .ok (.aload_n 0, 1) := by decide +kernel
theorem dX4_lose_10 : decode cX4_lose 10 = .ok (.getfield 9, 3) := by decide +kernel
theorem dX4_lose_13 : decode cX4_lose 13 = .ok (.iload_n 1, 1) := by decide +kernel
theorem dX4_lose_14 : decode cX4_lose 14 = .ok (.iaload, 1) := by decide +kernel
theorem dX4_lose_15 : decode cX4_lose 15 = .ok (.bipush (-9), 2) := by decide +kernel
theorem dX4_lose_17 : decode cX4_lose 17 = .ok (.if_icmp .ne 7, 3) := by decide +kernel
theorem dX4_lose_20 : decode cX4_lose 20 = .ok (.iconst 0, 1) := by decide +kernel
theorem dX4_lose_21 : decode cX4_lose 21 = .ok (.goto 4, 3) := by decide +kernel
theorem dX4_lose_24 : decode cX4_lose 24 = .ok (.iconst 1, 1) := by decide +kernel
theorem dX4_lose_25 : decode cX4_lose 25 = .ok (.istore_n 2, 1) := by decide +kernel
theorem dX4_lose_26 : decode cX4_lose 26 = .ok (.aload_n 0, 1) := by decide +kernel
theorem dX4_lose_27 : decode cX4_lose 27 = .ok (.getfield 9, 3) := by decide +kernel
theorem dX4_lose_30 : decode cX4_lose 30 = .ok (.iload_n 1, 1) := by decide +kernel
theorem dX4_lose_31 : decode cX4_lose 31 = .ok (.bipush (-9), 2) := by decide +kernel
theorem dX4_lose_33 : decode cX4_lose 33 = .ok (.iastore, 1) := by decide +kernel
theorem dX4_lose_34 : decode cX4_lose 34 = .ok (.iload_n 2, 1) := by decide +kernel
theorem dX4_lose_35 : decode cX4_lose 35 = .ok (.ireturn, 1) := by decide +kernel
set_option maxRecDepth 20000 in
theorem ggX4_put_X4_isSheet : GoodIn wsX4_put wsX4_isSheet := goodIn_r _ [8, 9, 10, 7, 11] (by decide +kernel) (by decide +kernel)
set_option maxRecDepth 20000 in
theorem gX4_put_X4_isSheet : GoodIn wsX4_put (va_wsS RX4 66 yX4_isSheet wsX4_isSheet) := goodIn_app (goodIn_of _ (by decide +kernel)) ggX4_put_X4_isSheet
set_option maxRecDepth 20000 in
theorem ggX4_put_X4_fails : GoodIn wsX4_put wsX4_fails := goodIn_r _ [15, 1, 16, 17, 18, 19, 20, 21, 22, 23, 24, 25, 26, 27, 28, 29, 30, 31, 32, 33, 34, 35, 36, 37, 38, 39] (by decide +kernel) (by decide +kernel)
set_option maxRecDepth 20000 in
theorem gX4_put_X4_fails : GoodIn wsX4_put (wsV RX4 77 RX4 yX4_fails wsX4_fails) := goodIn_app (goodIn_of _ (by decide +kernel)) ggX4_put_X4_fails
set_option maxRecDepth 20000 in
theorem ggX4_put_X4_within : GoodIn wsX4_put wsX4_within := goodIn_r _ [11] (by decide +kernel) (by decide +kernel)
set_option maxRecDepth 20000 in
theorem gX4_put_X4_within : GoodIn wsX4_put (va_wsS RX4 52 yX4_within wsX4_within) := goodIn_app (goodIn_of _ (by decide +kernel)) ggX4_put_X4_within
theorem dX4_put_0 : decode cX4_put 0 = .ok (.aload_n 0, 1) := by decide +kernel
theorem dX4_put_1 : decode cX4_put 1 = .ok (.iconst 0, 1) := by decide +kernel
theorem dX4_put_2 : decode cX4_put 2 = .ok (.putfield 46, 3) := by decide +kernel
theorem dX4_put_5 : decode cX4_put 5 = .ok (.iload_n 1, 1) := by decide +kernel
theorem dX4_put_6 : decode cX4_put 6 = .ok (.invokestatic 66, 3) := by decide +kernel
theorem dX4_put_9 : decode cX4_put 9 = .ok (.ifCond .ne 5, 3) := by decide +kernel
theorem dX4_put_12 : decode cX4_put 12 = .ok (.iconst (-1), 1) := by decide +kernel
theorem dX4_put_13 : decode cX4_put 13 = .ok (.ireturn, 1) := by decide +kernel
theorem dX4_put_14 : decode cX4_put 14 = .ok (.aload_n 0, 1) := by decide +kernel
theorem dX4_put_15 : decode cX4_put 15 = .ok (.getfield 9, 3) := by decide +kernel
theorem dX4_put_18 : decode cX4_put 18 = .ok (.iload_n 1, 1) := by decide +kernel
theorem dX4_put_19 : decode cX4_put 19 = .ok (.iaload, 1) := by decide +kernel
theorem dX4_put_20 : decode cX4_put 20 = .ok (.bipush (-9), 2) := by decide +kernel
theorem dX4_put_22 : decode cX4_put 22 = .ok (.if_icmp .ne 9, 3) := by decide +kernel
theorem dX4_put_25 : decode cX4_put 25 = .ok (.aload_n 0, 1) := by decide +kernel
theorem dX4_put_26 : decode cX4_put 26 = .ok (.iconst 1, 1) := by decide +kernel
theorem dX4_put_27 : decode cX4_put 27 = .ok (.invokevirtual 77, 3) := by decide +kernel
theorem dX4_put_30 : decode cX4_put 30 = .ok (.ireturn, 1) := by decide +kernel
theorem dX4_put_31 : decode cX4_put 31 = .ok (.iload_n 2, 1) := by decide +kernel
theorem dX4_put_32 : decode cX4_put 32 = .ok (.iconst 0, 1) := by decide +kernel
theorem dX4_put_33 : decode cX4_put 33 = .ok (.aload_n 0, 1) := by decide +kernel
theorem dX4_put_34 : decode cX4_put 34 = .ok (.getfield 13, 3) := by decide +kernel
theorem dX4_put_37 : decode cX4_put 37 = .ok (.iload_n 1, 1) := by decide +kernel
theorem dX4_put_38 : decode cX4_put 38 = .ok (.iaload, 1) := by decide +kernel
theorem dX4_put_39 : decode cX4_put 39 = .ok (.iconst 1, 1) := by decide +kernel
theorem dX4_put_40 : decode cX4_put 40 = .ok (.isub, 1) := by decide +kernel
theorem dX4_put_41 : decode cX4_put 41 = .ok (.invokestatic 52, 3) := by decide +kernel
theorem dX4_put_44 : decode cX4_put 44 = .ok (.ifCond .ne 9, 3) := by decide +kernel
theorem dX4_put_47 : decode cX4_put 47 = .ok (.aload_n 0, 1) := by decide +kernel
theorem dX4_put_48 : decode cX4_put 48 = .ok (.iconst 3, 1) := by decide +kernel
theorem dX4_put_49 : decode cX4_put 49 = .ok (.invokevirtual 77, 3) := by decide +kernel
theorem dX4_put_52 : decode cX4_put 52 = .ok (.ireturn, 1) := by decide +kernel
theorem dX4_put_53 : decode cX4_put 53 = .ok (.aload_n 0, 1) := by decide +kernel
theorem dX4_put_54 : decode cX4_put 54 = .ok (.getfield 16, 3) := by decide +kernel
theorem dX4_put_57 : decode cX4_put 57 = .ok (.bipush 60, 2) := by decide +kernel
theorem dX4_put_59 : decode cX4_put 59 = .ok (.iload_n 1, 1) := by decide +kernel
theorem dX4_put_60 : decode cX4_put 60 = .ok (.imul, 1) := by decide +kernel
theorem dX4_put_61 : decode cX4_put 61 = .ok (.iload_n 2, 1) := by decide +kernel
theorem dX4_put_62 : decode cX4_put 62 = .ok (.iadd, 1) := by decide +kernel
theorem dX4_put_63 : decode cX4_put 63 = .ok (.aload_n 0, 1) := by decide +kernel
theorem dX4_put_64 : decode cX4_put 64 = .ok (.getfield 9, 3) := by decide +kernel
theorem dX4_put_67 : decode cX4_put 67 = .ok (.iload_n 1, 1) := by decide +kernel
theorem dX4_put_68 : decode cX4_put 68 = .ok (.iaload, 1) := by decide +kernel
theorem dX4_put_69 : decode cX4_put 69 = .ok (.ifCond .ne 8, 3) := by decide +kernel
theorem dX4_put_72 : decode cX4_put 72 = .ok (.iload_n 3, 1) := by decide +kernel
theorem dX4_put_73 : decode cX4_put 73 = .ok (.i2b, 1) := by decide +kernel
theorem dX4_put_74 : decode cX4_put 74 = .ok (.goto 19, 3) := by decide +kernel
theorem dX4_put_77 : decode cX4_put 77 = .ok (.aload_n 0, 1) := by decide +kernel
theorem dX4_put_78 : decode cX4_put 78 = .ok (.getfield 9, 3) := by decide +kernel
theorem dX4_put_81 : decode cX4_put 81 = .ok (.iload_n 1, 1) := by decide +kernel
theorem dX4_put_82 : decode cX4_put 82 = .ok (.iaload, 1) := by decide +kernel
theorem dX4_put_83 : decode cX4_put 83 = .ok (.iconst 1, 1) := by decide +kernel
theorem dX4_put_84 : decode cX4_put 84 = .ok (.if_icmp .ne 8, 3) := by decide +kernel
theorem dX4_put_87 : decode cX4_put 87 = .ok (.iload_n 3, 1) := by decide +kernel
theorem dX4_put_88 : decode cX4_put 88 = .ok (.i2s, 1) := by decide +kernel
theorem dX4_put_89 : decode cX4_put 89 = .ok (.goto 4, 3) := by decide +kernel
theorem dX4_put_92 : decode cX4_put 92 = .ok (.iload_n 3, 1) := by decide +kernel
theorem dX4_put_93 : decode cX4_put 93 = .ok (.iastore, 1) := by decide +kernel
theorem dX4_put_94 : decode cX4_put 94 = .ok (.iconst 1, 1) := by decide +kernel
theorem dX4_put_95 : decode cX4_put 95 = .ok (.ireturn, 1) := by decide +kernel
set_option maxRecDepth 20000 in
theorem ggX4_cell_X4_isSheet : GoodIn wsX4_cell wsX4_isSheet := goodIn_r _ [9, 10, 11, 8, 12] (by decide +kernel) (by decide +kernel)
set_option maxRecDepth 20000 in
theorem gX4_cell_X4_isSheet : GoodIn wsX4_cell (va_wsS RX4 66 yX4_isSheet wsX4_isSheet) := goodIn_app (goodIn_of _ (by decide +kernel)) ggX4_cell_X4_isSheet
set_option maxRecDepth 20000 in
theorem ggX4_cell_X4_isSort : GoodIn wsX4_cell wsX4_isSort := goodIn_r _ [15, 10, 11, 8, 12] (by decide +kernel) (by decide +kernel)
set_option maxRecDepth 20000 in
theorem gX4_cell_X4_isSort : GoodIn wsX4_cell (va_wsS RX4 70 yX4_isSort wsX4_isSort) := goodIn_app (goodIn_of _ (by decide +kernel)) ggX4_cell_X4_isSort
set_option maxRecDepth 20000 in
theorem ggX4_cell_X4_lost : GoodIn wsX4_cell wsX4_lost := goodIn_r _ [19, 1, 2, 20, 21, 22, 23, 24, 25, 26, 27, 28, 29, 30, 31, 32, 33, 34, 35, 36, 37, 38, 39, 40, 41, 42, 43] (by decide +kernel) (by decide +kernel)
set_option maxRecDepth 20000 in
theorem gX4_cell_X4_lost : GoodIn wsX4_cell (wsV RX4 191 RX4 yX4_lost wsX4_lost) := goodIn_app (goodIn_of _ (by decide +kernel)) ggX4_cell_X4_lost
set_option maxRecDepth 20000 in
theorem ggX4_cell_X4_within : GoodIn wsX4_cell wsX4_within := goodIn_r _ [12] (by decide +kernel) (by decide +kernel)
set_option maxRecDepth 20000 in
theorem gX4_cell_X4_within : GoodIn wsX4_cell (va_wsS RX4 52 yX4_within wsX4_within) := goodIn_app (goodIn_of _ (by decide +kernel)) ggX4_cell_X4_within
theorem dX4_cell_0 : decode cX4_cell 0 = .ok (.aload_n 0, 1) := by decide +kernel
theorem dX4_cell_1 : decode cX4_cell 1 = .ok (.iconst 0, 1) := by decide +kernel
theorem dX4_cell_2 : decode cX4_cell 2 = .ok (.putfield 46, 3) := by decide +kernel
theorem dX4_cell_5 : decode cX4_cell 5 = .ok (.iload_n 1, 1) := by decide +kernel
theorem dX4_cell_6 : decode cX4_cell 6 = .ok (.invokestatic 66, 3) := by decide +kernel
theorem dX4_cell_9 : decode cX4_cell 9 = .ok (.ifCond .eq 10, 3) := by decide +kernel
theorem dX4_cell_12 : decode cX4_cell 12 = .ok (.iload_n 3, 1) := by decide +kernel
theorem dX4_cell_13 : decode cX4_cell 13 = .ok (.invokestatic 70, 3) := by decide +kernel
theorem dX4_cell_16 : decode cX4_cell 16 = .ok (.ifCond .ne 7, 3) := by decide +kernel
theorem dX4_cell_19 : decode cX4_cell 19 = .ok (.ldc2_w 50, 3) := by decide +kernel
theorem dX4_cell_22 : decode cX4_cell 22 = .ok (.lreturn, 1) := by decide +kernel
theorem dX4_cell_23 : decode cX4_cell 23 = .ok (.aload_n 0, 1) := by decide +kernel
theorem dX4_cell_24 : decode cX4_cell 24 = .ok (.getfield 9, 3) := by decide +kernel
theorem dX4_cell_27 : decode cX4_cell 27 = .ok (.iload_n 1, 1) := by decide +kernel
theorem dX4_cell_28 : decode cX4_cell 28 = .ok (.iaload, 1) := by decide +kernel
theorem dX4_cell_29 : decode cX4_cell 29 = .ok (.bipush (-9), 2) := by decide +kernel
theorem dX4_cell_31 : decode cX4_cell 31 = .ok (.if_icmp .eq 19, 3) := by decide +kernel
theorem dX4_cell_34 : decode cX4_cell 34 = .ok (.aload_n 0, 1) := by decide +kernel
theorem dX4_cell_35 : decode cX4_cell 35 = .ok (.getfield 9, 3) := by decide +kernel
theorem dX4_cell_38 : decode cX4_cell 38 = .ok (.iload_n 1, 1) := by decide +kernel
theorem dX4_cell_39 : decode cX4_cell 39 = .ok (.iaload, 1) := by decide +kernel
theorem dX4_cell_40 : decode cX4_cell 40 = .ok (.iload_n 3, 1) := by decide +kernel
theorem dX4_cell_41 : decode cX4_cell 41 = .ok (.if_icmp .eq 9, 3) := by decide +kernel
theorem dX4_cell_44 : decode cX4_cell 44 = .ok (.aload_n 0, 1) := by decide +kernel
theorem dX4_cell_45 : decode cX4_cell 45 = .ok (.iconst 2, 1) := by decide +kernel
theorem dX4_cell_46 : decode cX4_cell 46 = .ok (.invokevirtual 191, 3) := by decide +kernel
theorem dX4_cell_49 : decode cX4_cell 49 = .ok (.lreturn, 1) := by decide +kernel
theorem dX4_cell_50 : decode cX4_cell 50 = .ok (.aload_n 0, 1) := by decide +kernel
theorem dX4_cell_51 : decode cX4_cell 51 = .ok (.getfield 9, 3) := by decide +kernel
theorem dX4_cell_54 : decode cX4_cell 54 = .ok (.iload_n 1, 1) := by decide +kernel
theorem dX4_cell_55 : decode cX4_cell 55 = .ok (.iaload, 1) := by decide +kernel
theorem dX4_cell_56 : decode cX4_cell 56 = .ok (.bipush (-9), 2) := by decide +kernel
theorem dX4_cell_58 : decode cX4_cell 58 = .ok (.if_icmp .ne 9, 3) := by decide +kernel
theorem dX4_cell_61 : decode cX4_cell 61 = .ok (.aload_n 0, 1) := by decide +kernel
theorem dX4_cell_62 : decode cX4_cell 62 = .ok (.iconst 1, 1) := by decide +kernel
theorem dX4_cell_63 : decode cX4_cell 63 = .ok (.invokevirtual 191, 3) := by decide +kernel
theorem dX4_cell_66 : decode cX4_cell 66 = .ok (.lreturn, 1) := by decide +kernel
theorem dX4_cell_67 : decode cX4_cell 67 = .ok (.iload_n 2, 1) := by decide +kernel
theorem dX4_cell_68 : decode cX4_cell 68 = .ok (.iconst 0, 1) := by decide +kernel
theorem dX4_cell_69 : decode cX4_cell 69 = .ok (.aload_n 0, 1) := by decide +kernel
theorem dX4_cell_70 : decode cX4_cell 70 = .ok (.getfield 13, 3) := by decide +kernel
theorem dX4_cell_73 : decode cX4_cell 73 = .ok (.iload_n 1, 1) := by decide +kernel
theorem dX4_cell_74 : decode cX4_cell 74 = .ok (.iaload, 1) := by decide +kernel
theorem dX4_cell_75 : decode cX4_cell 75 = .ok (.iconst 1, 1) := by decide +kernel
theorem dX4_cell_76 : decode cX4_cell 76 = .ok (.isub, 1) := by decide +kernel
theorem dX4_cell_77 : decode cX4_cell 77 = .ok (.invokestatic 52, 3) := by decide +kernel
theorem dX4_cell_80 : decode cX4_cell 80 = .ok (.ifCond .ne 9, 3) := by decide +kernel
theorem dX4_cell_83 : decode cX4_cell 83 = .ok (.aload_n 0, 1) := by decide +kernel
theorem dX4_cell_84 : decode cX4_cell 84 = .ok (.iconst 3, 1) := by decide +kernel
theorem dX4_cell_85 : decode cX4_cell 85 = .ok (.invokevirtual 191, 3) := by decide +kernel
theorem dX4_cell_88 : decode cX4_cell 88 = .ok (.lreturn, 1) := by decide +kernel
theorem dX4_cell_89 : decode cX4_cell 89 = .ok (.aload_n 0, 1) := by decide +kernel
theorem dX4_cell_90 : decode cX4_cell 90 = .ok (.getfield 16, 3) := by decide +kernel
theorem dX4_cell_93 : decode cX4_cell 93 = .ok (.bipush 60, 2) := by decide +kernel
theorem dX4_cell_95 : decode cX4_cell 95 = .ok (.iload_n 1, 1) := by decide +kernel
theorem dX4_cell_96 : decode cX4_cell 96 = .ok (.imul, 1) := by decide +kernel
theorem dX4_cell_97 : decode cX4_cell 97 = .ok (.iload_n 2, 1) := by decide +kernel
theorem dX4_cell_98 : decode cX4_cell 98 = .ok (.iadd, 1) := by decide +kernel
theorem dX4_cell_99 : decode cX4_cell 99 = .ok (.iaload, 1) := by decide +kernel
theorem dX4_cell_100 : decode cX4_cell 100 = .ok (.i2l, 1) := by decide +kernel
theorem dX4_cell_101 : decode cX4_cell 101 = .ok (.lreturn, 1) := by decide +kernel
set_option maxRecDepth 20000 in
theorem ggX4_copy_X4_isSheet : GoodIn wsX4_copy wsX4_isSheet := goodIn_r _ [8, 9, 10, 7, 11] (by decide +kernel) (by decide +kernel)
set_option maxRecDepth 20000 in
theorem gX4_copy_X4_isSheet : GoodIn wsX4_copy (va_wsS RX4 66 yX4_isSheet wsX4_isSheet) := goodIn_app (goodIn_of _ (by decide +kernel)) ggX4_copy_X4_isSheet
set_option maxRecDepth 20000 in
theorem ggX4_copy_X4_fails : GoodIn wsX4_copy wsX4_fails := goodIn_r _ [15, 1, 16, 17, 18, 19, 20, 21, 22, 23, 24, 25, 26, 27, 28, 29, 30, 31, 32, 33, 34, 35, 36, 37, 38, 39] (by decide +kernel) (by decide +kernel)
set_option maxRecDepth 20000 in
theorem gX4_copy_X4_fails : GoodIn wsX4_copy (wsV RX4 77 RX4 yX4_fails wsX4_fails) := goodIn_app (goodIn_of _ (by decide +kernel)) ggX4_copy_X4_fails
theorem dX4_copy_0 : decode cX4_copy 0 = .ok (.aload_n 0, 1) := by decide +kernel
theorem dX4_copy_1 : decode cX4_copy 1 = .ok (.iconst 0, 1) := by decide +kernel
theorem dX4_copy_2 : decode cX4_copy 2 = .ok (.putfield 46, 3) := by decide +kernel
theorem dX4_copy_5 : decode cX4_copy 5 = .ok (.iload_n 1, 1) := by decide +kernel
theorem dX4_copy_6 : decode cX4_copy 6 = .ok (.invokestatic 66, 3) := by decide +kernel
theorem dX4_copy_9 : decode cX4_copy 9 = .ok (.ifCond .eq 10, 3) := by decide +kernel
theorem dX4_copy_12 : decode cX4_copy 12 = .ok (.iload_n 3, 1) := by decide +kernel
theorem dX4_copy_13 : decode cX4_copy 13 = .ok (.invokestatic 66, 3) := by decide +kernel
theorem dX4_copy_16 : decode cX4_copy 16 = .ok (.ifCond .ne 5, 3) := by decide +kernel
theorem dX4_copy_19 : decode cX4_copy 19 = .ok (.iconst (-1), 1) := by decide +kernel
theorem dX4_copy_20 : decode cX4_copy 20 = .ok (.ireturn, 1) := by decide +kernel
theorem dX4_copy_21 : decode cX4_copy 21 = .ok (.aload_n 0, 1) := by decide +kernel
theorem dX4_copy_22 : decode cX4_copy 22 = .ok (.getfield 9, 3) := by decide +kernel
theorem dX4_copy_25 : decode cX4_copy 25 = .ok (.iload_n 1, 1) := by decide +kernel
theorem dX4_copy_26 : decode cX4_copy 26 = .ok (.iaload, 1) := by decide +kernel
theorem dX4_copy_27 : decode cX4_copy 27 = .ok (.bipush (-9), 2) := by decide +kernel
theorem dX4_copy_29 : decode cX4_copy 29 = .ok (.if_icmp .eq 14, 3) := by decide +kernel
theorem dX4_copy_32 : decode cX4_copy 32 = .ok (.aload_n 0, 1) := by decide +kernel
theorem dX4_copy_33 : decode cX4_copy 33 = .ok (.getfield 9, 3) := by decide +kernel
theorem dX4_copy_36 : decode cX4_copy 36 = .ok (.iload_n 3, 1) := by decide +kernel
theorem dX4_copy_37 : decode cX4_copy 37 = .ok (.iaload, 1) := by decide +kernel
theorem dX4_copy_38 : decode cX4_copy 38 = .ok (.bipush (-9), 2) := by decide +kernel
theorem dX4_copy_40 : decode cX4_copy 40 = .ok (.if_icmp .ne 9, 3) := by decide +kernel
theorem dX4_copy_43 : decode cX4_copy 43 = .ok (.aload_n 0, 1) := by decide +kernel
theorem dX4_copy_44 : decode cX4_copy 44 = .ok (.iconst 1, 1) := by decide +kernel
theorem dX4_copy_45 : decode cX4_copy 45 = .ok (.invokevirtual 77, 3) := by decide +kernel
theorem dX4_copy_48 : decode cX4_copy 48 = .ok (.ireturn, 1) := by decide +kernel
theorem dX4_copy_49 : decode cX4_copy 49 = .ok (.aload_n 0, 1) := by decide +kernel
theorem dX4_copy_50 : decode cX4_copy 50 = .ok (.getfield 9, 3) := by decide +kernel
theorem dX4_copy_53 : decode cX4_copy 53 = .ok (.iload_n 1, 1) := by decide +kernel
theorem dX4_copy_54 : decode cX4_copy 54 = .ok (.iaload, 1) := by decide +kernel
theorem dX4_copy_55 : decode cX4_copy 55 = .ok (.aload_n 0, 1) := by decide +kernel
theorem dX4_copy_56 : decode cX4_copy 56 = .ok (.getfield 9, 3) := by decide +kernel
theorem dX4_copy_59 : decode cX4_copy 59 = .ok (.iload_n 3, 1) := by decide +kernel
theorem dX4_copy_60 : decode cX4_copy 60 = .ok (.iaload, 1) := by decide +kernel
theorem dX4_copy_61 : decode cX4_copy 61 = .ok (.if_icmp .eq 9, 3) := by decide +kernel
theorem dX4_copy_64 : decode cX4_copy 64 = .ok (.aload_n 0, 1) := by decide +kernel
theorem dX4_copy_65 : decode cX4_copy 65 = .ok (.iconst 2, 1) := by decide +kernel
theorem dX4_copy_66 : decode cX4_copy 66 = .ok (.invokevirtual 77, 3) := by decide +kernel
theorem dX4_copy_69 : decode cX4_copy 69 = .ok (.ireturn, 1) := by decide +kernel
theorem dX4_copy_70 : decode cX4_copy 70 = .ok (.iload_n 2, 1) := by decide +kernel
theorem dX4_copy_71 : decode cX4_copy 71 = .ok (.ifCond .lt 38, 3) := by decide +kernel
theorem dX4_copy_74 : decode cX4_copy 74 = .ok (.iload 4, 2) := by decide +kernel
theorem dX4_copy_76 : decode cX4_copy 76 = .ok (.ifCond .lt 33, 3) := by decide +kernel
theorem dX4_copy_79 : decode cX4_copy 79 = .ok (.iload 5, 2) := by decide +kernel
theorem dX4_copy_81 : decode cX4_copy 81 = .ok (.ifCond .lt 28, 3) := by decide +kernel
theorem dX4_copy_84 : decode cX4_copy 84 = .ok (.iload_n 2, 1) := by decide +kernel
theorem dX4_copy_85 : decode cX4_copy 85 = .ok (.aload_n 0, 1) := by decide +kernel
theorem dX4_copy_86 : decode cX4_copy 86 = .ok (.getfield 13, 3) := by decide +kernel
theorem dX4_copy_89 : decode cX4_copy 89 = .ok (.iload_n 1, 1) := by decide +kernel
theorem dX4_copy_90 : decode cX4_copy 90 = .ok (.iaload, 1) := by decide +kernel
theorem dX4_copy_91 : decode cX4_copy 91 = .ok (.if_icmp .gt 18, 3) := by decide +kernel
theorem dX4_copy_94 : decode cX4_copy 94 = .ok (.iload 4, 2) := by decide +kernel
theorem dX4_copy_96 : decode cX4_copy 96 = .ok (.aload_n 0, 1) := by decide +kernel
theorem dX4_copy_97 : decode cX4_copy 97 = .ok (.getfield 13, 3) := by decide +kernel
theorem dX4_copy_100 : decode cX4_copy 100 = .ok (.iload_n 3, 1) := by decide +kernel
theorem dX4_copy_101 : decode cX4_copy 101 = .ok (.iaload, 1) := by decide +kernel
theorem dX4_copy_102 : decode cX4_copy 102 = .ok (.if_icmp .gt 7, 3) := by decide +kernel
theorem dX4_copy_105 : decode cX4_copy 105 = .ok (.iconst 1, 1) := by decide +kernel
theorem dX4_copy_106 : decode cX4_copy 106 = .ok (.goto 4, 3) := by decide +kernel
theorem dX4_copy_109 : decode cX4_copy 109 = .ok (.iconst 0, 1) := by decide +kernel
theorem dX4_copy_110 : decode cX4_copy 110 = .ok (.istore 6, 2) := by decide +kernel
theorem dX4_copy_112 : decode cX4_copy 112 = .ok (.iload 6, 2) := by decide +kernel
theorem dX4_copy_114 : decode cX4_copy 114 = .ok (.ifCond .eq 30, 3) := by decide +kernel
theorem dX4_copy_117 : decode cX4_copy 117 = .ok (.iload 5, 2) := by decide +kernel
theorem dX4_copy_119 : decode cX4_copy 119 = .ok (.aload_n 0, 1) := by decide +kernel
theorem dX4_copy_120 : decode cX4_copy 120 = .ok (.getfield 13, 3) := by decide +kernel
theorem dX4_copy_123 : decode cX4_copy 123 = .ok (.iload_n 1, 1) := by decide +kernel
theorem dX4_copy_124 : decode cX4_copy 124 = .ok (.iaload, 1) := by decide +kernel
theorem dX4_copy_125 : decode cX4_copy 125 = .ok (.iload_n 2, 1) := by decide +kernel
theorem dX4_copy_126 : decode cX4_copy 126 = .ok (.isub, 1) := by decide +kernel
theorem dX4_copy_127 : decode cX4_copy 127 = .ok (.if_icmp .gt 17, 3) := by decide +kernel
theorem dX4_copy_130 : decode cX4_copy 130 = .ok (.iload 5, 2) := by decide +kernel
theorem dX4_copy_132 : decode cX4_copy 132 = .ok (.aload_n 0, 1) := by decide +kernel
theorem dX4_copy_133 : decode cX4_copy 133 = .ok (.getfield 13, 3) := by decide +kernel
theorem dX4_copy_136 : decode cX4_copy 136 = .ok (.iload_n 3, 1) := by decide +kernel
theorem dX4_copy_137 : decode cX4_copy 137 = .ok (.iaload, 1) := by decide +kernel
theorem dX4_copy_138 : decode cX4_copy 138 = .ok (.iload 4, 2) := by decide +kernel
theorem dX4_copy_140 : decode cX4_copy 140 = .ok (.isub, 1) := by decide +kernel
theorem dX4_copy_141 : decode cX4_copy 141 = .ok (.if_icmp .le 9, 3) := by decide +kernel
theorem dX4_copy_144 : decode cX4_copy 144 = .ok (.aload_n 0, 1) := by decide +kernel
theorem dX4_copy_145 : decode cX4_copy 145 = .ok (.iconst 3, 1) := by decide +kernel
theorem dX4_copy_146 : decode cX4_copy 146 = .ok (.invokevirtual 77, 3) := by decide +kernel
theorem dX4_copy_149 : decode cX4_copy 149 = .ok (.ireturn, 1) := by decide +kernel
theorem dX4_copy_150 : decode cX4_copy 150 = .ok (.iload_n 2, 1) := by decide +kernel
theorem dX4_copy_151 : decode cX4_copy 151 = .ok (.iload 4, 2) := by decide +kernel
theorem dX4_copy_153 : decode cX4_copy 153 = .ok (.if_icmp .ge 7, 3) := by decide +kernel
theorem dX4_copy_156 : decode cX4_copy 156 = .ok (.iconst 1, 1) := by decide +kernel
theorem dX4_copy_157 : decode cX4_copy 157 = .ok (.goto 4, 3) := by decide +kernel
theorem dX4_copy_160 : decode cX4_copy 160 = .ok (.iconst 0, 1) := by decide +kernel
theorem dX4_copy_161 : decode cX4_copy 161 = .ok (.istore 7, 2) := by decide +kernel
theorem dX4_copy_163 : decode cX4_copy 163 = .ok (.iconst 0, 1) := by decide +kernel
theorem dX4_copy_164 : decode cX4_copy 164 = .ok (.istore 8, 2) := by decide +kernel
theorem dX4_copy_166 : decode cX4_copy 166 = .ok (.iload 8, 2) := by decide +kernel
theorem dX4_copy_168 : decode cX4_copy 168 = .ok (.iload 5, 2) := by decide +kernel
theorem dX4_copy_170 : decode cX4_copy 170 = .ok (.if_icmp .ge 57, 3) := by decide +kernel
theorem dX4_copy_173 : decode cX4_copy 173 = .ok (.iload 7, 2) := by decide +kernel
theorem dX4_copy_175 : decode cX4_copy 175 = .ok (.ifCond .eq 13, 3) := by decide +kernel
theorem dX4_copy_178 : decode cX4_copy 178 = .ok (.iload 5, 2) := by decide +kernel
theorem dX4_copy_180 : decode cX4_copy 180 = .ok (.iconst 1, 1) := by decide +kernel
theorem dX4_copy_181 : decode cX4_copy 181 = .ok (.isub, 1) := by decide +kernel
theorem dX4_copy_182 : decode cX4_copy 182 = .ok (.iload 8, 2) := by decide +kernel
theorem dX4_copy_184 : decode cX4_copy 184 = .ok (.isub, 1) := by decide +kernel
theorem dX4_copy_185 : decode cX4_copy 185 = .ok (.goto 5, 3) := by decide +kernel
theorem dX4_copy_188 : decode cX4_copy 188 = .ok (.iload 8, 2) := by decide +kernel
theorem dX4_copy_190 : decode cX4_copy 190 = .ok (.istore 9, 2) := by decide +kernel
theorem dX4_copy_192 : decode cX4_copy 192 = .ok (.aload_n 0, 1) := by decide +kernel
theorem dX4_copy_193 : decode cX4_copy 193 = .ok (.getfield 16, 3) := by decide +kernel
theorem dX4_copy_196 : decode cX4_copy 196 = .ok (.bipush 60, 2) := by decide +kernel
theorem dX4_copy_198 : decode cX4_copy 198 = .ok (.iload_n 3, 1) := by decide +kernel
theorem dX4_copy_199 : decode cX4_copy 199 = .ok (.imul, 1) := by decide +kernel
theorem dX4_copy_200 : decode cX4_copy 200 = .ok (.iload 4, 2) := by decide +kernel
theorem dX4_copy_202 : decode cX4_copy 202 = .ok (.iadd, 1) := by decide +kernel
theorem dX4_copy_203 : decode cX4_copy 203 = .ok (.iload 9, 2) := by decide +kernel
theorem dX4_copy_205 : decode cX4_copy 205 = .ok (.iadd, 1) := by decide +kernel
theorem dX4_copy_206 : decode cX4_copy 206 = .ok (.aload_n 0, 1) := by decide +kernel
theorem dX4_copy_207 : decode cX4_copy 207 = .ok (.getfield 16, 3) := by decide +kernel
theorem dX4_copy_210 : decode cX4_copy 210 = .ok (.bipush 60, 2) := by decide +kernel
theorem dX4_copy_212 : decode cX4_copy 212 = .ok (.iload_n 1, 1) := by decide +kernel
theorem dX4_copy_213 : decode cX4_copy 213 = .ok (.imul, 1) := by decide +kernel
theorem dX4_copy_214 : decode cX4_copy 214 = .ok (.iload_n 2, 1) := by decide +kernel
theorem dX4_copy_215 : decode cX4_copy 215 = .ok (.iadd, 1) := by decide +kernel
theorem dX4_copy_216 : decode cX4_copy 216 = .ok (.iload 9, 2) := by decide +kernel
theorem dX4_copy_218 : decode cX4_copy 218 = .ok (.iadd, 1) := by decide +kernel
theorem dX4_copy_219 : decode cX4_copy 219 = .ok (.iaload, 1) := by decide +kernel
theorem dX4_copy_220 : decode cX4_copy 220 = .ok (.iastore, 1) := by decide +kernel
theorem dX4_copy_221 : decode cX4_copy 221 = .ok (.iinc 8 1, 3) := by decide +kernel
theorem dX4_copy_224 : decode cX4_copy 224 = .ok (.goto (-58), 3) := by decide +kernel
theorem dX4_copy_227 : decode cX4_copy 227 = .ok (.iload 5, 2) := by decide +kernel
theorem dX4_copy_229 : decode cX4_copy 229 = .ok (.ireturn, 1) := by decide +kernel
theorem dX4_begins_0 : decode cX4_begins 0 = .ok (.aload_n 0, 1) := by decide +kernel
theorem dX4_begins_1 : decode cX4_begins 1 = .ok (.bipush 31, 2) := by decide +kernel
theorem dX4_begins_3 : decode cX4_begins 3 = .ok (.aload_n 0, 1) := by decide +kernel
theorem dX4_begins_4 : decode cX4_begins 4 = .ok (.getfield 194, 3) := by decide +kernel
theorem dX4_begins_7 : decode cX4_begins 7 = .ok (.imul, 1) := by decide +kernel
theorem dX4_begins_8 : decode cX4_begins 8 = .ok (.iload_n 1, 1) := by decide +kernel
theorem dX4_begins_9 : decode cX4_begins 9 = .ok (.iadd, 1) := by decide +kernel
theorem dX4_begins_10 : decode cX4_begins 10 = .ok (.putfield 194, 3) := by decide +kernel
theorem dX4_begins_13 : decode cX4_begins 13 = .ok (.return_, 1) := by decide +kernel
set_option maxRecDepth 20000 in
theorem ggX4_tell_X4_isPerson : GoodIn wsX4_tell wsX4_isPerson := goodIn_r _ [7, 8, 14, 15, 16, 17, 18, 19, 20, 21, 22, 23, 24, 25, 26, 27, 28, 29, 30, 31, 32, 33, 34, 35, 36, 37] (by decide +kernel) (by decide +kernel)
set_option maxRecDepth 20000 in
theorem gX4_tell_X4_isPerson : GoodIn wsX4_tell (wsV RX4 116 RX4 yX4_isPerson wsX4_isPerson) := goodIn_app (goodIn_of _ (by decide +kernel)) ggX4_tell_X4_isPerson
set_option maxRecDepth 20000 in
theorem ggX4_tell_X4_begins : GoodIn wsX4_tell wsX4_begins := goodIn_r _ [12, 13, 14, 15, 16, 17, 18, 19, 20, 21, 22, 23, 24, 25, 26, 27, 28, 29, 30, 31, 32, 33, 34, 35, 36, 37] (by decide +kernel) (by decide +kernel)
set_option maxRecDepth 20000 in
theorem gX4_tell_X4_begins : GoodIn wsX4_tell (wsV RX4 197 RX4 yX4_begins wsX4_begins) := goodIn_app (goodIn_of _ (by decide +kernel)) ggX4_tell_X4_begins
theorem dX4_tell_0 : decode cX4_tell 0 = .ok (.aload_n 0, 1) := by decide +kernel
theorem dX4_tell_1 : decode cX4_tell 1 = .ok (.iload_n 1, 1) := by decide +kernel
theorem dX4_tell_2 : decode cX4_tell 2 = .ok (.invokevirtual 116, 3) := by decide +kernel
theorem dX4_tell_5 : decode cX4_tell 5 = .ok (.ifCond .ne 5, 3) := by decide +kernel
theorem dX4_tell_8 : decode cX4_tell 8 = .ok (.iconst (-1), 1) := by decide +kernel
theorem dX4_tell_9 : decode cX4_tell 9 = .ok (.ireturn, 1) := by decide +kernel
theorem dX4_tell_10 : decode cX4_tell 10 = .ok (.aload_n 0, 1) := by decide +kernel
theorem dX4_tell_11 : decode cX4_tell 11 = .ok (.getfield 25, 3) := by decide +kernel
theorem dX4_tell_14 : decode cX4_tell 14 = .ok (.iload_n 1, 1) := by decide +kernel
theorem dX4_tell_15 : decode cX4_tell 15 = .ok (.iaload, 1) := by decide +kernel
theorem dX4_tell_16 : decode cX4_tell 16 = .ok (.istore_n 2, 1) := by decide +kernel
theorem dX4_tell_17 : decode cX4_tell 17 = .ok (.aload_n 0, 1) := by decide +kernel
theorem dX4_tell_18 : decode cX4_tell 18 = .ok (.getfield 19, 3) := by decide +kernel
theorem dX4_tell_21 : decode cX4_tell 21 = .ok (.iload_n 1, 1) := by decide +kernel
theorem dX4_tell_22 : decode cX4_tell 22 = .ok (.iaload, 1) := by decide +kernel
theorem dX4_tell_23 : decode cX4_tell 23 = .ok (.lookupswitch 67 #[(1, 25), (2, 40)], 25) := by decide +kernel
theorem dX4_tell_48 : decode cX4_tell 48 = .ok (.aload_n 0, 1) := by decide +kernel
theorem dX4_tell_49 : decode cX4_tell 49 = .ok (.iconst 2, 1) := by decide +kernel
theorem dX4_tell_50 : decode cX4_tell 50 = .ok (.invokevirtual 197, 3) := by decide +kernel
theorem dX4_tell_53 : decode cX4_tell 53 = .ok (.aload_n 0, 1) := by decide +kernel
theorem dX4_tell_54 : decode cX4_tell 54 = .ok (.iconst 1, 1) := by decide +kernel
theorem dX4_tell_55 : decode cX4_tell 55 = .ok (.invokevirtual 197, 3) := by decide +kernel
theorem dX4_tell_58 : decode cX4_tell 58 = .ok (.iload_n 2, 1) := by decide +kernel
theorem dX4_tell_59 : decode cX4_tell 59 = .ok (.bipush 100, 2) := by decide +kernel
theorem dX4_tell_61 : decode cX4_tell 61 = .ok (.iadd, 1) := by decide +kernel
theorem dX4_tell_62 : decode cX4_tell 62 = .ok (.ireturn, 1) := by decide +kernel
theorem dX4_tell_63 : decode cX4_tell 63 = .ok (.aload_n 0, 1) := by decide +kernel
theorem dX4_tell_64 : decode cX4_tell 64 = .ok (.iconst 3, 1) := by decide +kernel
theorem dX4_tell_65 : decode cX4_tell 65 = .ok (.invokevirtual 197, 3) := by decide +kernel
theorem dX4_tell_68 : decode cX4_tell 68 = .ok (.aload_n 0, 1) := by decide +kernel
theorem dX4_tell_69 : decode cX4_tell 69 = .ok (.iconst 2, 1) := by decide +kernel
theorem dX4_tell_70 : decode cX4_tell 70 = .ok (.invokevirtual 197, 3) := by decide +kernel
theorem dX4_tell_73 : decode cX4_tell 73 = .ok (.aload_n 0, 1) := by decide +kernel
theorem dX4_tell_74 : decode cX4_tell 74 = .ok (.iconst 1, 1) := by decide +kernel
theorem dX4_tell_75 : decode cX4_tell 75 = .ok (.invokevirtual 197, 3) := by decide +kernel
theorem dX4_tell_78 : decode cX4_tell 78 = .ok (.aload_n 0, 1) := by decide +kernel
theorem dX4_tell_79 : decode cX4_tell 79 = .ok (.iconst 1, 1) := by decide +kernel
theorem dX4_tell_80 : decode cX4_tell 80 = .ok (.invokevirtual 197, 3) := by decide +kernel
theorem dX4_tell_83 : decode cX4_tell 83 = .ok (.iconst 2, 1) := by decide +kernel
theorem dX4_tell_84 : decode cX4_tell 84 = .ok (.iload_n 2, 1) := by decide +kernel
theorem dX4_tell_85 : decode cX4_tell 85 = .ok (.imul, 1) := by decide +kernel
theorem dX4_tell_86 : decode cX4_tell 86 = .ok (.bipush 100, 2) := by decide +kernel
theorem dX4_tell_88 : decode cX4_tell 88 = .ok (.iadd, 1) := by decide +kernel
theorem dX4_tell_89 : decode cX4_tell 89 = .ok (.ireturn, 1) := by decide +kernel
theorem dX4_tell_90 : decode cX4_tell 90 = .ok (.aload_n 0, 1) := by decide +kernel
theorem dX4_tell_91 : decode cX4_tell 91 = .ok (.iconst 1, 1) := by decide +kernel
theorem dX4_tell_92 : decode cX4_tell 92 = .ok (.invokevirtual 197, 3) := by decide +kernel
theorem dX4_tell_95 : decode cX4_tell 95 = .ok (.iload_n 2, 1) := by decide +kernel
theorem dX4_tell_96 : decode cX4_tell 96 = .ok (.ireturn, 1) := by decide +kernel
set_option maxRecDepth 20000 in
theorem ggX4_call_X4_isPerson : GoodIn wsX4_call wsX4_isPerson := goodIn_r _ [6, 7, 13, 14, 15, 16, 17, 18, 19, 20, 21, 22, 23, 24, 25, 26, 27, 28, 29, 30, 31, 32, 33, 34, 35, 36] (by decide +kernel) (by decide +kernel)
set_option maxRecDepth 20000 in
theorem gX4_call_X4_isPerson : GoodIn wsX4_call (wsV RX4 116 RX4 yX4_isPerson wsX4_isPerson) := goodIn_app (goodIn_of _ (by decide +kernel)) ggX4_call_X4_isPerson
set_option maxRecDepth 20000 in
theorem ggX4_call_X4_begins : GoodIn wsX4_call wsX4_begins := goodIn_r _ [11, 12, 13, 14, 15, 16, 17, 18, 19, 20, 21, 22, 23, 24, 25, 26, 27, 28, 29, 30, 31, 32, 33, 34, 35, 36] (by decide +kernel) (by decide +kernel)
set_option maxRecDepth 20000 in
theorem gX4_call_X4_begins : GoodIn wsX4_call (wsV RX4 197 RX4 yX4_begins wsX4_begins) := goodIn_app (goodIn_of _ (by decide +kernel)) ggX4_call_X4_begins
theorem dX4_call_0 : decode cX4_call 0 = .ok (.aload_n 0, 1) := by decide +kernel
theorem dX4_call_1 : decode cX4_call 1 = .ok (.iload_n 1, 1) := by decide +kernel
theorem dX4_call_2 : decode cX4_call 2 = .ok (.invokevirtual 116, 3) := by decide +kernel
theorem dX4_call_5 : decode cX4_call 5 = .ok (.ifCond .ne 5, 3) := by decide +kernel
theorem dX4_call_8 : decode cX4_call 8 = .ok (.iconst (-1), 1) := by decide +kernel
theorem dX4_call_9 : decode cX4_call 9 = .ok (.ireturn, 1) := by decide +kernel
theorem dX4_call_10 : decode cX4_call 10 = .ok (.aload_n 0, 1) := by decide +kernel
theorem dX4_call_11 : decode cX4_call 11 = .ok (.aload_n 0, 1) := by decide +kernel
theorem dX4_call_12 : decode cX4_call 12 = .ok (.getfield 19, 3) := by decide +kernel
theorem dX4_call_15 : decode cX4_call 15 = .ok (.iload_n 1, 1) := by decide +kernel
theorem dX4_call_16 : decode cX4_call 16 = .ok (.iaload, 1) := by decide +kernel
theorem dX4_call_17 : decode cX4_call 17 = .ok (.iconst 2, 1) := by decide +kernel
theorem dX4_call_18 : decode cX4_call 18 = .ok (.if_icmp .ne 7, 3) := by decide +kernel
theorem dX4_call_21 : decode cX4_call 21 = .ok (.iconst 5, 1) := by decide +kernel
theorem dX4_call_22 : decode cX4_call 22 = .ok (.goto 4, 3) := by decide +kernel
theorem dX4_call_25 : decode cX4_call 25 = .ok (.iconst 4, 1) := by decide +kernel
theorem dX4_call_26 : decode cX4_call 26 = .ok (.invokevirtual 197, 3) := by decide +kernel
theorem dX4_call_29 : decode cX4_call 29 = .ok (.aload_n 0, 1) := by decide +kernel
theorem dX4_call_30 : decode cX4_call 30 = .ok (.getfield 19, 3) := by decide +kernel
theorem dX4_call_33 : decode cX4_call 33 = .ok (.iload_n 1, 1) := by decide +kernel
theorem dX4_call_34 : decode cX4_call 34 = .ok (.iaload, 1) := by decide +kernel
theorem dX4_call_35 : decode cX4_call 35 = .ok (.iconst 2, 1) := by decide +kernel
theorem dX4_call_36 : decode cX4_call 36 = .ok (.if_icmp .ne 8, 3) := by decide +kernel
theorem dX4_call_39 : decode cX4_call 39 = .ok (.bipush 30, 2) := by decide +kernel
theorem dX4_call_41 : decode cX4_call 41 = .ok (.goto 4, 3) := by decide +kernel
theorem dX4_call_44 : decode cX4_call 44 = .ok (.iload_n 1, 1) := by decide +kernel
theorem dX4_call_45 : decode cX4_call 45 = .ok (.ireturn, 1) := by decide +kernel
set_option maxRecDepth 20000 in
theorem ggX4_as_X4_isPerson : GoodIn wsX4_as wsX4_isPerson := goodIn_r _ [7, 8, 16, 17, 18, 19, 20, 21, 22, 23, 24, 25, 26, 27, 28, 29, 30, 31, 32, 33, 34, 35, 36, 37, 38, 39] (by decide +kernel) (by decide +kernel)
set_option maxRecDepth 20000 in
theorem gX4_as_X4_isPerson : GoodIn wsX4_as (wsV RX4 116 RX4 yX4_isPerson wsX4_isPerson) := goodIn_app (goodIn_of _ (by decide +kernel)) ggX4_as_X4_isPerson
set_option maxRecDepth 20000 in
theorem ggX4_as_X4_within : GoodIn wsX4_as wsX4_within := goodIn_r _ [11] (by decide +kernel) (by decide +kernel)
set_option maxRecDepth 20000 in
theorem gX4_as_X4_within : GoodIn wsX4_as (va_wsS RX4 52 yX4_within wsX4_within) := goodIn_app (goodIn_of _ (by decide +kernel)) ggX4_as_X4_within
set_option maxRecDepth 20000 in
theorem ggX4_as_X4_fails : GoodIn wsX4_as wsX4_fails := goodIn_r _ [15, 1, 16, 17, 18, 19, 20, 21, 22, 23, 24, 25, 26, 27, 28, 29, 30, 31, 32, 33, 34, 35, 36, 37, 38, 39] (by decide +kernel) (by decide +kernel)
set_option maxRecDepth 20000 in
theorem gX4_as_X4_fails : GoodIn wsX4_as (wsV RX4 77 RX4 yX4_fails wsX4_fails) := goodIn_app (goodIn_of _ (by decide +kernel)) ggX4_as_X4_fails
theorem dX4_as_0 : decode cX4_as 0 = .ok (.aload_n 0, 1) := by decide +kernel
theorem dX4_as_1 : decode cX4_as 1 = .ok (.iconst 0, 1) := by decide +kernel
theorem dX4_as_2 : decode cX4_as 2 = .ok (.putfield 46, 3) := by decide +kernel
theorem dX4_as_5 : decode cX4_as 5 = .ok (.aload_n 0, 1) := by decide +kernel
theorem dX4_as_6 : decode cX4_as 6 = .ok (.iload_n 1, 1) := by decide +kernel
theorem dX4_as_7 : decode cX4_as 7 = .ok (.invokevirtual 116, 3) := by decide +kernel
theorem dX4_as_10 : decode cX4_as 10 = .ok (.ifCond .ne 5, 3) := by decide +kernel
theorem dX4_as_13 : decode cX4_as 13 = .ok (.iconst (-1), 1) := by decide +kernel
theorem dX4_as_14 : decode cX4_as 14 = .ok (.ireturn, 1) := by decide +kernel
theorem dX4_as_15 : decode cX4_as 15 = .ok (.iload_n 2, 1) := by decide +kernel
theorem dX4_as_16 : decode cX4_as 16 = .ok (.iconst 0, 1) := by decide +kernel
theorem dX4_as_17 : decode cX4_as 17 = .ok (.iconst 2, 1) := by decide +kernel
theorem dX4_as_18 : decode cX4_as 18 = .ok (.invokestatic 52, 3) := by decide +kernel
theorem dX4_as_21 : decode cX4_as 21 = .ok (.ifCond .ne 6, 3) := by decide +kernel
theorem dX4_as_24 : decode cX4_as 24 = .ok (.bipush (-2), 2) := by decide +kernel
theorem dX4_as_26 : decode cX4_as 26 = .ok (.ireturn, 1) := by decide +kernel
theorem dX4_as_27 : decode cX4_as 27 = .ok (.aload_n 0, 1) := by decide +kernel
theorem dX4_as_28 : decode cX4_as 28 = .ok (.getfield 19, 3) := by decide +kernel
theorem dX4_as_31 : decode cX4_as 31 = .ok (.iload_n 1, 1) := by decide +kernel
theorem dX4_as_32 : decode cX4_as 32 = .ok (.iaload, 1) := by decide +kernel
theorem dX4_as_33 : decode cX4_as 33 = .ok (.iload_n 2, 1) := by decide +kernel
theorem dX4_as_34 : decode cX4_as 34 = .ok (.if_icmp .lt 7, 3) := by decide +kernel
theorem dX4_as_37 : decode cX4_as 37 = .ok (.iconst 1, 1) := by decide +kernel
theorem dX4_as_38 : decode cX4_as 38 = .ok (.goto 8, 3) := by decide +kernel
theorem dX4_as_41 : decode cX4_as 41 = .ok (.aload_n 0, 1) := by decide +kernel
theorem dX4_as_42 : decode cX4_as 42 = .ok (.iconst 2, 1) := by decide +kernel
theorem dX4_as_43 : decode cX4_as 43 = .ok (.invokevirtual 77, 3) := by decide +kernel
theorem dX4_as_46 : decode cX4_as 46 = .ok (.ireturn, 1) := by decide +kernel
theorem dX4_trace_0 : decode cX4_trace 0 = .ok (.aload_n 0, 1) := by decide +kernel
theorem dX4_trace_1 : decode cX4_trace 1 = .ok (.getfield 194, 3) := by decide +kernel
theorem dX4_trace_4 : decode cX4_trace 4 = .ok (.ireturn, 1) := by decide +kernel
theorem dX4_fault_0 : decode cX4_fault 0 = .ok (.aload_n 0, 1) := by decide +kernel
theorem dX4_fault_1 : decode cX4_fault 1 = .ok (.getfield 46, 3) := by decide +kernel
theorem dX4_fault_4 : decode cX4_fault 4 = .ok (.ireturn, 1) := by decide +kernel
set_option maxRecDepth 20000 in
theorem ggX4_many_X4_size : GoodIn wsX4_many wsX4_size := goodIn_r _ [9] (by decide +kernel) (by decide +kernel)
set_option maxRecDepth 20000 in
theorem gX4_many_X4_size : GoodIn wsX4_many (va_wsS RX4 132 yX4_size wsX4_size) := goodIn_app (goodIn_of _ (by decide +kernel)) ggX4_many_X4_size
theorem dX4_many_0 : decode cX4_many 0 = .ok (.iload_n 1, 1) := by decide +kernel
theorem dX4_many_1 : decode cX4_many 1 = .ok (.tableswitch 63 0 4 #[35, 40, 45, 53, 58], 35) := by decide +kernel
theorem dX4_many_36 : decode cX4_many 36 = .ok (.aload_n 0, 1) := by decide +kernel
theorem dX4_many_37 : decode cX4_many 37 = .ok (.getfield 56, 3) := by decide +kernel
theorem dX4_many_40 : decode cX4_many 40 = .ok (.ireturn, 1) := by decide +kernel
theorem dX4_many_41 : decode cX4_many 41 = .ok (.aload_n 0, 1) := by decide +kernel
theorem dX4_many_42 : decode cX4_many 42 = .ok (.getfield 90, 3) := by decide +kernel
theorem dX4_many_45 : decode cX4_many 45 = .ok (.ireturn, 1) := by decide +kernel
theorem dX4_many_46 : decode cX4_many 46 = .ok (.aload_n 0, 1) := by decide +kernel
theorem dX4_many_47 : decode cX4_many 47 = .ok (.getfield 96, 3) := by decide +kernel
theorem dX4_many_50 : decode cX4_many 50 = .ok (.invokestatic 132, 3) := by decide +kernel
theorem dX4_many_53 : decode cX4_many 53 = .ok (.ireturn, 1) := by decide +kernel
theorem dX4_many_54 : decode cX4_many 54 = .ok (.aload_n 0, 1) := by decide +kernel
theorem dX4_many_55 : decode cX4_many 55 = .ok (.getfield 99, 3) := by decide +kernel
theorem dX4_many_58 : decode cX4_many 58 = .ok (.ireturn, 1) := by decide +kernel
theorem dX4_many_59 : decode cX4_many 59 = .ok (.aload_n 0, 1) := by decide +kernel
theorem dX4_many_60 : decode cX4_many 60 = .ok (.getfield 102, 3) := by decide +kernel
theorem dX4_many_63 : decode cX4_many 63 = .ok (.ireturn, 1) := by decide +kernel
theorem dX4_many_64 : decode cX4_many 64 = .ok (.bipush (-2), 2) := by decide +kernel
theorem dX4_many_66 : decode cX4_many 66 = .ok (.ireturn, 1) := by decide +kernel
theorem dJ6_bitCount_0f7a4_0 : decode cJ6_bitCount_0f7a4 0 = .ok (.iload_n 0, 1) := by decide +kernel
theorem dJ6_bitCount_0f7a4_1 : decode cJ6_bitCount_0f7a4 1 = .ok (.iload_n 0, 1) := by decide +kernel
theorem dJ6_bitCount_0f7a4_2 : decode cJ6_bitCount_0f7a4 2 = .ok (.iconst 1, 1) := by decide +kernel
theorem dJ6_bitCount_0f7a4_3 : decode cJ6_bitCount_0f7a4 3 = .ok (.iushr, 1) := by decide +kernel
theorem dJ6_bitCount_0f7a4_4 : decode cJ6_bitCount_0f7a4 4 = .ok (.ldc_w 265, 3) := by decide +kernel
theorem dJ6_bitCount_0f7a4_7 : decode cJ6_bitCount_0f7a4 7 = .ok (.iand, 1) := by decide +kernel
theorem dJ6_bitCount_0f7a4_8 : decode cJ6_bitCount_0f7a4 8 = .ok (.isub, 1) := by decide +kernel
theorem dJ6_bitCount_0f7a4_9 : decode cJ6_bitCount_0f7a4 9 = .ok (.istore_n 0, 1) := by decide +kernel
theorem dJ6_bitCount_0f7a4_10 : decode cJ6_bitCount_0f7a4 10 = .ok (.iload_n 0, 1) := by decide +kernel
theorem dJ6_bitCount_0f7a4_11 : decode cJ6_bitCount_0f7a4 11 = .ok (.ldc_w 266, 3) := by decide +kernel
theorem dJ6_bitCount_0f7a4_14 : decode cJ6_bitCount_0f7a4 14 = .ok (.iand, 1) := by decide +kernel
theorem dJ6_bitCount_0f7a4_15 : decode cJ6_bitCount_0f7a4 15 = .ok (.iload_n 0, 1) := by decide +kernel
theorem dJ6_bitCount_0f7a4_16 : decode cJ6_bitCount_0f7a4 16 = .ok (.iconst 2, 1) := by decide +kernel
theorem dJ6_bitCount_0f7a4_17 : decode cJ6_bitCount_0f7a4 17 = .ok (.iushr, 1) := by decide +kernel
theorem dJ6_bitCount_0f7a4_18 : decode cJ6_bitCount_0f7a4 18 = .ok (.ldc_w 266, 3) := by decide +kernel
theorem dJ6_bitCount_0f7a4_21 : decode cJ6_bitCount_0f7a4 21 = .ok (.iand, 1) := by decide +kernel
theorem dJ6_bitCount_0f7a4_22 : decode cJ6_bitCount_0f7a4 22 = .ok (.iadd, 1) := by decide +kernel
theorem dJ6_bitCount_0f7a4_23 : decode cJ6_bitCount_0f7a4 23 = .ok (.istore_n 0, 1) := by decide +kernel
theorem dJ6_bitCount_0f7a4_24 : decode cJ6_bitCount_0f7a4 24 = .ok (.iload_n 0, 1) := by decide +kernel
theorem dJ6_bitCount_0f7a4_25 : decode cJ6_bitCount_0f7a4 25 = .ok (.iload_n 0, 1) := by decide +kernel
theorem dJ6_bitCount_0f7a4_26 : decode cJ6_bitCount_0f7a4 26 = .ok (.iconst 4, 1) := by decide +kernel
theorem dJ6_bitCount_0f7a4_27 : decode cJ6_bitCount_0f7a4 27 = .ok (.iushr, 1) := by decide +kernel
theorem dJ6_bitCount_0f7a4_28 : decode cJ6_bitCount_0f7a4 28 = .ok (.iadd, 1) := by decide +kernel
theorem dJ6_bitCount_0f7a4_29 : decode cJ6_bitCount_0f7a4 29 = .ok (.ldc_w 267, 3) := by decide +kernel
theorem dJ6_bitCount_0f7a4_32 : decode cJ6_bitCount_0f7a4 32 = .ok (.iand, 1) := by decide +kernel
theorem dJ6_bitCount_0f7a4_33 : decode cJ6_bitCount_0f7a4 33 = .ok (.istore_n 0, 1) := by decide +kernel
theorem dJ6_bitCount_0f7a4_34 : decode cJ6_bitCount_0f7a4 34 = .ok (.iload_n 0, 1) := by decide +kernel
theorem dJ6_bitCount_0f7a4_35 : decode cJ6_bitCount_0f7a4 35 = .ok (.iload_n 0, 1) := by decide +kernel
theorem dJ6_bitCount_0f7a4_36 : decode cJ6_bitCount_0f7a4 36 = .ok (.bipush 8, 2) := by decide +kernel
theorem dJ6_bitCount_0f7a4_38 : decode cJ6_bitCount_0f7a4 38 = .ok (.iushr, 1) := by decide +kernel
theorem dJ6_bitCount_0f7a4_39 : decode cJ6_bitCount_0f7a4 39 = .ok (.iadd, 1) := by decide +kernel
theorem dJ6_bitCount_0f7a4_40 : decode cJ6_bitCount_0f7a4 40 = .ok (.istore_n 0, 1) := by decide +kernel
theorem dJ6_bitCount_0f7a4_41 : decode cJ6_bitCount_0f7a4 41 = .ok (.iload_n 0, 1) := by decide +kernel
theorem dJ6_bitCount_0f7a4_42 : decode cJ6_bitCount_0f7a4 42 = .ok (.iload_n 0, 1) := by decide +kernel
theorem dJ6_bitCount_0f7a4_43 : decode cJ6_bitCount_0f7a4 43 = .ok (.bipush 16, 2) := by decide +kernel
theorem dJ6_bitCount_0f7a4_45 : decode cJ6_bitCount_0f7a4 45 = .ok (.iushr, 1) := by decide +kernel
theorem dJ6_bitCount_0f7a4_46 : decode cJ6_bitCount_0f7a4 46 = .ok (.iadd, 1) := by decide +kernel
theorem dJ6_bitCount_0f7a4_47 : decode cJ6_bitCount_0f7a4 47 = .ok (.istore_n 0, 1) := by decide +kernel
theorem dJ6_bitCount_0f7a4_48 : decode cJ6_bitCount_0f7a4 48 = .ok (.iload_n 0, 1) := by decide +kernel
theorem dJ6_bitCount_0f7a4_49 : decode cJ6_bitCount_0f7a4 49 = .ok (.bipush 63, 2) := by decide +kernel
theorem dJ6_bitCount_0f7a4_51 : decode cJ6_bitCount_0f7a4 51 = .ok (.iand, 1) := by decide +kernel
theorem dJ6_bitCount_0f7a4_52 : decode cJ6_bitCount_0f7a4 52 = .ok (.ireturn, 1) := by decide +kernel
theorem dJ9_max_7cf53_0 : decode cJ9_max_7cf53 0 = .ok (.iload_n 0, 1) := by decide +kernel
theorem dJ9_max_7cf53_1 : decode cJ9_max_7cf53 1 = .ok (.iload_n 1, 1) := by decide +kernel
theorem dJ9_max_7cf53_2 : decode cJ9_max_7cf53 2 = .ok (.if_icmp .lt 7, 3) := by decide +kernel
theorem dJ9_max_7cf53_5 : decode cJ9_max_7cf53 5 = .ok (.iload_n 0, 1) := by decide +kernel
theorem dJ9_max_7cf53_6 : decode cJ9_max_7cf53 6 = .ok (.goto 4, 3) := by decide +kernel
theorem dJ9_max_7cf53_9 : decode cJ9_max_7cf53 9 = .ok (.iload_n 1, 1) := by decide +kernel
theorem dJ9_max_7cf53_10 : decode cJ9_max_7cf53 10 = .ok (.ireturn, 1) := by decide +kernel
theorem dJ9_min_7cf53_0 : decode cJ9_min_7cf53 0 = .ok (.iload_n 0, 1) := by decide +kernel
theorem dJ9_min_7cf53_1 : decode cJ9_min_7cf53 1 = .ok (.iload_n 1, 1) := by decide +kernel
theorem dJ9_min_7cf53_2 : decode cJ9_min_7cf53 2 = .ok (.if_icmp .gt 7, 3) := by decide +kernel
theorem dJ9_min_7cf53_5 : decode cJ9_min_7cf53 5 = .ok (.iload_n 0, 1) := by decide +kernel
theorem dJ9_min_7cf53_6 : decode cJ9_min_7cf53 6 = .ok (.goto 4, 3) := by decide +kernel
theorem dJ9_min_7cf53_9 : decode cJ9_min_7cf53 9 = .ok (.iload_n 1, 1) := by decide +kernel
theorem dJ9_min_7cf53_10 : decode cJ9_min_7cf53 10 = .ok (.ireturn, 1) := by decide +kernel
set_option maxRecDepth 20000 in
theorem ggL_law_X3_init : GoodIn wsL_law wsX3_init := goodIn_r _ [8, 9, 10, 11, 12, 13, 14, 15, 16, 17, 18, 19, 20, 21, 22, 23, 24, 25, 26, 27, 28, 29, 30, 31, 32, 33, 34, 35, 36, 37, 38, 39, 40, 41, 719, 720, 721, 722, 723, 724, 725, 750, 751, 752, 753, 754, 755, 756, 757, 758, 759, 760, 761, 762, 763] (by decide +kernel) (by decide +kernel)
set_option maxRecDepth 20000 in
theorem gL_law_X3_init : GoodIn wsL_law (wsX3_init) := ggL_law_X3_init
set_option maxRecDepth 20000 in
theorem ggL_law_X4_init : GoodIn wsL_law wsX4_init := goodIn_r _ [44, 45, 10, 11, 28, 46, 47, 48, 49, 50, 51, 52, 53, 54, 55, 56, 57, 726, 727, 728, 729, 730, 731, 732, 733, 734, 735, 736, 737, 738, 739, 740, 741, 742, 743, 744, 745, 746, 747, 748, 749] (by decide +kernel) (by decide +kernel)
set_option maxRecDepth 20000 in
theorem gL_law_X4_init : GoodIn wsL_law (wsX4_init) := ggL_law_X4_init
set_option maxRecDepth 20000 in
theorem ggL_law_X3_town : GoodIn wsL_law wsX3_town := goodIn_r _ [61, 62, 17, 22, 63, 64, 65, 66, 67, 68, 2, 69, 13, 70, 71, 72, 73, 74, 75, 24, 76, 77, 78, 79, 80, 81, 82, 83, 84, 85, 86, 87, 88, 89, 90, 91, 92, 93, 94, 41, 95, 96, 97, 98, 99, 100, 101, 102, 103, 104, 105, 106, 16, 107, 108, 109, 110, 111, 112, 113, 114, 115, 116, 117, 29, 30, 31, 118, 119, 120, 121, 122, 123, 124, 719, 720, 721, 722, 723, 724, 725, 756, 757, 758, 759, 750, 751, 752, 753, 754, 755, 760, 761, 762, 763] (by decide +kernel) (by decide +kernel)
set_option maxRecDepth 20000 in
theorem gL_law_X3_town : GoodIn wsL_law (wsV RL 13 RX3 yX3_town wsX3_town) := goodIn_app (goodIn_of _ (by decide +kernel)) ggL_law_X3_town
set_option maxRecDepth 20000 in
theorem ggL_law_X4_town : GoodIn wsL_law wsX4_town := goodIn_r _ [128, 129, 130, 131, 132, 133, 5, 134, 135, 136, 137, 138, 139, 140, 141, 142, 143, 144, 46, 47, 145, 146, 147, 148, 149, 150, 151, 152, 153, 154, 155, 156, 157, 158, 48, 159, 160, 161, 162, 163, 164, 165, 166, 167, 168, 169, 170, 52, 171, 172, 173, 174, 175, 176, 49, 50, 51, 177, 178, 726, 727, 728, 729, 730, 731, 732, 733, 734, 735, 736, 737, 738, 739, 740, 741, 742, 743, 744, 745, 746, 747, 748, 749] (by decide +kernel) (by decide +kernel)
set_option maxRecDepth 20000 in
theorem gL_law_X4_town : GoodIn wsL_law (wsV RL 17 RX4 yX4_town wsX4_town) := goodIn_app (goodIn_of _ (by decide +kernel)) ggL_law_X4_town
set_option maxRecDepth 20000 in
theorem ggL_law_X3_ofPerson : GoodIn wsL_law wsX3_ofPerson := goodIn_r _ [182, 17, 183, 184, 185, 186, 187, 188, 16, 189, 115, 190, 191, 192, 193, 117, 194, 2, 195, 196, 197, 198, 199, 29, 30, 31, 200, 201, 202, 113, 110, 114, 719, 720, 721, 722, 723, 724, 725, 750, 751, 752, 753, 754, 755] (by decide +kernel) (by decide +kernel)
set_option maxRecDepth 20000 in
theorem gL_law_X3_ofPerson : GoodIn wsL_law (wsV RL 18 RX3 yX3_ofPerson wsX3_ofPerson) := goodIn_app (goodIn_of _ (by decide +kernel)) ggL_law_X3_ofPerson
set_option maxRecDepth 20000 in
theorem ggL_law_X4_ofPerson : GoodIn wsL_law wsX4_ofPerson := goodIn_r _ [206, 49, 50, 51, 176, 207, 208, 209, 5, 210, 131, 211, 212, 213, 214, 726, 727, 728, 729, 730, 731, 732, 733, 734, 735, 736, 737, 738, 739, 740, 741, 742, 743, 744, 745, 746, 747, 748, 749] (by decide +kernel) (by decide +kernel)
set_option maxRecDepth 20000 in
theorem gL_law_X4_ofPerson : GoodIn wsL_law (wsV RL 22 RX4 yX4_ofPerson wsX4_ofPerson) := goodIn_app (goodIn_of _ (by decide +kernel)) ggL_law_X4_ofPerson
set_option maxRecDepth 20000 in
theorem ggL_law_X3_tune : GoodIn wsL_law wsX3_tune := goodIn_r _ [218, 17, 185, 186, 187, 188, 16, 189, 115, 719, 720, 721, 722, 723, 724, 725, 750, 751, 752, 753, 754, 755] (by decide +kernel) (by decide +kernel)
set_option maxRecDepth 20000 in
theorem gL_law_X3_tune : GoodIn wsL_law (wsV RL 23 RX3 yX3_tune wsX3_tune) := goodIn_app (goodIn_of _ (by decide +kernel)) ggL_law_X3_tune
set_option maxRecDepth 20000 in
theorem ggL_law_X4_tune : GoodIn wsL_law wsX4_tune := goodIn_r _ [222, 51, 207, 208, 209, 5, 210, 131, 135, 136, 137, 726, 727, 728, 729, 730, 731, 732, 733, 734, 735, 736, 737, 738, 739, 740, 741, 742, 743, 744, 745, 746, 747, 748, 749] (by decide +kernel) (by decide +kernel)
set_option maxRecDepth 20000 in
theorem gL_law_X4_tune : GoodIn wsL_law (wsV RL 26 RX4 yX4_tune wsX4_tune) := goodIn_app (goodIn_of _ (by decide +kernel)) ggL_law_X4_tune
set_option maxRecDepth 20000 in
theorem ggL_law_X3_heard : GoodIn wsL_law wsX3_heard := goodIn_r _ [226, 17, 65, 227, 228, 229, 230, 16, 231, 115, 232, 191, 192, 193, 117, 194, 2, 195, 233, 197, 198, 199, 29, 30, 31, 200, 201, 202, 113, 110, 114, 234, 235, 236, 237, 719, 720, 721, 722, 723, 724, 725, 750, 751, 752, 753, 754, 755] (by decide +kernel) (by decide +kernel)
set_option maxRecDepth 20000 in
theorem gL_law_X3_heard : GoodIn wsL_law (wsV RL 27 RX3 yX3_heard wsX3_heard) := goodIn_app (goodIn_of _ (by decide +kernel)) ggL_law_X3_heard
set_option maxRecDepth 20000 in
theorem ggL_law_X4_heard : GoodIn wsL_law wsX4_heard := goodIn_r _ [241, 131, 176, 135, 136, 5, 137, 242, 243, 244, 245, 50, 246, 247, 248, 211, 212, 213, 214, 51, 49, 249, 250, 251, 252, 726, 727, 728, 729, 730, 731, 732, 733, 734, 735, 736, 737, 738, 739, 740, 741, 742, 743, 744, 745, 746, 747, 748, 749] (by decide +kernel) (by decide +kernel)
set_option maxRecDepth 20000 in
theorem gL_law_X4_heard : GoodIn wsL_law (wsV RL 31 RX4 yX4_heard wsX4_heard) := goodIn_app (goodIn_of _ (by decide +kernel)) ggL_law_X4_heard
set_option maxRecDepth 20000 in
theorem ggL_law_X3_day : GoodIn wsL_law wsX3_day := goodIn_r _ [256, 64, 257, 258, 259, 2, 260, 17, 186, 187, 188, 16, 189, 115, 261, 262, 263, 264, 117, 116, 232, 191, 192, 193, 194, 195, 265, 266, 267, 268, 30, 269, 235, 236, 237, 270, 271, 272, 273, 274, 275, 276, 277, 278, 279, 280, 281, 282, 283, 284, 285, 286, 287, 288, 289, 290, 291, 292, 293, 294, 295, 296, 719, 720, 721, 722, 723, 724, 725, 750, 751, 752, 753, 754, 755] (by decide +kernel) (by decide +kernel)
set_option maxRecDepth 20000 in
theorem gL_law_X3_day : GoodIn wsL_law (wsV RL 32 RX3 yX3_day wsX3_day) := goodIn_app (goodIn_of _ (by decide +kernel)) ggL_law_X3_day
set_option maxRecDepth 20000 in
theorem ggL_law_X4_day : GoodIn wsL_law wsX4_day := goodIn_r _ [300, 176, 177, 207, 208, 209, 5, 210, 131, 249, 250, 251, 252, 50, 246, 247, 248, 301, 302, 303, 304, 305, 306, 307, 53, 308, 309, 310, 311, 726, 727, 728, 729, 730, 731, 732, 733, 734, 735, 736, 737, 738, 739, 740, 741, 742, 743, 744, 745, 746, 747, 748, 749] (by decide +kernel) (by decide +kernel)
set_option maxRecDepth 20000 in
theorem gL_law_X4_day : GoodIn wsL_law (wsV RL 35 RX4 yX4_day wsX4_day) := goodIn_app (goodIn_of _ (by decide +kernel)) ggL_law_X4_day
set_option maxRecDepth 20000 in
theorem ggL_law_X3_leave : GoodIn wsL_law wsX3_leave := goodIn_r _ [315, 257, 258, 259, 2, 260, 17, 186, 187, 188, 16, 189, 115, 261, 262, 263, 264, 117, 116, 232, 191, 192, 193, 194, 195, 265, 266, 267, 268, 30, 269, 235, 236, 237, 270, 271, 272, 273, 274, 275, 276, 277, 278, 279, 280, 281, 282, 283, 284, 285, 286, 287, 288, 289, 290, 291, 292, 293, 294, 295, 296, 719, 720, 721, 722, 723, 724, 725, 750, 751, 752, 753, 754, 755] (by decide +kernel) (by decide +kernel)
set_option maxRecDepth 20000 in
theorem gL_law_X3_leave : GoodIn wsL_law (wsV RL 36 RX3 yX3_leave wsX3_leave) := goodIn_app (goodIn_of _ (by decide +kernel)) ggL_law_X3_leave
set_option maxRecDepth 20000 in
theorem ggL_law_X4_leave : GoodIn wsL_law wsX4_leave := goodIn_r _ [319, 176, 50, 207, 208, 209, 5, 210, 131, 246, 247, 248, 320, 321, 322, 323, 175, 726, 727, 728, 729, 730, 731, 732, 733, 734, 735, 736, 737, 738, 739, 740, 741, 742, 743, 744, 745, 746, 747, 748, 749] (by decide +kernel) (by decide +kernel)
set_option maxRecDepth 20000 in
theorem gL_law_X4_leave : GoodIn wsL_law (wsV RL 39 RX4 yX4_leave wsX4_leave) := goodIn_app (goodIn_of _ (by decide +kernel)) ggL_law_X4_leave
set_option maxRecDepth 20000 in
theorem ggL_law_X3_come : GoodIn wsL_law wsX3_come := goodIn_r _ [327, 257, 258, 259, 2, 260, 17, 186, 187, 188, 16, 189, 115, 261, 262, 263, 264, 117, 116, 232, 191, 192, 193, 194, 195, 265, 266, 267, 268, 30, 269, 235, 236, 237, 270, 271, 272, 273, 274, 275, 276, 277, 278, 279, 280, 281, 282, 283, 284, 285, 286, 287, 288, 289, 290, 291, 292, 293, 294, 295, 296, 719, 720, 721, 722, 723, 724, 725, 750, 751, 752, 753, 754, 755] (by decide +kernel) (by decide +kernel)
set_option maxRecDepth 20000 in
theorem gL_law_X3_come : GoodIn wsL_law (wsV RL 40 RX3 yX3_come wsX3_come) := goodIn_app (goodIn_of _ (by decide +kernel)) ggL_law_X3_come
set_option maxRecDepth 20000 in
theorem ggL_law_X4_come : GoodIn wsL_law wsX4_come := goodIn_r _ [331, 176, 207, 208, 209, 5, 210, 131, 246, 247, 248, 301, 302, 303, 726, 727, 728, 729, 730, 731, 732, 733, 734, 735, 736, 737, 738, 739, 740, 741, 742, 743, 744, 745, 746, 747, 748, 749] (by decide +kernel) (by decide +kernel)
set_option maxRecDepth 20000 in
theorem gL_law_X4_come : GoodIn wsL_law (wsV RL 43 RX4 yX4_come wsX4_come) := goodIn_app (goodIn_of _ (by decide +kernel)) ggL_law_X4_come
set_option maxRecDepth 20000 in
theorem ggL_law_X3_gather : GoodIn wsL_law wsX3_gather := goodIn_r _ [335, 257, 258, 259, 2, 260, 17, 186, 187, 188, 16, 189, 115, 261, 262, 263, 264, 117, 116, 232, 191, 192, 193, 194, 195, 265, 266, 267, 268, 30, 269, 235, 236, 237, 270, 271, 272, 273, 274, 275, 276, 277, 278, 279, 280, 281, 282, 283, 284, 285, 286, 287, 288, 289, 290, 291, 292, 293, 294, 295, 296, 719, 720, 721, 722, 723, 724, 725, 750, 751, 752, 753, 754, 755] (by decide +kernel) (by decide +kernel)
set_option maxRecDepth 20000 in
theorem gL_law_X3_gather : GoodIn wsL_law (wsV RL 44 RX3 yX3_gather wsX3_gather) := goodIn_app (goodIn_of _ (by decide +kernel)) ggL_law_X3_gather
set_option maxRecDepth 20000 in
theorem ggL_law_X4_gather : GoodIn wsL_law wsX4_gather := goodIn_r _ [339, 176, 207, 208, 209, 5, 210, 131, 246, 247, 248, 340, 341, 342, 343, 50, 726, 727, 728, 729, 730, 731, 732, 733, 734, 735, 736, 737, 738, 739, 740, 741, 742, 743, 744, 745, 746, 747, 748, 749] (by decide +kernel) (by decide +kernel)
set_option maxRecDepth 20000 in
theorem gL_law_X4_gather : GoodIn wsL_law (wsV RL 47 RX4 yX4_gather wsX4_gather) := goodIn_app (goodIn_of _ (by decide +kernel)) ggL_law_X4_gather
set_option maxRecDepth 20000 in
theorem ggL_law_X3_pack : GoodIn wsL_law wsX3_pack := goodIn_r _ [347, 17, 184, 348, 186, 187, 188, 16, 189, 115, 719, 720, 721, 722, 723, 724, 725, 750, 751, 752, 753, 754, 755] (by decide +kernel) (by decide +kernel)
set_option maxRecDepth 20000 in
theorem gL_law_X3_pack : GoodIn wsL_law (wsV RL 48 RX3 yX3_pack wsX3_pack) := goodIn_app (goodIn_of _ (by decide +kernel)) ggL_law_X3_pack
set_option maxRecDepth 20000 in
theorem ggL_law_X4_pack : GoodIn wsL_law wsX4_pack := goodIn_r _ [352, 50, 175, 207, 208, 209, 5, 210, 131, 135, 136, 137, 726, 727, 728, 729, 730, 731, 732, 733, 734, 735, 736, 737, 738, 739, 740, 741, 742, 743, 744, 745, 746, 747, 748, 749] (by decide +kernel) (by decide +kernel)
set_option maxRecDepth 20000 in
theorem gL_law_X4_pack : GoodIn wsL_law (wsV RL 51 RX4 yX4_pack wsX4_pack) := goodIn_app (goodIn_of _ (by decide +kernel)) ggL_law_X4_pack
set_option maxRecDepth 20000 in
theorem ggL_law_X3_open : GoodIn wsL_law wsX3_open := goodIn_r _ [356, 257, 258, 259, 2, 260, 17, 186, 187, 188, 16, 189, 115, 261, 262, 263, 264, 117, 116, 232, 191, 192, 193, 194, 195, 265, 266, 267, 268, 30, 269, 235, 236, 237, 270, 271, 272, 273, 274, 275, 276, 277, 278, 279, 280, 281, 282, 283, 284, 285, 286, 287, 288, 289, 290, 291, 292, 293, 294, 295, 296, 719, 720, 721, 722, 723, 724, 725, 750, 751, 752, 753, 754, 755] (by decide +kernel) (by decide +kernel)
set_option maxRecDepth 20000 in
theorem gL_law_X3_open : GoodIn wsL_law (wsV RL 52 RX3 yX3_open wsX3_open) := goodIn_app (goodIn_of _ (by decide +kernel)) ggL_law_X3_open
set_option maxRecDepth 20000 in
theorem ggL_law_X4_open : GoodIn wsL_law wsX4_open := goodIn_r _ [360, 176, 175, 207, 208, 209, 5, 210, 131, 246, 247, 248, 361, 362, 363, 364, 50, 726, 727, 728, 729, 730, 731, 732, 733, 734, 735, 736, 737, 738, 739, 740, 741, 742, 743, 744, 745, 746, 747, 748, 749] (by decide +kernel) (by decide +kernel)
set_option maxRecDepth 20000 in
theorem gL_law_X4_open : GoodIn wsL_law (wsV RL 55 RX4 yX4_open wsX4_open) := goodIn_app (goodIn_of _ (by decide +kernel)) ggL_law_X4_open
set_option maxRecDepth 20000 in
theorem ggL_law_X3_year : GoodIn wsL_law wsX3_year := goodIn_r _ [368, 62, 17, 65, 66, 67, 68, 2, 69, 13, 70, 71, 72, 369, 370, 371, 73, 74, 75, 24, 76, 77, 78, 79, 80, 81, 82, 83, 84, 85, 86, 87, 372, 373, 374, 375, 91, 92, 93, 94, 41, 186, 187, 188, 16, 189, 115, 98, 99, 100, 376, 377, 378, 379, 18, 380, 381, 382, 383, 117, 116, 29, 30, 31, 261, 262, 263, 264, 232, 191, 192, 193, 194, 195, 265, 266, 267, 268, 269, 235, 236, 237, 270, 271, 272, 273, 274, 275, 276, 277, 278, 279, 280, 281, 282, 283, 284, 285, 286, 287, 288, 289, 290, 291, 292, 293, 294, 295, 296, 384, 385, 386, 387, 348, 227, 184, 228, 229, 230, 231, 233, 197, 198, 199, 200, 201, 202, 113, 110, 114, 719, 720, 721, 722, 723, 724, 725, 750, 751, 752, 753, 754, 755, 760, 761, 762, 763] (by decide +kernel) (by decide +kernel)
set_option maxRecDepth 20000 in
theorem gL_law_X3_year : GoodIn wsL_law (wsV RL 56 RX3 yX3_year wsX3_year) := goodIn_app (goodIn_of _ (by decide +kernel)) ggL_law_X3_year
set_option maxRecDepth 20000 in
theorem ggL_law_X4_year : GoodIn wsL_law wsX4_year := goodIn_r _ [391, 129, 131, 48, 132, 133, 5, 134, 135, 136, 137, 138, 139, 140, 141, 142, 143, 144, 46, 47, 145, 146, 147, 148, 207, 208, 209, 210, 392, 393, 394, 395, 175, 396, 176, 397, 54, 50, 398, 399, 400, 401, 402, 403, 404, 405, 246, 247, 248, 406, 407, 408, 409, 304, 305, 306, 307, 53, 308, 309, 310, 311, 249, 250, 251, 252, 301, 302, 303, 320, 321, 322, 323, 340, 341, 342, 343, 361, 362, 363, 364, 410, 411, 412, 413, 242, 243, 244, 245, 211, 212, 213, 214, 51, 49, 414, 415, 416, 417, 726, 727, 728, 729, 730, 731, 732, 733, 734, 735, 736, 737, 738, 739, 740, 741, 742, 743, 744, 745, 746, 747, 748, 749] (by decide +kernel) (by decide +kernel)
set_option maxRecDepth 20000 in
theorem gL_law_X4_year : GoodIn wsL_law (wsV RL 60 RX4 yX4_year wsX4_year) := goodIn_app (goodIn_of _ (by decide +kernel)) ggL_law_X4_year
set_option maxRecDepth 20000 in
theorem ggL_law_X3_asked : GoodIn wsL_law wsX3_asked := goodIn_r _ [421, 17, 184, 186, 187, 188, 16, 189, 115, 422, 423, 424, 2, 425, 227, 426, 427, 428, 429, 430, 275, 276, 277, 278, 279, 280, 234, 235, 236, 237, 30, 194, 195, 719, 720, 721, 722, 723, 724, 725, 750, 751, 752, 753, 754, 755] (by decide +kernel) (by decide +kernel)
set_option maxRecDepth 20000 in
theorem gL_law_X3_asked : GoodIn wsL_law (wsV RL 61 RX3 yX3_asked wsX3_asked) := goodIn_app (goodIn_of _ (by decide +kernel)) ggL_law_X3_asked
set_option maxRecDepth 20000 in
theorem ggL_law_X4_asked : GoodIn wsL_law wsX4_asked := goodIn_r _ [434, 176, 131, 50, 207, 208, 209, 5, 210, 135, 136, 137, 249, 250, 251, 252, 246, 247, 248, 301, 302, 303, 726, 727, 728, 729, 730, 731, 732, 733, 734, 735, 736, 737, 738, 739, 740, 741, 742, 743, 744, 745, 746, 747, 748, 749] (by decide +kernel) (by decide +kernel)
set_option maxRecDepth 20000 in
theorem gL_law_X4_asked : GoodIn wsL_law (wsV RL 65 RX4 yX4_asked wsX4_asked) := goodIn_app (goodIn_of _ (by decide +kernel)) ggL_law_X4_asked
set_option maxRecDepth 20000 in
theorem ggL_law_X3_gatherings : GoodIn wsL_law wsX3_gatherings := goodIn_r _ [438, 17, 186, 187, 188, 16, 189, 115, 439, 440, 441, 442, 30, 108, 109, 110, 111, 232, 191, 192, 193, 117, 194, 2, 195, 719, 720, 721, 722, 723, 724, 725, 750, 751, 752, 753, 754, 755] (by decide +kernel) (by decide +kernel)
set_option maxRecDepth 20000 in
theorem gL_law_X3_gatherings : GoodIn wsL_law (wsV RL 66 RX3 yX3_gatherings wsX3_gatherings) := goodIn_app (goodIn_of _ (by decide +kernel)) ggL_law_X3_gatherings
set_option maxRecDepth 20000 in
theorem ggL_law_X4_gatherings : GoodIn wsL_law wsX4_gatherings := goodIn_r _ [446, 50, 207, 208, 209, 5, 210, 131, 135, 136, 137, 392, 393, 394, 395, 175, 396, 176, 397, 54, 340, 341, 342, 343, 246, 247, 248, 414, 415, 416, 417, 726, 727, 728, 729, 730, 731, 732, 733, 734, 735, 736, 737, 738, 739, 740, 741, 742, 743, 744, 745, 746, 747, 748, 749] (by decide +kernel) (by decide +kernel)
set_option maxRecDepth 20000 in
theorem gL_law_X4_gatherings : GoodIn wsL_law (wsV RL 69 RX4 yX4_gatherings wsX4_gatherings) := goodIn_app (goodIn_of _ (by decide +kernel)) ggL_law_X4_gatherings
set_option maxRecDepth 20000 in
theorem ggL_law_X3_level : GoodIn wsL_law wsX3_level := goodIn_r _ [450, 17, 227, 348, 451, 452, 453, 16, 454, 115, 30, 112, 113, 110, 114, 232, 191, 192, 193, 117, 194, 2, 195, 719, 720, 721, 722, 723, 724, 725, 750, 751, 752, 753, 754, 755] (by decide +kernel) (by decide +kernel)
set_option maxRecDepth 20000 in
theorem gL_law_X3_level : GoodIn wsL_law (wsV RL 70 RX3 yX3_level wsX3_level) := goodIn_app (goodIn_of _ (by decide +kernel)) ggL_law_X3_level
set_option maxRecDepth 20000 in
theorem ggL_law_X4_level : GoodIn wsL_law wsX4_level := goodIn_r _ [458, 176, 175, 135, 136, 5, 137, 459, 460, 461, 462, 131, 50, 246, 247, 248, 726, 727, 728, 729, 730, 731, 732, 733, 734, 735, 736, 737, 738, 739, 740, 741, 742, 743, 744, 745, 746, 747, 748, 749] (by decide +kernel) (by decide +kernel)
set_option maxRecDepth 20000 in
theorem gL_law_X4_level : GoodIn wsL_law (wsV RL 73 RX4 yX4_level wsX4_level) := goodIn_app (goodIn_of _ (by decide +kernel)) ggL_law_X4_level
set_option maxRecDepth 20000 in
theorem ggL_law_X3_were : GoodIn wsL_law wsX3_were := goodIn_r _ [466, 17, 186, 187, 188, 16, 189, 115, 426, 427, 428, 429, 467, 194, 2, 195, 468, 469, 470, 471, 30, 274, 275, 276, 277, 278, 279, 280, 269, 235, 236, 237, 719, 720, 721, 722, 723, 724, 725, 750, 751, 752, 753, 754, 755] (by decide +kernel) (by decide +kernel)
set_option maxRecDepth 20000 in
theorem gL_law_X3_were : GoodIn wsL_law (wsV RL 74 RX3 yX3_were wsX3_were) := goodIn_app (goodIn_of _ (by decide +kernel)) ggL_law_X3_were
set_option maxRecDepth 20000 in
theorem ggL_law_X4_were : GoodIn wsL_law wsX4_were := goodIn_r _ [475, 131, 207, 208, 209, 5, 210, 135, 136, 137, 246, 247, 248, 308, 309, 310, 311, 249, 250, 251, 252, 50, 301, 302, 303, 726, 727, 728, 729, 730, 731, 732, 733, 734, 735, 736, 737, 738, 739, 740, 741, 742, 743, 744, 745, 746, 747, 748, 749] (by decide +kernel) (by decide +kernel)
set_option maxRecDepth 20000 in
theorem gL_law_X4_were : GoodIn wsL_law (wsV RL 77 RX4 yX4_were wsX4_were) := goodIn_app (goodIn_of _ (by decide +kernel)) ggL_law_X4_were
set_option maxRecDepth 20000 in
theorem ggL_law_X3_rounds : GoodIn wsL_law wsX3_rounds := goodIn_r _ [479, 17, 65, 348, 719, 720, 721, 722, 723, 724, 725, 750, 751, 752, 753, 754, 755] (by decide +kernel) (by decide +kernel)
set_option maxRecDepth 20000 in
theorem gL_law_X3_rounds : GoodIn wsL_law (wsV RL 78 RX3 yX3_rounds wsX3_rounds) := goodIn_app (goodIn_of _ (by decide +kernel)) ggL_law_X3_rounds
set_option maxRecDepth 20000 in
theorem ggL_law_X4_rounds : GoodIn wsL_law wsX4_rounds := goodIn_r _ [483, 131, 175, 135, 136, 5, 137, 726, 727, 728, 729, 730, 731, 732, 733, 734, 735, 736, 737, 738, 739, 740, 741, 742, 743, 744, 745, 746, 747, 748, 749] (by decide +kernel) (by decide +kernel)
set_option maxRecDepth 20000 in
theorem gL_law_X4_rounds : GoodIn wsL_law (wsV RL 81 RX4 yX4_rounds wsX4_rounds) := goodIn_app (goodIn_of _ (by decide +kernel)) ggL_law_X4_rounds
set_option maxRecDepth 20000 in
theorem ggL_law_X3_worth : GoodIn wsL_law wsX3_worth := goodIn_r _ [487, 17, 488, 227, 186, 187, 188, 16, 189, 115, 489, 490, 2, 491, 190, 191, 192, 193, 117, 194, 195, 492, 493, 494, 495, 184, 234, 235, 236, 237, 30, 426, 427, 428, 429, 496, 497, 498, 499, 430, 275, 276, 277, 278, 279, 280, 500, 501, 502, 719, 720, 721, 722, 723, 724, 725, 750, 751, 752, 753, 754, 755] (by decide +kernel) (by decide +kernel)
set_option maxRecDepth 20000 in
theorem gL_law_X3_worth : GoodIn wsL_law (wsV RL 82 RX3 yX3_worth wsX3_worth) := goodIn_app (goodIn_of _ (by decide +kernel)) ggL_law_X3_worth
set_option maxRecDepth 20000 in
theorem ggL_law_X4_worth : GoodIn wsL_law wsX4_worth := goodIn_r _ [506, 176, 507, 131, 50, 207, 208, 209, 5, 210, 135, 136, 137, 246, 247, 248, 249, 250, 251, 252, 301, 302, 303, 508, 509, 510, 511, 512, 513, 726, 727, 728, 729, 730, 731, 732, 733, 734, 735, 736, 737, 738, 739, 740, 741, 742, 743, 744, 745, 746, 747, 748, 749] (by decide +kernel) (by decide +kernel)
set_option maxRecDepth 20000 in
theorem gL_law_X4_worth : GoodIn wsL_law (wsV RL 86 RX4 yX4_worth wsX4_worth) := goodIn_app (goodIn_of _ (by decide +kernel)) ggL_law_X4_worth
set_option maxRecDepth 20000 in
theorem ggL_law_X3_mean : GoodIn wsL_law wsX3_mean := goodIn_r _ [517, 17, 227, 488, 489, 490, 2, 491, 234, 235, 236, 16, 237, 115, 30, 194, 195, 518, 271, 272, 273, 117, 274, 275, 276, 277, 278, 279, 280, 500, 501, 502, 719, 720, 721, 722, 723, 724, 725, 750, 751, 752, 753, 754, 755] (by decide +kernel) (by decide +kernel)
set_option maxRecDepth 20000 in
theorem gL_law_X3_mean : GoodIn wsL_law (wsV RL 87 RX3 yX3_mean wsX3_mean) := goodIn_app (goodIn_of _ (by decide +kernel)) ggL_law_X3_mean
set_option maxRecDepth 20000 in
theorem ggL_law_X4_mean : GoodIn wsL_law wsX4_mean := goodIn_r _ [522, 176, 507, 135, 136, 5, 137, 249, 250, 251, 252, 131, 50, 246, 247, 248, 301, 302, 303, 511, 512, 513, 726, 727, 728, 729, 730, 731, 732, 733, 734, 735, 736, 737, 738, 739, 740, 741, 742, 743, 744, 745, 746, 747, 748, 749] (by decide +kernel) (by decide +kernel)
set_option maxRecDepth 20000 in
theorem gL_law_X4_mean : GoodIn wsL_law (wsV RL 91 RX4 yX4_mean wsX4_mean) := goodIn_app (goodIn_of _ (by decide +kernel)) ggL_law_X4_mean
set_option maxRecDepth 20000 in
theorem ggL_law_X3_reading : GoodIn wsL_law wsX3_reading := goodIn_r _ [526, 17, 22, 63, 186, 187, 188, 16, 189, 115, 527, 528, 529, 21, 530, 35, 531, 36, 37, 719, 720, 721, 722, 723, 724, 725, 756, 757, 758, 759, 750, 751, 752, 753, 754, 755] (by decide +kernel) (by decide +kernel)
set_option maxRecDepth 20000 in
theorem gL_law_X3_reading : GoodIn wsL_law (wsV RL 92 RX3 yX3_reading wsX3_reading) := goodIn_app (goodIn_of _ (by decide +kernel)) ggL_law_X3_reading
set_option maxRecDepth 20000 in
theorem ggL_law_X4_reading : GoodIn wsL_law wsX4_reading := goodIn_r _ [535, 178, 55, 56, 57, 207, 208, 209, 5, 210, 131, 135, 136, 137, 726, 727, 728, 729, 730, 731, 732, 733, 734, 735, 736, 737, 738, 739, 740, 741, 742, 743, 744, 745, 746, 747, 748, 749] (by decide +kernel) (by decide +kernel)
set_option maxRecDepth 20000 in
theorem gL_law_X4_reading : GoodIn wsL_law (wsV RL 95 RX4 yX4_reading wsX4_reading) := goodIn_app (goodIn_of _ (by decide +kernel)) ggL_law_X4_reading
set_option maxRecDepth 20000 in
theorem ggL_law_X3_back : GoodIn wsL_law wsX3_back := goodIn_r _ [539, 22, 63, 719, 720, 721, 722, 723, 724, 725, 756, 757, 758, 759] (by decide +kernel) (by decide +kernel)
set_option maxRecDepth 20000 in
theorem gL_law_X3_back : GoodIn wsL_law (wsV RL 96 RX3 yX3_back wsX3_back) := goodIn_app (goodIn_of _ (by decide +kernel)) ggL_law_X3_back
set_option maxRecDepth 20000 in
theorem ggL_law_X4_back : GoodIn wsL_law wsX4_back := goodIn_r _ [543, 178, 135, 136, 5, 137, 726, 727, 728, 729, 730, 731, 732, 733, 734, 735, 736, 737, 738, 739, 740, 741, 742, 743, 744, 745, 746, 747, 748, 749] (by decide +kernel) (by decide +kernel)
set_option maxRecDepth 20000 in
theorem gL_law_X4_back : GoodIn wsL_law (wsV RL 99 RX4 yX4_back wsX4_back) := goodIn_app (goodIn_of _ (by decide +kernel)) ggL_law_X4_back
set_option maxRecDepth 20000 in
theorem ggL_law_X3_ears : GoodIn wsL_law wsX3_ears := goodIn_r _ [547, 17, 22, 183, 186, 187, 188, 16, 189, 115, 548, 549, 550, 21, 551, 531, 35, 36, 552, 553, 37, 200, 2, 201, 202, 113, 110, 114, 719, 720, 721, 722, 723, 724, 725, 750, 751, 752, 753, 754, 755, 756, 757, 758, 759] (by decide +kernel) (by decide +kernel)
set_option maxRecDepth 20000 in
theorem gL_law_X3_ears : GoodIn wsL_law (wsV RL 100 RX3 yX3_ears wsX3_ears) := goodIn_app (goodIn_of _ (by decide +kernel)) ggL_law_X3_ears
set_option maxRecDepth 20000 in
theorem ggL_law_X4_ears : GoodIn wsL_law wsX4_ears := goodIn_r _ [557, 51, 207, 208, 209, 5, 210, 131, 558, 559, 560, 561, 178, 55, 56, 57, 211, 212, 213, 214, 49, 726, 727, 728, 729, 730, 731, 732, 733, 734, 735, 736, 737, 738, 739, 740, 741, 742, 743, 744, 745, 746, 747, 748, 749] (by decide +kernel) (by decide +kernel)
set_option maxRecDepth 20000 in
theorem gL_law_X4_ears : GoodIn wsL_law (wsV RL 103 RX4 yX4_ears wsX4_ears) := goodIn_app (goodIn_of _ (by decide +kernel)) ggL_law_X4_ears
set_option maxRecDepth 20000 in
theorem ggL_law_X3_kinds : GoodIn wsL_law wsX3_kinds := goodIn_r _ [565, 17, 22, 185, 186, 187, 188, 16, 189, 115, 548, 549, 550, 21, 551, 531, 35, 36, 552, 553, 37, 200, 2, 201, 202, 113, 110, 114, 719, 720, 721, 722, 723, 724, 725, 750, 751, 752, 753, 754, 755, 756, 757, 758, 759] (by decide +kernel) (by decide +kernel)
set_option maxRecDepth 20000 in
theorem gL_law_X3_kinds : GoodIn wsL_law (wsV RL 104 RX3 yX3_kinds wsX3_kinds) := goodIn_app (goodIn_of _ (by decide +kernel)) ggL_law_X3_kinds
set_option maxRecDepth 20000 in
theorem ggL_law_X4_kinds : GoodIn wsL_law wsX4_kinds := goodIn_r _ [569, 49, 207, 208, 209, 5, 210, 131, 558, 559, 560, 561, 178, 55, 56, 57, 211, 212, 213, 214, 51, 726, 727, 728, 729, 730, 731, 732, 733, 734, 735, 736, 737, 738, 739, 740, 741, 742, 743, 744, 745, 746, 747, 748, 749] (by decide +kernel) (by decide +kernel)
set_option maxRecDepth 20000 in
theorem gL_law_X4_kinds : GoodIn wsL_law (wsV RL 107 RX4 yX4_kinds wsX4_kinds) := goodIn_app (goodIn_of _ (by decide +kernel)) ggL_law_X4_kinds
set_option maxRecDepth 20000 in
theorem ggL_law_X3_odds : GoodIn wsL_law wsX3_odds := goodIn_r _ [573, 17, 488, 183, 185, 186, 187, 188, 16, 189, 115, 489, 490, 2, 491, 426, 427, 428, 429, 467, 194, 195, 468, 469, 470, 471, 30, 274, 275, 276, 277, 278, 279, 280, 269, 235, 236, 237, 574, 200, 201, 202, 113, 110, 114, 500, 501, 502, 719, 720, 721, 722, 723, 724, 725, 750, 751, 752, 753, 754, 755] (by decide +kernel) (by decide +kernel)
set_option maxRecDepth 20000 in
theorem gL_law_X3_odds : GoodIn wsL_law (wsV RL 108 RX3 yX3_odds wsX3_odds) := goodIn_app (goodIn_of _ (by decide +kernel)) ggL_law_X3_odds
set_option maxRecDepth 20000 in
theorem ggL_law_X4_odds : GoodIn wsL_law wsX4_odds := goodIn_r _ [578, 507, 131, 207, 208, 209, 5, 210, 135, 136, 137, 246, 247, 248, 308, 309, 310, 311, 249, 250, 251, 252, 50, 301, 302, 303, 211, 212, 213, 214, 51, 49, 511, 512, 513, 726, 727, 728, 729, 730, 731, 732, 733, 734, 735, 736, 737, 738, 739, 740, 741, 742, 743, 744, 745, 746, 747, 748, 749] (by decide +kernel) (by decide +kernel)
set_option maxRecDepth 20000 in
theorem gL_law_X4_odds : GoodIn wsL_law (wsV RL 112 RX4 yX4_odds wsX4_odds) := goodIn_app (goodIn_of _ (by decide +kernel)) ggL_law_X4_odds
set_option maxRecDepth 20000 in
theorem ggL_law_X3_sheet : GoodIn wsL_law wsX3_sheet := goodIn_r _ [582, 62, 66, 67, 68, 2, 69, 13, 70, 71, 72, 84, 85, 86, 87, 583, 584, 585, 24, 586, 78, 41, 587, 109, 110, 111, 588, 113, 114, 83, 77, 719, 720, 721, 722, 723, 724, 725, 760, 761, 762, 763] (by decide +kernel) (by decide +kernel)
set_option maxRecDepth 20000 in
theorem gL_law_X3_sheet : GoodIn wsL_law (wsV RL 113 RX3 yX3_sheet wsX3_sheet) := goodIn_app (goodIn_of _ (by decide +kernel)) ggL_law_X3_sheet
set_option maxRecDepth 20000 in
theorem ggL_law_X4_sheet : GoodIn wsL_law wsX4_sheet := goodIn_r _ [592, 129, 46, 47, 48, 132, 133, 5, 134, 135, 136, 137, 138, 139, 140, 145, 146, 147, 148, 726, 727, 728, 729, 730, 731, 732, 733, 734, 735, 736, 737, 738, 739, 740, 741, 742, 743, 744, 745, 746, 747, 748, 749] (by decide +kernel) (by decide +kernel)
set_option maxRecDepth 20000 in
theorem gL_law_X4_sheet : GoodIn wsL_law (wsV RL 116 RX4 yX4_sheet wsX4_sheet) := goodIn_app (goodIn_of _ (by decide +kernel)) ggL_law_X4_sheet
set_option maxRecDepth 20000 in
theorem ggL_law_X3_lose : GoodIn wsL_law wsX3_lose := goodIn_r _ [596, 597, 66, 67, 68, 2, 69, 13, 760, 761, 762, 763, 719, 720, 721, 722, 723, 724, 725] (by decide +kernel) (by decide +kernel)
set_option maxRecDepth 20000 in
theorem gL_law_X3_lose : GoodIn wsL_law (wsV RL 117 RX3 yX3_lose wsX3_lose) := goodIn_app (goodIn_of _ (by decide +kernel)) ggL_law_X3_lose
set_option maxRecDepth 20000 in
theorem ggL_law_X4_lose : GoodIn wsL_law wsX4_lose := goodIn_r _ [601, 46, 132, 133, 5, 134, 135, 136, 137, 726, 727, 728, 729, 730, 731, 732, 733, 734, 735, 736, 737, 738, 739, 740, 741, 742, 743, 744, 745, 746, 747, 748, 749] (by decide +kernel) (by decide +kernel)
set_option maxRecDepth 20000 in
theorem gL_law_X4_lose : GoodIn wsL_law (wsV RL 120 RX4 yX4_lose wsX4_lose) := goodIn_app (goodIn_of _ (by decide +kernel)) ggL_law_X4_lose
set_option maxRecDepth 20000 in
theorem ggL_law_X3_put : GoodIn wsL_law wsX3_put := goodIn_r _ [605, 62, 597, 606, 66, 67, 68, 2, 69, 13, 84, 85, 86, 87, 607, 80, 81, 24, 82, 83, 608, 609, 610, 611, 78, 719, 720, 721, 722, 723, 724, 725, 760, 761, 762, 763] (by decide +kernel) (by decide +kernel)
set_option maxRecDepth 20000 in
theorem gL_law_X3_put : GoodIn wsL_law (wsV RL 121 RX3 yX3_put wsX3_put) := goodIn_app (goodIn_of _ (by decide +kernel)) ggL_law_X3_put
set_option maxRecDepth 20000 in
theorem ggL_law_X4_put : GoodIn wsL_law wsX4_put := goodIn_r _ [615, 129, 46, 47, 48, 132, 133, 5, 134, 135, 136, 137, 145, 146, 147, 148, 726, 727, 728, 729, 730, 731, 732, 733, 734, 735, 736, 737, 738, 739, 740, 741, 742, 743, 744, 745, 746, 747, 748, 749] (by decide +kernel) (by decide +kernel)
set_option maxRecDepth 20000 in
theorem gL_law_X4_put : GoodIn wsL_law (wsV RL 124 RX4 yX4_put wsX4_put) := goodIn_app (goodIn_of _ (by decide +kernel)) ggL_law_X4_put
set_option maxRecDepth 20000 in
theorem ggL_law_X3_cell : GoodIn wsL_law wsX3_cell := goodIn_r _ [619, 62, 488, 66, 67, 68, 2, 69, 13, 70, 71, 72, 73, 74, 75, 24, 76, 77, 78, 79, 80, 81, 82, 83, 91, 92, 93, 94, 41, 719, 720, 721, 722, 723, 724, 725, 760, 761, 762, 763] (by decide +kernel) (by decide +kernel)
set_option maxRecDepth 20000 in
theorem gL_law_X3_cell : GoodIn wsL_law (wsV RL 125 RX3 yX3_cell wsX3_cell) := goodIn_app (goodIn_of _ (by decide +kernel)) ggL_law_X3_cell
set_option maxRecDepth 20000 in
theorem ggL_law_X4_cell : GoodIn wsL_law wsX4_cell := goodIn_r _ [623, 129, 507, 46, 47, 48, 132, 133, 5, 134, 135, 136, 137, 138, 139, 140, 624, 625, 626, 627, 726, 727, 728, 729, 730, 731, 732, 733, 734, 735, 736, 737, 738, 739, 740, 741, 742, 743, 744, 745, 746, 747, 748, 749] (by decide +kernel) (by decide +kernel)
set_option maxRecDepth 20000 in
theorem gL_law_X4_cell : GoodIn wsL_law (wsV RL 128 RX4 yX4_cell wsX4_cell) := goodIn_app (goodIn_of _ (by decide +kernel)) ggL_law_X4_cell
set_option maxRecDepth 20000 in
theorem ggL_law_X3_copy : GoodIn wsL_law wsX3_copy := goodIn_r _ [631, 62, 597, 632, 606, 633, 634, 635, 636, 66, 67, 68, 2, 69, 13, 84, 85, 86, 87, 607, 80, 81, 24, 82, 83, 719, 720, 721, 722, 723, 724, 725, 760, 761, 762, 763] (by decide +kernel) (by decide +kernel)
set_option maxRecDepth 20000 in
theorem gL_law_X3_copy : GoodIn wsL_law (wsV RL 129 RX3 yX3_copy wsX3_copy) := goodIn_app (goodIn_of _ (by decide +kernel)) ggL_law_X3_copy
set_option maxRecDepth 20000 in
theorem ggL_law_X4_copy : GoodIn wsL_law wsX4_copy := goodIn_r _ [640, 129, 46, 47, 48, 132, 133, 5, 134, 135, 136, 137, 145, 146, 147, 148, 726, 727, 728, 729, 730, 731, 732, 733, 734, 735, 736, 737, 738, 739, 740, 741, 742, 743, 744, 745, 746, 747, 748, 749] (by decide +kernel) (by decide +kernel)
set_option maxRecDepth 20000 in
theorem gL_law_X4_copy : GoodIn wsL_law (wsV RL 132 RX4 yX4_copy wsX4_copy) := goodIn_app (goodIn_of _ (by decide +kernel)) ggL_law_X4_copy
set_option maxRecDepth 20000 in
theorem ggL_law_X3_tell : GoodIn wsL_law wsX3_tell := goodIn_r _ [644, 17, 183, 186, 187, 188, 16, 189, 115, 645, 646, 647, 2, 648, 185, 649, 650, 651, 652, 653, 654, 655, 656, 657, 658, 659, 660, 661, 719, 720, 721, 722, 723, 724, 725, 750, 751, 752, 753, 754, 755] (by decide +kernel) (by decide +kernel)
set_option maxRecDepth 20000 in
theorem gL_law_X3_tell : GoodIn wsL_law (wsV RL 133 RX3 yX3_tell wsX3_tell) := goodIn_app (goodIn_of _ (by decide +kernel)) ggL_law_X3_tell
set_option maxRecDepth 20000 in
theorem ggL_law_X4_tell : GoodIn wsL_law wsX4_tell := goodIn_r _ [665, 51, 49, 207, 208, 209, 5, 210, 131, 666, 667, 668, 669, 670, 726, 727, 728, 729, 730, 731, 732, 733, 734, 735, 736, 737, 738, 739, 740, 741, 742, 743, 744, 745, 746, 747, 748, 749] (by decide +kernel) (by decide +kernel)
set_option maxRecDepth 20000 in
theorem gL_law_X4_tell : GoodIn wsL_law (wsV RL 136 RX4 yX4_tell wsX4_tell) := goodIn_app (goodIn_of _ (by decide +kernel)) ggL_law_X4_tell
set_option maxRecDepth 20000 in
theorem ggL_law_X3_call : GoodIn wsL_law wsX3_call := goodIn_r _ [674, 17, 183, 186, 187, 188, 16, 189, 115, 675, 676, 677, 2, 678, 649, 650, 651, 652, 653, 679, 680, 681, 682, 719, 720, 721, 722, 723, 724, 725, 750, 751, 752, 753, 754, 755] (by decide +kernel) (by decide +kernel)
set_option maxRecDepth 20000 in
theorem gL_law_X3_call : GoodIn wsL_law (wsV RL 137 RX3 yX3_call wsX3_call) := goodIn_app (goodIn_of _ (by decide +kernel)) ggL_law_X3_call
set_option maxRecDepth 20000 in
theorem ggL_law_X4_call : GoodIn wsL_law wsX4_call := goodIn_r _ [686, 49, 207, 208, 209, 5, 210, 131, 666, 667, 668, 669, 670, 726, 727, 728, 729, 730, 731, 732, 733, 734, 735, 736, 737, 738, 739, 740, 741, 742, 743, 744, 745, 746, 747, 748, 749] (by decide +kernel) (by decide +kernel)
set_option maxRecDepth 20000 in
theorem gL_law_X4_call : GoodIn wsL_law (wsV RL 140 RX4 yX4_call wsX4_call) := goodIn_app (goodIn_of _ (by decide +kernel)) ggL_law_X4_call
set_option maxRecDepth 20000 in
theorem ggL_law_X3_as : GoodIn wsL_law wsX3_as := goodIn_r _ [690, 62, 17, 183, 186, 187, 188, 16, 189, 115, 84, 85, 86, 2, 87, 719, 720, 721, 722, 723, 724, 725, 750, 751, 752, 753, 754, 755] (by decide +kernel) (by decide +kernel)
set_option maxRecDepth 20000 in
theorem gL_law_X3_as : GoodIn wsL_law (wsV RL 141 RX3 yX3_as wsX3_as) := goodIn_app (goodIn_of _ (by decide +kernel)) ggL_law_X3_as
set_option maxRecDepth 20000 in
theorem ggL_law_X4_as : GoodIn wsL_law wsX4_as := goodIn_r _ [694, 129, 49, 207, 208, 209, 5, 210, 131, 135, 136, 137, 145, 146, 147, 148, 726, 727, 728, 729, 730, 731, 732, 733, 734, 735, 736, 737, 738, 739, 740, 741, 742, 743, 744, 745, 746, 747, 748, 749] (by decide +kernel) (by decide +kernel)
set_option maxRecDepth 20000 in
theorem gL_law_X4_as : GoodIn wsL_law (wsV RL 144 RX4 yX4_as wsX4_as) := goodIn_app (goodIn_of _ (by decide +kernel)) ggL_law_X4_as
set_option maxRecDepth 20000 in
theorem ggL_law_X3_trace : GoodIn wsL_law wsX3_trace := goodIn_r _ [698, 653, 719, 720, 721, 722, 723, 724, 725] (by decide +kernel) (by decide +kernel)
set_option maxRecDepth 20000 in
theorem gL_law_X3_trace : GoodIn wsL_law (wsV RL 145 RX3 yX3_trace wsX3_trace) := goodIn_app (goodIn_of _ (by decide +kernel)) ggL_law_X3_trace
set_option maxRecDepth 20000 in
theorem ggL_law_X4_trace : GoodIn wsL_law wsX4_trace := goodIn_r _ [702, 670, 726, 727, 728, 729, 730, 731, 732, 733, 734, 735, 736, 737, 738, 739, 740, 741, 742, 743, 744, 745, 746, 747, 748, 749] (by decide +kernel) (by decide +kernel)
set_option maxRecDepth 20000 in
theorem gL_law_X4_trace : GoodIn wsL_law (wsV RL 149 RX4 yX4_trace wsX4_trace) := goodIn_app (goodIn_of _ (by decide +kernel)) ggL_law_X4_trace
set_option maxRecDepth 20000 in
theorem ggL_law_X3_fault : GoodIn wsL_law wsX3_fault := goodIn_r _ [706, 62, 719, 720, 721, 722, 723, 724, 725] (by decide +kernel) (by decide +kernel)
set_option maxRecDepth 20000 in
theorem gL_law_X3_fault : GoodIn wsL_law (wsV RL 150 RX3 yX3_fault wsX3_fault) := goodIn_app (goodIn_of _ (by decide +kernel)) ggL_law_X3_fault
set_option maxRecDepth 20000 in
theorem ggL_law_X4_fault : GoodIn wsL_law wsX4_fault := goodIn_r _ [710, 129, 726, 727, 728, 729, 730, 731, 732, 733, 734, 735, 736, 737, 738, 739, 740, 741, 742, 743, 744, 745, 746, 747, 748, 749] (by decide +kernel) (by decide +kernel)
set_option maxRecDepth 20000 in
theorem gL_law_X4_fault : GoodIn wsL_law (wsV RL 153 RX4 yX4_fault wsX4_fault) := goodIn_app (goodIn_of _ (by decide +kernel)) ggL_law_X4_fault
set_option maxRecDepth 20000 in
theorem ggL_law_X3_many : GoodIn wsL_law wsX3_many := goodIn_r _ [714, 17, 65, 348, 64, 22, 63, 518, 271, 272, 16, 273, 117, 274, 275, 276, 277, 278, 279, 280, 719, 720, 721, 722, 723, 724, 725, 750, 751, 752, 753, 754, 755, 756, 757, 758, 759] (by decide +kernel) (by decide +kernel)
set_option maxRecDepth 20000 in
theorem gL_law_X3_many : GoodIn wsL_law (wsV RL 154 RX3 yX3_many wsX3_many) := goodIn_app (goodIn_of _ (by decide +kernel)) ggL_law_X3_many
set_option maxRecDepth 20000 in
theorem ggL_law_X4_many : GoodIn wsL_law wsX4_many := goodIn_r _ [718, 131, 175, 176, 177, 178, 301, 302, 5, 303, 726, 727, 728, 729, 730, 731, 732, 733, 734, 735, 736, 737, 738, 739, 740, 741, 742, 743, 744, 745, 746, 747, 748, 749] (by decide +kernel) (by decide +kernel)
set_option maxRecDepth 20000 in
theorem gL_law_X4_many : GoodIn wsL_law (wsV RL 157 RX4 yX4_many wsX4_many) := goodIn_app (goodIn_of _ (by decide +kernel)) ggL_law_X4_many
theorem dL_law_0 : decode cL_law 0 = .ok (.new 7, 3) := by decide +kernel
theorem dL_law_3 : decode cL_law 3 = .ok (.dup, 1) := by decide +kernel
theorem dL_law_4 : decode cL_law 4 = .ok (.invokespecial 9, 3) := by decide +kernel
theorem dL_law_7 : decode cL_law 7 = .ok (.astore_n 1, 1) := by decide +kernel
theorem dL_law_8 : decode cL_law 8 = .ok (.new 10, 3) := by decide +kernel
theorem dL_law_11 : decode cL_law 11 = .ok (.dup, 1) := by decide +kernel
theorem dL_law_12 : decode cL_law 12 = .ok (.invokespecial 12, 3) := by decide +kernel
theorem dL_law_15 : decode cL_law 15 = .ok (.astore_n 2, 1) := by decide +kernel
theorem dL_law_16 : decode cL_law 16 = .ok (.iconst 0, 1) := by decide +kernel
theorem dL_law_17 : decode cL_law 17 = .ok (.istore_n 3, 1) := by decide +kernel
theorem dL_law_18 : decode cL_law 18 = .ok (.iload_n 3, 1) := by decide +kernel
theorem dL_law_19 : decode cL_law 19 = .ok (.aload_n 0, 1) := by decide +kernel
theorem dL_law_20 : decode cL_law 20 = .ok (.arraylength, 1) := by decide +kernel
theorem dL_law_21 : decode cL_law 21 = .ok (.bipush 6, 2) := by decide +kernel
theorem dL_law_23 : decode cL_law 23 = .ok (.isub, 1) := by decide +kernel
theorem dL_law_24 : decode cL_law 24 = .ok (.if_icmp .gt 1252, 3) := by decide +kernel
theorem dL_law_27 : decode cL_law 27 = .ok (.aload_n 0, 1) := by decide +kernel
theorem dL_law_28 : decode cL_law 28 = .ok (.iload_n 3, 1) := by decide +kernel
theorem dL_law_29 : decode cL_law 29 = .ok (.iaload, 1) := by decide +kernel
theorem dL_law_30 : decode cL_law 30 = .ok (.bipush 63, 2) := by decide +kernel
theorem dL_law_32 : decode cL_law 32 = .ok (.iand, 1) := by decide +kernel
theorem dL_law_33 : decode cL_law 33 = .ok (.tableswitch 1237 0 33 #[151, 204, 237, 270, 293, 316, 339, 362, 385, 418, 441, 504, 547, 580, 603, 646, 679, 713, 737, 780, 803, 826, 849, 893, 936, 959, 1002, 1046, 1109, 1132, 1155, 1188, 1201, 1214], 151) := by decide +kernel
theorem dL_law_184 : decode cL_law 184 = .ok (.aload_n 1, 1) := by decide +kernel
theorem dL_law_185 : decode cL_law 185 = .ok (.aload_n 0, 1) := by decide +kernel
theorem dL_law_186 : decode cL_law 186 = .ok (.iload_n 3, 1) := by decide +kernel
theorem dL_law_187 : decode cL_law 187 = .ok (.iconst 1, 1) := by decide +kernel
theorem dL_law_188 : decode cL_law 188 = .ok (.iadd, 1) := by decide +kernel
theorem dL_law_189 : decode cL_law 189 = .ok (.iaload, 1) := by decide +kernel
theorem dL_law_190 : decode cL_law 190 = .ok (.aload_n 0, 1) := by decide +kernel
theorem dL_law_191 : decode cL_law 191 = .ok (.iload_n 3, 1) := by decide +kernel
theorem dL_law_192 : decode cL_law 192 = .ok (.iconst 2, 1) := by decide +kernel
theorem dL_law_193 : decode cL_law 193 = .ok (.iadd, 1) := by decide +kernel
theorem dL_law_194 : decode cL_law 194 = .ok (.iaload, 1) := by decide +kernel
theorem dL_law_195 : decode cL_law 195 = .ok (.aload_n 0, 1) := by decide +kernel
theorem dL_law_196 : decode cL_law 196 = .ok (.iload_n 3, 1) := by decide +kernel
theorem dL_law_197 : decode cL_law 197 = .ok (.iconst 3, 1) := by decide +kernel
theorem dL_law_198 : decode cL_law 198 = .ok (.iadd, 1) := by decide +kernel
theorem dL_law_199 : decode cL_law 199 = .ok (.iaload, 1) := by decide +kernel
theorem dL_law_200 : decode cL_law 200 = .ok (.aload_n 0, 1) := by decide +kernel
theorem dL_law_201 : decode cL_law 201 = .ok (.iload_n 3, 1) := by decide +kernel
theorem dL_law_202 : decode cL_law 202 = .ok (.iconst 4, 1) := by decide +kernel
theorem dL_law_203 : decode cL_law 203 = .ok (.iadd, 1) := by decide +kernel
theorem dL_law_204 : decode cL_law 204 = .ok (.iaload, 1) := by decide +kernel
theorem dL_law_205 : decode cL_law 205 = .ok (.invokevirtual 13, 3) := by decide +kernel
theorem dL_law_208 : decode cL_law 208 = .ok (.aload_n 2, 1) := by decide +kernel
theorem dL_law_209 : decode cL_law 209 = .ok (.aload_n 0, 1) := by decide +kernel
theorem dL_law_210 : decode cL_law 210 = .ok (.iload_n 3, 1) := by decide +kernel
theorem dL_law_211 : decode cL_law 211 = .ok (.iconst 1, 1) := by decide +kernel
theorem dL_law_212 : decode cL_law 212 = .ok (.iadd, 1) := by decide +kernel
theorem dL_law_213 : decode cL_law 213 = .ok (.iaload, 1) := by decide +kernel
theorem dL_law_214 : decode cL_law 214 = .ok (.aload_n 0, 1) := by decide +kernel
theorem dL_law_215 : decode cL_law 215 = .ok (.iload_n 3, 1) := by decide +kernel
theorem dL_law_216 : decode cL_law 216 = .ok (.iconst 2, 1) := by decide +kernel
theorem dL_law_217 : decode cL_law 217 = .ok (.iadd, 1) := by decide +kernel
theorem dL_law_218 : decode cL_law 218 = .ok (.iaload, 1) := by decide +kernel
theorem dL_law_219 : decode cL_law 219 = .ok (.aload_n 0, 1) := by decide +kernel
theorem dL_law_220 : decode cL_law 220 = .ok (.iload_n 3, 1) := by decide +kernel
theorem dL_law_221 : decode cL_law 221 = .ok (.iconst 3, 1) := by decide +kernel
theorem dL_law_222 : decode cL_law 222 = .ok (.iadd, 1) := by decide +kernel
theorem dL_law_223 : decode cL_law 223 = .ok (.iaload, 1) := by decide +kernel
theorem dL_law_224 : decode cL_law 224 = .ok (.aload_n 0, 1) := by decide +kernel
theorem dL_law_225 : decode cL_law 225 = .ok (.iload_n 3, 1) := by decide +kernel
theorem dL_law_226 : decode cL_law 226 = .ok (.iconst 4, 1) := by decide +kernel
theorem dL_law_227 : decode cL_law 227 = .ok (.iadd, 1) := by decide +kernel
theorem dL_law_228 : decode cL_law 228 = .ok (.iaload, 1) := by decide +kernel
theorem dL_law_229 : decode cL_law 229 = .ok (.invokevirtual 17, 3) := by decide +kernel
theorem dL_law_232 : decode cL_law 232 = .ok (.if_icmp .eq 1038, 3) := by decide +kernel
theorem dL_law_235 : decode cL_law 235 = .ok (.iconst 0, 1) := by decide +kernel
theorem dL_law_236 : decode cL_law 236 = .ok (.ireturn, 1) := by decide +kernel
theorem dL_law_237 : decode cL_law 237 = .ok (.aload_n 1, 1) := by decide +kernel
theorem dL_law_238 : decode cL_law 238 = .ok (.aload_n 0, 1) := by decide +kernel
theorem dL_law_239 : decode cL_law 239 = .ok (.iload_n 3, 1) := by decide +kernel
theorem dL_law_240 : decode cL_law 240 = .ok (.iconst 1, 1) := by decide +kernel
theorem dL_law_241 : decode cL_law 241 = .ok (.iadd, 1) := by decide +kernel
theorem dL_law_242 : decode cL_law 242 = .ok (.iaload, 1) := by decide +kernel
theorem dL_law_243 : decode cL_law 243 = .ok (.aload_n 0, 1) := by decide +kernel
theorem dL_law_244 : decode cL_law 244 = .ok (.iload_n 3, 1) := by decide +kernel
theorem dL_law_245 : decode cL_law 245 = .ok (.iconst 2, 1) := by decide +kernel
theorem dL_law_246 : decode cL_law 246 = .ok (.iadd, 1) := by decide +kernel
theorem dL_law_247 : decode cL_law 247 = .ok (.iaload, 1) := by decide +kernel
theorem dL_law_248 : decode cL_law 248 = .ok (.invokevirtual 18, 3) := by decide +kernel
theorem dL_law_251 : decode cL_law 251 = .ok (.aload_n 2, 1) := by decide +kernel
theorem dL_law_252 : decode cL_law 252 = .ok (.aload_n 0, 1) := by decide +kernel
theorem dL_law_253 : decode cL_law 253 = .ok (.iload_n 3, 1) := by decide +kernel
theorem dL_law_254 : decode cL_law 254 = .ok (.iconst 1, 1) := by decide +kernel
theorem dL_law_255 : decode cL_law 255 = .ok (.iadd, 1) := by decide +kernel
theorem dL_law_256 : decode cL_law 256 = .ok (.iaload, 1) := by decide +kernel
theorem dL_law_257 : decode cL_law 257 = .ok (.aload_n 0, 1) := by decide +kernel
end
section
theorem dL_law_258 : decode cL_law 258 = .ok (.iload_n 3, 1) := by decide +kernel
theorem dL_law_259 : decode cL_law 259 = .ok (.iconst 2, 1) := by decide +kernel
theorem dL_law_260 : decode cL_law 260 = .ok (.iadd, 1) := by decide +kernel
theorem dL_law_261 : decode cL_law 261 = .ok (.iaload, 1) := by decide +kernel
theorem dL_law_262 : decode cL_law 262 = .ok (.invokevirtual 22, 3) := by decide +kernel
theorem dL_law_265 : decode cL_law 265 = .ok (.if_icmp .eq 1005, 3) := by decide +kernel
theorem dL_law_268 : decode cL_law 268 = .ok (.iconst 0, 1) := by decide +kernel
theorem dL_law_269 : decode cL_law 269 = .ok (.ireturn, 1) := by decide +kernel
theorem dL_law_270 : decode cL_law 270 = .ok (.aload_n 1, 1) := by decide +kernel
theorem dL_law_271 : decode cL_law 271 = .ok (.aload_n 0, 1) := by decide +kernel
theorem dL_law_272 : decode cL_law 272 = .ok (.iload_n 3, 1) := by decide +kernel
theorem dL_law_273 : decode cL_law 273 = .ok (.iconst 1, 1) := by decide +kernel
theorem dL_law_274 : decode cL_law 274 = .ok (.iadd, 1) := by decide +kernel
theorem dL_law_275 : decode cL_law 275 = .ok (.iaload, 1) := by decide +kernel
theorem dL_law_276 : decode cL_law 276 = .ok (.aload_n 0, 1) := by decide +kernel
theorem dL_law_277 : decode cL_law 277 = .ok (.iload_n 3, 1) := by decide +kernel
theorem dL_law_278 : decode cL_law 278 = .ok (.iconst 2, 1) := by decide +kernel
theorem dL_law_279 : decode cL_law 279 = .ok (.iadd, 1) := by decide +kernel
theorem dL_law_280 : decode cL_law 280 = .ok (.iaload, 1) := by decide +kernel
theorem dL_law_281 : decode cL_law 281 = .ok (.invokevirtual 23, 3) := by decide +kernel
theorem dL_law_284 : decode cL_law 284 = .ok (.aload_n 2, 1) := by decide +kernel
theorem dL_law_285 : decode cL_law 285 = .ok (.aload_n 0, 1) := by decide +kernel
theorem dL_law_286 : decode cL_law 286 = .ok (.iload_n 3, 1) := by decide +kernel
theorem dL_law_287 : decode cL_law 287 = .ok (.iconst 1, 1) := by decide +kernel
theorem dL_law_288 : decode cL_law 288 = .ok (.iadd, 1) := by decide +kernel
theorem dL_law_289 : decode cL_law 289 = .ok (.iaload, 1) := by decide +kernel
theorem dL_law_290 : decode cL_law 290 = .ok (.aload_n 0, 1) := by decide +kernel
theorem dL_law_291 : decode cL_law 291 = .ok (.iload_n 3, 1) := by decide +kernel
theorem dL_law_292 : decode cL_law 292 = .ok (.iconst 2, 1) := by decide +kernel
theorem dL_law_293 : decode cL_law 293 = .ok (.iadd, 1) := by decide +kernel
theorem dL_law_294 : decode cL_law 294 = .ok (.iaload, 1) := by decide +kernel
theorem dL_law_295 : decode cL_law 295 = .ok (.invokevirtual 26, 3) := by decide +kernel
theorem dL_law_298 : decode cL_law 298 = .ok (.if_icmp .eq 972, 3) := by decide +kernel
theorem dL_law_301 : decode cL_law 301 = .ok (.iconst 0, 1) := by decide +kernel
theorem dL_law_302 : decode cL_law 302 = .ok (.ireturn, 1) := by decide +kernel
theorem dL_law_303 : decode cL_law 303 = .ok (.aload_n 1, 1) := by decide +kernel
theorem dL_law_304 : decode cL_law 304 = .ok (.aload_n 0, 1) := by decide +kernel
theorem dL_law_305 : decode cL_law 305 = .ok (.iload_n 3, 1) := by decide +kernel
theorem dL_law_306 : decode cL_law 306 = .ok (.iconst 1, 1) := by decide +kernel
theorem dL_law_307 : decode cL_law 307 = .ok (.iadd, 1) := by decide +kernel
theorem dL_law_308 : decode cL_law 308 = .ok (.iaload, 1) := by decide +kernel
theorem dL_law_309 : decode cL_law 309 = .ok (.invokevirtual 27, 3) := by decide +kernel
theorem dL_law_312 : decode cL_law 312 = .ok (.aload_n 2, 1) := by decide +kernel
theorem dL_law_313 : decode cL_law 313 = .ok (.aload_n 0, 1) := by decide +kernel
theorem dL_law_314 : decode cL_law 314 = .ok (.iload_n 3, 1) := by decide +kernel
theorem dL_law_315 : decode cL_law 315 = .ok (.iconst 1, 1) := by decide +kernel
theorem dL_law_316 : decode cL_law 316 = .ok (.iadd, 1) := by decide +kernel
theorem dL_law_317 : decode cL_law 317 = .ok (.iaload, 1) := by decide +kernel
theorem dL_law_318 : decode cL_law 318 = .ok (.invokevirtual 31, 3) := by decide +kernel
theorem dL_law_321 : decode cL_law 321 = .ok (.if_icmp .eq 949, 3) := by decide +kernel
theorem dL_law_324 : decode cL_law 324 = .ok (.iconst 0, 1) := by decide +kernel
theorem dL_law_325 : decode cL_law 325 = .ok (.ireturn, 1) := by decide +kernel
theorem dL_law_326 : decode cL_law 326 = .ok (.aload_n 1, 1) := by decide +kernel
theorem dL_law_327 : decode cL_law 327 = .ok (.aload_n 0, 1) := by decide +kernel
theorem dL_law_328 : decode cL_law 328 = .ok (.iload_n 3, 1) := by decide +kernel
theorem dL_law_329 : decode cL_law 329 = .ok (.iconst 1, 1) := by decide +kernel
theorem dL_law_330 : decode cL_law 330 = .ok (.iadd, 1) := by decide +kernel
theorem dL_law_331 : decode cL_law 331 = .ok (.iaload, 1) := by decide +kernel
theorem dL_law_332 : decode cL_law 332 = .ok (.invokevirtual 32, 3) := by decide +kernel
theorem dL_law_335 : decode cL_law 335 = .ok (.aload_n 2, 1) := by decide +kernel
theorem dL_law_336 : decode cL_law 336 = .ok (.aload_n 0, 1) := by decide +kernel
theorem dL_law_337 : decode cL_law 337 = .ok (.iload_n 3, 1) := by decide +kernel
theorem dL_law_338 : decode cL_law 338 = .ok (.iconst 1, 1) := by decide +kernel
theorem dL_law_339 : decode cL_law 339 = .ok (.iadd, 1) := by decide +kernel
theorem dL_law_340 : decode cL_law 340 = .ok (.iaload, 1) := by decide +kernel
theorem dL_law_341 : decode cL_law 341 = .ok (.invokevirtual 35, 3) := by decide +kernel
theorem dL_law_344 : decode cL_law 344 = .ok (.if_icmp .eq 926, 3) := by decide +kernel
theorem dL_law_347 : decode cL_law 347 = .ok (.iconst 0, 1) := by decide +kernel
theorem dL_law_348 : decode cL_law 348 = .ok (.ireturn, 1) := by decide +kernel
theorem dL_law_349 : decode cL_law 349 = .ok (.aload_n 1, 1) := by decide +kernel
theorem dL_law_350 : decode cL_law 350 = .ok (.aload_n 0, 1) := by decide +kernel
theorem dL_law_351 : decode cL_law 351 = .ok (.iload_n 3, 1) := by decide +kernel
theorem dL_law_352 : decode cL_law 352 = .ok (.iconst 1, 1) := by decide +kernel
theorem dL_law_353 : decode cL_law 353 = .ok (.iadd, 1) := by decide +kernel
theorem dL_law_354 : decode cL_law 354 = .ok (.iaload, 1) := by decide +kernel
theorem dL_law_355 : decode cL_law 355 = .ok (.invokevirtual 36, 3) := by decide +kernel
theorem dL_law_358 : decode cL_law 358 = .ok (.aload_n 2, 1) := by decide +kernel
theorem dL_law_359 : decode cL_law 359 = .ok (.aload_n 0, 1) := by decide +kernel
theorem dL_law_360 : decode cL_law 360 = .ok (.iload_n 3, 1) := by decide +kernel
theorem dL_law_361 : decode cL_law 361 = .ok (.iconst 1, 1) := by decide +kernel
theorem dL_law_362 : decode cL_law 362 = .ok (.iadd, 1) := by decide +kernel
theorem dL_law_363 : decode cL_law 363 = .ok (.iaload, 1) := by decide +kernel
theorem dL_law_364 : decode cL_law 364 = .ok (.invokevirtual 39, 3) := by decide +kernel
theorem dL_law_367 : decode cL_law 367 = .ok (.if_icmp .eq 903, 3) := by decide +kernel
theorem dL_law_370 : decode cL_law 370 = .ok (.iconst 0, 1) := by decide +kernel
theorem dL_law_371 : decode cL_law 371 = .ok (.ireturn, 1) := by decide +kernel
theorem dL_law_372 : decode cL_law 372 = .ok (.aload_n 1, 1) := by decide +kernel
theorem dL_law_373 : decode cL_law 373 = .ok (.aload_n 0, 1) := by decide +kernel
theorem dL_law_374 : decode cL_law 374 = .ok (.iload_n 3, 1) := by decide +kernel
theorem dL_law_375 : decode cL_law 375 = .ok (.iconst 1, 1) := by decide +kernel
theorem dL_law_376 : decode cL_law 376 = .ok (.iadd, 1) := by decide +kernel
theorem dL_law_377 : decode cL_law 377 = .ok (.iaload, 1) := by decide +kernel
theorem dL_law_378 : decode cL_law 378 = .ok (.invokevirtual 40, 3) := by decide +kernel
theorem dL_law_381 : decode cL_law 381 = .ok (.aload_n 2, 1) := by decide +kernel
theorem dL_law_382 : decode cL_law 382 = .ok (.aload_n 0, 1) := by decide +kernel
theorem dL_law_383 : decode cL_law 383 = .ok (.iload_n 3, 1) := by decide +kernel
theorem dL_law_384 : decode cL_law 384 = .ok (.iconst 1, 1) := by decide +kernel
theorem dL_law_385 : decode cL_law 385 = .ok (.iadd, 1) := by decide +kernel
theorem dL_law_386 : decode cL_law 386 = .ok (.iaload, 1) := by decide +kernel
theorem dL_law_387 : decode cL_law 387 = .ok (.invokevirtual 43, 3) := by decide +kernel
theorem dL_law_390 : decode cL_law 390 = .ok (.if_icmp .eq 880, 3) := by decide +kernel
theorem dL_law_393 : decode cL_law 393 = .ok (.iconst 0, 1) := by decide +kernel
theorem dL_law_394 : decode cL_law 394 = .ok (.ireturn, 1) := by decide +kernel
theorem dL_law_395 : decode cL_law 395 = .ok (.aload_n 1, 1) := by decide +kernel
theorem dL_law_396 : decode cL_law 396 = .ok (.aload_n 0, 1) := by decide +kernel
theorem dL_law_397 : decode cL_law 397 = .ok (.iload_n 3, 1) := by decide +kernel
theorem dL_law_398 : decode cL_law 398 = .ok (.iconst 1, 1) := by decide +kernel
theorem dL_law_399 : decode cL_law 399 = .ok (.iadd, 1) := by decide +kernel
theorem dL_law_400 : decode cL_law 400 = .ok (.iaload, 1) := by decide +kernel
theorem dL_law_401 : decode cL_law 401 = .ok (.invokevirtual 44, 3) := by decide +kernel
theorem dL_law_404 : decode cL_law 404 = .ok (.aload_n 2, 1) := by decide +kernel
theorem dL_law_405 : decode cL_law 405 = .ok (.aload_n 0, 1) := by decide +kernel
theorem dL_law_406 : decode cL_law 406 = .ok (.iload_n 3, 1) := by decide +kernel
theorem dL_law_407 : decode cL_law 407 = .ok (.iconst 1, 1) := by decide +kernel
theorem dL_law_408 : decode cL_law 408 = .ok (.iadd, 1) := by decide +kernel
theorem dL_law_409 : decode cL_law 409 = .ok (.iaload, 1) := by decide +kernel
theorem dL_law_410 : decode cL_law 410 = .ok (.invokevirtual 47, 3) := by decide +kernel
theorem dL_law_413 : decode cL_law 413 = .ok (.if_icmp .eq 857, 3) := by decide +kernel
theorem dL_law_416 : decode cL_law 416 = .ok (.iconst 0, 1) := by decide +kernel
theorem dL_law_417 : decode cL_law 417 = .ok (.ireturn, 1) := by decide +kernel
theorem dL_law_418 : decode cL_law 418 = .ok (.aload_n 1, 1) := by decide +kernel
theorem dL_law_419 : decode cL_law 419 = .ok (.aload_n 0, 1) := by decide +kernel
theorem dL_law_420 : decode cL_law 420 = .ok (.iload_n 3, 1) := by decide +kernel
theorem dL_law_421 : decode cL_law 421 = .ok (.iconst 1, 1) := by decide +kernel
theorem dL_law_422 : decode cL_law 422 = .ok (.iadd, 1) := by decide +kernel
theorem dL_law_423 : decode cL_law 423 = .ok (.iaload, 1) := by decide +kernel
theorem dL_law_424 : decode cL_law 424 = .ok (.aload_n 0, 1) := by decide +kernel
theorem dL_law_425 : decode cL_law 425 = .ok (.iload_n 3, 1) := by decide +kernel
theorem dL_law_426 : decode cL_law 426 = .ok (.iconst 2, 1) := by decide +kernel
theorem dL_law_427 : decode cL_law 427 = .ok (.iadd, 1) := by decide +kernel
theorem dL_law_428 : decode cL_law 428 = .ok (.iaload, 1) := by decide +kernel
theorem dL_law_429 : decode cL_law 429 = .ok (.invokevirtual 48, 3) := by decide +kernel
theorem dL_law_432 : decode cL_law 432 = .ok (.aload_n 2, 1) := by decide +kernel
theorem dL_law_433 : decode cL_law 433 = .ok (.aload_n 0, 1) := by decide +kernel
theorem dL_law_434 : decode cL_law 434 = .ok (.iload_n 3, 1) := by decide +kernel
theorem dL_law_435 : decode cL_law 435 = .ok (.iconst 1, 1) := by decide +kernel
theorem dL_law_436 : decode cL_law 436 = .ok (.iadd, 1) := by decide +kernel
theorem dL_law_437 : decode cL_law 437 = .ok (.iaload, 1) := by decide +kernel
theorem dL_law_438 : decode cL_law 438 = .ok (.aload_n 0, 1) := by decide +kernel
theorem dL_law_439 : decode cL_law 439 = .ok (.iload_n 3, 1) := by decide +kernel
theorem dL_law_440 : decode cL_law 440 = .ok (.iconst 2, 1) := by decide +kernel
theorem dL_law_441 : decode cL_law 441 = .ok (.iadd, 1) := by decide +kernel
theorem dL_law_442 : decode cL_law 442 = .ok (.iaload, 1) := by decide +kernel
theorem dL_law_443 : decode cL_law 443 = .ok (.invokevirtual 51, 3) := by decide +kernel
theorem dL_law_446 : decode cL_law 446 = .ok (.if_icmp .eq 824, 3) := by decide +kernel
theorem dL_law_449 : decode cL_law 449 = .ok (.iconst 0, 1) := by decide +kernel
theorem dL_law_450 : decode cL_law 450 = .ok (.ireturn, 1) := by decide +kernel
theorem dL_law_451 : decode cL_law 451 = .ok (.aload_n 1, 1) := by decide +kernel
theorem dL_law_452 : decode cL_law 452 = .ok (.aload_n 0, 1) := by decide +kernel
theorem dL_law_453 : decode cL_law 453 = .ok (.iload_n 3, 1) := by decide +kernel
theorem dL_law_454 : decode cL_law 454 = .ok (.iconst 1, 1) := by decide +kernel
theorem dL_law_455 : decode cL_law 455 = .ok (.iadd, 1) := by decide +kernel
theorem dL_law_456 : decode cL_law 456 = .ok (.iaload, 1) := by decide +kernel
theorem dL_law_457 : decode cL_law 457 = .ok (.invokevirtual 52, 3) := by decide +kernel
theorem dL_law_460 : decode cL_law 460 = .ok (.aload_n 2, 1) := by decide +kernel
theorem dL_law_461 : decode cL_law 461 = .ok (.aload_n 0, 1) := by decide +kernel
theorem dL_law_462 : decode cL_law 462 = .ok (.iload_n 3, 1) := by decide +kernel
theorem dL_law_463 : decode cL_law 463 = .ok (.iconst 1, 1) := by decide +kernel
theorem dL_law_464 : decode cL_law 464 = .ok (.iadd, 1) := by decide +kernel
theorem dL_law_465 : decode cL_law 465 = .ok (.iaload, 1) := by decide +kernel
theorem dL_law_466 : decode cL_law 466 = .ok (.invokevirtual 55, 3) := by decide +kernel
theorem dL_law_469 : decode cL_law 469 = .ok (.if_icmp .eq 801, 3) := by decide +kernel
theorem dL_law_472 : decode cL_law 472 = .ok (.iconst 0, 1) := by decide +kernel
theorem dL_law_473 : decode cL_law 473 = .ok (.ireturn, 1) := by decide +kernel
theorem dL_law_474 : decode cL_law 474 = .ok (.aload_n 1, 1) := by decide +kernel
theorem dL_law_475 : decode cL_law 475 = .ok (.aload_n 0, 1) := by decide +kernel
theorem dL_law_476 : decode cL_law 476 = .ok (.iload_n 3, 1) := by decide +kernel
theorem dL_law_477 : decode cL_law 477 = .ok (.iconst 1, 1) := by decide +kernel
theorem dL_law_478 : decode cL_law 478 = .ok (.iadd, 1) := by decide +kernel
theorem dL_law_479 : decode cL_law 479 = .ok (.iaload, 1) := by decide +kernel
theorem dL_law_480 : decode cL_law 480 = .ok (.aload_n 0, 1) := by decide +kernel
theorem dL_law_481 : decode cL_law 481 = .ok (.iload_n 3, 1) := by decide +kernel
theorem dL_law_482 : decode cL_law 482 = .ok (.iconst 2, 1) := by decide +kernel
theorem dL_law_483 : decode cL_law 483 = .ok (.iadd, 1) := by decide +kernel
theorem dL_law_484 : decode cL_law 484 = .ok (.iaload, 1) := by decide +kernel
theorem dL_law_485 : decode cL_law 485 = .ok (.aload_n 0, 1) := by decide +kernel
theorem dL_law_486 : decode cL_law 486 = .ok (.iload_n 3, 1) := by decide +kernel
theorem dL_law_487 : decode cL_law 487 = .ok (.iconst 3, 1) := by decide +kernel
theorem dL_law_488 : decode cL_law 488 = .ok (.iadd, 1) := by decide +kernel
theorem dL_law_489 : decode cL_law 489 = .ok (.iaload, 1) := by decide +kernel
theorem dL_law_490 : decode cL_law 490 = .ok (.aload_n 0, 1) := by decide +kernel
theorem dL_law_491 : decode cL_law 491 = .ok (.iload_n 3, 1) := by decide +kernel
theorem dL_law_492 : decode cL_law 492 = .ok (.iconst 4, 1) := by decide +kernel
theorem dL_law_493 : decode cL_law 493 = .ok (.iadd, 1) := by decide +kernel
theorem dL_law_494 : decode cL_law 494 = .ok (.iaload, 1) := by decide +kernel
theorem dL_law_495 : decode cL_law 495 = .ok (.aload_n 0, 1) := by decide +kernel
theorem dL_law_496 : decode cL_law 496 = .ok (.iload_n 3, 1) := by decide +kernel
theorem dL_law_497 : decode cL_law 497 = .ok (.iconst 5, 1) := by decide +kernel
theorem dL_law_498 : decode cL_law 498 = .ok (.iadd, 1) := by decide +kernel
theorem dL_law_499 : decode cL_law 499 = .ok (.iaload, 1) := by decide +kernel
theorem dL_law_500 : decode cL_law 500 = .ok (.invokevirtual 56, 3) := by decide +kernel
theorem dL_law_503 : decode cL_law 503 = .ok (.aload_n 2, 1) := by decide +kernel
theorem dL_law_504 : decode cL_law 504 = .ok (.aload_n 0, 1) := by decide +kernel
theorem dL_law_505 : decode cL_law 505 = .ok (.iload_n 3, 1) := by decide +kernel
theorem dL_law_506 : decode cL_law 506 = .ok (.iconst 1, 1) := by decide +kernel
theorem dL_law_507 : decode cL_law 507 = .ok (.iadd, 1) := by decide +kernel
theorem dL_law_508 : decode cL_law 508 = .ok (.iaload, 1) := by decide +kernel
theorem dL_law_509 : decode cL_law 509 = .ok (.aload_n 0, 1) := by decide +kernel
theorem dL_law_510 : decode cL_law 510 = .ok (.iload_n 3, 1) := by decide +kernel
theorem dL_law_511 : decode cL_law 511 = .ok (.iconst 2, 1) := by decide +kernel
theorem dL_law_512 : decode cL_law 512 = .ok (.iadd, 1) := by decide +kernel
theorem dL_law_513 : decode cL_law 513 = .ok (.iaload, 1) := by decide +kernel
theorem dL_law_514 : decode cL_law 514 = .ok (.aload_n 0, 1) := by decide +kernel
theorem dL_law_515 : decode cL_law 515 = .ok (.iload_n 3, 1) := by decide +kernel
theorem dL_law_516 : decode cL_law 516 = .ok (.iconst 3, 1) := by decide +kernel
theorem dL_law_517 : decode cL_law 517 = .ok (.iadd, 1) := by decide +kernel
theorem dL_law_518 : decode cL_law 518 = .ok (.iaload, 1) := by decide +kernel
theorem dL_law_519 : decode cL_law 519 = .ok (.aload_n 0, 1) := by decide +kernel
theorem dL_law_520 : decode cL_law 520 = .ok (.iload_n 3, 1) := by decide +kernel
theorem dL_law_521 : decode cL_law 521 = .ok (.iconst 4, 1) := by decide +kernel
theorem dL_law_522 : decode cL_law 522 = .ok (.iadd, 1) := by decide +kernel
theorem dL_law_523 : decode cL_law 523 = .ok (.iaload, 1) := by decide +kernel
theorem dL_law_524 : decode cL_law 524 = .ok (.aload_n 0, 1) := by decide +kernel
theorem dL_law_525 : decode cL_law 525 = .ok (.iload_n 3, 1) := by decide +kernel
theorem dL_law_526 : decode cL_law 526 = .ok (.iconst 5, 1) := by decide +kernel
theorem dL_law_527 : decode cL_law 527 = .ok (.iadd, 1) := by decide +kernel
theorem dL_law_528 : decode cL_law 528 = .ok (.iaload, 1) := by decide +kernel
theorem dL_law_529 : decode cL_law 529 = .ok (.invokevirtual 60, 3) := by decide +kernel
theorem dL_law_532 : decode cL_law 532 = .ok (.if_icmp .eq 738, 3) := by decide +kernel
theorem dL_law_535 : decode cL_law 535 = .ok (.iconst 0, 1) := by decide +kernel
theorem dL_law_536 : decode cL_law 536 = .ok (.ireturn, 1) := by decide +kernel
theorem dL_law_537 : decode cL_law 537 = .ok (.aload_n 1, 1) := by decide +kernel
theorem dL_law_538 : decode cL_law 538 = .ok (.aload_n 0, 1) := by decide +kernel
theorem dL_law_539 : decode cL_law 539 = .ok (.iload_n 3, 1) := by decide +kernel
theorem dL_law_540 : decode cL_law 540 = .ok (.iconst 1, 1) := by decide +kernel
theorem dL_law_541 : decode cL_law 541 = .ok (.iadd, 1) := by decide +kernel
theorem dL_law_542 : decode cL_law 542 = .ok (.iaload, 1) := by decide +kernel
theorem dL_law_543 : decode cL_law 543 = .ok (.aload_n 0, 1) := by decide +kernel
theorem dL_law_544 : decode cL_law 544 = .ok (.iload_n 3, 1) := by decide +kernel
theorem dL_law_545 : decode cL_law 545 = .ok (.iconst 2, 1) := by decide +kernel
theorem dL_law_546 : decode cL_law 546 = .ok (.iadd, 1) := by decide +kernel
theorem dL_law_547 : decode cL_law 547 = .ok (.iaload, 1) := by decide +kernel
theorem dL_law_548 : decode cL_law 548 = .ok (.aload_n 0, 1) := by decide +kernel
theorem dL_law_549 : decode cL_law 549 = .ok (.iload_n 3, 1) := by decide +kernel
theorem dL_law_550 : decode cL_law 550 = .ok (.iconst 3, 1) := by decide +kernel
theorem dL_law_551 : decode cL_law 551 = .ok (.iadd, 1) := by decide +kernel
theorem dL_law_552 : decode cL_law 552 = .ok (.iaload, 1) := by decide +kernel
theorem dL_law_553 : decode cL_law 553 = .ok (.invokevirtual 61, 3) := by decide +kernel
theorem dL_law_556 : decode cL_law 556 = .ok (.aload_n 2, 1) := by decide +kernel
theorem dL_law_557 : decode cL_law 557 = .ok (.aload_n 0, 1) := by decide +kernel
theorem dL_law_558 : decode cL_law 558 = .ok (.iload_n 3, 1) := by decide +kernel
theorem dL_law_559 : decode cL_law 559 = .ok (.iconst 1, 1) := by decide +kernel
theorem dL_law_560 : decode cL_law 560 = .ok (.iadd, 1) := by decide +kernel
theorem dL_law_561 : decode cL_law 561 = .ok (.iaload, 1) := by decide +kernel
theorem dL_law_562 : decode cL_law 562 = .ok (.aload_n 0, 1) := by decide +kernel
theorem dL_law_563 : decode cL_law 563 = .ok (.iload_n 3, 1) := by decide +kernel
theorem dL_law_564 : decode cL_law 564 = .ok (.iconst 2, 1) := by decide +kernel
theorem dL_law_565 : decode cL_law 565 = .ok (.iadd, 1) := by decide +kernel
theorem dL_law_566 : decode cL_law 566 = .ok (.iaload, 1) := by decide +kernel
theorem dL_law_567 : decode cL_law 567 = .ok (.aload_n 0, 1) := by decide +kernel
theorem dL_law_568 : decode cL_law 568 = .ok (.iload_n 3, 1) := by decide +kernel
theorem dL_law_569 : decode cL_law 569 = .ok (.iconst 3, 1) := by decide +kernel
theorem dL_law_570 : decode cL_law 570 = .ok (.iadd, 1) := by decide +kernel
theorem dL_law_571 : decode cL_law 571 = .ok (.iaload, 1) := by decide +kernel
theorem dL_law_572 : decode cL_law 572 = .ok (.invokevirtual 65, 3) := by decide +kernel
theorem dL_law_575 : decode cL_law 575 = .ok (.if_icmp .eq 695, 3) := by decide +kernel
theorem dL_law_578 : decode cL_law 578 = .ok (.iconst 0, 1) := by decide +kernel
theorem dL_law_579 : decode cL_law 579 = .ok (.ireturn, 1) := by decide +kernel
theorem dL_law_580 : decode cL_law 580 = .ok (.aload_n 1, 1) := by decide +kernel
theorem dL_law_581 : decode cL_law 581 = .ok (.aload_n 0, 1) := by decide +kernel
theorem dL_law_582 : decode cL_law 582 = .ok (.iload_n 3, 1) := by decide +kernel
theorem dL_law_583 : decode cL_law 583 = .ok (.iconst 1, 1) := by decide +kernel
theorem dL_law_584 : decode cL_law 584 = .ok (.iadd, 1) := by decide +kernel
theorem dL_law_585 : decode cL_law 585 = .ok (.iaload, 1) := by decide +kernel
theorem dL_law_586 : decode cL_law 586 = .ok (.aload_n 0, 1) := by decide +kernel
theorem dL_law_587 : decode cL_law 587 = .ok (.iload_n 3, 1) := by decide +kernel
theorem dL_law_588 : decode cL_law 588 = .ok (.iconst 2, 1) := by decide +kernel
theorem dL_law_589 : decode cL_law 589 = .ok (.iadd, 1) := by decide +kernel
theorem dL_law_590 : decode cL_law 590 = .ok (.iaload, 1) := by decide +kernel
theorem dL_law_591 : decode cL_law 591 = .ok (.invokevirtual 66, 3) := by decide +kernel
theorem dL_law_594 : decode cL_law 594 = .ok (.aload_n 2, 1) := by decide +kernel
theorem dL_law_595 : decode cL_law 595 = .ok (.aload_n 0, 1) := by decide +kernel
theorem dL_law_596 : decode cL_law 596 = .ok (.iload_n 3, 1) := by decide +kernel
theorem dL_law_597 : decode cL_law 597 = .ok (.iconst 1, 1) := by decide +kernel
theorem dL_law_598 : decode cL_law 598 = .ok (.iadd, 1) := by decide +kernel
theorem dL_law_599 : decode cL_law 599 = .ok (.iaload, 1) := by decide +kernel
theorem dL_law_600 : decode cL_law 600 = .ok (.aload_n 0, 1) := by decide +kernel
theorem dL_law_601 : decode cL_law 601 = .ok (.iload_n 3, 1) := by decide +kernel
theorem dL_law_602 : decode cL_law 602 = .ok (.iconst 2, 1) := by decide +kernel
theorem dL_law_603 : decode cL_law 603 = .ok (.iadd, 1) := by decide +kernel
theorem dL_law_604 : decode cL_law 604 = .ok (.iaload, 1) := by decide +kernel
theorem dL_law_605 : decode cL_law 605 = .ok (.invokevirtual 69, 3) := by decide +kernel
theorem dL_law_608 : decode cL_law 608 = .ok (.if_icmp .eq 662, 3) := by decide +kernel
theorem dL_law_611 : decode cL_law 611 = .ok (.iconst 0, 1) := by decide +kernel
theorem dL_law_612 : decode cL_law 612 = .ok (.ireturn, 1) := by decide +kernel
theorem dL_law_613 : decode cL_law 613 = .ok (.aload_n 1, 1) := by decide +kernel
theorem dL_law_614 : decode cL_law 614 = .ok (.aload_n 0, 1) := by decide +kernel
theorem dL_law_615 : decode cL_law 615 = .ok (.iload_n 3, 1) := by decide +kernel
theorem dL_law_616 : decode cL_law 616 = .ok (.iconst 1, 1) := by decide +kernel
theorem dL_law_617 : decode cL_law 617 = .ok (.iadd, 1) := by decide +kernel
theorem dL_law_618 : decode cL_law 618 = .ok (.iaload, 1) := by decide +kernel
theorem dL_law_619 : decode cL_law 619 = .ok (.invokevirtual 70, 3) := by decide +kernel
theorem dL_law_622 : decode cL_law 622 = .ok (.aload_n 2, 1) := by decide +kernel
theorem dL_law_623 : decode cL_law 623 = .ok (.aload_n 0, 1) := by decide +kernel
theorem dL_law_624 : decode cL_law 624 = .ok (.iload_n 3, 1) := by decide +kernel
theorem dL_law_625 : decode cL_law 625 = .ok (.iconst 1, 1) := by decide +kernel
theorem dL_law_626 : decode cL_law 626 = .ok (.iadd, 1) := by decide +kernel
theorem dL_law_627 : decode cL_law 627 = .ok (.iaload, 1) := by decide +kernel
theorem dL_law_628 : decode cL_law 628 = .ok (.invokevirtual 73, 3) := by decide +kernel
theorem dL_law_631 : decode cL_law 631 = .ok (.if_icmp .eq 639, 3) := by decide +kernel
theorem dL_law_634 : decode cL_law 634 = .ok (.iconst 0, 1) := by decide +kernel
theorem dL_law_635 : decode cL_law 635 = .ok (.ireturn, 1) := by decide +kernel
theorem dL_law_636 : decode cL_law 636 = .ok (.aload_n 1, 1) := by decide +kernel
theorem dL_law_637 : decode cL_law 637 = .ok (.aload_n 0, 1) := by decide +kernel
theorem dL_law_638 : decode cL_law 638 = .ok (.iload_n 3, 1) := by decide +kernel
theorem dL_law_639 : decode cL_law 639 = .ok (.iconst 1, 1) := by decide +kernel
theorem dL_law_640 : decode cL_law 640 = .ok (.iadd, 1) := by decide +kernel
theorem dL_law_641 : decode cL_law 641 = .ok (.iaload, 1) := by decide +kernel
theorem dL_law_642 : decode cL_law 642 = .ok (.aload_n 0, 1) := by decide +kernel
theorem dL_law_643 : decode cL_law 643 = .ok (.iload_n 3, 1) := by decide +kernel
theorem dL_law_644 : decode cL_law 644 = .ok (.iconst 2, 1) := by decide +kernel
theorem dL_law_645 : decode cL_law 645 = .ok (.iadd, 1) := by decide +kernel
theorem dL_law_646 : decode cL_law 646 = .ok (.iaload, 1) := by decide +kernel
theorem dL_law_647 : decode cL_law 647 = .ok (.aload_n 0, 1) := by decide +kernel
theorem dL_law_648 : decode cL_law 648 = .ok (.iload_n 3, 1) := by decide +kernel
theorem dL_law_649 : decode cL_law 649 = .ok (.iconst 3, 1) := by decide +kernel
theorem dL_law_650 : decode cL_law 650 = .ok (.iadd, 1) := by decide +kernel
theorem dL_law_651 : decode cL_law 651 = .ok (.iaload, 1) := by decide +kernel
theorem dL_law_652 : decode cL_law 652 = .ok (.invokevirtual 74, 3) := by decide +kernel
theorem dL_law_655 : decode cL_law 655 = .ok (.aload_n 2, 1) := by decide +kernel
theorem dL_law_656 : decode cL_law 656 = .ok (.aload_n 0, 1) := by decide +kernel
theorem dL_law_657 : decode cL_law 657 = .ok (.iload_n 3, 1) := by decide +kernel
theorem dL_law_658 : decode cL_law 658 = .ok (.iconst 1, 1) := by decide +kernel
theorem dL_law_659 : decode cL_law 659 = .ok (.iadd, 1) := by decide +kernel
theorem dL_law_660 : decode cL_law 660 = .ok (.iaload, 1) := by decide +kernel
theorem dL_law_661 : decode cL_law 661 = .ok (.aload_n 0, 1) := by decide +kernel
theorem dL_law_662 : decode cL_law 662 = .ok (.iload_n 3, 1) := by decide +kernel
theorem dL_law_663 : decode cL_law 663 = .ok (.iconst 2, 1) := by decide +kernel
theorem dL_law_664 : decode cL_law 664 = .ok (.iadd, 1) := by decide +kernel
theorem dL_law_665 : decode cL_law 665 = .ok (.iaload, 1) := by decide +kernel
theorem dL_law_666 : decode cL_law 666 = .ok (.aload_n 0, 1) := by decide +kernel
theorem dL_law_667 : decode cL_law 667 = .ok (.iload_n 3, 1) := by decide +kernel
theorem dL_law_668 : decode cL_law 668 = .ok (.iconst 3, 1) := by decide +kernel
theorem dL_law_669 : decode cL_law 669 = .ok (.iadd, 1) := by decide +kernel
theorem dL_law_670 : decode cL_law 670 = .ok (.iaload, 1) := by decide +kernel
theorem dL_law_671 : decode cL_law 671 = .ok (.invokevirtual 77, 3) := by decide +kernel
theorem dL_law_674 : decode cL_law 674 = .ok (.if_icmp .eq 596, 3) := by decide +kernel
theorem dL_law_677 : decode cL_law 677 = .ok (.iconst 0, 1) := by decide +kernel
theorem dL_law_678 : decode cL_law 678 = .ok (.ireturn, 1) := by decide +kernel
theorem dL_law_679 : decode cL_law 679 = .ok (.aload_n 1, 1) := by decide +kernel
theorem dL_law_680 : decode cL_law 680 = .ok (.aload_n 0, 1) := by decide +kernel
theorem dL_law_681 : decode cL_law 681 = .ok (.iload_n 3, 1) := by decide +kernel
theorem dL_law_682 : decode cL_law 682 = .ok (.iconst 1, 1) := by decide +kernel
theorem dL_law_683 : decode cL_law 683 = .ok (.iadd, 1) := by decide +kernel
theorem dL_law_684 : decode cL_law 684 = .ok (.iaload, 1) := by decide +kernel
theorem dL_law_685 : decode cL_law 685 = .ok (.aload_n 0, 1) := by decide +kernel
theorem dL_law_686 : decode cL_law 686 = .ok (.iload_n 3, 1) := by decide +kernel
theorem dL_law_687 : decode cL_law 687 = .ok (.iconst 2, 1) := by decide +kernel
theorem dL_law_688 : decode cL_law 688 = .ok (.iadd, 1) := by decide +kernel
theorem dL_law_689 : decode cL_law 689 = .ok (.iaload, 1) := by decide +kernel
theorem dL_law_690 : decode cL_law 690 = .ok (.invokevirtual 78, 3) := by decide +kernel
theorem dL_law_693 : decode cL_law 693 = .ok (.aload_n 2, 1) := by decide +kernel
theorem dL_law_694 : decode cL_law 694 = .ok (.aload_n 0, 1) := by decide +kernel
theorem dL_law_695 : decode cL_law 695 = .ok (.iload_n 3, 1) := by decide +kernel
theorem dL_law_696 : decode cL_law 696 = .ok (.iconst 1, 1) := by decide +kernel
theorem dL_law_697 : decode cL_law 697 = .ok (.iadd, 1) := by decide +kernel
theorem dL_law_698 : decode cL_law 698 = .ok (.iaload, 1) := by decide +kernel
theorem dL_law_699 : decode cL_law 699 = .ok (.aload_n 0, 1) := by decide +kernel
theorem dL_law_700 : decode cL_law 700 = .ok (.iload_n 3, 1) := by decide +kernel
theorem dL_law_701 : decode cL_law 701 = .ok (.iconst 2, 1) := by decide +kernel
theorem dL_law_702 : decode cL_law 702 = .ok (.iadd, 1) := by decide +kernel
theorem dL_law_703 : decode cL_law 703 = .ok (.iaload, 1) := by decide +kernel
theorem dL_law_704 : decode cL_law 704 = .ok (.invokevirtual 81, 3) := by decide +kernel
theorem dL_law_707 : decode cL_law 707 = .ok (.if_icmp .eq 563, 3) := by decide +kernel
theorem dL_law_710 : decode cL_law 710 = .ok (.iconst 0, 1) := by decide +kernel
theorem dL_law_711 : decode cL_law 711 = .ok (.ireturn, 1) := by decide +kernel
theorem dL_law_712 : decode cL_law 712 = .ok (.aload_n 1, 1) := by decide +kernel
theorem dL_law_713 : decode cL_law 713 = .ok (.aload_n 0, 1) := by decide +kernel
theorem dL_law_714 : decode cL_law 714 = .ok (.iload_n 3, 1) := by decide +kernel
theorem dL_law_715 : decode cL_law 715 = .ok (.iconst 1, 1) := by decide +kernel
theorem dL_law_716 : decode cL_law 716 = .ok (.iadd, 1) := by decide +kernel
theorem dL_law_717 : decode cL_law 717 = .ok (.iaload, 1) := by decide +kernel
theorem dL_law_718 : decode cL_law 718 = .ok (.aload_n 0, 1) := by decide +kernel
theorem dL_law_719 : decode cL_law 719 = .ok (.iload_n 3, 1) := by decide +kernel
theorem dL_law_720 : decode cL_law 720 = .ok (.iconst 2, 1) := by decide +kernel
theorem dL_law_721 : decode cL_law 721 = .ok (.iadd, 1) := by decide +kernel
theorem dL_law_722 : decode cL_law 722 = .ok (.iaload, 1) := by decide +kernel
theorem dL_law_723 : decode cL_law 723 = .ok (.invokevirtual 82, 3) := by decide +kernel
theorem dL_law_726 : decode cL_law 726 = .ok (.aload_n 2, 1) := by decide +kernel
theorem dL_law_727 : decode cL_law 727 = .ok (.aload_n 0, 1) := by decide +kernel
theorem dL_law_728 : decode cL_law 728 = .ok (.iload_n 3, 1) := by decide +kernel
theorem dL_law_729 : decode cL_law 729 = .ok (.iconst 1, 1) := by decide +kernel
theorem dL_law_730 : decode cL_law 730 = .ok (.iadd, 1) := by decide +kernel
theorem dL_law_731 : decode cL_law 731 = .ok (.iaload, 1) := by decide +kernel
theorem dL_law_732 : decode cL_law 732 = .ok (.aload_n 0, 1) := by decide +kernel
theorem dL_law_733 : decode cL_law 733 = .ok (.iload_n 3, 1) := by decide +kernel
theorem dL_law_734 : decode cL_law 734 = .ok (.iconst 2, 1) := by decide +kernel
theorem dL_law_735 : decode cL_law 735 = .ok (.iadd, 1) := by decide +kernel
theorem dL_law_736 : decode cL_law 736 = .ok (.iaload, 1) := by decide +kernel
theorem dL_law_737 : decode cL_law 737 = .ok (.invokevirtual 86, 3) := by decide +kernel
theorem dL_law_740 : decode cL_law 740 = .ok (.lcmp, 1) := by decide +kernel
theorem dL_law_741 : decode cL_law 741 = .ok (.ifCond .eq 529, 3) := by decide +kernel
theorem dL_law_744 : decode cL_law 744 = .ok (.iconst 0, 1) := by decide +kernel
theorem dL_law_745 : decode cL_law 745 = .ok (.ireturn, 1) := by decide +kernel
theorem dL_law_746 : decode cL_law 746 = .ok (.aload_n 1, 1) := by decide +kernel
theorem dL_law_747 : decode cL_law 747 = .ok (.aload_n 0, 1) := by decide +kernel
theorem dL_law_748 : decode cL_law 748 = .ok (.iload_n 3, 1) := by decide +kernel
theorem dL_law_749 : decode cL_law 749 = .ok (.iconst 1, 1) := by decide +kernel
theorem dL_law_750 : decode cL_law 750 = .ok (.iadd, 1) := by decide +kernel
theorem dL_law_751 : decode cL_law 751 = .ok (.iaload, 1) := by decide +kernel
theorem dL_law_752 : decode cL_law 752 = .ok (.invokevirtual 87, 3) := by decide +kernel
theorem dL_law_755 : decode cL_law 755 = .ok (.aload_n 2, 1) := by decide +kernel
theorem dL_law_756 : decode cL_law 756 = .ok (.aload_n 0, 1) := by decide +kernel
theorem dL_law_757 : decode cL_law 757 = .ok (.iload_n 3, 1) := by decide +kernel
theorem dL_law_758 : decode cL_law 758 = .ok (.iconst 1, 1) := by decide +kernel
theorem dL_law_759 : decode cL_law 759 = .ok (.iadd, 1) := by decide +kernel
theorem dL_law_760 : decode cL_law 760 = .ok (.iaload, 1) := by decide +kernel
theorem dL_law_761 : decode cL_law 761 = .ok (.invokevirtual 91, 3) := by decide +kernel
theorem dL_law_764 : decode cL_law 764 = .ok (.lcmp, 1) := by decide +kernel
theorem dL_law_765 : decode cL_law 765 = .ok (.ifCond .eq 505, 3) := by decide +kernel
theorem dL_law_768 : decode cL_law 768 = .ok (.iconst 0, 1) := by decide +kernel
theorem dL_law_769 : decode cL_law 769 = .ok (.ireturn, 1) := by decide +kernel
theorem dL_law_770 : decode cL_law 770 = .ok (.aload_n 1, 1) := by decide +kernel
theorem dL_law_771 : decode cL_law 771 = .ok (.aload_n 0, 1) := by decide +kernel
theorem dL_law_772 : decode cL_law 772 = .ok (.iload_n 3, 1) := by decide +kernel
theorem dL_law_773 : decode cL_law 773 = .ok (.iconst 1, 1) := by decide +kernel
theorem dL_law_774 : decode cL_law 774 = .ok (.iadd, 1) := by decide +kernel
theorem dL_law_775 : decode cL_law 775 = .ok (.iaload, 1) := by decide +kernel
theorem dL_law_776 : decode cL_law 776 = .ok (.aload_n 0, 1) := by decide +kernel
theorem dL_law_777 : decode cL_law 777 = .ok (.iload_n 3, 1) := by decide +kernel
theorem dL_law_778 : decode cL_law 778 = .ok (.iconst 2, 1) := by decide +kernel
theorem dL_law_779 : decode cL_law 779 = .ok (.iadd, 1) := by decide +kernel
theorem dL_law_780 : decode cL_law 780 = .ok (.iaload, 1) := by decide +kernel
theorem dL_law_781 : decode cL_law 781 = .ok (.aload_n 0, 1) := by decide +kernel
theorem dL_law_782 : decode cL_law 782 = .ok (.iload_n 3, 1) := by decide +kernel
theorem dL_law_783 : decode cL_law 783 = .ok (.iconst 3, 1) := by decide +kernel
theorem dL_law_784 : decode cL_law 784 = .ok (.iadd, 1) := by decide +kernel
theorem dL_law_785 : decode cL_law 785 = .ok (.iaload, 1) := by decide +kernel
theorem dL_law_786 : decode cL_law 786 = .ok (.invokevirtual 92, 3) := by decide +kernel
theorem dL_law_789 : decode cL_law 789 = .ok (.aload_n 2, 1) := by decide +kernel
theorem dL_law_790 : decode cL_law 790 = .ok (.aload_n 0, 1) := by decide +kernel
theorem dL_law_791 : decode cL_law 791 = .ok (.iload_n 3, 1) := by decide +kernel
theorem dL_law_792 : decode cL_law 792 = .ok (.iconst 1, 1) := by decide +kernel
theorem dL_law_793 : decode cL_law 793 = .ok (.iadd, 1) := by decide +kernel
theorem dL_law_794 : decode cL_law 794 = .ok (.iaload, 1) := by decide +kernel
theorem dL_law_795 : decode cL_law 795 = .ok (.aload_n 0, 1) := by decide +kernel
theorem dL_law_796 : decode cL_law 796 = .ok (.iload_n 3, 1) := by decide +kernel
theorem dL_law_797 : decode cL_law 797 = .ok (.iconst 2, 1) := by decide +kernel
theorem dL_law_798 : decode cL_law 798 = .ok (.iadd, 1) := by decide +kernel
theorem dL_law_799 : decode cL_law 799 = .ok (.iaload, 1) := by decide +kernel
theorem dL_law_800 : decode cL_law 800 = .ok (.aload_n 0, 1) := by decide +kernel
theorem dL_law_801 : decode cL_law 801 = .ok (.iload_n 3, 1) := by decide +kernel
theorem dL_law_802 : decode cL_law 802 = .ok (.iconst 3, 1) := by decide +kernel
theorem dL_law_803 : decode cL_law 803 = .ok (.iadd, 1) := by decide +kernel
theorem dL_law_804 : decode cL_law 804 = .ok (.iaload, 1) := by decide +kernel
theorem dL_law_805 : decode cL_law 805 = .ok (.invokevirtual 95, 3) := by decide +kernel
theorem dL_law_808 : decode cL_law 808 = .ok (.if_icmp .eq 462, 3) := by decide +kernel
theorem dL_law_811 : decode cL_law 811 = .ok (.iconst 0, 1) := by decide +kernel
theorem dL_law_812 : decode cL_law 812 = .ok (.ireturn, 1) := by decide +kernel
theorem dL_law_813 : decode cL_law 813 = .ok (.aload_n 1, 1) := by decide +kernel
theorem dL_law_814 : decode cL_law 814 = .ok (.aload_n 0, 1) := by decide +kernel
theorem dL_law_815 : decode cL_law 815 = .ok (.iload_n 3, 1) := by decide +kernel
theorem dL_law_816 : decode cL_law 816 = .ok (.iconst 1, 1) := by decide +kernel
theorem dL_law_817 : decode cL_law 817 = .ok (.iadd, 1) := by decide +kernel
theorem dL_law_818 : decode cL_law 818 = .ok (.iaload, 1) := by decide +kernel
theorem dL_law_819 : decode cL_law 819 = .ok (.invokevirtual 96, 3) := by decide +kernel
theorem dL_law_822 : decode cL_law 822 = .ok (.aload_n 2, 1) := by decide +kernel
theorem dL_law_823 : decode cL_law 823 = .ok (.aload_n 0, 1) := by decide +kernel
theorem dL_law_824 : decode cL_law 824 = .ok (.iload_n 3, 1) := by decide +kernel
theorem dL_law_825 : decode cL_law 825 = .ok (.iconst 1, 1) := by decide +kernel
theorem dL_law_826 : decode cL_law 826 = .ok (.iadd, 1) := by decide +kernel
theorem dL_law_827 : decode cL_law 827 = .ok (.iaload, 1) := by decide +kernel
theorem dL_law_828 : decode cL_law 828 = .ok (.invokevirtual 99, 3) := by decide +kernel
theorem dL_law_831 : decode cL_law 831 = .ok (.if_icmp .eq 439, 3) := by decide +kernel
theorem dL_law_834 : decode cL_law 834 = .ok (.iconst 0, 1) := by decide +kernel
theorem dL_law_835 : decode cL_law 835 = .ok (.ireturn, 1) := by decide +kernel
theorem dL_law_836 : decode cL_law 836 = .ok (.aload_n 1, 1) := by decide +kernel
theorem dL_law_837 : decode cL_law 837 = .ok (.aload_n 0, 1) := by decide +kernel
theorem dL_law_838 : decode cL_law 838 = .ok (.iload_n 3, 1) := by decide +kernel
theorem dL_law_839 : decode cL_law 839 = .ok (.iconst 1, 1) := by decide +kernel
theorem dL_law_840 : decode cL_law 840 = .ok (.iadd, 1) := by decide +kernel
theorem dL_law_841 : decode cL_law 841 = .ok (.iaload, 1) := by decide +kernel
theorem dL_law_842 : decode cL_law 842 = .ok (.invokevirtual 100, 3) := by decide +kernel
theorem dL_law_845 : decode cL_law 845 = .ok (.aload_n 2, 1) := by decide +kernel
theorem dL_law_846 : decode cL_law 846 = .ok (.aload_n 0, 1) := by decide +kernel
theorem dL_law_847 : decode cL_law 847 = .ok (.iload_n 3, 1) := by decide +kernel
theorem dL_law_848 : decode cL_law 848 = .ok (.iconst 1, 1) := by decide +kernel
theorem dL_law_849 : decode cL_law 849 = .ok (.iadd, 1) := by decide +kernel
theorem dL_law_850 : decode cL_law 850 = .ok (.iaload, 1) := by decide +kernel
theorem dL_law_851 : decode cL_law 851 = .ok (.invokevirtual 103, 3) := by decide +kernel
theorem dL_law_854 : decode cL_law 854 = .ok (.if_icmp .eq 416, 3) := by decide +kernel
theorem dL_law_857 : decode cL_law 857 = .ok (.iconst 0, 1) := by decide +kernel
theorem dL_law_858 : decode cL_law 858 = .ok (.ireturn, 1) := by decide +kernel
theorem dL_law_859 : decode cL_law 859 = .ok (.aload_n 1, 1) := by decide +kernel
theorem dL_law_860 : decode cL_law 860 = .ok (.aload_n 0, 1) := by decide +kernel
theorem dL_law_861 : decode cL_law 861 = .ok (.iload_n 3, 1) := by decide +kernel
theorem dL_law_862 : decode cL_law 862 = .ok (.iconst 1, 1) := by decide +kernel
theorem dL_law_863 : decode cL_law 863 = .ok (.iadd, 1) := by decide +kernel
theorem dL_law_864 : decode cL_law 864 = .ok (.iaload, 1) := by decide +kernel
theorem dL_law_865 : decode cL_law 865 = .ok (.invokevirtual 104, 3) := by decide +kernel
theorem dL_law_868 : decode cL_law 868 = .ok (.aload_n 2, 1) := by decide +kernel
theorem dL_law_869 : decode cL_law 869 = .ok (.aload_n 0, 1) := by decide +kernel
theorem dL_law_870 : decode cL_law 870 = .ok (.iload_n 3, 1) := by decide +kernel
theorem dL_law_871 : decode cL_law 871 = .ok (.iconst 1, 1) := by decide +kernel
theorem dL_law_872 : decode cL_law 872 = .ok (.iadd, 1) := by decide +kernel
theorem dL_law_873 : decode cL_law 873 = .ok (.iaload, 1) := by decide +kernel
theorem dL_law_874 : decode cL_law 874 = .ok (.invokevirtual 107, 3) := by decide +kernel
theorem dL_law_877 : decode cL_law 877 = .ok (.if_icmp .eq 393, 3) := by decide +kernel
theorem dL_law_880 : decode cL_law 880 = .ok (.iconst 0, 1) := by decide +kernel
theorem dL_law_881 : decode cL_law 881 = .ok (.ireturn, 1) := by decide +kernel
theorem dL_law_882 : decode cL_law 882 = .ok (.aload_n 1, 1) := by decide +kernel
theorem dL_law_883 : decode cL_law 883 = .ok (.aload_n 0, 1) := by decide +kernel
theorem dL_law_884 : decode cL_law 884 = .ok (.iload_n 3, 1) := by decide +kernel
theorem dL_law_885 : decode cL_law 885 = .ok (.iconst 1, 1) := by decide +kernel
theorem dL_law_886 : decode cL_law 886 = .ok (.iadd, 1) := by decide +kernel
theorem dL_law_887 : decode cL_law 887 = .ok (.iaload, 1) := by decide +kernel
theorem dL_law_888 : decode cL_law 888 = .ok (.aload_n 0, 1) := by decide +kernel
theorem dL_law_889 : decode cL_law 889 = .ok (.iload_n 3, 1) := by decide +kernel
theorem dL_law_890 : decode cL_law 890 = .ok (.iconst 2, 1) := by decide +kernel
theorem dL_law_891 : decode cL_law 891 = .ok (.iadd, 1) := by decide +kernel
theorem dL_law_892 : decode cL_law 892 = .ok (.iaload, 1) := by decide +kernel
theorem dL_law_893 : decode cL_law 893 = .ok (.aload_n 0, 1) := by decide +kernel
theorem dL_law_894 : decode cL_law 894 = .ok (.iload_n 3, 1) := by decide +kernel
theorem dL_law_895 : decode cL_law 895 = .ok (.iconst 3, 1) := by decide +kernel
theorem dL_law_896 : decode cL_law 896 = .ok (.iadd, 1) := by decide +kernel
theorem dL_law_897 : decode cL_law 897 = .ok (.iaload, 1) := by decide +kernel
theorem dL_law_898 : decode cL_law 898 = .ok (.invokevirtual 108, 3) := by decide +kernel
theorem dL_law_901 : decode cL_law 901 = .ok (.aload_n 2, 1) := by decide +kernel
theorem dL_law_902 : decode cL_law 902 = .ok (.aload_n 0, 1) := by decide +kernel
theorem dL_law_903 : decode cL_law 903 = .ok (.iload_n 3, 1) := by decide +kernel
theorem dL_law_904 : decode cL_law 904 = .ok (.iconst 1, 1) := by decide +kernel
theorem dL_law_905 : decode cL_law 905 = .ok (.iadd, 1) := by decide +kernel
theorem dL_law_906 : decode cL_law 906 = .ok (.iaload, 1) := by decide +kernel
theorem dL_law_907 : decode cL_law 907 = .ok (.aload_n 0, 1) := by decide +kernel
theorem dL_law_908 : decode cL_law 908 = .ok (.iload_n 3, 1) := by decide +kernel
theorem dL_law_909 : decode cL_law 909 = .ok (.iconst 2, 1) := by decide +kernel
theorem dL_law_910 : decode cL_law 910 = .ok (.iadd, 1) := by decide +kernel
theorem dL_law_911 : decode cL_law 911 = .ok (.iaload, 1) := by decide +kernel
theorem dL_law_912 : decode cL_law 912 = .ok (.aload_n 0, 1) := by decide +kernel
theorem dL_law_913 : decode cL_law 913 = .ok (.iload_n 3, 1) := by decide +kernel
theorem dL_law_914 : decode cL_law 914 = .ok (.iconst 3, 1) := by decide +kernel
theorem dL_law_915 : decode cL_law 915 = .ok (.iadd, 1) := by decide +kernel
theorem dL_law_916 : decode cL_law 916 = .ok (.iaload, 1) := by decide +kernel
theorem dL_law_917 : decode cL_law 917 = .ok (.invokevirtual 112, 3) := by decide +kernel
theorem dL_law_920 : decode cL_law 920 = .ok (.lcmp, 1) := by decide +kernel
theorem dL_law_921 : decode cL_law 921 = .ok (.ifCond .eq 349, 3) := by decide +kernel
theorem dL_law_924 : decode cL_law 924 = .ok (.iconst 0, 1) := by decide +kernel
theorem dL_law_925 : decode cL_law 925 = .ok (.ireturn, 1) := by decide +kernel
theorem dL_law_926 : decode cL_law 926 = .ok (.aload_n 1, 1) := by decide +kernel
theorem dL_law_927 : decode cL_law 927 = .ok (.aload_n 0, 1) := by decide +kernel
theorem dL_law_928 : decode cL_law 928 = .ok (.iload_n 3, 1) := by decide +kernel
theorem dL_law_929 : decode cL_law 929 = .ok (.iconst 1, 1) := by decide +kernel
theorem dL_law_930 : decode cL_law 930 = .ok (.iadd, 1) := by decide +kernel
theorem dL_law_931 : decode cL_law 931 = .ok (.iaload, 1) := by decide +kernel
theorem dL_law_932 : decode cL_law 932 = .ok (.aload_n 0, 1) := by decide +kernel
theorem dL_law_933 : decode cL_law 933 = .ok (.iload_n 3, 1) := by decide +kernel
theorem dL_law_934 : decode cL_law 934 = .ok (.iconst 2, 1) := by decide +kernel
theorem dL_law_935 : decode cL_law 935 = .ok (.iadd, 1) := by decide +kernel
theorem dL_law_936 : decode cL_law 936 = .ok (.iaload, 1) := by decide +kernel
theorem dL_law_937 : decode cL_law 937 = .ok (.aload_n 0, 1) := by decide +kernel
theorem dL_law_938 : decode cL_law 938 = .ok (.iload_n 3, 1) := by decide +kernel
theorem dL_law_939 : decode cL_law 939 = .ok (.iconst 3, 1) := by decide +kernel
theorem dL_law_940 : decode cL_law 940 = .ok (.iadd, 1) := by decide +kernel
theorem dL_law_941 : decode cL_law 941 = .ok (.iaload, 1) := by decide +kernel
theorem dL_law_942 : decode cL_law 942 = .ok (.invokevirtual 113, 3) := by decide +kernel
theorem dL_law_945 : decode cL_law 945 = .ok (.aload_n 2, 1) := by decide +kernel
theorem dL_law_946 : decode cL_law 946 = .ok (.aload_n 0, 1) := by decide +kernel
theorem dL_law_947 : decode cL_law 947 = .ok (.iload_n 3, 1) := by decide +kernel
theorem dL_law_948 : decode cL_law 948 = .ok (.iconst 1, 1) := by decide +kernel
theorem dL_law_949 : decode cL_law 949 = .ok (.iadd, 1) := by decide +kernel
theorem dL_law_950 : decode cL_law 950 = .ok (.iaload, 1) := by decide +kernel
theorem dL_law_951 : decode cL_law 951 = .ok (.aload_n 0, 1) := by decide +kernel
theorem dL_law_952 : decode cL_law 952 = .ok (.iload_n 3, 1) := by decide +kernel
theorem dL_law_953 : decode cL_law 953 = .ok (.iconst 2, 1) := by decide +kernel
theorem dL_law_954 : decode cL_law 954 = .ok (.iadd, 1) := by decide +kernel
theorem dL_law_955 : decode cL_law 955 = .ok (.iaload, 1) := by decide +kernel
theorem dL_law_956 : decode cL_law 956 = .ok (.aload_n 0, 1) := by decide +kernel
theorem dL_law_957 : decode cL_law 957 = .ok (.iload_n 3, 1) := by decide +kernel
theorem dL_law_958 : decode cL_law 958 = .ok (.iconst 3, 1) := by decide +kernel
theorem dL_law_959 : decode cL_law 959 = .ok (.iadd, 1) := by decide +kernel
theorem dL_law_960 : decode cL_law 960 = .ok (.iaload, 1) := by decide +kernel
theorem dL_law_961 : decode cL_law 961 = .ok (.invokevirtual 116, 3) := by decide +kernel
theorem dL_law_964 : decode cL_law 964 = .ok (.if_icmp .eq 306, 3) := by decide +kernel
theorem dL_law_967 : decode cL_law 967 = .ok (.iconst 0, 1) := by decide +kernel
theorem dL_law_968 : decode cL_law 968 = .ok (.ireturn, 1) := by decide +kernel
theorem dL_law_969 : decode cL_law 969 = .ok (.aload_n 1, 1) := by decide +kernel
theorem dL_law_970 : decode cL_law 970 = .ok (.aload_n 0, 1) := by decide +kernel
theorem dL_law_971 : decode cL_law 971 = .ok (.iload_n 3, 1) := by decide +kernel
theorem dL_law_972 : decode cL_law 972 = .ok (.iconst 1, 1) := by decide +kernel
theorem dL_law_973 : decode cL_law 973 = .ok (.iadd, 1) := by decide +kernel
theorem dL_law_974 : decode cL_law 974 = .ok (.iaload, 1) := by decide +kernel
theorem dL_law_975 : decode cL_law 975 = .ok (.invokevirtual 117, 3) := by decide +kernel
theorem dL_law_978 : decode cL_law 978 = .ok (.aload_n 2, 1) := by decide +kernel
theorem dL_law_979 : decode cL_law 979 = .ok (.aload_n 0, 1) := by decide +kernel
theorem dL_law_980 : decode cL_law 980 = .ok (.iload_n 3, 1) := by decide +kernel
theorem dL_law_981 : decode cL_law 981 = .ok (.iconst 1, 1) := by decide +kernel
theorem dL_law_982 : decode cL_law 982 = .ok (.iadd, 1) := by decide +kernel
theorem dL_law_983 : decode cL_law 983 = .ok (.iaload, 1) := by decide +kernel
theorem dL_law_984 : decode cL_law 984 = .ok (.invokevirtual 120, 3) := by decide +kernel
theorem dL_law_987 : decode cL_law 987 = .ok (.if_icmp .eq 283, 3) := by decide +kernel
theorem dL_law_990 : decode cL_law 990 = .ok (.iconst 0, 1) := by decide +kernel
theorem dL_law_991 : decode cL_law 991 = .ok (.ireturn, 1) := by decide +kernel
theorem dL_law_992 : decode cL_law 992 = .ok (.aload_n 1, 1) := by decide +kernel
theorem dL_law_993 : decode cL_law 993 = .ok (.aload_n 0, 1) := by decide +kernel
theorem dL_law_994 : decode cL_law 994 = .ok (.iload_n 3, 1) := by decide +kernel
theorem dL_law_995 : decode cL_law 995 = .ok (.iconst 1, 1) := by decide +kernel
theorem dL_law_996 : decode cL_law 996 = .ok (.iadd, 1) := by decide +kernel
theorem dL_law_997 : decode cL_law 997 = .ok (.iaload, 1) := by decide +kernel
theorem dL_law_998 : decode cL_law 998 = .ok (.aload_n 0, 1) := by decide +kernel
theorem dL_law_999 : decode cL_law 999 = .ok (.iload_n 3, 1) := by decide +kernel
theorem dL_law_1000 : decode cL_law 1000 = .ok (.iconst 2, 1) := by decide +kernel
theorem dL_law_1001 : decode cL_law 1001 = .ok (.iadd, 1) := by decide +kernel
theorem dL_law_1002 : decode cL_law 1002 = .ok (.iaload, 1) := by decide +kernel
theorem dL_law_1003 : decode cL_law 1003 = .ok (.aload_n 0, 1) := by decide +kernel
theorem dL_law_1004 : decode cL_law 1004 = .ok (.iload_n 3, 1) := by decide +kernel
theorem dL_law_1005 : decode cL_law 1005 = .ok (.iconst 3, 1) := by decide +kernel
theorem dL_law_1006 : decode cL_law 1006 = .ok (.iadd, 1) := by decide +kernel
theorem dL_law_1007 : decode cL_law 1007 = .ok (.iaload, 1) := by decide +kernel
theorem dL_law_1008 : decode cL_law 1008 = .ok (.invokevirtual 121, 3) := by decide +kernel
theorem dL_law_1011 : decode cL_law 1011 = .ok (.aload_n 2, 1) := by decide +kernel
theorem dL_law_1012 : decode cL_law 1012 = .ok (.aload_n 0, 1) := by decide +kernel
theorem dL_law_1013 : decode cL_law 1013 = .ok (.iload_n 3, 1) := by decide +kernel
theorem dL_law_1014 : decode cL_law 1014 = .ok (.iconst 1, 1) := by decide +kernel
theorem dL_law_1015 : decode cL_law 1015 = .ok (.iadd, 1) := by decide +kernel
theorem dL_law_1016 : decode cL_law 1016 = .ok (.iaload, 1) := by decide +kernel
theorem dL_law_1017 : decode cL_law 1017 = .ok (.aload_n 0, 1) := by decide +kernel
theorem dL_law_1018 : decode cL_law 1018 = .ok (.iload_n 3, 1) := by decide +kernel
theorem dL_law_1019 : decode cL_law 1019 = .ok (.iconst 2, 1) := by decide +kernel
theorem dL_law_1020 : decode cL_law 1020 = .ok (.iadd, 1) := by decide +kernel
theorem dL_law_1021 : decode cL_law 1021 = .ok (.iaload, 1) := by decide +kernel
theorem dL_law_1022 : decode cL_law 1022 = .ok (.aload_n 0, 1) := by decide +kernel
theorem dL_law_1023 : decode cL_law 1023 = .ok (.iload_n 3, 1) := by decide +kernel
theorem dL_law_1024 : decode cL_law 1024 = .ok (.iconst 3, 1) := by decide +kernel
theorem dL_law_1025 : decode cL_law 1025 = .ok (.iadd, 1) := by decide +kernel
theorem dL_law_1026 : decode cL_law 1026 = .ok (.iaload, 1) := by decide +kernel
theorem dL_law_1027 : decode cL_law 1027 = .ok (.invokevirtual 124, 3) := by decide +kernel
theorem dL_law_1030 : decode cL_law 1030 = .ok (.if_icmp .eq 240, 3) := by decide +kernel
theorem dL_law_1033 : decode cL_law 1033 = .ok (.iconst 0, 1) := by decide +kernel
theorem dL_law_1034 : decode cL_law 1034 = .ok (.ireturn, 1) := by decide +kernel
theorem dL_law_1035 : decode cL_law 1035 = .ok (.aload_n 1, 1) := by decide +kernel
theorem dL_law_1036 : decode cL_law 1036 = .ok (.aload_n 0, 1) := by decide +kernel
theorem dL_law_1037 : decode cL_law 1037 = .ok (.iload_n 3, 1) := by decide +kernel
theorem dL_law_1038 : decode cL_law 1038 = .ok (.iconst 1, 1) := by decide +kernel
theorem dL_law_1039 : decode cL_law 1039 = .ok (.iadd, 1) := by decide +kernel
theorem dL_law_1040 : decode cL_law 1040 = .ok (.iaload, 1) := by decide +kernel
theorem dL_law_1041 : decode cL_law 1041 = .ok (.aload_n 0, 1) := by decide +kernel
theorem dL_law_1042 : decode cL_law 1042 = .ok (.iload_n 3, 1) := by decide +kernel
theorem dL_law_1043 : decode cL_law 1043 = .ok (.iconst 2, 1) := by decide +kernel
theorem dL_law_1044 : decode cL_law 1044 = .ok (.iadd, 1) := by decide +kernel
theorem dL_law_1045 : decode cL_law 1045 = .ok (.iaload, 1) := by decide +kernel
theorem dL_law_1046 : decode cL_law 1046 = .ok (.aload_n 0, 1) := by decide +kernel
theorem dL_law_1047 : decode cL_law 1047 = .ok (.iload_n 3, 1) := by decide +kernel
theorem dL_law_1048 : decode cL_law 1048 = .ok (.iconst 3, 1) := by decide +kernel
theorem dL_law_1049 : decode cL_law 1049 = .ok (.iadd, 1) := by decide +kernel
theorem dL_law_1050 : decode cL_law 1050 = .ok (.iaload, 1) := by decide +kernel
theorem dL_law_1051 : decode cL_law 1051 = .ok (.invokevirtual 125, 3) := by decide +kernel
theorem dL_law_1054 : decode cL_law 1054 = .ok (.aload_n 2, 1) := by decide +kernel
theorem dL_law_1055 : decode cL_law 1055 = .ok (.aload_n 0, 1) := by decide +kernel
theorem dL_law_1056 : decode cL_law 1056 = .ok (.iload_n 3, 1) := by decide +kernel
theorem dL_law_1057 : decode cL_law 1057 = .ok (.iconst 1, 1) := by decide +kernel
theorem dL_law_1058 : decode cL_law 1058 = .ok (.iadd, 1) := by decide +kernel
theorem dL_law_1059 : decode cL_law 1059 = .ok (.iaload, 1) := by decide +kernel
theorem dL_law_1060 : decode cL_law 1060 = .ok (.aload_n 0, 1) := by decide +kernel
theorem dL_law_1061 : decode cL_law 1061 = .ok (.iload_n 3, 1) := by decide +kernel
theorem dL_law_1062 : decode cL_law 1062 = .ok (.iconst 2, 1) := by decide +kernel
theorem dL_law_1063 : decode cL_law 1063 = .ok (.iadd, 1) := by decide +kernel
theorem dL_law_1064 : decode cL_law 1064 = .ok (.iaload, 1) := by decide +kernel
theorem dL_law_1065 : decode cL_law 1065 = .ok (.aload_n 0, 1) := by decide +kernel
theorem dL_law_1066 : decode cL_law 1066 = .ok (.iload_n 3, 1) := by decide +kernel
theorem dL_law_1067 : decode cL_law 1067 = .ok (.iconst 3, 1) := by decide +kernel
theorem dL_law_1068 : decode cL_law 1068 = .ok (.iadd, 1) := by decide +kernel
theorem dL_law_1069 : decode cL_law 1069 = .ok (.iaload, 1) := by decide +kernel
theorem dL_law_1070 : decode cL_law 1070 = .ok (.invokevirtual 128, 3) := by decide +kernel
theorem dL_law_1073 : decode cL_law 1073 = .ok (.lcmp, 1) := by decide +kernel
theorem dL_law_1074 : decode cL_law 1074 = .ok (.ifCond .eq 196, 3) := by decide +kernel
theorem dL_law_1077 : decode cL_law 1077 = .ok (.iconst 0, 1) := by decide +kernel
theorem dL_law_1078 : decode cL_law 1078 = .ok (.ireturn, 1) := by decide +kernel
theorem dL_law_1079 : decode cL_law 1079 = .ok (.aload_n 1, 1) := by decide +kernel
theorem dL_law_1080 : decode cL_law 1080 = .ok (.aload_n 0, 1) := by decide +kernel
theorem dL_law_1081 : decode cL_law 1081 = .ok (.iload_n 3, 1) := by decide +kernel
theorem dL_law_1082 : decode cL_law 1082 = .ok (.iconst 1, 1) := by decide +kernel
theorem dL_law_1083 : decode cL_law 1083 = .ok (.iadd, 1) := by decide +kernel
theorem dL_law_1084 : decode cL_law 1084 = .ok (.iaload, 1) := by decide +kernel
theorem dL_law_1085 : decode cL_law 1085 = .ok (.aload_n 0, 1) := by decide +kernel
theorem dL_law_1086 : decode cL_law 1086 = .ok (.iload_n 3, 1) := by decide +kernel
theorem dL_law_1087 : decode cL_law 1087 = .ok (.iconst 2, 1) := by decide +kernel
theorem dL_law_1088 : decode cL_law 1088 = .ok (.iadd, 1) := by decide +kernel
theorem dL_law_1089 : decode cL_law 1089 = .ok (.iaload, 1) := by decide +kernel
theorem dL_law_1090 : decode cL_law 1090 = .ok (.aload_n 0, 1) := by decide +kernel
theorem dL_law_1091 : decode cL_law 1091 = .ok (.iload_n 3, 1) := by decide +kernel
theorem dL_law_1092 : decode cL_law 1092 = .ok (.iconst 3, 1) := by decide +kernel
theorem dL_law_1093 : decode cL_law 1093 = .ok (.iadd, 1) := by decide +kernel
theorem dL_law_1094 : decode cL_law 1094 = .ok (.iaload, 1) := by decide +kernel
theorem dL_law_1095 : decode cL_law 1095 = .ok (.aload_n 0, 1) := by decide +kernel
theorem dL_law_1096 : decode cL_law 1096 = .ok (.iload_n 3, 1) := by decide +kernel
theorem dL_law_1097 : decode cL_law 1097 = .ok (.iconst 4, 1) := by decide +kernel
theorem dL_law_1098 : decode cL_law 1098 = .ok (.iadd, 1) := by decide +kernel
theorem dL_law_1099 : decode cL_law 1099 = .ok (.iaload, 1) := by decide +kernel
theorem dL_law_1100 : decode cL_law 1100 = .ok (.aload_n 0, 1) := by decide +kernel
theorem dL_law_1101 : decode cL_law 1101 = .ok (.iload_n 3, 1) := by decide +kernel
theorem dL_law_1102 : decode cL_law 1102 = .ok (.iconst 5, 1) := by decide +kernel
theorem dL_law_1103 : decode cL_law 1103 = .ok (.iadd, 1) := by decide +kernel
theorem dL_law_1104 : decode cL_law 1104 = .ok (.iaload, 1) := by decide +kernel
theorem dL_law_1105 : decode cL_law 1105 = .ok (.invokevirtual 129, 3) := by decide +kernel
theorem dL_law_1108 : decode cL_law 1108 = .ok (.aload_n 2, 1) := by decide +kernel
theorem dL_law_1109 : decode cL_law 1109 = .ok (.aload_n 0, 1) := by decide +kernel
theorem dL_law_1110 : decode cL_law 1110 = .ok (.iload_n 3, 1) := by decide +kernel
theorem dL_law_1111 : decode cL_law 1111 = .ok (.iconst 1, 1) := by decide +kernel
theorem dL_law_1112 : decode cL_law 1112 = .ok (.iadd, 1) := by decide +kernel
theorem dL_law_1113 : decode cL_law 1113 = .ok (.iaload, 1) := by decide +kernel
theorem dL_law_1114 : decode cL_law 1114 = .ok (.aload_n 0, 1) := by decide +kernel
theorem dL_law_1115 : decode cL_law 1115 = .ok (.iload_n 3, 1) := by decide +kernel
theorem dL_law_1116 : decode cL_law 1116 = .ok (.iconst 2, 1) := by decide +kernel
theorem dL_law_1117 : decode cL_law 1117 = .ok (.iadd, 1) := by decide +kernel
theorem dL_law_1118 : decode cL_law 1118 = .ok (.iaload, 1) := by decide +kernel
theorem dL_law_1119 : decode cL_law 1119 = .ok (.aload_n 0, 1) := by decide +kernel
theorem dL_law_1120 : decode cL_law 1120 = .ok (.iload_n 3, 1) := by decide +kernel
theorem dL_law_1121 : decode cL_law 1121 = .ok (.iconst 3, 1) := by decide +kernel
theorem dL_law_1122 : decode cL_law 1122 = .ok (.iadd, 1) := by decide +kernel
theorem dL_law_1123 : decode cL_law 1123 = .ok (.iaload, 1) := by decide +kernel
theorem dL_law_1124 : decode cL_law 1124 = .ok (.aload_n 0, 1) := by decide +kernel
theorem dL_law_1125 : decode cL_law 1125 = .ok (.iload_n 3, 1) := by decide +kernel
theorem dL_law_1126 : decode cL_law 1126 = .ok (.iconst 4, 1) := by decide +kernel
theorem dL_law_1127 : decode cL_law 1127 = .ok (.iadd, 1) := by decide +kernel
theorem dL_law_1128 : decode cL_law 1128 = .ok (.iaload, 1) := by decide +kernel
theorem dL_law_1129 : decode cL_law 1129 = .ok (.aload_n 0, 1) := by decide +kernel
theorem dL_law_1130 : decode cL_law 1130 = .ok (.iload_n 3, 1) := by decide +kernel
theorem dL_law_1131 : decode cL_law 1131 = .ok (.iconst 5, 1) := by decide +kernel
theorem dL_law_1132 : decode cL_law 1132 = .ok (.iadd, 1) := by decide +kernel
theorem dL_law_1133 : decode cL_law 1133 = .ok (.iaload, 1) := by decide +kernel
theorem dL_law_1134 : decode cL_law 1134 = .ok (.invokevirtual 132, 3) := by decide +kernel
theorem dL_law_1137 : decode cL_law 1137 = .ok (.if_icmp .eq 133, 3) := by decide +kernel
theorem dL_law_1140 : decode cL_law 1140 = .ok (.iconst 0, 1) := by decide +kernel
theorem dL_law_1141 : decode cL_law 1141 = .ok (.ireturn, 1) := by decide +kernel
theorem dL_law_1142 : decode cL_law 1142 = .ok (.aload_n 1, 1) := by decide +kernel
theorem dL_law_1143 : decode cL_law 1143 = .ok (.aload_n 0, 1) := by decide +kernel
theorem dL_law_1144 : decode cL_law 1144 = .ok (.iload_n 3, 1) := by decide +kernel
theorem dL_law_1145 : decode cL_law 1145 = .ok (.iconst 1, 1) := by decide +kernel
theorem dL_law_1146 : decode cL_law 1146 = .ok (.iadd, 1) := by decide +kernel
theorem dL_law_1147 : decode cL_law 1147 = .ok (.iaload, 1) := by decide +kernel
theorem dL_law_1148 : decode cL_law 1148 = .ok (.invokevirtual 133, 3) := by decide +kernel
theorem dL_law_1151 : decode cL_law 1151 = .ok (.aload_n 2, 1) := by decide +kernel
theorem dL_law_1152 : decode cL_law 1152 = .ok (.aload_n 0, 1) := by decide +kernel
theorem dL_law_1153 : decode cL_law 1153 = .ok (.iload_n 3, 1) := by decide +kernel
theorem dL_law_1154 : decode cL_law 1154 = .ok (.iconst 1, 1) := by decide +kernel
theorem dL_law_1155 : decode cL_law 1155 = .ok (.iadd, 1) := by decide +kernel
theorem dL_law_1156 : decode cL_law 1156 = .ok (.iaload, 1) := by decide +kernel
theorem dL_law_1157 : decode cL_law 1157 = .ok (.invokevirtual 136, 3) := by decide +kernel
theorem dL_law_1160 : decode cL_law 1160 = .ok (.if_icmp .eq 110, 3) := by decide +kernel
theorem dL_law_1163 : decode cL_law 1163 = .ok (.iconst 0, 1) := by decide +kernel
theorem dL_law_1164 : decode cL_law 1164 = .ok (.ireturn, 1) := by decide +kernel
theorem dL_law_1165 : decode cL_law 1165 = .ok (.aload_n 1, 1) := by decide +kernel
theorem dL_law_1166 : decode cL_law 1166 = .ok (.aload_n 0, 1) := by decide +kernel
theorem dL_law_1167 : decode cL_law 1167 = .ok (.iload_n 3, 1) := by decide +kernel
theorem dL_law_1168 : decode cL_law 1168 = .ok (.iconst 1, 1) := by decide +kernel
theorem dL_law_1169 : decode cL_law 1169 = .ok (.iadd, 1) := by decide +kernel
theorem dL_law_1170 : decode cL_law 1170 = .ok (.iaload, 1) := by decide +kernel
theorem dL_law_1171 : decode cL_law 1171 = .ok (.invokevirtual 137, 3) := by decide +kernel
theorem dL_law_1174 : decode cL_law 1174 = .ok (.aload_n 2, 1) := by decide +kernel
theorem dL_law_1175 : decode cL_law 1175 = .ok (.aload_n 0, 1) := by decide +kernel
theorem dL_law_1176 : decode cL_law 1176 = .ok (.iload_n 3, 1) := by decide +kernel
theorem dL_law_1177 : decode cL_law 1177 = .ok (.iconst 1, 1) := by decide +kernel
theorem dL_law_1178 : decode cL_law 1178 = .ok (.iadd, 1) := by decide +kernel
theorem dL_law_1179 : decode cL_law 1179 = .ok (.iaload, 1) := by decide +kernel
theorem dL_law_1180 : decode cL_law 1180 = .ok (.invokevirtual 140, 3) := by decide +kernel
theorem dL_law_1183 : decode cL_law 1183 = .ok (.if_icmp .eq 87, 3) := by decide +kernel
theorem dL_law_1186 : decode cL_law 1186 = .ok (.iconst 0, 1) := by decide +kernel
theorem dL_law_1187 : decode cL_law 1187 = .ok (.ireturn, 1) := by decide +kernel
theorem dL_law_1188 : decode cL_law 1188 = .ok (.aload_n 1, 1) := by decide +kernel
theorem dL_law_1189 : decode cL_law 1189 = .ok (.aload_n 0, 1) := by decide +kernel
theorem dL_law_1190 : decode cL_law 1190 = .ok (.iload_n 3, 1) := by decide +kernel
theorem dL_law_1191 : decode cL_law 1191 = .ok (.iconst 1, 1) := by decide +kernel
theorem dL_law_1192 : decode cL_law 1192 = .ok (.iadd, 1) := by decide +kernel
theorem dL_law_1193 : decode cL_law 1193 = .ok (.iaload, 1) := by decide +kernel
theorem dL_law_1194 : decode cL_law 1194 = .ok (.aload_n 0, 1) := by decide +kernel
theorem dL_law_1195 : decode cL_law 1195 = .ok (.iload_n 3, 1) := by decide +kernel
theorem dL_law_1196 : decode cL_law 1196 = .ok (.iconst 2, 1) := by decide +kernel
theorem dL_law_1197 : decode cL_law 1197 = .ok (.iadd, 1) := by decide +kernel
theorem dL_law_1198 : decode cL_law 1198 = .ok (.iaload, 1) := by decide +kernel
theorem dL_law_1199 : decode cL_law 1199 = .ok (.invokevirtual 141, 3) := by decide +kernel
theorem dL_law_1202 : decode cL_law 1202 = .ok (.aload_n 2, 1) := by decide +kernel
theorem dL_law_1203 : decode cL_law 1203 = .ok (.aload_n 0, 1) := by decide +kernel
theorem dL_law_1204 : decode cL_law 1204 = .ok (.iload_n 3, 1) := by decide +kernel
theorem dL_law_1205 : decode cL_law 1205 = .ok (.iconst 1, 1) := by decide +kernel
theorem dL_law_1206 : decode cL_law 1206 = .ok (.iadd, 1) := by decide +kernel
theorem dL_law_1207 : decode cL_law 1207 = .ok (.iaload, 1) := by decide +kernel
theorem dL_law_1208 : decode cL_law 1208 = .ok (.aload_n 0, 1) := by decide +kernel
theorem dL_law_1209 : decode cL_law 1209 = .ok (.iload_n 3, 1) := by decide +kernel
theorem dL_law_1210 : decode cL_law 1210 = .ok (.iconst 2, 1) := by decide +kernel
theorem dL_law_1211 : decode cL_law 1211 = .ok (.iadd, 1) := by decide +kernel
theorem dL_law_1212 : decode cL_law 1212 = .ok (.iaload, 1) := by decide +kernel
theorem dL_law_1213 : decode cL_law 1213 = .ok (.invokevirtual 144, 3) := by decide +kernel
theorem dL_law_1216 : decode cL_law 1216 = .ok (.if_icmp .eq 54, 3) := by decide +kernel
theorem dL_law_1219 : decode cL_law 1219 = .ok (.iconst 0, 1) := by decide +kernel
theorem dL_law_1220 : decode cL_law 1220 = .ok (.ireturn, 1) := by decide +kernel
theorem dL_law_1221 : decode cL_law 1221 = .ok (.aload_n 1, 1) := by decide +kernel
theorem dL_law_1222 : decode cL_law 1222 = .ok (.invokevirtual 145, 3) := by decide +kernel
theorem dL_law_1225 : decode cL_law 1225 = .ok (.aload_n 2, 1) := by decide +kernel
theorem dL_law_1226 : decode cL_law 1226 = .ok (.invokevirtual 149, 3) := by decide +kernel
theorem dL_law_1229 : decode cL_law 1229 = .ok (.if_icmp .eq 41, 3) := by decide +kernel
theorem dL_law_1232 : decode cL_law 1232 = .ok (.iconst 0, 1) := by decide +kernel
theorem dL_law_1233 : decode cL_law 1233 = .ok (.ireturn, 1) := by decide +kernel
theorem dL_law_1234 : decode cL_law 1234 = .ok (.aload_n 1, 1) := by decide +kernel
theorem dL_law_1235 : decode cL_law 1235 = .ok (.invokevirtual 150, 3) := by decide +kernel
theorem dL_law_1238 : decode cL_law 1238 = .ok (.aload_n 2, 1) := by decide +kernel
theorem dL_law_1239 : decode cL_law 1239 = .ok (.invokevirtual 153, 3) := by decide +kernel
theorem dL_law_1242 : decode cL_law 1242 = .ok (.if_icmp .eq 28, 3) := by decide +kernel
theorem dL_law_1245 : decode cL_law 1245 = .ok (.iconst 0, 1) := by decide +kernel
theorem dL_law_1246 : decode cL_law 1246 = .ok (.ireturn, 1) := by decide +kernel
theorem dL_law_1247 : decode cL_law 1247 = .ok (.aload_n 1, 1) := by decide +kernel
theorem dL_law_1248 : decode cL_law 1248 = .ok (.aload_n 0, 1) := by decide +kernel
theorem dL_law_1249 : decode cL_law 1249 = .ok (.iload_n 3, 1) := by decide +kernel
theorem dL_law_1250 : decode cL_law 1250 = .ok (.iconst 1, 1) := by decide +kernel
theorem dL_law_1251 : decode cL_law 1251 = .ok (.iadd, 1) := by decide +kernel
theorem dL_law_1252 : decode cL_law 1252 = .ok (.iaload, 1) := by decide +kernel
theorem dL_law_1253 : decode cL_law 1253 = .ok (.invokevirtual 154, 3) := by decide +kernel
theorem dL_law_1256 : decode cL_law 1256 = .ok (.aload_n 2, 1) := by decide +kernel
theorem dL_law_1257 : decode cL_law 1257 = .ok (.aload_n 0, 1) := by decide +kernel
theorem dL_law_1258 : decode cL_law 1258 = .ok (.iload_n 3, 1) := by decide +kernel
theorem dL_law_1259 : decode cL_law 1259 = .ok (.iconst 1, 1) := by decide +kernel
theorem dL_law_1260 : decode cL_law 1260 = .ok (.iadd, 1) := by decide +kernel
theorem dL_law_1261 : decode cL_law 1261 = .ok (.iaload, 1) := by decide +kernel
theorem dL_law_1262 : decode cL_law 1262 = .ok (.invokevirtual 157, 3) := by decide +kernel
theorem dL_law_1265 : decode cL_law 1265 = .ok (.if_icmp .eq 5, 3) := by decide +kernel
theorem dL_law_1268 : decode cL_law 1268 = .ok (.iconst 0, 1) := by decide +kernel
theorem dL_law_1269 : decode cL_law 1269 = .ok (.ireturn, 1) := by decide +kernel
theorem dL_law_1270 : decode cL_law 1270 = .ok (.iinc 3 6, 3) := by decide +kernel
theorem dL_law_1273 : decode cL_law 1273 = .ok (.goto (-1255), 3) := by decide +kernel
theorem dL_law_1276 : decode cL_law 1276 = .ok (.iconst 1, 1) := by decide +kernel
theorem dL_law_1277 : decode cL_law 1277 = .ok (.ireturn, 1) := by decide +kernel
abbrev vwCl : List vw_C := [(RX0, TX0, 4), (RX1, TX1, 4), (RX2, TX2, 6), (RX3, TX3, 7), (RX4, TX4, 24)]
end
section
/-! own rows: contracts of methods that make nothing, over worlds whose addresses stay; calls by places -/
abbrev kT (cI cO : ClassId) : List (ClassId × FieldType) := [(cI, .int), (cO, .object "TownLisp$Sheet")]
def fF (j : Nat) : Int32 := match j with
  | 0 => 1
  | 1 => 1
  | 2 => 2
  | 3 => 6
  | 4 => 24
  | 5 => 120
  | _ => 720
/-- what is known of the tables, and of the one static array -/
def kE (D : va_G) (cI cO : ClassId) (tF : Nat) (A : Nat → Prop) (U : State) : Prop :=
  va_K D vwCl (kT cI cO) U ∧ (va_Nw (.methodLinkNest RX2 53 yX3_isMember RX3) U ∧ va_Nw (.methodLinkNest RX2 62 yX3_says RX3) U ∧ va_Nw (.methodLinkNest RX0 25 yX3_says RX3) U) ∧ va_Z "TownLisp" "FACTORIALS" "[I" (.ref tF) A U U.heap ∧ va_T .int tF 7 (fun j => .int (fF j)) A U U.heap
theorem kE.warm {D : va_G} {cI cO : ClassId} {tF : Nat} {A B : Nat → Prop} {u U : State} (h : kE D cI cO tF A u) (hW : u.WarmedH U.vm) (hk : ∀ a : Nat, a < u.heap.size → ¬ A a → U.heap[a]? = u.heap[a]?) (hBA : ∀ q, B q → A q) : kE D cI cO tF B U := by
  obtain ⟨h1, ⟨h2, h3, h4⟩, h5, h6⟩ := h
  refine ⟨va_K.moved hW.alike h1, ⟨h2.warmM hW, h3.warmM hW, h4.warmM hW⟩, ?_, ?_⟩
  · exact ((h5.moved hW.alike).kept hk).narrow hBA
  · exact ((h6.moved hW.alike).kept hk).narrow hBA
theorem kE.calling {D : va_G} {cI cO : ClassId} {tF : Nat} {A : Nat → Prop} {U : State} (h : kE D cI cO tF A U) (g : JFrame) (mk : MethodId) (a : Array Value) : kE D cI cO tF A (U.calling g mk a) := by
  obtain ⟨h1, ⟨h2, h3, h4⟩, h5, h6⟩ := h
  have e : U.vm.Alike (U.calling g mk a).vm := Vm.Alike.refl U.vm
  exact ⟨va_K.moved e h1, ⟨va_Nw.same rfl rfl h2, va_Nw.same rfl rfl h3, va_Nw.same rfl rfl h4⟩, va_Z.moved e h5, va_T.moved e h6⟩
def Qp (D : va_G) (r : Option Value) (w' : va_W) (A : Nat → Prop) : Array Value → State → Outcome → State → Prop := fun _ st oc t => (oc = .returned r ∧ va_P D vwCl w' t.heap) ∧ va_F A st t
/-- THE CONTRACT of a method that makes nothing: from the world w, with the arguments av, it answers r and leaves the world w' -/
def Ct (l : Launch) (y : MethodName) (ws : List Cond) (rm : Room) (D : va_G) (cI cO : ClassId) (tF : Nat) (av : List Value) (w : va_W) (r : Option Value) (w' : va_W) : Prop :=
  ∀ sz : Nat, Met l y ws rm (va_Pc av (fun U => U.heap.size = sz ∧ va_P D vwCl w U.heap ∧ kE D cI cO tF (va_A w sz) U ∧ va_D (fun _ => True) w)) (Qp D r w' (va_A w sz)) 0 0 (va_A w sz)
/-- what stands through a method's walk -/
def Bx (p : Program) (s : State) (m : MethodId) (args : Array Value) (meth : Method) (c : Code) (cc : ByteArray) (nL : Nat) (ret : Option FieldType) (Ts : List Cond) (own : String) (D : va_G) (cI cO : ClassId) (tF : Nat) (A : Nat → Prop) : Prop :=
  p.tables.exec = Jvm.exec ∧ c.code = cc ∧ meth.sig.returnType = ret ∧ c.maxLocals = nL ∧ (∀ w ∈ Ts, w.before args s = true) ∧ s.vm.findClass own = some m.cls ∧ meth.locks = false ∧ kE D cI cO tF A s ∧ ∀ q : Nat, s.heap.size ≤ q → A q
theorem Ct.of {l : Launch} {y : MethodName} {ws ws' : List Cond} {rm : Room} {D : va_G} {cI cO : ClassId} {tF : Nat} {av : List Value} {w : va_W} {r : Option Value} {w' : va_W} {cc : ByteArray} {maxL : Nat} {ret : Option FieldType} (hy : plainName y.cls = true) (hw : ws = Cond.code y cc maxL ret :: ws') (hlen : (lg_sl av).length ≤ maxL)
    (body : ∀ (p : Program) (e : Env) (s : State) (m : MethodId) (args : Array Value) (below : List Frame) (meth : Method) (c : Code) (A : Nat → Prop) (ls : Array Slot), Bx p s m args meth c cc maxL ret ws y.cls D cI cO tF A → va_P D vwCl w s.heap → va_D A w → va_S A s.heap s.heap [] → lv_has ls maxL (lv_args 0 av) →
      W p l e rm s m args below meth c s.heap [] 0 0 (MQ below (Qp D r w' A) args s 0 0 A) (F0 m 0 ls [])) : Ct l y ws rm D cI cO tF av w r w' := by
  intro sz
  refine Met.ofW (cc := cc) (maxL := maxL) (ret := ret) hy hw ?_
  intro p e s m args below meth c s₁ B hml hv
  obtain ⟨rfl, hsz, hP, hK, hD0⟩ := hv
  subst hsz
  rw [lg_entry_eq]
  exact body p e s m _ below meth c (va_A w s.heap.size) _ ⟨B.exec, B.bytes, B.returns, hml, atoms_spec (ws := ws) B.pre, findClass_of_methodNamed B.named, B.notSynchronized, hK, fun q h => Or.inr h⟩ hP (hD0.self (sz := s.heap.size)) va_S.rf (lv_entry av hlen)
/-- cells set at places -/
def kq_set (w : va_W) : List Nat → va_W → va_W
  | i :: is, q :: qs => kq_set (w.set i q) is qs
  | _, _ => w
theorem kq_set_out : ∀ (is : List Nat) (qs w : va_W) (k : Nat), k ∉ is → (kq_set w is qs)[k]? = w[k]?
  | [], _, w, k, _ => by simp [kq_set]
  | i :: is, [], w, k, _ => by simp [kq_set]
  | i :: is, q :: qs, w, k, h => by
    have h1 : i ≠ k := fun e => h (by rw [e]; exact List.mem_cons_self)
    rw [kq_set, kq_set_out is qs (w.set i q) k (fun z => h (List.mem_cons_of_mem _ z)), List.getElem?_set_ne h1]
theorem kq_set_in : ∀ (is : List Nat) (qs w : va_W), va_nd is = true → is.length = qs.length → (∀ i ∈ is, i < w.length) → ∀ (j i : Nat), is[j]? = some i → (kq_set w is qs)[i]? = qs[j]?
  | [], _, w, _, _, _, j, i, h => by simp at h
  | i0 :: is, [], w, _, hl, _, j, i, h => by simp at hl
  | i0 :: is, q :: qs, w, hn, hl, hlt, j, i, h => by
    simp only [va_nd, Bool.and_eq_true, decide_eq_true_eq] at hn
    cases j with
    | zero =>
      simp only [List.getElem?_cons_zero, Option.some.injEq] at h
      subst h
      rw [kq_set, kq_set_out is qs _ _ hn.1]
      have := hlt i0 List.mem_cons_self
      simp [this]
    | succ j =>
      simp only [List.getElem?_cons_succ] at h ⊢
      rw [kq_set]
      exact kq_set_in is qs (w.set i0 q) hn.2 (by simpa using hl) (fun i hi => by rw [List.length_set]; exact hlt i (List.mem_cons_of_mem _ hi)) j i h
/-- behind a call: the callee's cells as it left them, the rest as it was -/
theorem kq_back {A : Nat → Prop} {D : va_G} {w wc wc' w' : va_W} {H H1 : Heap} (hP : va_P D vwCl w H) (hD : va_D A w) (isC : List Nat) (hC : isC.map (fun i => w[i]?) = wc.map some) (hn : va_nd isC = true) (hE : kq_set w isC wc' = w') (ha : wc'.map (fun q => q.1) = wc.map (fun q => q.1))
    (hk : ∀ q : Nat, q < H.size → ¬ va_A wc H.size q → H1[q]? = H[q]?) (hP1 : va_P D vwCl wc' H1) : va_P D vwCl w' H1 ∧ va_D A w' := by
  have at' : ∀ (k : Nat) (q : Nat × va_E), wc[k]? = some q → ∃ i, isC[k]? = some i ∧ w[i]? = some q := by
    intro k q hq
    have h1 : (isC.map (fun i => w[i]?))[k]? = some (some q) := by rw [hC, List.getElem?_map, hq]; rfl
    rw [List.getElem?_map] at h1
    cases hi : isC[k]? with
    | none => rw [hi] at h1; cases h1
    | some i => rw [hi] at h1; exact ⟨i, rfl, Option.some.inj h1⟩
  have hlc : isC.length = wc.length := by simpa using congrArg List.length hC
  have hlc' : wc'.length = wc.length := by simpa using congrArg List.length ha
  have hlt : ∀ i ∈ isC, i < w.length := by
    intro i hi
    obtain ⟨k, hk1⟩ := List.getElem?_of_mem hi
    have hkl : k < wc.length := by rw [← hlc]; exact (List.getElem?_eq_some_iff.mp hk1).1
    obtain ⟨i', h1, h2⟩ := at' k wc[k] (List.getElem?_eq_getElem hkl)
    rw [hk1] at h1
    cases h1
    exact (List.getElem?_eq_some_iff.mp h2).1
  have key : ∀ (k : Nat) (q : Nat × va_E), w'[k]? = some q → (∃ j, isC[j]? = some k ∧ wc'[j]? = some q ∧ ∃ e, w[k]? = some (q.1, e)) ∨ (k ∉ isC ∧ w[k]? = some q) := by
    intro k q hq
    by_cases hm : k ∈ isC
    · obtain ⟨j, hj⟩ := List.getElem?_of_mem hm
      have h1 := kq_set_in isC wc' w hn (hlc.trans hlc'.symm) hlt j k hj
      rw [hE, hq] at h1
      have hj2 : j < wc.length := by rw [← hlc]; exact (List.getElem?_eq_some_iff.mp hj).1
      obtain ⟨i', g1, g2⟩ := at' j wc[j] (List.getElem?_eq_getElem hj2)
      rw [hj] at g1
      cases g1
      have h2 : (wc'.map (fun q => q.1))[j]? = (wc.map (fun q => q.1))[j]? := by rw [ha]
      rw [List.getElem?_map, List.getElem?_map, ← h1, List.getElem?_eq_getElem hj2] at h2
      simp only [Option.map_some, Option.some.injEq] at h2
      exact Or.inl ⟨j, hj, h1.symm, (wc[j]).2, by rw [g2, h2]⟩
    · exact Or.inr ⟨hm, by rw [← kq_set_out isC wc' w k hm, hE]; exact hq⟩
  refine ⟨fun k q hq => ?_, fun i j x y hx hy hxy => ?_, fun k q hq => ?_⟩
  · rcases key k q hq with ⟨j, h1, h2, -⟩ | ⟨h1, h2⟩
    · exact hP1 j q h2
    · have hl := (hP k q h2).lt
      refine (hP k q h2).kept (hk q.1 hl ?_)
      rintro (⟨k2, e, h⟩ | h)
      · obtain ⟨i, h3, h4⟩ := at' k2 (q.1, e) h
        have hij := hD.1 k i q (q.1, e) h2 h4 rfl
        subst hij
        exact h1 (List.mem_of_getElem? h3)
      · omega
  · have gx : ∃ e, w[i]? = some (x.1, e) := by
      rcases key i x hx with ⟨-, -, -, h⟩ | ⟨-, h⟩
      · exact h
      · exact ⟨x.2, h⟩
    have gy : ∃ e, w[j]? = some (y.1, e) := by
      rcases key j y hy with ⟨-, -, -, h⟩ | ⟨-, h⟩
      · exact h
      · exact ⟨y.2, h⟩
    obtain ⟨e1, g1⟩ := gx
    obtain ⟨e2, g2⟩ := gy
    exact hD.1 i j _ _ g1 g2 hxy
  · rcases key k q hq with ⟨-, -, -, e, h⟩ | ⟨-, h⟩
    · exact hD.2 k _ h
    · exact hD.2 k _ h
section KC
variable {p : Program} {l : Launch} {e : Env} {R : Room} {s : State} {m : MethodId} {args : Array Value} {below : List Frame} {meth : Method} {c : Code} {H : Heap} {locs : List Loc} {cells slots : Nat} {Q : State → Prop}
variable {cc : ByteArray} {pc : Nat} {ls : Array Slot} {rest st0 : List Value} {D : va_G} {A : Nat → Prop} {cI cO : ClassId} {tF : Nat}
variable {y : MethodName} {bytes : ByteArray} {maxL nL n index : Nat} {ret ret0 : Option FieldType} {ws Ts : List Cond} {rm : Room} {own C host : String} {b : Addr} {As : List Value} {w wc wc' w' : va_W} {r : Option Value}
/-- the callee's start, out of the caller's world -/
theorem kq_pre {av : List Value} (hE : kE D cI cO tF A s) (hA : ∀ q : Nat, s.heap.size ≤ q → A q) (hP : va_P D vwCl w H) (hD : va_D A w) (hS : va_S A s.heap H locs) (isC : List Nat) (hC : isC.map (fun i => w[i]?) = wc.map some) (hn : va_nd isC = true) :
    FrameBlind (va_Pc av (fun U => U.heap.size = H.size ∧ va_P D vwCl wc U.heap ∧ kE D cI cO tF (va_A wc H.size) U ∧ va_D (fun _ => True) wc)) ∧ ∀ U : State, U.heap = H → s.WarmedH U.vm → va_Pc av (fun U => U.heap.size = H.size ∧ va_P D vwCl wc U.heap ∧ kE D cI cO tF (va_A wc H.size) U ∧ va_D (fun _ => True) wc) av.toArray U := by
  refine ⟨fun a U g mk q => ?_, fun U hU hW => ⟨rfl, by rw [hU], ?_, ?_, ?_⟩⟩
  · obtain ⟨q0, q1, q2, q3, q4⟩ := q
    exact ⟨q0, q1, q2, q3.calling g mk a, q4⟩
  · rw [hU]
    intro k q hq
    have h1 : (isC.map (fun i => w[i]?))[k]? = some (some q) := by rw [hC, List.getElem?_map, hq]; rfl
    rw [List.getElem?_map] at h1
    cases hi : isC[k]? with
    | none => rw [hi] at h1; cases h1
    | some i => rw [hi] at h1; exact hP i q (Option.some.inj h1)
  · exact hE.warm hW (fun a h1 h2 => by rw [hU]; exact hS.2.1 a h1 h2) (va_free hD hS hA isC hC)
  · exact (hD.sub isC hn hC).weaken (fun _ _ _ _ => trivial)
/-- a call's run turned into the walk behind it -/
theorem kq_go (hr : va_Run p l e R s m args below meth c H locs cells slots 0 0 (F0 m pc ls st0) rest (Qp D r wc' (va_A wc H.size) As.toArray) (va_A wc H.size)) (hA : ∀ q : Nat, s.heap.size ≤ q → A q) (hP : va_P D vwCl w H) (hD : va_D A w) (hS : va_S A s.heap H locs) (isC : List Nat) (hC : isC.map (fun i => w[i]?) = wc.map some) (hn : va_nd isC = true) (hE : kq_set w isC wc' = w') (ha : wc'.map (fun q => q.1) = wc.map (fun q => q.1))
    (kk : ∀ (H1 : Heap) (locs1 : List Loc), va_P D vwCl w' H1 → va_D A w' → va_S A s.heap H1 locs1 → W p l e R s m args below meth c H1 locs1 cells slots Q (F0 m (pc + 3) ls (r.toList ++ rest))) : W p l e R s m args below meth c H locs cells slots Q (F0 m pc ls st0) := by
  have hF := va_free hD hS hA isC hC
  intro T hT X
  obtain ⟨v, st₀, t, T', L, h0, X', hL, e1, e2, ⟨⟨hv, hp⟩, hz, hk⟩, st⟩ := hr T hT X
  cases hv
  rw [h0] at hz hk
  rw [← e1] at hz hk hp
  obtain ⟨hP2, hD2⟩ := kq_back hP hD isC hC hn hE ha hk hp
  obtain ⟨t2, a1, b1⟩ := kk T'.heap (locs ++ L) hP2 hD2 ⟨Nat.le_trans hS.1 hz, fun q h1 h2 => by rw [hk q (Nat.lt_of_lt_of_le h1 hS.1) (fun z => h2 (hF q z))]; exact hS.2.1 q h1 h2, fun q hq => by
      rcases List.mem_append.mp hq with h | h
      · exact hS.2.2 q h
      · exact hF _ (hL q h)⟩ T' rfl X'
  exact ⟨t2, st t2 a1, b1⟩
/-- invokevirtual -/
theorem kc_V (B : Bx p s m args meth c cc nL ret0 Ts own D cI cO tF A) (hM : Ct l y ws rm D cI cO tF (.ref b :: As) wc r wc') (cw : CallW R s args own C index y bytes maxL ret ws rm 0 0 n) (hP : va_P D vwCl w H) (hD : va_D A w) (hS : va_S A s.heap H locs) (isC : List Nat) (hC : isC.map (fun i => w[i]?) = wc.map some) (hn : va_nd isC = true) (hE : kq_set w isC wc' = w') (ha : wc'.map (fun q => q.1) = wc.map (fun q => q.1))
    (q0 ci : Nat) {q : vw_C} {fs : List Value} (hci : vwCl[ci]? = some q) (hq : w[q0]? = some (b, .inr (ci, fs))) (hqC : q.1 = C) (hnA : As.length = n) (hsz : ls.size = nL) (hst : st0 = As.reverse ++ .ref b :: rest) (hroom : (rest.map fun v => v.category).sum ≤ 8) (hdg : decode cc pc = .ok (.invokevirtual index, 3)) (hf : cells ≤ R.cells ∧ slots ≤ R.slots)
    (kk : ∀ (H1 : Heap) (locs1 : List Loc), va_P D vwCl w' H1 → va_D A w' → va_S A s.heap H1 locs1 → W p l e R s m args below meth c H1 locs1 cells slots Q (F0 m (pc + 3) ls (r.toList ++ rest))) : W p l e R s m args below meth c H locs cells slots Q (F0 m pc ls st0) := by
  obtain ⟨hx, hb, -, hml, hts, hown, -, hK, hA⟩ := B
  obtain ⟨g1, g2⟩ := kq_pre (av := .ref b :: As) hK hA hP hD hS isC hC hn
  have hrv := va_recv hK.1 hP hci hq
  rw [hqC] at hrv
  exact kq_go (As := .ref b :: As) (va_runV (g := F0 m pc ls st0) ⟨hx, hb, hml, hown, hts⟩ (hM H.size) cw ⟨g1, hrv, g2⟩ rfl hnA hsz hst (lv_room hroom) hdg hf) hA hP hD hS isC hC hn hE ha kk
/-- invokestatic -/
theorem kc_S (B : Bx p s m args meth c cc nL ret0 Ts own D cI cO tF A) (hM : Ct l y ws rm D cI cO tF As wc r wc') (cw : CallB R s args own index y bytes maxL ret ws rm 0 0 n ∧ (Cond.static y).before args s = true) (hP : va_P D vwCl w H) (hD : va_D A w) (hS : va_S A s.heap H locs) (isC : List Nat) (hC : isC.map (fun i => w[i]?) = wc.map some) (hn : va_nd isC = true) (hE : kq_set w isC wc' = w') (ha : wc'.map (fun q => q.1) = wc.map (fun q => q.1))
    (hnA : As.length = n) (hsz : ls.size = nL) (hst : st0 = As.reverse ++ rest) (hroom : (rest.map fun v => v.category).sum ≤ 8) (hdg : decode cc pc = .ok (.invokestatic index, 3)) (hf : cells ≤ R.cells ∧ slots ≤ R.slots)
    (kk : ∀ (H1 : Heap) (locs1 : List Loc), va_P D vwCl w' H1 → va_D A w' → va_S A s.heap H1 locs1 → W p l e R s m args below meth c H1 locs1 cells slots Q (F0 m (pc + 3) ls (r.toList ++ rest))) : W p l e R s m args below meth c H locs cells slots Q (F0 m pc ls st0) := by
  obtain ⟨hx, hb, -, hml, hts, hown, -, hK, hA⟩ := B
  exact kq_go (va_runS (g := F0 m pc ls st0) ⟨hx, hb, hml, hown, hts⟩ (hM H.size) cw (kq_pre hK hA hP hD hS isC hC hn) rfl hnA hsz hst (lv_room hroom) hdg hf) hA hP hD hS isC hC hn hE ha kk
/-- invokestatic of a nest mate's private method -/
theorem kc_SN (B : Bx p s m args meth c cc nL ret0 Ts own D cI cO tF A) (hM : Ct l y ws rm D cI cO tF As wc r wc') (cw : va_CN R s args own index y host bytes maxL ret ws rm 0 0 n ∧ (Cond.static y).before args s = true ∧ True) (hP : va_P D vwCl w H) (hD : va_D A w) (hS : va_S A s.heap H locs) (isC : List Nat) (hC : isC.map (fun i => w[i]?) = wc.map some) (hn : va_nd isC = true) (hE : kq_set w isC wc' = w') (ha : wc'.map (fun q => q.1) = wc.map (fun q => q.1))
    (hnA : As.length = n) (hsz : ls.size = nL) (hst : st0 = As.reverse ++ rest) (hroom : (rest.map fun v => v.category).sum ≤ 8) (hdg : decode cc pc = .ok (.invokestatic index, 3)) (hf : cells ≤ R.cells ∧ slots ≤ R.slots)
    (kk : ∀ (H1 : Heap) (locs1 : List Loc), va_P D vwCl w' H1 → va_D A w' → va_S A s.heap H1 locs1 → W p l e R s m args below meth c H1 locs1 cells slots Q (F0 m (pc + 3) ls (r.toList ++ rest))) : W p l e R s m args below meth c H locs cells slots Q (F0 m pc ls st0) := by
  obtain ⟨hx, hb, -, hml, hts, hown, -, hK, hA⟩ := B
  exact kq_go (va_runSN (g := F0 m pc ls st0) ⟨hx, hb, hml, hown, hts⟩ (hM H.size) cw (kq_pre hK hA hP hD hS isC hC hn) rfl hnA hsz hst (lv_room hroom) hdg hf) hA hP hD hS isC hC hn hE ha kk
/-- ireturn: int -/
theorem kr_i {v x : Int32} (B : Bx p s m args meth c cc nL (some .int) Ts own D cI cO tF A) (hP : va_P D vwCl w H) (hS : va_S A s.heap H locs) (hw : w = w') (hv : v = x) (hdg : decode cc pc = .ok (.ireturn, 1)) : W p l e R s m args below meth c H locs 0 0 (MQ below (Qp D (some (.int x)) w' A) args s 0 0 A) (F0 m pc ls [.int v]) := by
  obtain ⟨hx, hb, hr, hml, hts, hown, hlocks, hK, hA⟩ := B
  subst hw; subst hv
  exact W.iret hx hb hr (fun t ht hW => ⟨⟨rfl, by rw [ht]; exact hP⟩, hS.F ht⟩) hS.2.2 hdg hlocks
/-- ireturn: boolean -/
theorem kr_z {v x : Int32} (B : Bx p s m args meth c cc nL (some .boolean) Ts own D cI cO tF A) (hP : va_P D vwCl w H) (hS : va_S A s.heap H locs) (hw : w = w') (hv : v = x) (h01 : v = 0 ∨ v = 1) (hdg : decode cc pc = .ok (.ireturn, 1)) : W p l e R s m args below meth c H locs 0 0 (MQ below (Qp D (some (.int x)) w' A) args s 0 0 A) (F0 m pc ls [.int v]) := by
  obtain ⟨hx, hb, hr, hml, hts, hown, hlocks, hK, hA⟩ := B
  subst hw; subst hv
  exact W.zret hx hb hr (by rcases h01 with rfl | rfl <;> rfl) (fun t ht hW => ⟨⟨rfl, by rw [ht]; exact hP⟩, hS.F ht⟩) hS.2.2 hdg hlocks
/-- lreturn -/
theorem kr_l {v x : Int64} (B : Bx p s m args meth c cc nL (some .long) Ts own D cI cO tF A) (hP : va_P D vwCl w H) (hS : va_S A s.heap H locs) (hw : w = w') (hv : v = x) (hdg : decode cc pc = .ok (.lreturn, 1)) : W p l e R s m args below meth c H locs 0 0 (MQ below (Qp D (some (.long x)) w' A) args s 0 0 A) (F0 m pc ls [.long v]) := by
  obtain ⟨hx, hb, hr, hml, hts, hown, hlocks, hK, hA⟩ := B
  subst hw; subst hv
  exact W.lret hx hb hr (fun t ht hW => ⟨⟨rfl, by rw [ht]; exact hP⟩, hS.F ht⟩) hS.2.2 hdg hlocks
/-- return -/
theorem kr_v (B : Bx p s m args meth c cc nL none Ts own D cI cO tF A) (hP : va_P D vwCl w H) (hS : va_S A s.heap H locs) (hw : w = w') (hdg : decode cc pc = .ok (.return_, 1)) : W p l e R s m args below meth c H locs 0 0 (MQ below (Qp D none w' A) args s 0 0 A) (F0 m pc ls []) := by
  obtain ⟨hx, hb, hr, hml, hts, hown, hlocks, hK, hA⟩ := B
  subst hw
  exact W.vret hx hb hr (fun t ht hW => ⟨⟨rfl, by rw [ht]; exact hP⟩, hS.F ht⟩) hS.2.2 hdg hlocks
end KC
end
section
theorem zz_dummy : True := trivial
end
