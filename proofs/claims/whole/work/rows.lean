section
-- ===== PART A: goes FIRST, ahead of the names: the tables' words, and 'selects' of the private methods out of them =====
/-- a private method of a class that the tables say can be made, by its rows of tables_1 -/
def lw_okq (q : MethodName × Nat) : Prop := (q.1.cls ≠ "java/lang/invoke/MethodHandle" ∧ q.1.cls ≠ "java/lang/invoke/VarHandle") ∧ Cond.instantiable q.1.cls q.2 ∈ tables_1 ∧ Cond.privateMethod q.1 ∈ tables_1 ∧ Cond.instanceMethod q.1 ∈ tables_1
theorem lw_p0 : lw_okq (⟨"RentedLooks$Text", "add", "(I)V"⟩, 2) := ⟨⟨by decide +kernel, by decide +kernel⟩, List.mem_of_getElem? (i := 26) (by decide +kernel), List.mem_of_getElem? (i := 333) (by decide +kernel), List.mem_of_getElem? (i := 334) (by decide +kernel)⟩
theorem lw_p1 : lw_okq (⟨"RentedLooks$Reader", "readTown", "()I"⟩, 6) := ⟨⟨by decide +kernel, by decide +kernel⟩, List.mem_of_getElem? (i := 110) (by decide +kernel), List.mem_of_getElem? (i := 341) (by decide +kernel), List.mem_of_getElem? (i := 342) (by decide +kernel)⟩
theorem lw_p2 : lw_okq (⟨"RentedLooks$Town", "clear", "()V"⟩, 13) := ⟨⟨by decide +kernel, by decide +kernel⟩, List.mem_of_getElem? (i := 42) (by decide +kernel), List.mem_of_getElem? (i := 345) (by decide +kernel), List.mem_of_getElem? (i := 346) (by decide +kernel)⟩
theorem lw_p3 : lw_okq (⟨"RentedLooks$Reader", "skipBlanks", "()V"⟩, 6) := ⟨⟨by decide +kernel, by decide +kernel⟩, List.mem_of_getElem? (i := 110) (by decide +kernel), List.mem_of_getElem? (i := 349) (by decide +kernel), List.mem_of_getElem? (i := 350) (by decide +kernel)⟩
theorem lw_p4 : lw_okq (⟨"RentedLooks$Text", "byteAt", "(I)I"⟩, 2) := ⟨⟨by decide +kernel, by decide +kernel⟩, List.mem_of_getElem? (i := 26) (by decide +kernel), List.mem_of_getElem? (i := 353) (by decide +kernel), List.mem_of_getElem? (i := 354) (by decide +kernel)⟩
theorem lw_p5 : lw_okq (⟨"RentedLooks$Reader", "readWord", "()V"⟩, 6) := ⟨⟨by decide +kernel, by decide +kernel⟩, List.mem_of_getElem? (i := 110) (by decide +kernel), List.mem_of_getElem? (i := 357) (by decide +kernel), List.mem_of_getElem? (i := 358) (by decide +kernel)⟩
theorem lw_p6 : lw_okq (⟨"RentedLooks$Text", "isLetter", "(I)Z"⟩, 2) := ⟨⟨by decide +kernel, by decide +kernel⟩, List.mem_of_getElem? (i := 26) (by decide +kernel), List.mem_of_getElem? (i := 361) (by decide +kernel), List.mem_of_getElem? (i := 362) (by decide +kernel)⟩
theorem lw_p7 : lw_okq (⟨"RentedLooks$Text", "stands", "(Ljava/lang/String;II)Z"⟩, 2) := ⟨⟨by decide +kernel, by decide +kernel⟩, List.mem_of_getElem? (i := 26) (by decide +kernel), List.mem_of_getElem? (i := 367) (by decide +kernel), List.mem_of_getElem? (i := 368) (by decide +kernel)⟩
theorem lw_p8 : lw_okq (⟨"RentedLooks$Reader", "readPart", "()V"⟩, 6) := ⟨⟨by decide +kernel, by decide +kernel⟩, List.mem_of_getElem? (i := 110) (by decide +kernel), List.mem_of_getElem? (i := 419) (by decide +kernel), List.mem_of_getElem? (i := 420) (by decide +kernel)⟩
theorem lw_p9 : lw_okq (⟨"RentedLooks$Reader", "fail", "(II)V"⟩, 6) := ⟨⟨by decide +kernel, by decide +kernel⟩, List.mem_of_getElem? (i := 110) (by decide +kernel), List.mem_of_getElem? (i := 423) (by decide +kernel), List.mem_of_getElem? (i := 424) (by decide +kernel)⟩
theorem lw_p10 : lw_okq (⟨"RentedLooks$Reader", "readKind", "()I"⟩, 6) := ⟨⟨by decide +kernel, by decide +kernel⟩, List.mem_of_getElem? (i := 110) (by decide +kernel), List.mem_of_getElem? (i := 427) (by decide +kernel), List.mem_of_getElem? (i := 428) (by decide +kernel)⟩
theorem lw_p11 : lw_okq (⟨"RentedLooks$Reader", "readNumber", "(I)I"⟩, 6) := ⟨⟨by decide +kernel, by decide +kernel⟩, List.mem_of_getElem? (i := 110) (by decide +kernel), List.mem_of_getElem? (i := 434) (by decide +kernel), List.mem_of_getElem? (i := 435) (by decide +kernel)⟩
theorem lw_p12 : lw_okq (⟨"RentedLooks$Text", "isFigure", "(I)Z"⟩, 2) := ⟨⟨by decide +kernel, by decide +kernel⟩, List.mem_of_getElem? (i := 26) (by decide +kernel), List.mem_of_getElem? (i := 438) (by decide +kernel), List.mem_of_getElem? (i := 439) (by decide +kernel)⟩
theorem lw_p13 : lw_okq (⟨"RentedLooks$Reader", "readEnd", "()V"⟩, 6) := ⟨⟨by decide +kernel, by decide +kernel⟩, List.mem_of_getElem? (i := 110) (by decide +kernel), List.mem_of_getElem? (i := 442) (by decide +kernel), List.mem_of_getElem? (i := 443) (by decide +kernel)⟩
theorem lw_p14 : lw_okq (⟨"RentedLooks$Town", "addPart", "(IIII)V"⟩, 13) := ⟨⟨by decide +kernel, by decide +kernel⟩, List.mem_of_getElem? (i := 42) (by decide +kernel), List.mem_of_getElem? (i := 446) (by decide +kernel), List.mem_of_getElem? (i := 447) (by decide +kernel)⟩
theorem lw_p15 : lw_okq (⟨"RentedLooks$Town", "setHoursOfLatest", "(II)V"⟩, 13) := ⟨⟨by decide +kernel, by decide +kernel⟩, List.mem_of_getElem? (i := 42) (by decide +kernel), List.mem_of_getElem? (i := 450) (by decide +kernel), List.mem_of_getElem? (i := 451) (by decide +kernel)⟩
def lw_privs_1 : List (MethodName × Nat) := [(⟨"RentedLooks$Text", "add", "(I)V"⟩, 2), (⟨"RentedLooks$Reader", "readTown", "()I"⟩, 6), (⟨"RentedLooks$Town", "clear", "()V"⟩, 13), (⟨"RentedLooks$Reader", "skipBlanks", "()V"⟩, 6), (⟨"RentedLooks$Text", "byteAt", "(I)I"⟩, 2), (⟨"RentedLooks$Reader", "readWord", "()V"⟩, 6), (⟨"RentedLooks$Text", "isLetter", "(I)Z"⟩, 2), (⟨"RentedLooks$Text", "stands", "(Ljava/lang/String;II)Z"⟩, 2), (⟨"RentedLooks$Reader", "readPart", "()V"⟩, 6), (⟨"RentedLooks$Reader", "fail", "(II)V"⟩, 6), (⟨"RentedLooks$Reader", "readKind", "()I"⟩, 6), (⟨"RentedLooks$Reader", "readNumber", "(I)I"⟩, 6), (⟨"RentedLooks$Text", "isFigure", "(I)Z"⟩, 2), (⟨"RentedLooks$Reader", "readEnd", "()V"⟩, 6), (⟨"RentedLooks$Town", "addPart", "(IIII)V"⟩, 13), (⟨"RentedLooks$Town", "setHoursOfLatest", "(II)V"⟩, 13)]
theorem lw_r1 : ∀ q ∈ lw_privs_1, lw_okq q := List.forall_mem_cons.mpr ⟨lw_p0, List.forall_mem_cons.mpr ⟨lw_p1, List.forall_mem_cons.mpr ⟨lw_p2, List.forall_mem_cons.mpr ⟨lw_p3, List.forall_mem_cons.mpr ⟨lw_p4, List.forall_mem_cons.mpr ⟨lw_p5, List.forall_mem_cons.mpr ⟨lw_p6, List.forall_mem_cons.mpr ⟨lw_p7, List.forall_mem_cons.mpr ⟨lw_p8, List.forall_mem_cons.mpr ⟨lw_p9, List.forall_mem_cons.mpr ⟨lw_p10, List.forall_mem_cons.mpr ⟨lw_p11, List.forall_mem_cons.mpr ⟨lw_p12, List.forall_mem_cons.mpr ⟨lw_p13, List.forall_mem_cons.mpr ⟨lw_p14, List.forall_mem_cons.mpr ⟨lw_p15, fun _ h => absurd h List.not_mem_nil⟩⟩⟩⟩⟩⟩⟩⟩⟩⟩⟩⟩⟩⟩⟩⟩
theorem lw_p16 : lw_okq (⟨"RentedLooks$Town", "hasPart", "(I)Z"⟩, 13) := ⟨⟨by decide +kernel, by decide +kernel⟩, List.mem_of_getElem? (i := 42) (by decide +kernel), List.mem_of_getElem? (i := 454) (by decide +kernel), List.mem_of_getElem? (i := 455) (by decide +kernel)⟩
theorem lw_p17 : lw_okq (⟨"RentedLooks$Reader", "readClash", "()V"⟩, 6) := ⟨⟨by decide +kernel, by decide +kernel⟩, List.mem_of_getElem? (i := 110) (by decide +kernel), List.mem_of_getElem? (i := 459) (by decide +kernel), List.mem_of_getElem? (i := 460) (by decide +kernel)⟩
theorem lw_p18 : lw_okq (⟨"RentedLooks$Town", "isClash", "(II)Z"⟩, 13) := ⟨⟨by decide +kernel, by decide +kernel⟩, List.mem_of_getElem? (i := 42) (by decide +kernel), List.mem_of_getElem? (i := 463) (by decide +kernel), List.mem_of_getElem? (i := 464) (by decide +kernel)⟩
theorem lw_p19 : lw_okq (⟨"RentedLooks$Town", "addClash", "(II)V"⟩, 13) := ⟨⟨by decide +kernel, by decide +kernel⟩, List.mem_of_getElem? (i := 42) (by decide +kernel), List.mem_of_getElem? (i := 470) (by decide +kernel), List.mem_of_getElem? (i := 471) (by decide +kernel)⟩
theorem lw_p20 : lw_okq (⟨"RentedLooks$Reader", "readScene", "()V"⟩, 6) := ⟨⟨by decide +kernel, by decide +kernel⟩, List.mem_of_getElem? (i := 110) (by decide +kernel), List.mem_of_getElem? (i := 475) (by decide +kernel), List.mem_of_getElem? (i := 476) (by decide +kernel)⟩
theorem lw_p21 : lw_okq (⟨"RentedLooks$Town", "addScene", "(III)V"⟩, 13) := ⟨⟨by decide +kernel, by decide +kernel⟩, List.mem_of_getElem? (i := 42) (by decide +kernel), List.mem_of_getElem? (i := 479) (by decide +kernel), List.mem_of_getElem? (i := 480) (by decide +kernel)⟩
theorem lw_p22 : lw_okq (⟨"RentedLooks$Town", "copyFrom", "(LRentedLooks$Town;)V"⟩, 13) := ⟨⟨by decide +kernel, by decide +kernel⟩, List.mem_of_getElem? (i := 42) (by decide +kernel), List.mem_of_getElem? (i := 483) (by decide +kernel), List.mem_of_getElem? (i := 484) (by decide +kernel)⟩
theorem lw_p23 : lw_okq (⟨"RentedLooks$State", "beginIn", "(LRentedLooks$Town;)V"⟩, 7) := ⟨⟨by decide +kernel, by decide +kernel⟩, List.mem_of_getElem? (i := 136) (by decide +kernel), List.mem_of_getElem? (i := 493) (by decide +kernel), List.mem_of_getElem? (i := 494) (by decide +kernel)⟩
theorem lw_p24 : lw_okq (⟨"RentedLooks$Looks", "build", "()V"⟩, 6) := ⟨⟨by decide +kernel, by decide +kernel⟩, List.mem_of_getElem? (i := 173) (by decide +kernel), List.mem_of_getElem? (i := 498) (by decide +kernel), List.mem_of_getElem? (i := 499) (by decide +kernel)⟩
theorem lw_p25 : lw_okq (⟨"RentedLooks$Looks", "isLook", "(III)Z"⟩, 6) := ⟨⟨by decide +kernel, by decide +kernel⟩, List.mem_of_getElem? (i := 173) (by decide +kernel), List.mem_of_getElem? (i := 502) (by decide +kernel), List.mem_of_getElem? (i := 503) (by decide +kernel)⟩
theorem lw_p26 : lw_okq (⟨"RentedLooks$Town", "isOfKind", "(II)Z"⟩, 13) := ⟨⟨by decide +kernel, by decide +kernel⟩, List.mem_of_getElem? (i := 42) (by decide +kernel), List.mem_of_getElem? (i := 506) (by decide +kernel), List.mem_of_getElem? (i := 507) (by decide +kernel)⟩
theorem lw_p27 : lw_okq (⟨"RentedLooks$Looks", "widthsIf", "(II)I"⟩, 6) := ⟨⟨by decide +kernel, by decide +kernel⟩, List.mem_of_getElem? (i := 173) (by decide +kernel), List.mem_of_getElem? (i := 520) (by decide +kernel), List.mem_of_getElem? (i := 521) (by decide +kernel)⟩
theorem lw_p28 : lw_okq (⟨"RentedLooks$Looks", "widthOf", "(I)I"⟩, 6) := ⟨⟨by decide +kernel, by decide +kernel⟩, List.mem_of_getElem? (i := 173) (by decide +kernel), List.mem_of_getElem? (i := 524) (by decide +kernel), List.mem_of_getElem? (i := 525) (by decide +kernel)⟩
theorem lw_p29 : lw_okq (⟨"RentedLooks$Looks", "sumOf", "(I[I)I"⟩, 6) := ⟨⟨by decide +kernel, by decide +kernel⟩, List.mem_of_getElem? (i := 173) (by decide +kernel), List.mem_of_getElem? (i := 528) (by decide +kernel), List.mem_of_getElem? (i := 529) (by decide +kernel)⟩
theorem lw_p30 : lw_okq (⟨"RentedLooks$Looks", "partsOf", "(I)I"⟩, 6) := ⟨⟨by decide +kernel, by decide +kernel⟩, List.mem_of_getElem? (i := 173) (by decide +kernel), List.mem_of_getElem? (i := 533) (by decide +kernel), List.mem_of_getElem? (i := 534) (by decide +kernel)⟩
theorem lw_p31 : lw_okq (⟨"RentedLooks$Town", "hasScene", "(I)Z"⟩, 13) := ⟨⟨by decide +kernel, by decide +kernel⟩, List.mem_of_getElem? (i := 42) (by decide +kernel), List.mem_of_getElem? (i := 548) (by decide +kernel), List.mem_of_getElem? (i := 549) (by decide +kernel)⟩
def lw_privs_2 : List (MethodName × Nat) := [(⟨"RentedLooks$Town", "hasPart", "(I)Z"⟩, 13), (⟨"RentedLooks$Reader", "readClash", "()V"⟩, 6), (⟨"RentedLooks$Town", "isClash", "(II)Z"⟩, 13), (⟨"RentedLooks$Town", "addClash", "(II)V"⟩, 13), (⟨"RentedLooks$Reader", "readScene", "()V"⟩, 6), (⟨"RentedLooks$Town", "addScene", "(III)V"⟩, 13), (⟨"RentedLooks$Town", "copyFrom", "(LRentedLooks$Town;)V"⟩, 13), (⟨"RentedLooks$State", "beginIn", "(LRentedLooks$Town;)V"⟩, 7), (⟨"RentedLooks$Looks", "build", "()V"⟩, 6), (⟨"RentedLooks$Looks", "isLook", "(III)Z"⟩, 6), (⟨"RentedLooks$Town", "isOfKind", "(II)Z"⟩, 13), (⟨"RentedLooks$Looks", "widthsIf", "(II)I"⟩, 6), (⟨"RentedLooks$Looks", "widthOf", "(I)I"⟩, 6), (⟨"RentedLooks$Looks", "sumOf", "(I[I)I"⟩, 6), (⟨"RentedLooks$Looks", "partsOf", "(I)I"⟩, 6), (⟨"RentedLooks$Town", "hasScene", "(I)Z"⟩, 13)]
theorem lw_r2 : ∀ q ∈ lw_privs_2, lw_okq q := List.forall_mem_cons.mpr ⟨lw_p16, List.forall_mem_cons.mpr ⟨lw_p17, List.forall_mem_cons.mpr ⟨lw_p18, List.forall_mem_cons.mpr ⟨lw_p19, List.forall_mem_cons.mpr ⟨lw_p20, List.forall_mem_cons.mpr ⟨lw_p21, List.forall_mem_cons.mpr ⟨lw_p22, List.forall_mem_cons.mpr ⟨lw_p23, List.forall_mem_cons.mpr ⟨lw_p24, List.forall_mem_cons.mpr ⟨lw_p25, List.forall_mem_cons.mpr ⟨lw_p26, List.forall_mem_cons.mpr ⟨lw_p27, List.forall_mem_cons.mpr ⟨lw_p28, List.forall_mem_cons.mpr ⟨lw_p29, List.forall_mem_cons.mpr ⟨lw_p30, List.forall_mem_cons.mpr ⟨lw_p31, fun _ h => absurd h List.not_mem_nil⟩⟩⟩⟩⟩⟩⟩⟩⟩⟩⟩⟩⟩⟩⟩⟩
theorem lw_p32 : lw_okq (⟨"RentedLooks$Looks", "priceOf", "(I)I"⟩, 6) := ⟨⟨by decide +kernel, by decide +kernel⟩, List.mem_of_getElem? (i := 173) (by decide +kernel), List.mem_of_getElem? (i := 558) (by decide +kernel), List.mem_of_getElem? (i := 559) (by decide +kernel)⟩
theorem lw_p33 : lw_okq (⟨"RentedLooks$Looks", "cheapestFor", "(I)I"⟩, 6) := ⟨⟨by decide +kernel, by decide +kernel⟩, List.mem_of_getElem? (i := 173) (by decide +kernel), List.mem_of_getElem? (i := 578) (by decide +kernel), List.mem_of_getElem? (i := 579) (by decide +kernel)⟩
theorem lw_p34 : lw_okq (⟨"RentedLooks$Town", "freeIn", "(I)I"⟩, 13) := ⟨⟨by decide +kernel, by decide +kernel⟩, List.mem_of_getElem? (i := 42) (by decide +kernel), List.mem_of_getElem? (i := 583) (by decide +kernel), List.mem_of_getElem? (i := 584) (by decide +kernel)⟩
theorem lw_p35 : lw_okq (⟨"RentedLooks$Town", "isFree", "(II)Z"⟩, 13) := ⟨⟨by decide +kernel, by decide +kernel⟩, List.mem_of_getElem? (i := 42) (by decide +kernel), List.mem_of_getElem? (i := 587) (by decide +kernel), List.mem_of_getElem? (i := 588) (by decide +kernel)⟩
theorem lw_p36 : lw_okq (⟨"RentedLooks$Looks", "isFor", "(III)Z"⟩, 6) := ⟨⟨by decide +kernel, by decide +kernel⟩, List.mem_of_getElem? (i := 173) (by decide +kernel), List.mem_of_getElem? (i := 591) (by decide +kernel), List.mem_of_getElem? (i := 592) (by decide +kernel)⟩
theorem lw_p37 : lw_okq (⟨"RentedLooks", "dressBest", "(I)V"⟩, 14) := ⟨⟨by decide +kernel, by decide +kernel⟩, List.mem_of_getElem? (i := 18) (by decide +kernel), List.mem_of_getElem? (i := 600) (by decide +kernel), List.mem_of_getElem? (i := 601) (by decide +kernel)⟩
theorem lw_p38 : lw_okq (⟨"RentedLooks$Dresser", "gather", "(I)V"⟩, 9) := ⟨⟨by decide +kernel, by decide +kernel⟩, List.mem_of_getElem? (i := 202) (by decide +kernel), List.mem_of_getElem? (i := 604) (by decide +kernel), List.mem_of_getElem? (i := 605) (by decide +kernel)⟩
theorem lw_p39 : lw_okq (⟨"RentedLooks$Dresser", "addSet", "(III)V"⟩, 9) := ⟨⟨by decide +kernel, by decide +kernel⟩, List.mem_of_getElem? (i := 202) (by decide +kernel), List.mem_of_getElem? (i := 608) (by decide +kernel), List.mem_of_getElem? (i := 609) (by decide +kernel)⟩
theorem lw_p40 : lw_okq (⟨"RentedLooks$Dresser", "dressOneMore", "(III)V"⟩, 9) := ⟨⟨by decide +kernel, by decide +kernel⟩, List.mem_of_getElem? (i := 202) (by decide +kernel), List.mem_of_getElem? (i := 614) (by decide +kernel), List.mem_of_getElem? (i := 615) (by decide +kernel)⟩
theorem lw_p41 : lw_okq (⟨"RentedLooks$Dresser", "choose", "([II)V"⟩, 9) := ⟨⟨by decide +kernel, by decide +kernel⟩, List.mem_of_getElem? (i := 202) (by decide +kernel), List.mem_of_getElem? (i := 621) (by decide +kernel), List.mem_of_getElem? (i := 622) (by decide +kernel)⟩
theorem lw_p42 : lw_okq (⟨"RentedLooks$Dresser", "cheapestAfter", "(III)I"⟩, 9) := ⟨⟨by decide +kernel, by decide +kernel⟩, List.mem_of_getElem? (i := 202) (by decide +kernel), List.mem_of_getElem? (i := 625) (by decide +kernel), List.mem_of_getElem? (i := 626) (by decide +kernel)⟩
theorem lw_p43 : lw_okq (⟨"RentedLooks$Dresser", "firstCheapest", "(III)I"⟩, 9) := ⟨⟨by decide +kernel, by decide +kernel⟩, List.mem_of_getElem? (i := 202) (by decide +kernel), List.mem_of_getElem? (i := 629) (by decide +kernel), List.mem_of_getElem? (i := 630) (by decide +kernel)⟩
theorem lw_p44 : lw_okq (⟨"RentedLooks$Dresser", "giveLooks", "(II)V"⟩, 9) := ⟨⟨by decide +kernel, by decide +kernel⟩, List.mem_of_getElem? (i := 202) (by decide +kernel), List.mem_of_getElem? (i := 638) (by decide +kernel), List.mem_of_getElem? (i := 639) (by decide +kernel)⟩
theorem lw_p45 : lw_okq (⟨"RentedLooks$Town", "ownedBy", "(I)I"⟩, 13) := ⟨⟨by decide +kernel, by decide +kernel⟩, List.mem_of_getElem? (i := 42) (by decide +kernel), List.mem_of_getElem? (i := 649) (by decide +kernel), List.mem_of_getElem? (i := 650) (by decide +kernel)⟩
theorem lw_p46 : lw_okq (⟨"RentedLooks$Dresser", "priceOfWorn", "(I[I)I"⟩, 9) := ⟨⟨by decide +kernel, by decide +kernel⟩, List.mem_of_getElem? (i := 202) (by decide +kernel), List.mem_of_getElem? (i := 653) (by decide +kernel), List.mem_of_getElem? (i := 654) (by decide +kernel)⟩
theorem lw_p47 : lw_okq (⟨"RentedLooks$State", "raisePrices", "(II[I)V"⟩, 7) := ⟨⟨by decide +kernel, by decide +kernel⟩, List.mem_of_getElem? (i := 136) (by decide +kernel), List.mem_of_getElem? (i := 665) (by decide +kernel), List.mem_of_getElem? (i := 666) (by decide +kernel)⟩
def lw_privs_3 : List (MethodName × Nat) := [(⟨"RentedLooks$Looks", "priceOf", "(I)I"⟩, 6), (⟨"RentedLooks$Looks", "cheapestFor", "(I)I"⟩, 6), (⟨"RentedLooks$Town", "freeIn", "(I)I"⟩, 13), (⟨"RentedLooks$Town", "isFree", "(II)Z"⟩, 13), (⟨"RentedLooks$Looks", "isFor", "(III)Z"⟩, 6), (⟨"RentedLooks", "dressBest", "(I)V"⟩, 14), (⟨"RentedLooks$Dresser", "gather", "(I)V"⟩, 9), (⟨"RentedLooks$Dresser", "addSet", "(III)V"⟩, 9), (⟨"RentedLooks$Dresser", "dressOneMore", "(III)V"⟩, 9), (⟨"RentedLooks$Dresser", "choose", "([II)V"⟩, 9), (⟨"RentedLooks$Dresser", "cheapestAfter", "(III)I"⟩, 9), (⟨"RentedLooks$Dresser", "firstCheapest", "(III)I"⟩, 9), (⟨"RentedLooks$Dresser", "giveLooks", "(II)V"⟩, 9), (⟨"RentedLooks$Town", "ownedBy", "(I)I"⟩, 13), (⟨"RentedLooks$Dresser", "priceOfWorn", "(I[I)I"⟩, 9), (⟨"RentedLooks$State", "raisePrices", "(II[I)V"⟩, 7)]
theorem lw_r3 : ∀ q ∈ lw_privs_3, lw_okq q := List.forall_mem_cons.mpr ⟨lw_p32, List.forall_mem_cons.mpr ⟨lw_p33, List.forall_mem_cons.mpr ⟨lw_p34, List.forall_mem_cons.mpr ⟨lw_p35, List.forall_mem_cons.mpr ⟨lw_p36, List.forall_mem_cons.mpr ⟨lw_p37, List.forall_mem_cons.mpr ⟨lw_p38, List.forall_mem_cons.mpr ⟨lw_p39, List.forall_mem_cons.mpr ⟨lw_p40, List.forall_mem_cons.mpr ⟨lw_p41, List.forall_mem_cons.mpr ⟨lw_p42, List.forall_mem_cons.mpr ⟨lw_p43, List.forall_mem_cons.mpr ⟨lw_p44, List.forall_mem_cons.mpr ⟨lw_p45, List.forall_mem_cons.mpr ⟨lw_p46, List.forall_mem_cons.mpr ⟨lw_p47, fun _ h => absurd h List.not_mem_nil⟩⟩⟩⟩⟩⟩⟩⟩⟩⟩⟩⟩⟩⟩⟩⟩
theorem lw_p48 : lw_okq (⟨"RentedLooks$Looks", "mayMarry", "(III)Z"⟩, 6) := ⟨⟨by decide +kernel, by decide +kernel⟩, List.mem_of_getElem? (i := 173) (by decide +kernel), List.mem_of_getElem? (i := 689) (by decide +kernel), List.mem_of_getElem? (i := 690) (by decide +kernel)⟩
theorem lw_p49 : lw_okq (⟨"RentedLooks$Sightings", "add", "(II)Z"⟩, 5) := ⟨⟨by decide +kernel, by decide +kernel⟩, List.mem_of_getElem? (i := 241) (by decide +kernel), List.mem_of_getElem? (i := 697) (by decide +kernel), List.mem_of_getElem? (i := 698) (by decide +kernel)⟩
theorem lw_p50 : lw_okq (⟨"RentedLooks$Sightings", "mayBeWorn", "(I)I"⟩, 5) := ⟨⟨by decide +kernel, by decide +kernel⟩, List.mem_of_getElem? (i := 241) (by decide +kernel), List.mem_of_getElem? (i := 705) (by decide +kernel), List.mem_of_getElem? (i := 706) (by decide +kernel)⟩
theorem lw_p51 : lw_okq (⟨"RentedLooks$Sightings", "mayBe", "(III)Z"⟩, 5) := ⟨⟨by decide +kernel, by decide +kernel⟩, List.mem_of_getElem? (i := 241) (by decide +kernel), List.mem_of_getElem? (i := 710) (by decide +kernel), List.mem_of_getElem? (i := 711) (by decide +kernel)⟩
theorem lw_p52 : lw_okq (⟨"RentedLooks$Sightings", "surelyWorn", "(I)I"⟩, 5) := ⟨⟨by decide +kernel, by decide +kernel⟩, List.mem_of_getElem? (i := 241) (by decide +kernel), List.mem_of_getElem? (i := 716) (by decide +kernel), List.mem_of_getElem? (i := 717) (by decide +kernel)⟩
theorem lw_p53 : lw_okq (⟨"RentedLooks$Sightings", "firstStrange", "()I"⟩, 5) := ⟨⟨by decide +kernel, by decide +kernel⟩, List.mem_of_getElem? (i := 241) (by decide +kernel), List.mem_of_getElem? (i := 725) (by decide +kernel), List.mem_of_getElem? (i := 726) (by decide +kernel)⟩
theorem lw_p54 : lw_okq (⟨"RentedLooks", "passDay", "()I"⟩, 14) := ⟨⟨by decide +kernel, by decide +kernel⟩, List.mem_of_getElem? (i := 18) (by decide +kernel), List.mem_of_getElem? (i := 733) (by decide +kernel), List.mem_of_getElem? (i := 734) (by decide +kernel)⟩
theorem lw_p55 : lw_okq (⟨"RentedLooks$State", "wearHour", "(I)V"⟩, 7) := ⟨⟨by decide +kernel, by decide +kernel⟩, List.mem_of_getElem? (i := 136) (by decide +kernel), List.mem_of_getElem? (i := 737) (by decide +kernel), List.mem_of_getElem? (i := 738) (by decide +kernel)⟩
theorem lw_p56 : lw_okq (⟨"RentedLooks$State", "wearOut", "()V"⟩, 7) := ⟨⟨by decide +kernel, by decide +kernel⟩, List.mem_of_getElem? (i := 136) (by decide +kernel), List.mem_of_getElem? (i := 741) (by decide +kernel), List.mem_of_getElem? (i := 742) (by decide +kernel)⟩
theorem lw_p57 : lw_okq (⟨"RentedLooks$State", "drawPrices", "(I)V"⟩, 7) := ⟨⟨by decide +kernel, by decide +kernel⟩, List.mem_of_getElem? (i := 136) (by decide +kernel), List.mem_of_getElem? (i := 753) (by decide +kernel), List.mem_of_getElem? (i := 754) (by decide +kernel)⟩
theorem lw_p58 : lw_okq (⟨"RentedLooks$State", "drawOfFour", "()I"⟩, 7) := ⟨⟨by decide +kernel, by decide +kernel⟩, List.mem_of_getElem? (i := 136) (by decide +kernel), List.mem_of_getElem? (i := 757) (by decide +kernel), List.mem_of_getElem? (i := 758) (by decide +kernel)⟩
theorem lw_p59 : lw_okq (⟨"RentedLooks$Book", "add", "(II)Z"⟩, 4) := ⟨⟨by decide +kernel, by decide +kernel⟩, List.mem_of_getElem? (i := 264) (by decide +kernel), List.mem_of_getElem? (i := 769) (by decide +kernel), List.mem_of_getElem? (i := 770) (by decide +kernel)⟩
theorem lw_p60 : lw_okq (⟨"RentedLooks$Book", "firstWrong", "(I)I"⟩, 4) := ⟨⟨by decide +kernel, by decide +kernel⟩, List.mem_of_getElem? (i := 264) (by decide +kernel), List.mem_of_getElem? (i := 781) (by decide +kernel), List.mem_of_getElem? (i := 782) (by decide +kernel)⟩
theorem lw_p61 : lw_okq (⟨"RentedLooks$Book", "wasToldAhead", "(II)Z"⟩, 4) := ⟨⟨by decide +kernel, by decide +kernel⟩, List.mem_of_getElem? (i := 264) (by decide +kernel), List.mem_of_getElem? (i := 786) (by decide +kernel), List.mem_of_getElem? (i := 787) (by decide +kernel)⟩
theorem lw_p62 : lw_okq (⟨"RentedLooks", "imageAt", "(I)LRentedLooks$State;"⟩, 14) := ⟨⟨by decide +kernel, by decide +kernel⟩, List.mem_of_getElem? (i := 18) (by decide +kernel), List.mem_of_getElem? (i := 801) (by decide +kernel), List.mem_of_getElem? (i := 802) (by decide +kernel)⟩
theorem lw_p63 : lw_okq (⟨"RentedLooks$State", "copyFrom", "(LRentedLooks$State;)V"⟩, 7) := ⟨⟨by decide +kernel, by decide +kernel⟩, List.mem_of_getElem? (i := 136) (by decide +kernel), List.mem_of_getElem? (i := 805) (by decide +kernel), List.mem_of_getElem? (i := 806) (by decide +kernel)⟩
def lw_privs_4 : List (MethodName × Nat) := [(⟨"RentedLooks$Looks", "mayMarry", "(III)Z"⟩, 6), (⟨"RentedLooks$Sightings", "add", "(II)Z"⟩, 5), (⟨"RentedLooks$Sightings", "mayBeWorn", "(I)I"⟩, 5), (⟨"RentedLooks$Sightings", "mayBe", "(III)Z"⟩, 5), (⟨"RentedLooks$Sightings", "surelyWorn", "(I)I"⟩, 5), (⟨"RentedLooks$Sightings", "firstStrange", "()I"⟩, 5), (⟨"RentedLooks", "passDay", "()I"⟩, 14), (⟨"RentedLooks$State", "wearHour", "(I)V"⟩, 7), (⟨"RentedLooks$State", "wearOut", "()V"⟩, 7), (⟨"RentedLooks$State", "drawPrices", "(I)V"⟩, 7), (⟨"RentedLooks$State", "drawOfFour", "()I"⟩, 7), (⟨"RentedLooks$Book", "add", "(II)Z"⟩, 4), (⟨"RentedLooks$Book", "firstWrong", "(I)I"⟩, 4), (⟨"RentedLooks$Book", "wasToldAhead", "(II)Z"⟩, 4), (⟨"RentedLooks", "imageAt", "(I)LRentedLooks$State;"⟩, 14), (⟨"RentedLooks$State", "copyFrom", "(LRentedLooks$State;)V"⟩, 7)]
theorem lw_r4 : ∀ q ∈ lw_privs_4, lw_okq q := List.forall_mem_cons.mpr ⟨lw_p48, List.forall_mem_cons.mpr ⟨lw_p49, List.forall_mem_cons.mpr ⟨lw_p50, List.forall_mem_cons.mpr ⟨lw_p51, List.forall_mem_cons.mpr ⟨lw_p52, List.forall_mem_cons.mpr ⟨lw_p53, List.forall_mem_cons.mpr ⟨lw_p54, List.forall_mem_cons.mpr ⟨lw_p55, List.forall_mem_cons.mpr ⟨lw_p56, List.forall_mem_cons.mpr ⟨lw_p57, List.forall_mem_cons.mpr ⟨lw_p58, List.forall_mem_cons.mpr ⟨lw_p59, List.forall_mem_cons.mpr ⟨lw_p60, List.forall_mem_cons.mpr ⟨lw_p61, List.forall_mem_cons.mpr ⟨lw_p62, List.forall_mem_cons.mpr ⟨lw_p63, fun _ h => absurd h List.not_mem_nil⟩⟩⟩⟩⟩⟩⟩⟩⟩⟩⟩⟩⟩⟩⟩⟩
theorem lw_p64 : lw_okq (⟨"RentedLooksModel", "here", "()I"⟩, 34) := ⟨⟨by decide +kernel, by decide +kernel⟩, List.mem_of_getElem? (i := 814) (by decide +kernel), List.mem_of_getElem? (i := 938) (by decide +kernel), List.mem_of_getElem? (i := 939) (by decide +kernel)⟩
theorem lw_p65 : lw_okq (⟨"RentedLooksModel", "takeClause", "()V"⟩, 34) := ⟨⟨by decide +kernel, by decide +kernel⟩, List.mem_of_getElem? (i := 814) (by decide +kernel), List.mem_of_getElem? (i := 942) (by decide +kernel), List.mem_of_getElem? (i := 943) (by decide +kernel)⟩
theorem lw_p66 : lw_okq (⟨"RentedLooksModel", "takeWord", "()V"⟩, 34) := ⟨⟨by decide +kernel, by decide +kernel⟩, List.mem_of_getElem? (i := 814) (by decide +kernel), List.mem_of_getElem? (i := 946) (by decide +kernel), List.mem_of_getElem? (i := 947) (by decide +kernel)⟩
theorem lw_p67 : lw_okq (⟨"RentedLooksModel", "isWord", "(IIIIII)Z"⟩, 34) := ⟨⟨by decide +kernel, by decide +kernel⟩, List.mem_of_getElem? (i := 814) (by decide +kernel), List.mem_of_getElem? (i := 952) (by decide +kernel), List.mem_of_getElem? (i := 953) (by decide +kernel)⟩
theorem lw_p68 : lw_okq (⟨"RentedLooksModel", "want", "(ZII)Z"⟩, 34) := ⟨⟨by decide +kernel, by decide +kernel⟩, List.mem_of_getElem? (i := 814) (by decide +kernel), List.mem_of_getElem? (i := 956) (by decide +kernel), List.mem_of_getElem? (i := 957) (by decide +kernel)⟩
theorem lw_p69 : lw_okq (⟨"RentedLooksModel", "takePart", "()V"⟩, 34) := ⟨⟨by decide +kernel, by decide +kernel⟩, List.mem_of_getElem? (i := 814) (by decide +kernel), List.mem_of_getElem? (i := 960) (by decide +kernel), List.mem_of_getElem? (i := 961) (by decide +kernel)⟩
theorem lw_p70 : lw_okq (⟨"RentedLooksModel", "takeNumber", "(II)I"⟩, 34) := ⟨⟨by decide +kernel, by decide +kernel⟩, List.mem_of_getElem? (i := 814) (by decide +kernel), List.mem_of_getElem? (i := 964) (by decide +kernel), List.mem_of_getElem? (i := 965) (by decide +kernel)⟩
theorem lw_p71 : lw_okq (⟨"RentedLooksModel", "takeClash", "()V"⟩, 34) := ⟨⟨by decide +kernel, by decide +kernel⟩, List.mem_of_getElem? (i := 814) (by decide +kernel), List.mem_of_getElem? (i := 971) (by decide +kernel), List.mem_of_getElem? (i := 972) (by decide +kernel)⟩
theorem lw_p72 : lw_okq (⟨"RentedLooksModel", "takeScene", "()V"⟩, 34) := ⟨⟨by decide +kernel, by decide +kernel⟩, List.mem_of_getElem? (i := 814) (by decide +kernel), List.mem_of_getElem? (i := 978) (by decide +kernel), List.mem_of_getElem? (i := 979) (by decide +kernel)⟩
theorem lw_p73 : lw_okq (⟨"RentedLooksModel", "findLooks", "()V"⟩, 34) := ⟨⟨by decide +kernel, by decide +kernel⟩, List.mem_of_getElem? (i := 814) (by decide +kernel), List.mem_of_getElem? (i := 982) (by decide +kernel), List.mem_of_getElem? (i := 983) (by decide +kernel)⟩
theorem lw_p74 : lw_okq (⟨"RentedLooksModel", "clashMany", "()I"⟩, 34) := ⟨⟨by decide +kernel, by decide +kernel⟩, List.mem_of_getElem? (i := 814) (by decide +kernel), List.mem_of_getElem? (i := 994) (by decide +kernel), List.mem_of_getElem? (i := 995) (by decide +kernel)⟩
theorem lw_p75 : lw_okq (⟨"RentedLooksModel", "widthsIn", "(I)I"⟩, 34) := ⟨⟨by decide +kernel, by decide +kernel⟩, List.mem_of_getElem? (i := 814) (by decide +kernel), List.mem_of_getElem? (i := 1001) (by decide +kernel), List.mem_of_getElem? (i := 1002) (by decide +kernel)⟩
theorem lw_p76 : lw_okq (⟨"RentedLooksModel", "sumOf", "(II)I"⟩, 34) := ⟨⟨by decide +kernel, by decide +kernel⟩, List.mem_of_getElem? (i := 814) (by decide +kernel), List.mem_of_getElem? (i := 1005) (by decide +kernel), List.mem_of_getElem? (i := 1006) (by decide +kernel)⟩
theorem lw_p77 : lw_okq (⟨"RentedLooksModel", "isPart", "(I)Z"⟩, 34) := ⟨⟨by decide +kernel, by decide +kernel⟩, List.mem_of_getElem? (i := 814) (by decide +kernel), List.mem_of_getElem? (i := 1013) (by decide +kernel), List.mem_of_getElem? (i := 1014) (by decide +kernel)⟩
theorem lw_p78 : lw_okq (⟨"RentedLooksModel", "isScene", "(I)Z"⟩, 34) := ⟨⟨by decide +kernel, by decide +kernel⟩, List.mem_of_getElem? (i := 814) (by decide +kernel), List.mem_of_getElem? (i := 1022) (by decide +kernel), List.mem_of_getElem? (i := 1023) (by decide +kernel)⟩
theorem lw_p79 : lw_okq (⟨"RentedLooksModel", "isFor", "(III)Z"⟩, 34) := ⟨⟨by decide +kernel, by decide +kernel⟩, List.mem_of_getElem? (i := 814) (by decide +kernel), List.mem_of_getElem? (i := 1049) (by decide +kernel), List.mem_of_getElem? (i := 1050) (by decide +kernel)⟩
def lw_privs_5 : List (MethodName × Nat) := [(⟨"RentedLooksModel", "here", "()I"⟩, 34), (⟨"RentedLooksModel", "takeClause", "()V"⟩, 34), (⟨"RentedLooksModel", "takeWord", "()V"⟩, 34), (⟨"RentedLooksModel", "isWord", "(IIIIII)Z"⟩, 34), (⟨"RentedLooksModel", "want", "(ZII)Z"⟩, 34), (⟨"RentedLooksModel", "takePart", "()V"⟩, 34), (⟨"RentedLooksModel", "takeNumber", "(II)I"⟩, 34), (⟨"RentedLooksModel", "takeClash", "()V"⟩, 34), (⟨"RentedLooksModel", "takeScene", "()V"⟩, 34), (⟨"RentedLooksModel", "findLooks", "()V"⟩, 34), (⟨"RentedLooksModel", "clashMany", "()I"⟩, 34), (⟨"RentedLooksModel", "widthsIn", "(I)I"⟩, 34), (⟨"RentedLooksModel", "sumOf", "(II)I"⟩, 34), (⟨"RentedLooksModel", "isPart", "(I)Z"⟩, 34), (⟨"RentedLooksModel", "isScene", "(I)Z"⟩, 34), (⟨"RentedLooksModel", "isFor", "(III)Z"⟩, 34)]
theorem lw_r5 : ∀ q ∈ lw_privs_5, lw_okq q := List.forall_mem_cons.mpr ⟨lw_p64, List.forall_mem_cons.mpr ⟨lw_p65, List.forall_mem_cons.mpr ⟨lw_p66, List.forall_mem_cons.mpr ⟨lw_p67, List.forall_mem_cons.mpr ⟨lw_p68, List.forall_mem_cons.mpr ⟨lw_p69, List.forall_mem_cons.mpr ⟨lw_p70, List.forall_mem_cons.mpr ⟨lw_p71, List.forall_mem_cons.mpr ⟨lw_p72, List.forall_mem_cons.mpr ⟨lw_p73, List.forall_mem_cons.mpr ⟨lw_p74, List.forall_mem_cons.mpr ⟨lw_p75, List.forall_mem_cons.mpr ⟨lw_p76, List.forall_mem_cons.mpr ⟨lw_p77, List.forall_mem_cons.mpr ⟨lw_p78, List.forall_mem_cons.mpr ⟨lw_p79, fun _ h => absurd h List.not_mem_nil⟩⟩⟩⟩⟩⟩⟩⟩⟩⟩⟩⟩⟩⟩⟩⟩
theorem lw_p80 : lw_okq (⟨"RentedLooksModel", "isFree", "(II)Z"⟩, 34) := ⟨⟨by decide +kernel, by decide +kernel⟩, List.mem_of_getElem? (i := 814) (by decide +kernel), List.mem_of_getElem? (i := 1053) (by decide +kernel), List.mem_of_getElem? (i := 1054) (by decide +kernel)⟩
theorem lw_p81 : lw_okq (⟨"RentedLooksModel", "leastIn", "(I)I"⟩, 34) := ⟨⟨by decide +kernel, by decide +kernel⟩, List.mem_of_getElem? (i := 814) (by decide +kernel), List.mem_of_getElem? (i := 1061) (by decide +kernel), List.mem_of_getElem? (i := 1062) (by decide +kernel)⟩
theorem lw_p82 : lw_okq (⟨"RentedLooksModel", "findAllSets", "(I)V"⟩, 34) := ⟨⟨by decide +kernel, by decide +kernel⟩, List.mem_of_getElem? (i := 814) (by decide +kernel), List.mem_of_getElem? (i := 1065) (by decide +kernel), List.mem_of_getElem? (i := 1066) (by decide +kernel)⟩
theorem lw_p83 : lw_okq (⟨"RentedLooksModel", "findSets", "(II)V"⟩, 34) := ⟨⟨by decide +kernel, by decide +kernel⟩, List.mem_of_getElem? (i := 814) (by decide +kernel), List.mem_of_getElem? (i := 1069) (by decide +kernel), List.mem_of_getElem? (i := 1070) (by decide +kernel)⟩
theorem lw_p84 : lw_okq (⟨"RentedLooksModel", "addScene", "(II)V"⟩, 34) := ⟨⟨by decide +kernel, by decide +kernel⟩, List.mem_of_getElem? (i := 814) (by decide +kernel), List.mem_of_getElem? (i := 1073) (by decide +kernel), List.mem_of_getElem? (i := 1074) (by decide +kernel)⟩
theorem lw_p85 : lw_okq (⟨"RentedLooksModel", "findLeast", "(I)V"⟩, 34) := ⟨⟨by decide +kernel, by decide +kernel⟩, List.mem_of_getElem? (i := 814) (by decide +kernel), List.mem_of_getElem? (i := 1077) (by decide +kernel), List.mem_of_getElem? (i := 1078) (by decide +kernel)⟩
theorem lw_p86 : lw_okq (⟨"RentedLooksModel", "best", "(III)I"⟩, 34) := ⟨⟨by decide +kernel, by decide +kernel⟩, List.mem_of_getElem? (i := 814) (by decide +kernel), List.mem_of_getElem? (i := 1081) (by decide +kernel), List.mem_of_getElem? (i := 1082) (by decide +kernel)⟩
theorem lw_p87 : lw_okq (⟨"RentedLooksModel", "findWorn", "(I)V"⟩, 34) := ⟨⟨by decide +kernel, by decide +kernel⟩, List.mem_of_getElem? (i := 814) (by decide +kernel), List.mem_of_getElem? (i := 1086) (by decide +kernel), List.mem_of_getElem? (i := 1087) (by decide +kernel)⟩
theorem lw_p88 : lw_okq (⟨"RentedLooksModel", "lookOf", "(I)I"⟩, 34) := ⟨⟨by decide +kernel, by decide +kernel⟩, List.mem_of_getElem? (i := 814) (by decide +kernel), List.mem_of_getElem? (i := 1093) (by decide +kernel), List.mem_of_getElem? (i := 1094) (by decide +kernel)⟩
theorem lw_p89 : lw_okq (⟨"RentedLooksModel", "firstLook", "(II)I"⟩, 34) := ⟨⟨by decide +kernel, by decide +kernel⟩, List.mem_of_getElem? (i := 814) (by decide +kernel), List.mem_of_getElem? (i := 1097) (by decide +kernel), List.mem_of_getElem? (i := 1098) (by decide +kernel)⟩
theorem lw_p90 : lw_okq (⟨"RentedLooksModel", "canRest", "(III)Z"⟩, 34) := ⟨⟨by decide +kernel, by decide +kernel⟩, List.mem_of_getElem? (i := 814) (by decide +kernel), List.mem_of_getElem? (i := 1101) (by decide +kernel), List.mem_of_getElem? (i := 1102) (by decide +kernel)⟩
theorem lw_p91 : lw_okq (⟨"RentedLooksModel", "rentIn", "(II)I"⟩, 34) := ⟨⟨by decide +kernel, by decide +kernel⟩, List.mem_of_getElem? (i := 814) (by decide +kernel), List.mem_of_getElem? (i := 1110) (by decide +kernel), List.mem_of_getElem? (i := 1111) (by decide +kernel)⟩
theorem lw_p92 : lw_okq (⟨"RentedLooksModel", "copy", "(II)V"⟩, 34) := ⟨⟨by decide +kernel, by decide +kernel⟩, List.mem_of_getElem? (i := 814) (by decide +kernel), List.mem_of_getElem? (i := 1122) (by decide +kernel), List.mem_of_getElem? (i := 1123) (by decide +kernel)⟩
theorem lw_p93 : lw_okq (⟨"RentedLooksModel", "seenBy", "(II)I"⟩, 34) := ⟨⟨by decide +kernel, by decide +kernel⟩, List.mem_of_getElem? (i := 814) (by decide +kernel), List.mem_of_getElem? (i := 1144) (by decide +kernel), List.mem_of_getElem? (i := 1145) (by decide +kernel)⟩
theorem lw_p94 : lw_okq (⟨"RentedLooksModel", "pass", "()I"⟩, 34) := ⟨⟨by decide +kernel, by decide +kernel⟩, List.mem_of_getElem? (i := 814) (by decide +kernel), List.mem_of_getElem? (i := 1156) (by decide +kernel), List.mem_of_getElem? (i := 1157) (by decide +kernel)⟩
theorem lw_p95 : lw_okq (⟨"RentedLooksModel", "draw", "(I)I"⟩, 34) := ⟨⟨by decide +kernel, by decide +kernel⟩, List.mem_of_getElem? (i := 814) (by decide +kernel), List.mem_of_getElem? (i := 1165) (by decide +kernel), List.mem_of_getElem? (i := 1166) (by decide +kernel)⟩
def lw_privs_6 : List (MethodName × Nat) := [(⟨"RentedLooksModel", "isFree", "(II)Z"⟩, 34), (⟨"RentedLooksModel", "leastIn", "(I)I"⟩, 34), (⟨"RentedLooksModel", "findAllSets", "(I)V"⟩, 34), (⟨"RentedLooksModel", "findSets", "(II)V"⟩, 34), (⟨"RentedLooksModel", "addScene", "(II)V"⟩, 34), (⟨"RentedLooksModel", "findLeast", "(I)V"⟩, 34), (⟨"RentedLooksModel", "best", "(III)I"⟩, 34), (⟨"RentedLooksModel", "findWorn", "(I)V"⟩, 34), (⟨"RentedLooksModel", "lookOf", "(I)I"⟩, 34), (⟨"RentedLooksModel", "firstLook", "(II)I"⟩, 34), (⟨"RentedLooksModel", "canRest", "(III)Z"⟩, 34), (⟨"RentedLooksModel", "rentIn", "(II)I"⟩, 34), (⟨"RentedLooksModel", "copy", "(II)V"⟩, 34), (⟨"RentedLooksModel", "seenBy", "(II)I"⟩, 34), (⟨"RentedLooksModel", "pass", "()I"⟩, 34), (⟨"RentedLooksModel", "draw", "(I)I"⟩, 34)]
theorem lw_r6 : ∀ q ∈ lw_privs_6, lw_okq q := List.forall_mem_cons.mpr ⟨lw_p80, List.forall_mem_cons.mpr ⟨lw_p81, List.forall_mem_cons.mpr ⟨lw_p82, List.forall_mem_cons.mpr ⟨lw_p83, List.forall_mem_cons.mpr ⟨lw_p84, List.forall_mem_cons.mpr ⟨lw_p85, List.forall_mem_cons.mpr ⟨lw_p86, List.forall_mem_cons.mpr ⟨lw_p87, List.forall_mem_cons.mpr ⟨lw_p88, List.forall_mem_cons.mpr ⟨lw_p89, List.forall_mem_cons.mpr ⟨lw_p90, List.forall_mem_cons.mpr ⟨lw_p91, List.forall_mem_cons.mpr ⟨lw_p92, List.forall_mem_cons.mpr ⟨lw_p93, List.forall_mem_cons.mpr ⟨lw_p94, List.forall_mem_cons.mpr ⟨lw_p95, fun _ h => absurd h List.not_mem_nil⟩⟩⟩⟩⟩⟩⟩⟩⟩⟩⟩⟩⟩⟩⟩⟩
def lw_privs : List (MethodName × Nat) := lw_privs_1 ++ (lw_privs_2 ++ (lw_privs_3 ++ (lw_privs_4 ++ (lw_privs_5 ++ (lw_privs_6)))))
def lw_tbl : List Cond := k2_sels lw_privs ++ tables_1
theorem lw_privs_ok : ∀ q ∈ lw_privs, lw_okq q := by
  show ∀ q ∈ lw_privs_1 ++ (lw_privs_2 ++ (lw_privs_3 ++ (lw_privs_4 ++ (lw_privs_5 ++ (lw_privs_6))))), lw_okq q
  exact List.forall_mem_append.mpr ⟨lw_r1, List.forall_mem_append.mpr ⟨lw_r2, List.forall_mem_append.mpr ⟨lw_r3, List.forall_mem_append.mpr ⟨lw_r4, List.forall_mem_append.mpr ⟨lw_r5, lw_r6⟩⟩⟩⟩⟩
-- ===== end of PART A; then your names; then what follows =====
end
section
def va_AOA (ty : FieldType) (U : State) : Prop := (Cond.arrayOver (.array ty)).before #[] U = true
theorem va_AOA.use {ty : FieldType} {A : Array Value} {U : State} (h : va_AOA ty U) : (Cond.arrayOver (.array ty)).before A U = true := h
theorem va_AOA.of {ty : FieldType} {A : Array Value} {U : State} (h : (Cond.arrayOver (.array ty)).before A U = true) : va_AOA ty U := h
/-! ===== BEGIN words of one list among another's, by their places ===== -/
theorem goodIn_r {big : List Cond} (ws : List Cond) (ps : List Nat) (hp : ws = ps.filterMap (fun i => big[i]?)) (h : ws.all goodWord = true) : GoodIn big ws := by
  intro w hw
  have h1 := List.all_eq_true.mp h w hw
  rw [hp] at hw
  obtain ⟨i, -, hi⟩ := List.mem_filterMap.mp hw
  have hm : w ∈ big := by first | exact List.mem_of_getElem? hi | exact List.getElem?_mem hi
  exact ⟨hm, good_of_word h1⟩
theorem goodIn_app {big a b : List Cond} (ha : GoodIn big a) (hb : GoodIn big b) : GoodIn big (a ++ b) := fun w h => (List.mem_append.mp h).elim (ha w) (hb w)
theorem goodIn_ca {big a b : List Cond} {c : Cond} (ha : GoodIn big (c :: a)) (hb : GoodIn big b) : GoodIn big (c :: (a ++ b)) := fun w h => (List.mem_cons.mp h).elim (fun e => ha w (List.mem_cons.mpr (Or.inl e))) (fun h => (List.mem_append.mp h).elim (fun h => ha w (List.mem_cons.mpr (Or.inr h))) (hb w))
theorem goodIn_sub {big ws : List Cond} (hm : ∀ w ∈ ws, w ∈ big) (h : ws.all goodWord = true) : GoodIn big ws := fun w hw => ⟨hm w hw, good_of_word (List.all_eq_true.mp h w hw)⟩
/-! ===== END ===== -/

/-! ===== BEGIN new T[n][m]: the outer array a place, the inner ones among the pooled ===== -/
/-- f, but v at every address of l -/
def vr_up {α : Type} (f : Nat → α) (l : List Nat) (v : α) : Nat → α := fun a => if a ∈ l then v else f a
theorem vr_up_in {α : Type} {f : Nat → α} {l : List Nat} {v : α} {a : Nat} (h : a ∈ l) : vr_up f l v a = v := if_pos h
theorem vr_up_ne {α : Type} {f : Nat → α} {l : List Nat} {v : α} {a : Nat} (h : a ∉ l) : vr_up f l v a = f a := if_neg h
theorem vr_rows {L l : List Nat} {f : Nat → va_E} {e : va_E} (h : ∀ a, a ∈ l → a ∉ L) : va_pl L f ++ l.map (fun a => (a, e)) = va_pl (L ++ l) (vr_up f l e) := by
  unfold va_pl
  rw [List.map_append]
  congr 1
  · apply List.map_congr_left
    intro a ha
    rw [vr_up_ne (fun q => h a q ha)]
  · apply List.map_congr_left
    intro a ha
    rw [vr_up_in ha]
theorem vr_lay {X rows : va_W} {x : Nat × va_E} {pl : va_W} {D : va_G} {cl : List vw_C} {H : Heap} (hP : va_P D cl (((X ++ pl) ++ [x]) ++ rows) H) : va_P D cl ((X ++ [x]) ++ (pl ++ rows)) H := by
  rw [List.append_assoc (X ++ pl)] at hP
  have h := va_P.swap hP
  rw [← List.append_assoc X] at h
  have h2 := va_P.swap h
  rw [List.append_assoc (X ++ [x])] at h2
  exact h2
theorem vr_layD {X rows : va_W} {x : Nat × va_E} {pl : va_W} {A : Nat → Prop} (hD : va_D A (((X ++ pl) ++ [x]) ++ rows)) : va_D A ((X ++ [x]) ++ (pl ++ rows)) := by
  rw [List.append_assoc (X ++ pl)] at hD
  have h := va_D.swap hD
  rw [← List.append_assoc X] at h
  have h2 := va_D.swap h
  rw [List.append_assoc (X ++ [x])] at h2
  exact h2
theorem vr_outer (c : ClassId) (N h0 : Nat) : ∀ i : Nat, Jvm.Free.Multi.outerC c N h0 i = arrV c N (fun j => va_rf (if j < i then some (h0 + 1 + j) else none))
  | 0 => by
    show ({ cls := c, slots := Array.replicate N .null, vm := .none } : Cell) = _
    rw [arrV_new]
    refine congrArg (arrV c N) (funext fun j => ?_)
    simp [va_rf]
  | i + 1 => by
    show (Jvm.Free.Multi.outerC c N h0 i).setSlot i (.ref (h0 + 1 + i)) = _
    rw [vr_outer c N h0 i, arrV_store]
    refine congrArg (arrV c N) (funext fun j => ?_)
    by_cases e : j = i
    · subst e
      simp [updV, va_rf]
    · by_cases h : j < i
      · simp [updV, e, h, Nat.lt_succ_of_lt h]
      · simp [updV, e, h, show ¬ j < i + 1 by omega]
section VGM
variable {p : Program} {l : Launch} {e : Env} {R : Room} {s : State} {m : MethodId} {args : Array Value} {below : List Frame} {meth : Method} {c : Code} {H : Heap} {locs : List Loc} {cells slots : Nat} {Q : State → Prop}
variable {cc : ByteArray} {pc : Nat} {ls : Array Slot} {rest : List Value} {D : va_G} {cl : List vw_C} {A : Nat → Prop} {a : Nat} {tys : List (ClassId × FieldType)} {ws : va_W} {H0 : Heap}
theorem va_mna {X : va_W} {L : List Nat} {f : Nat → va_E} {cc : ByteArray} (hexec : p.tables.exec = Jvm.exec) (hb : c.code = cc) {own : String} {index : Nat} {ty : FieldType} {cy : ClassId} (hown : s.vm.findClass own = some m.cls) (hclink : (Cond.classLink own index ("[" ++ (FieldType.array ty).toString)).before args s = true) (hover : va_AOA ty s) (harr : (Cond.arrayClass ty).before args s = true) (hcy : s.vm.findClass (FieldType.array ty).toString = some cy)
    (hK : va_K D cl tys s) (hP : va_P D cl (X ++ va_pl L f) H) (hD : va_D A (X ++ va_pl L f)) (hS : va_S A H0 H locs) (hA : ∀ q, H0.size ≤ q → A q) {n k : Int32} {N' K' : Nat} {z : vp_A} (hn : ¬ n < 0) (hk : ¬ k < 0) (hN : n.toNatClampNeg = N') (hM : k.toNatClampNeg = K')
    (hb1 : N' * 4 ≤ 536870912) (hb2 : K' * componentBytes ty ≤ 536870912) (hb3 : K' ≤ 536870912) (hdf : fits ty (defaultValue ty) = true) (hdd : (defaultValue ty).isDefault = true) (hcells : cells + (1 + N') ≤ R.cells) (hslots : slots + (N' + N' * K') ≤ R.slots) (hz : ∀ c : ClassId, Jvm.Free.Multi.innerC c K' (defaultValue ty) = vp_cell c z) (hdg : decode cc pc = .ok (.multianewarray index 2, 4))
    (kk : ∀ (q : Nat) (r : Nat → Nat) (cA : ClassId) (H1 : Heap), (∀ i j : Nat, i < N' → j < N' → r i = r j → i = j) → (∀ i : Nat, i < N' → r i ∉ L) → va_K D cl (tys ++ [(cA, .array ty)]) s →
      va_P D cl ((X ++ [(q, .inl (cA, N', .inr (.inr (.inr (.inr (fun i => if i < N' then some (r i) else none))))))]) ++ va_pl (L ++ (List.range N').map r) (vr_up f ((List.range N').map r) (.inl (cy, z)))) H1 → va_D A ((X ++ [(q, .inl (cA, N', .inr (.inr (.inr (.inr (fun i => if i < N' then some (r i) else none))))))]) ++ va_pl (L ++ (List.range N').map r) (vr_up f ((List.range N').map r) (.inl (cy, z)))) → va_S A H0 H1 locs →
      W p l e R s m args below meth c H1 locs (cells + 1 + N') (slots + N' + N' * K') Q (F0 m (pc + 4) ls (.ref q :: rest))) : W p l e R s m args below meth c H locs cells slots Q (F0 m pc ls (.int k :: .int n :: rest)) := by
  subst hN
  subst hM
  intro T hT Xs
  obtain ⟨vm₁, cA, comp, -, fA, fC, hO, -, X', step⟩ := Xs.multianewarray2F hexec hown hclink (va_AOA.use hover) harr (g := F0 m pc ls (.int k :: .int n :: rest)) rfl (by rw [hb]; exact hdg) rfl hn hk hb1 hb2 hb3 hdf hdd hcells hslots
  have ec : some cy = some comp := hcy.symm.trans fC
  cases ec
  generalize hF : Jvm.Free.Multi.fill (T.setVm vm₁) cA cy n.toNatClampNeg k.toNatClampNeg (defaultValue ty) n.toNatClampNeg = F at X' step
  have hTh : (T.setVm vm₁).heap = H := hT
  obtain ⟨f1, f2, -, -⟩ := Jvm.Free.Multi.fill_facts (T.setVm vm₁) cA cy n.toNatClampNeg k.toNatClampNeg (defaultValue ty) n.toNatClampNeg
  rw [hF, hTh] at f1 f2
  have hold : ∀ x : Nat, x < H.size → F.heap[x]? = H[x]? := fun x hx => by
    have := Jvm.Free.Multi.fill_old (T.setVm vm₁) cA cy n.toNatClampNeg k.toNatClampNeg (defaultValue ty) (a := x) (by rw [hTh]; exact hx) n.toNatClampNeg
    rw [hF, hTh] at this
    exact this
  have hrow : ∀ j : Nat, j < n.toNatClampNeg → F.heap[H.size + 1 + j]? = some (vp_cell cy z) := fun j hj => by
    have := Jvm.Free.Multi.fill_inner (T.setVm vm₁) cA cy n.toNatClampNeg k.toNatClampNeg (defaultValue ty) n.toNatClampNeg j hj
    rw [hF, hTh, hz] at this
    exact this
  have hout : Jvm.Free.Multi.outerC cA n.toNatClampNeg H.size n.toNatClampNeg = vp_cell cA (n.toNatClampNeg, .inr (.inr (.inr (.inr (fun i => if i < n.toNatClampNeg then some (H.size + 1 + i) else none))))) := by
    rw [vp_cell_q]
    exact vr_outer cA n.toNatClampNeg H.size n.toNatClampNeg
  rw [hout] at f2
  have hlt : ∀ a, a ∈ L → a < H.size := fun a ha => by
    obtain ⟨k9, hk9⟩ := va_pl_get (X := X) (f := f) ha
    exact (hP k9 _ hk9).lt
  have hnl : ∀ i : Nat, i < n.toNatClampNeg → H.size + 1 + i ∉ L := fun i _ h => by
    have := hlt _ h
    omega
  have hnm : ∀ a, a ∈ (List.range n.toNatClampNeg).map (fun i => H.size + 1 + i) → a ∉ L := fun a ha h => by
    obtain ⟨i, -, rfl⟩ := List.mem_map.mp ha
    have := hlt _ h
    omega
  have hP0 : va_P D cl (X ++ va_pl L f) F.heap := hP.kept (fun k9 x hx => hold x.1 ((hP k9 x hx).lt))
  have hP1 : va_P D cl ((X ++ va_pl L f) ++ [(H.size, .inl (cA, n.toNatClampNeg, .inr (.inr (.inr (.inr (fun i => if i < n.toNatClampNeg then some (H.size + 1 + i) else none))))))]) F.heap := hP0.app (fun k9 x hx => by
    have h0 : k9 < 1 := (List.getElem?_eq_some_iff.mp hx).1
    rw [show k9 = 0 by omega] at hx
    cases hx
    exact f2)
  have hP2 : va_P D cl (((X ++ va_pl L f) ++ [(H.size, .inl (cA, n.toNatClampNeg, .inr (.inr (.inr (.inr (fun i => if i < n.toNatClampNeg then some (H.size + 1 + i) else none))))))]) ++ ((List.range n.toNatClampNeg).map (fun i => H.size + 1 + i)).map (fun a => (a, .inl (cy, z)))) F.heap := hP1.app (fun k9 x hx => by
    obtain ⟨a, ha, rfl⟩ := List.mem_map.mp (List.mem_of_getElem? hx)
    obtain ⟨i, hi, rfl⟩ := List.mem_map.mp ha
    exact hrow i (List.mem_range.mp hi))
  have hD2 : va_D A (((X ++ va_pl L f) ++ [(H.size, .inl (cA, n.toNatClampNeg, .inr (.inr (.inr (.inr (fun i => if i < n.toNatClampNeg then some (H.size + 1 + i) else none))))))]) ++ ((List.range n.toNatClampNeg).map (fun i => H.size + 1 + i)).map (fun a => (a, .inl (cy, z)))) := by
    have hD1 := hD.push (e := .inl (cA, n.toNatClampNeg, .inr (.inr (.inr (.inr (fun i => if i < n.toNatClampNeg then some (H.size + 1 + i) else none)))))) hP rfl (hA _ hS.1)
    generalize hW1 : (X ++ va_pl L f) ++ [(H.size, .inl (cA, n.toNatClampNeg, .inr (.inr (.inr (.inr (fun i => if i < n.toNatClampNeg then some (H.size + 1 + i) else none))))))] = W1 at hD1 hP1 ⊢
    have hle : ∀ (k9 : Nat) (x : Nat × va_E), W1[k9]? = some x → x.1 ≤ H.size := fun k9 x hx => by
      rw [← hW1] at hx
      by_cases hl : k9 < (X ++ va_pl L f).length
      · rw [List.getElem?_append_left hl] at hx
        exact Nat.le_of_lt ((hP k9 x hx).lt)
      · rw [List.getElem?_append_right (by omega)] at hx
        have h0 : k9 - (X ++ va_pl L f).length < 1 := (List.getElem?_eq_some_iff.mp hx).1
        rw [show k9 - (X ++ va_pl L f).length = 0 by omega] at hx
        cases hx
        exact Nat.le_refl _
    have hr : ∀ (k9 : Nat) (x : Nat × va_E), (((List.range n.toNatClampNeg).map (fun i => H.size + 1 + i)).map (fun a => ((a, .inl (cy, z)) : Nat × va_E)))[k9]? = some x → x.1 = H.size + 1 + k9 := fun k9 x hx => by
      rw [List.getElem?_map, List.getElem?_map] at hx
      by_cases h9 : k9 < n.toNatClampNeg
      · rw [List.getElem?_range h9] at hx
        cases hx
        rfl
      · have hn0 : (List.range n.toNatClampNeg)[k9]? = none := List.getElem?_eq_none (by rw [List.length_range]; omega)
        rw [hn0] at hx
        cases hx
    refine ⟨fun i j x y hi hj hxy => ?_, fun k9 x hx => ?_⟩
    · by_cases h1 : i < W1.length <;> by_cases h2 : j < W1.length
      · rw [List.getElem?_append_left h1] at hi
        rw [List.getElem?_append_left h2] at hj
        exact hD1.1 i j x y hi hj hxy
      · rw [List.getElem?_append_left h1] at hi
        rw [List.getElem?_append_right (by omega)] at hj
        have := hle _ _ hi
        have := hr _ _ hj
        omega
      · rw [List.getElem?_append_right (by omega)] at hi
        rw [List.getElem?_append_left h2] at hj
        have := hle _ _ hj
        have := hr _ _ hi
        omega
      · rw [List.getElem?_append_right (by omega)] at hi hj
        have := hr _ _ hi
        have := hr _ _ hj
        omega
    · by_cases h1 : k9 < W1.length
      · rw [List.getElem?_append_left h1] at hx
        exact hD1.2 k9 x hx
      · rw [List.getElem?_append_right (by omega)] at hx
        have := hr _ _ hx
        exact hA _ (by have := hS.1; omega)
  have hAr : ArrOfT s cA (.array ty) := fun N9 z9 => by
    obtain ⟨-, k9, hk9, cm9, hkk9⟩ := (hO 0 0 0).1
    exact ⟨(fun q hq => by cases hq), k9, hk9, cm9, hkk9⟩
  have hK2 : va_K D cl (tys ++ [(cA, .array ty)]) s := ⟨hK.1, fun k9 x hx => by
    by_cases hl : k9 < tys.length
    · rw [List.getElem?_append_left hl] at hx
      exact hK.2 k9 x hx
    · rw [List.getElem?_append_right (by omega)] at hx
      have h0 : k9 - tys.length < 1 := (List.getElem?_eq_some_iff.mp hx).1
      rw [show k9 - tys.length = 0 by omega] at hx
      cases hx
      exact ⟨hAr, fA⟩⟩
  obtain ⟨t, a1, b1⟩ := kk H.size (fun i => H.size + 1 + i) cA F.heap (fun i j _ _ h => by have h9 : H.size + 1 + i = H.size + 1 + j := h; omega) hnl hK2 (by rw [← vr_rows hnm]; exact vr_lay hP2) (by rw [← vr_rows hnm]; exact vr_layD hD2) ⟨by rw [f1]; have := hS.1; omega, fun x h1 h2 => (hold x (Nat.lt_of_lt_of_le h1 hS.1)).trans (hS.2.1 x h1 h2), hS.2.2⟩ F rfl X'
  refine ⟨t, step t ?_, b1⟩
  have e : T.heap.size = H.size := by rw [hT]
  rw [e]
  exact a1
end VGM
/-! ===== END ===== -/

def RX0 : String := "RentedLooks$Book"
def TX0 : u_T := fun k => match k with
  | 0 => ("RentedLooks$Book", "town", "LRentedLooks$Town;", true)
  | 1 => ("RentedLooks$Book", "hours", "[I", true)
  | 2 => ("RentedLooks$Book", "parts", "[I", true)
  | _ => ("RentedLooks$Book", "count", "I", false)
def tyX0 : Nat → FieldType := fun k => match k with
  | 0 => .object "RentedLooks$Town"
  | 1 => .array .int
  | 2 => .array .int
  | _ => .int
abbrev wsX00 : List Cond := u_ws RX0 TX0 4
theorem nmX0 : ∀ a, a < 4 → ∀ b, b < 4 → a ≠ b → (TX0 a).2.1 ≠ (TX0 b).2.1 := by decide +kernel
theorem tyX0_ok : ∀ k, k < 4 → parseFieldDescriptor (TX0 k).2.2.1 = some (tyX0 k) := by decide +kernel
abbrev cX0_init : ByteArray := prog_2_method_1_code
def yX0_init : MethodName := ⟨RX0, "<init>", "(LRentedLooks$Town;)V"⟩
abbrev cX0_add : ByteArray := prog_2_method_2_code
def yX0_add : MethodName := ⟨RX0, "add", "(II)Z"⟩
abbrev cX0_firstWrong : ByteArray := prog_2_method_3_code
def yX0_firstWrong : MethodName := ⟨RX0, "firstWrong", "(I)I"⟩
abbrev cX0_wasToldAhead : ByteArray := prog_2_method_4_code
def yX0_wasToldAhead : MethodName := ⟨RX0, "wasToldAhead", "(II)Z"⟩
def RX1 : String := "RentedLooks$Dresser"
def TX1 : u_T := fun k => match k with
  | 0 => ("RentedLooks$Dresser", "town", "LRentedLooks$Town;", true)
  | 1 => ("RentedLooks$Dresser", "looks", "LRentedLooks$Looks;", true)
  | 2 => ("RentedLooks$Dresser", "setCount", "[I", true)
  | 3 => ("RentedLooks$Dresser", "sets", "[[I", true)
  | 4 => ("RentedLooks$Dresser", "codes", "[[I", true)
  | 5 => ("RentedLooks$Dresser", "costs", "[[I", true)
  | 6 => ("RentedLooks$Dresser", "worn", "[I", true)
  | 7 => ("RentedLooks$Dresser", "lookOf", "[I", true)
  | _ => ("RentedLooks$Dresser", "total", "I", false)
def tyX1 : Nat → FieldType := fun k => match k with
  | 0 => .object "RentedLooks$Town"
  | 1 => .object "RentedLooks$Looks"
  | 2 => .array .int
  | 3 => .array (.array .int)
  | 4 => .array (.array .int)
  | 5 => .array (.array .int)
  | 6 => .array .int
  | 7 => .array .int
  | _ => .int
abbrev wsX10 : List Cond := u_ws RX1 TX1 9
theorem nmX1 : ∀ a, a < 9 → ∀ b, b < 9 → a ≠ b → (TX1 a).2.1 ≠ (TX1 b).2.1 := by decide +kernel
theorem tyX1_ok : ∀ k, k < 9 → parseFieldDescriptor (TX1 k).2.2.1 = some (tyX1 k) := by decide +kernel
abbrev cX1_init : ByteArray := prog_3_method_1_code
def yX1_init : MethodName := ⟨RX1, "<init>", "(LRentedLooks$Town;LRentedLooks$Looks;)V"⟩
abbrev cX1_gather : ByteArray := prog_3_method_2_code
def yX1_gather : MethodName := ⟨RX1, "gather", "(I)V"⟩
abbrev cX1_dressOneMore : ByteArray := prog_3_method_3_code
def yX1_dressOneMore : MethodName := ⟨RX1, "dressOneMore", "(III)V"⟩
abbrev cX1_addSet : ByteArray := prog_3_method_4_code
def yX1_addSet : MethodName := ⟨RX1, "addSet", "(III)V"⟩
abbrev cX1_choose : ByteArray := prog_3_method_5_code
def yX1_choose : MethodName := ⟨RX1, "choose", "([II)V"⟩
abbrev cX1_cheapestAfter : ByteArray := prog_3_method_6_code
def yX1_cheapestAfter : MethodName := ⟨RX1, "cheapestAfter", "(III)I"⟩
abbrev cX1_firstCheapest : ByteArray := prog_3_method_7_code
def yX1_firstCheapest : MethodName := ⟨RX1, "firstCheapest", "(III)I"⟩
abbrev cX1_giveLooks : ByteArray := prog_3_method_8_code
def yX1_giveLooks : MethodName := ⟨RX1, "giveLooks", "(II)V"⟩
abbrev cX1_priceOfWorn : ByteArray := prog_3_method_9_code
def yX1_priceOfWorn : MethodName := ⟨RX1, "priceOfWorn", "(I[I)I"⟩
def RX2 : String := "RentedLooks$Looks"
def TX2 : u_T := fun k => match k with
  | 0 => ("RentedLooks$Looks", "town", "LRentedLooks$Town;", true)
  | 1 => ("RentedLooks$Looks", "state", "LRentedLooks$State;", true)
  | 2 => ("RentedLooks$Looks", "brows", "[I", true)
  | 3 => ("RentedLooks$Looks", "eyes", "[I", true)
  | 4 => ("RentedLooks$Looks", "mouths", "[I", true)
  | _ => ("RentedLooks$Looks", "count", "I", false)
def tyX2 : Nat → FieldType := fun k => match k with
  | 0 => .object "RentedLooks$Town"
  | 1 => .object "RentedLooks$State"
  | 2 => .array .int
  | 3 => .array .int
  | 4 => .array .int
  | _ => .int
abbrev wsX20 : List Cond := u_ws RX2 TX2 6
theorem nmX2 : ∀ a, a < 6 → ∀ b, b < 6 → a ≠ b → (TX2 a).2.1 ≠ (TX2 b).2.1 := by decide +kernel
theorem tyX2_ok : ∀ k, k < 6 → parseFieldDescriptor (TX2 k).2.2.1 = some (tyX2 k) := by decide +kernel
abbrev cX2_init : ByteArray := prog_4_method_1_code
def yX2_init : MethodName := ⟨RX2, "<init>", "(LRentedLooks$Town;LRentedLooks$State;)V"⟩
abbrev cX2_build : ByteArray := prog_4_method_2_code
def yX2_build : MethodName := ⟨RX2, "build", "()V"⟩
abbrev cX2_isLook : ByteArray := prog_4_method_3_code
def yX2_isLook : MethodName := ⟨RX2, "isLook", "(III)Z"⟩
abbrev cX2_partsOf : ByteArray := prog_4_method_4_code
def yX2_partsOf : MethodName := ⟨RX2, "partsOf", "(I)I"⟩
abbrev cX2_widthOf : ByteArray := prog_4_method_5_code
def yX2_widthOf : MethodName := ⟨RX2, "widthOf", "(I)I"⟩
abbrev cX2_priceOf : ByteArray := prog_4_method_6_code
def yX2_priceOf : MethodName := ⟨RX2, "priceOf", "(I)I"⟩
abbrev cX2_sumOf : ByteArray := prog_4_method_7_code
def yX2_sumOf : MethodName := ⟨RX2, "sumOf", "(I[I)I"⟩
abbrev cX2_widthsIf : ByteArray := prog_4_method_8_code
def yX2_widthsIf : MethodName := ⟨RX2, "widthsIf", "(II)I"⟩
abbrev cX2_isFor : ByteArray := prog_4_method_9_code
def yX2_isFor : MethodName := ⟨RX2, "isFor", "(III)Z"⟩
abbrev cX2_cheapestFor : ByteArray := prog_4_method_10_code
def yX2_cheapestFor : MethodName := ⟨RX2, "cheapestFor", "(I)I"⟩
abbrev cX2_mayMarry : ByteArray := prog_4_method_11_code
def yX2_mayMarry : MethodName := ⟨RX2, "mayMarry", "(III)Z"⟩
def RX3 : String := "RentedLooks$Reader"
def TX3 : u_T := fun k => match k with
  | 0 => ("RentedLooks$Reader", "text", "LRentedLooks$Text;", true)
  | 1 => ("RentedLooks$Reader", "town", "LRentedLooks$Town;", true)
  | 2 => ("RentedLooks$Reader", "at", "I", false)
  | 3 => ("RentedLooks$Reader", "start", "I", false)
  | 4 => ("RentedLooks$Reader", "faultNumber", "I", false)
  | _ => ("RentedLooks$Reader", "place", "I", false)
def tyX3 : Nat → FieldType := fun k => match k with
  | 0 => .object "RentedLooks$Text"
  | 1 => .object "RentedLooks$Town"
  | 2 => .int
  | 3 => .int
  | 4 => .int
  | _ => .int
abbrev wsX30 : List Cond := u_ws RX3 TX3 6
theorem nmX3 : ∀ a, a < 6 → ∀ b, b < 6 → a ≠ b → (TX3 a).2.1 ≠ (TX3 b).2.1 := by decide +kernel
theorem tyX3_ok : ∀ k, k < 6 → parseFieldDescriptor (TX3 k).2.2.1 = some (tyX3 k) := by decide +kernel
abbrev cX3_init : ByteArray := prog_5_method_1_code
def yX3_init : MethodName := ⟨RX3, "<init>", "(LRentedLooks$Text;LRentedLooks$Town;)V"⟩
abbrev cX3_readTown : ByteArray := prog_5_method_2_code
def yX3_readTown : MethodName := ⟨RX3, "readTown", "()I"⟩
abbrev cX3_readPart : ByteArray := prog_5_method_3_code
def yX3_readPart : MethodName := ⟨RX3, "readPart", "()V"⟩
abbrev cX3_readClash : ByteArray := prog_5_method_4_code
def yX3_readClash : MethodName := ⟨RX3, "readClash", "()V"⟩
abbrev cX3_readScene : ByteArray := prog_5_method_5_code
def yX3_readScene : MethodName := ⟨RX3, "readScene", "()V"⟩
abbrev cX3_readWord : ByteArray := prog_5_method_6_code
def yX3_readWord : MethodName := ⟨RX3, "readWord", "()V"⟩
abbrev cX3_readKind : ByteArray := prog_5_method_7_code
def yX3_readKind : MethodName := ⟨RX3, "readKind", "()I"⟩
abbrev cX3_readNumber : ByteArray := prog_5_method_8_code
def yX3_readNumber : MethodName := ⟨RX3, "readNumber", "(I)I"⟩
abbrev cX3_readEnd : ByteArray := prog_5_method_9_code
def yX3_readEnd : MethodName := ⟨RX3, "readEnd", "()V"⟩
abbrev cX3_skipBlanks : ByteArray := prog_5_method_10_code
def yX3_skipBlanks : MethodName := ⟨RX3, "skipBlanks", "()V"⟩
abbrev cX3_fail : ByteArray := prog_5_method_11_code
def yX3_fail : MethodName := ⟨RX3, "fail", "(II)V"⟩
def RX4 : String := "RentedLooks$Sightings"
def TX4 : u_T := fun k => match k with
  | 0 => ("RentedLooks$Sightings", "town", "LRentedLooks$Town;", true)
  | 1 => ("RentedLooks$Sightings", "looks", "LRentedLooks$Looks;", true)
  | 2 => ("RentedLooks$Sightings", "hours", "[I", true)
  | 3 => ("RentedLooks$Sightings", "widths", "[I", true)
  | _ => ("RentedLooks$Sightings", "count", "I", false)
def tyX4 : Nat → FieldType := fun k => match k with
  | 0 => .object "RentedLooks$Town"
  | 1 => .object "RentedLooks$Looks"
  | 2 => .array .int
  | 3 => .array .int
  | _ => .int
abbrev wsX40 : List Cond := u_ws RX4 TX4 5
theorem nmX4 : ∀ a, a < 5 → ∀ b, b < 5 → a ≠ b → (TX4 a).2.1 ≠ (TX4 b).2.1 := by decide +kernel
theorem tyX4_ok : ∀ k, k < 5 → parseFieldDescriptor (TX4 k).2.2.1 = some (tyX4 k) := by decide +kernel
abbrev cX4_init : ByteArray := prog_6_method_1_code
def yX4_init : MethodName := ⟨RX4, "<init>", "(LRentedLooks$Town;LRentedLooks$Looks;)V"⟩
abbrev cX4_add : ByteArray := prog_6_method_2_code
def yX4_add : MethodName := ⟨RX4, "add", "(II)Z"⟩
abbrev cX4_mayBe : ByteArray := prog_6_method_3_code
def yX4_mayBe : MethodName := ⟨RX4, "mayBe", "(III)Z"⟩
abbrev cX4_mayBeWorn : ByteArray := prog_6_method_4_code
def yX4_mayBeWorn : MethodName := ⟨RX4, "mayBeWorn", "(I)I"⟩
abbrev cX4_surelyWorn : ByteArray := prog_6_method_5_code
def yX4_surelyWorn : MethodName := ⟨RX4, "surelyWorn", "(I)I"⟩
abbrev cX4_firstStrange : ByteArray := prog_6_method_6_code
def yX4_firstStrange : MethodName := ⟨RX4, "firstStrange", "()I"⟩
def RX5 : String := "RentedLooks$State"
def TX5 : u_T := fun k => match k with
  | 0 => ("RentedLooks$State", "widths", "[I", true)
  | 1 => ("RentedLooks$State", "prices", "[I", true)
  | 2 => ("RentedLooks$State", "worn", "[I", true)
  | 3 => ("RentedLooks$State", "spent", "I", false)
  | 4 => ("RentedLooks$State", "days", "I", false)
  | 5 => ("RentedLooks$State", "lawNow", "I", false)
  | _ => ("RentedLooks$State", "seedNow", "I", false)
def tyX5 : Nat → FieldType := fun k => match k with
  | 0 => .array .int
  | 1 => .array .int
  | 2 => .array .int
  | 3 => .int
  | 4 => .int
  | 5 => .int
  | _ => .int
abbrev wsX50 : List Cond := u_ws RX5 TX5 7
theorem nmX5 : ∀ a, a < 7 → ∀ b, b < 7 → a ≠ b → (TX5 a).2.1 ≠ (TX5 b).2.1 := by decide +kernel
theorem tyX5_ok : ∀ k, k < 7 → parseFieldDescriptor (TX5 k).2.2.1 = some (tyX5 k) := by decide +kernel
abbrev cX5_init : ByteArray := prog_7_method_1_code
def yX5_init : MethodName := ⟨RX5, "<init>", "()V"⟩
abbrev cX5_beginIn : ByteArray := prog_7_method_2_code
def yX5_beginIn : MethodName := ⟨RX5, "beginIn", "(LRentedLooks$Town;)V"⟩
abbrev cX5_copyFrom : ByteArray := prog_7_method_3_code
def yX5_copyFrom : MethodName := ⟨RX5, "copyFrom", "(LRentedLooks$State;)V"⟩
abbrev cX5_raisePrices : ByteArray := prog_7_method_4_code
def yX5_raisePrices : MethodName := ⟨RX5, "raisePrices", "(II[I)V"⟩
abbrev cX5_drawOfFour : ByteArray := prog_7_method_5_code
def yX5_drawOfFour : MethodName := ⟨RX5, "drawOfFour", "()I"⟩
abbrev cX5_drawPrices : ByteArray := prog_7_method_6_code
def yX5_drawPrices : MethodName := ⟨RX5, "drawPrices", "(I)V"⟩
abbrev cX5_wearHour : ByteArray := prog_7_method_7_code
def yX5_wearHour : MethodName := ⟨RX5, "wearHour", "(I)V"⟩
abbrev cX5_wearOut : ByteArray := prog_7_method_8_code
def yX5_wearOut : MethodName := ⟨RX5, "wearOut", "()V"⟩
def RX6 : String := "RentedLooks$Text"
def TX6 : u_T := fun k => match k with
  | 0 => ("RentedLooks$Text", "bytes", "[I", true)
  | _ => ("RentedLooks$Text", "length", "I", false)
def tyX6 : Nat → FieldType := fun k => match k with
  | 0 => .array .int
  | _ => .int
abbrev wsX60 : List Cond := u_ws RX6 TX6 2
theorem nmX6 : ∀ a, a < 2 → ∀ b, b < 2 → a ≠ b → (TX6 a).2.1 ≠ (TX6 b).2.1 := by decide +kernel
theorem tyX6_ok : ∀ k, k < 2 → parseFieldDescriptor (TX6 k).2.2.1 = some (tyX6 k) := by decide +kernel
abbrev cX6_init : ByteArray := prog_8_method_1_code
def yX6_init : MethodName := ⟨RX6, "<init>", "()V"⟩
abbrev cX6_add : ByteArray := prog_8_method_2_code
def yX6_add : MethodName := ⟨RX6, "add", "(I)V"⟩
abbrev cX6_byteAt : ByteArray := prog_8_method_3_code
def yX6_byteAt : MethodName := ⟨RX6, "byteAt", "(I)I"⟩
abbrev cX6_isLetter : ByteArray := prog_8_method_4_code
def yX6_isLetter : MethodName := ⟨RX6, "isLetter", "(I)Z"⟩
abbrev cX6_isFigure : ByteArray := prog_8_method_5_code
def yX6_isFigure : MethodName := ⟨RX6, "isFigure", "(I)Z"⟩
abbrev cX6_stands : ByteArray := prog_8_method_6_code
def yX6_stands : MethodName := ⟨RX6, "stands", "(Ljava/lang/String;II)Z"⟩
def RX7 : String := "RentedLooks$Town"
def TX7 : u_T := fun k => match k with
  | 0 => ("RentedLooks$Town", "kind", "[I", true)
  | 1 => ("RentedLooks$Town", "landlord", "[I", true)
  | 2 => ("RentedLooks$Town", "toldWidth", "[I", true)
  | 3 => ("RentedLooks$Town", "toldPrice", "[I", true)
  | 4 => ("RentedLooks$Town", "from", "[I", true)
  | 5 => ("RentedLooks$Town", "to", "[I", true)
  | 6 => ("RentedLooks$Town", "clashing", "[I", true)
  | 7 => ("RentedLooks$Town", "hour", "[I", true)
  | 8 => ("RentedLooks$Town", "low", "[I", true)
  | 9 => ("RentedLooks$Town", "high", "[I", true)
  | 10 => ("RentedLooks$Town", "parts", "I", false)
  | 11 => ("RentedLooks$Town", "clashes", "I", false)
  | _ => ("RentedLooks$Town", "scenes", "I", false)
def tyX7 : Nat → FieldType := fun k => match k with
  | 0 => .array .int
  | 1 => .array .int
  | 2 => .array .int
  | 3 => .array .int
  | 4 => .array .int
  | 5 => .array .int
  | 6 => .array .int
  | 7 => .array .int
  | 8 => .array .int
  | 9 => .array .int
  | 10 => .int
  | 11 => .int
  | _ => .int
abbrev wsX70 : List Cond := u_ws RX7 TX7 13
theorem nmX7 : ∀ a, a < 13 → ∀ b, b < 13 → a ≠ b → (TX7 a).2.1 ≠ (TX7 b).2.1 := by decide +kernel
theorem tyX7_ok : ∀ k, k < 13 → parseFieldDescriptor (TX7 k).2.2.1 = some (tyX7 k) := by decide +kernel
abbrev cX7_init : ByteArray := prog_9_method_1_code
def yX7_init : MethodName := ⟨RX7, "<init>", "()V"⟩
abbrev cX7_hasPart : ByteArray := prog_9_method_2_code
def yX7_hasPart : MethodName := ⟨RX7, "hasPart", "(I)Z"⟩
abbrev cX7_isOfKind : ByteArray := prog_9_method_3_code
def yX7_isOfKind : MethodName := ⟨RX7, "isOfKind", "(II)Z"⟩
abbrev cX7_hasScene : ByteArray := prog_9_method_4_code
def yX7_hasScene : MethodName := ⟨RX7, "hasScene", "(I)Z"⟩
abbrev cX7_clear : ByteArray := prog_9_method_5_code
def yX7_clear : MethodName := ⟨RX7, "clear", "()V"⟩
abbrev cX7_addPart : ByteArray := prog_9_method_6_code
def yX7_addPart : MethodName := ⟨RX7, "addPart", "(IIII)V"⟩
abbrev cX7_setHoursOfLatest : ByteArray := prog_9_method_7_code
def yX7_setHoursOfLatest : MethodName := ⟨RX7, "setHoursOfLatest", "(II)V"⟩
abbrev cX7_isClash : ByteArray := prog_9_method_8_code
def yX7_isClash : MethodName := ⟨RX7, "isClash", "(II)Z"⟩
abbrev cX7_addClash : ByteArray := prog_9_method_9_code
def yX7_addClash : MethodName := ⟨RX7, "addClash", "(II)V"⟩
abbrev cX7_addScene : ByteArray := prog_9_method_10_code
def yX7_addScene : MethodName := ⟨RX7, "addScene", "(III)V"⟩
abbrev cX7_copyFrom : ByteArray := prog_9_method_11_code
def yX7_copyFrom : MethodName := ⟨RX7, "copyFrom", "(LRentedLooks$Town;)V"⟩
abbrev cX7_isFree : ByteArray := prog_9_method_12_code
def yX7_isFree : MethodName := ⟨RX7, "isFree", "(II)Z"⟩
abbrev cX7_freeIn : ByteArray := prog_9_method_13_code
def yX7_freeIn : MethodName := ⟨RX7, "freeIn", "(I)I"⟩
abbrev cX7_ownedBy : ByteArray := prog_9_method_14_code
def yX7_ownedBy : MethodName := ⟨RX7, "ownedBy", "(I)I"⟩
def RX8 : String := "RentedLooks"
def TX8 : u_T := fun k => match k with
  | 0 => ("RentedLooks", "theText", "LRentedLooks$Text;", true)
  | 1 => ("RentedLooks", "reader", "LRentedLooks$Reader;", true)
  | 2 => ("RentedLooks", "theTown", "LRentedLooks$Town;", true)
  | 3 => ("RentedLooks", "toldTown", "LRentedLooks$Town;", true)
  | 4 => ("RentedLooks", "state", "LRentedLooks$State;", true)
  | 5 => ("RentedLooks", "firstImage", "LRentedLooks$State;", true)
  | 6 => ("RentedLooks", "secondImage", "LRentedLooks$State;", true)
  | 7 => ("RentedLooks", "isKept", "[Z", true)
  | 8 => ("RentedLooks", "looks", "LRentedLooks$Looks;", true)
  | 9 => ("RentedLooks", "dresser", "LRentedLooks$Dresser;", true)
  | 10 => ("RentedLooks", "sightings", "LRentedLooks$Sightings;", true)
  | 11 => ("RentedLooks", "theBook", "LRentedLooks$Book;", true)
  | 12 => ("RentedLooks", "raisedPrices", "[I", true)
  | _ => ("RentedLooks", "faultPlace", "I", false)
def tyX8 : Nat → FieldType := fun k => match k with
  | 0 => .object "RentedLooks$Text"
  | 1 => .object "RentedLooks$Reader"
  | 2 => .object "RentedLooks$Town"
  | 3 => .object "RentedLooks$Town"
  | 4 => .object "RentedLooks$State"
  | 5 => .object "RentedLooks$State"
  | 6 => .object "RentedLooks$State"
  | 7 => .array .boolean
  | 8 => .object "RentedLooks$Looks"
  | 9 => .object "RentedLooks$Dresser"
  | 10 => .object "RentedLooks$Sightings"
  | 11 => .object "RentedLooks$Book"
  | 12 => .array .int
  | _ => .int
abbrev wsX80 : List Cond := u_ws RX8 TX8 14
theorem nmX8 : ∀ a, a < 14 → ∀ b, b < 14 → a ≠ b → (TX8 a).2.1 ≠ (TX8 b).2.1 := by decide +kernel
theorem tyX8_ok : ∀ k, k < 14 → parseFieldDescriptor (TX8 k).2.2.1 = some (tyX8 k) := by decide +kernel
abbrev cX8_init : ByteArray := prog_1_method_1_code
def yX8_init : MethodName := ⟨RX8, "<init>", "()V"⟩
abbrev cX8_feed : ByteArray := prog_1_method_2_code
def yX8_feed : MethodName := ⟨RX8, "feed", "(IJ)I"⟩
abbrev cX8_town : ByteArray := prog_1_method_3_code
def yX8_town : MethodName := ⟨RX8, "town", "()I"⟩
abbrev cX8_fault : ByteArray := prog_1_method_4_code
def yX8_fault : MethodName := ⟨RX8, "fault", "()I"⟩
abbrev cX8_told : ByteArray := prog_1_method_5_code
def yX8_told : MethodName := ⟨RX8, "told", "(I)I"⟩
abbrev cX8_part : ByteArray := prog_1_method_6_code
def yX8_part : MethodName := ⟨RX8, "part", "(II)I"⟩
abbrev cX8_scene : ByteArray := prog_1_method_7_code
def yX8_scene : MethodName := ⟨RX8, "scene", "(II)I"⟩
abbrev cX8_look : ByteArray := prog_1_method_8_code
def yX8_look : MethodName := ⟨RX8, "look", "(II)I"⟩
abbrev cX8_law : ByteArray := prog_1_method_9_code
def yX8_law : MethodName := ⟨RX8, "law", "(I)I"⟩
abbrev cX8_price : ByteArray := prog_1_method_10_code
def yX8_price : MethodName := ⟨RX8, "price", "(II)I"⟩
abbrev cX8_width : ByteArray := prog_1_method_11_code
def yX8_width : MethodName := ⟨RX8, "width", "(II)I"⟩
abbrev cX8_cheapest : ByteArray := prog_1_method_12_code
def yX8_cheapest : MethodName := ⟨RX8, "cheapest", "(II)I"⟩
abbrev cX8_dressing : ByteArray := prog_1_method_13_code
def yX8_dressing : MethodName := ⟨RX8, "dressing", "(I)I"⟩
abbrev cX8_rent : ByteArray := prog_1_method_14_code
def yX8_rent : MethodName := ⟨RX8, "rent", "(I)I"⟩
abbrev cX8_without : ByteArray := prog_1_method_15_code
def yX8_without : MethodName := ⟨RX8, "without", "(I)I"⟩
abbrev cX8_raise : ByteArray := prog_1_method_16_code
def yX8_raise : MethodName := ⟨RX8, "raise", "(II)I"⟩
abbrev cX8_dressBest : ByteArray := prog_1_method_17_code
def yX8_dressBest : MethodName := ⟨RX8, "dressBest", "(I)V"⟩
abbrev cX8_grow : ByteArray := prog_1_method_18_code
def yX8_grow : MethodName := ⟨RX8, "grow", "(I)I"⟩
abbrev cX8_wedding : ByteArray := prog_1_method_19_code
def yX8_wedding : MethodName := ⟨RX8, "wedding", "(II)I"⟩
abbrev cX8_see : ByteArray := prog_1_method_20_code
def yX8_see : MethodName := ⟨RX8, "see", "(II)I"⟩
abbrev cX8_seen : ByteArray := prog_1_method_21_code
def yX8_seen : MethodName := ⟨RX8, "seen", "(II)I"⟩
abbrev cX8_strange : ByteArray := prog_1_method_22_code
def yX8_strange : MethodName := ⟨RX8, "strange", "()I"⟩
abbrev cX8_day : ByteArray := prog_1_method_23_code
def yX8_day : MethodName := ⟨RX8, "day", "(I)I"⟩
abbrev cX8_drift : ByteArray := prog_1_method_24_code
def yX8_drift : MethodName := ⟨RX8, "drift", "(I)I"⟩
abbrev cX8_passDay : ByteArray := prog_1_method_25_code
def yX8_passDay : MethodName := ⟨RX8, "passDay", "()I"⟩
abbrev cX8_write : ByteArray := prog_1_method_26_code
def yX8_write : MethodName := ⟨RX8, "write", "(II)I"⟩
abbrev cX8_tear : ByteArray := prog_1_method_27_code
def yX8_tear : MethodName := ⟨RX8, "tear", "()I"⟩
abbrev cX8_judge : ByteArray := prog_1_method_28_code
def yX8_judge : MethodName := ⟨RX8, "judge", "()I"⟩
abbrev cX8_seed : ByteArray := prog_1_method_29_code
def yX8_seed : MethodName := ⟨RX8, "seed", "(I)I"⟩
abbrev cX8_keep : ByteArray := prog_1_method_30_code
def yX8_keep : MethodName := ⟨RX8, "keep", "(I)I"⟩
abbrev cX8_goBack : ByteArray := prog_1_method_31_code
def yX8_goBack : MethodName := ⟨RX8, "goBack", "(I)I"⟩
abbrev cX8_imageAt : ByteArray := prog_1_method_32_code
def yX8_imageAt : MethodName := ⟨RX8, "imageAt", "(I)LRentedLooks$State;"⟩
abbrev cX8_isLandlord : ByteArray := prog_1_method_33_code
def yX8_isLandlord : MethodName := ⟨RX8, "isLandlord", "(I)Z"⟩
abbrev cX8_isHour : ByteArray := prog_1_method_34_code
def yX8_isHour : MethodName := ⟨RX8, "isHour", "(I)Z"⟩
abbrev cX8_has : ByteArray := prog_1_method_35_code
def yX8_has : MethodName := ⟨RX8, "has", "(II)Z"⟩
abbrev cX8_sumOver : ByteArray := prog_1_method_36_code
def yX8_sumOver : MethodName := ⟨RX8, "sumOver", "(I[I)I"⟩
abbrev cX8_copyRow : ByteArray := prog_1_method_37_code
def yX8_copyRow : MethodName := ⟨RX8, "copyRow", "([I[I)V"⟩
def RX9 : String := "RentedLooksModel"
def TX9 : u_T := fun k => match k with
  | 0 => ("RentedLooksModel", "w", "[I", true)
  | 1 => ("RentedLooksModel", "isKept", "[Z", true)
  | 2 => ("RentedLooksModel", "kind", "[I", true)
  | 3 => ("RentedLooksModel", "lord", "[I", true)
  | 4 => ("RentedLooksModel", "wide", "[I", true)
  | 5 => ("RentedLooksModel", "cost", "[I", true)
  | 6 => ("RentedLooksModel", "from", "[I", true)
  | 7 => ("RentedLooksModel", "until", "[I", true)
  | 8 => ("RentedLooksModel", "clash", "[I", true)
  | 9 => ("RentedLooksModel", "when", "[I", true)
  | 10 => ("RentedLooksModel", "least", "[I", true)
  | 11 => ("RentedLooksModel", "most", "[I", true)
  | 12 => ("RentedLooksModel", "many", "[I", true)
  | 13 => ("RentedLooksModel", "text", "[I", true)
  | 14 => ("RentedLooksModel", "textSize", "I", false)
  | 15 => ("RentedLooksModel", "at", "I", false)
  | 16 => ("RentedLooksModel", "first", "I", false)
  | 17 => ("RentedLooksModel", "length", "I", false)
  | 18 => ("RentedLooksModel", "faultOf", "I", false)
  | 19 => ("RentedLooksModel", "fault", "I", false)
  | 20 => ("RentedLooksModel", "looks", "[I", true)
  | 21 => ("RentedLooksModel", "lookMany", "I", false)
  | 22 => ("RentedLooksModel", "banned", "I", false)
  | 23 => ("RentedLooksModel", "canBe", "[Z", true)
  | 24 => ("RentedLooksModel", "leastFrom", "[I", true)
  | 25 => ("RentedLooksModel", "before", "[Z", true)
  | 26 => ("RentedLooksModel", "then", "[Z", true)
  | 27 => ("RentedLooksModel", "worn", "[I", true)
  | 28 => ("RentedLooksModel", "seenHour", "[I", true)
  | 29 => ("RentedLooksModel", "seenWide", "[I", true)
  | 30 => ("RentedLooksModel", "seenMany", "I", false)
  | 31 => ("RentedLooksModel", "bookHour", "[I", true)
  | 32 => ("RentedLooksModel", "bookPart", "[I", true)
  | _ => ("RentedLooksModel", "written", "I", false)
def tyX9 : Nat → FieldType := fun k => match k with
  | 0 => .array .int
  | 1 => .array .boolean
  | 2 => .array .int
  | 3 => .array .int
  | 4 => .array .int
  | 5 => .array .int
  | 6 => .array .int
  | 7 => .array .int
  | 8 => .array .int
  | 9 => .array .int
  | 10 => .array .int
  | 11 => .array .int
  | 12 => .array .int
  | 13 => .array .int
  | 14 => .int
  | 15 => .int
  | 16 => .int
  | 17 => .int
  | 18 => .int
  | 19 => .int
  | 20 => .array .int
  | 21 => .int
  | 22 => .int
  | 23 => .array .boolean
  | 24 => .array .int
  | 25 => .array .boolean
  | 26 => .array .boolean
  | 27 => .array .int
  | 28 => .array .int
  | 29 => .array .int
  | 30 => .int
  | 31 => .array .int
  | 32 => .array .int
  | _ => .int
abbrev wsX90 : List Cond := u_ws RX9 TX9 34
theorem nmX9 : ∀ a, a < 34 → ∀ b, b < 34 → a ≠ b → (TX9 a).2.1 ≠ (TX9 b).2.1 := by decide +kernel
theorem tyX9_ok : ∀ k, k < 34 → parseFieldDescriptor (TX9 k).2.2.1 = some (tyX9 k) := by decide +kernel
abbrev cX9_init : ByteArray := prog_11_method_1_code
def yX9_init : MethodName := ⟨RX9, "<init>", "()V"⟩
abbrev cX9_in : ByteArray := prog_11_method_3_code
def yX9_in : MethodName := ⟨RX9, "in", "(JJJ)Z"⟩
abbrev cX9_one : ByteArray := prog_11_method_4_code
def yX9_one : MethodName := ⟨RX9, "one", "(Z)I"⟩
abbrev cX9_has : ByteArray := prog_11_method_5_code
def yX9_has : MethodName := ⟨RX9, "has", "(II)Z"⟩
abbrev cX9_ones : ByteArray := prog_11_method_6_code
def yX9_ones : MethodName := ⟨RX9, "ones", "(I)I"⟩
abbrev cX9_feed : ByteArray := prog_11_method_7_code
def yX9_feed : MethodName := ⟨RX9, "feed", "(IJ)I"⟩
abbrev cX9_here : ByteArray := prog_11_method_8_code
def yX9_here : MethodName := ⟨RX9, "here", "()I"⟩
abbrev cX9_want : ByteArray := prog_11_method_9_code
def yX9_want : MethodName := ⟨RX9, "want", "(ZII)Z"⟩
abbrev cX9_takeWord : ByteArray := prog_11_method_10_code
def yX9_takeWord : MethodName := ⟨RX9, "takeWord", "()V"⟩
abbrev cX9_isWord : ByteArray := prog_11_method_11_code
def yX9_isWord : MethodName := ⟨RX9, "isWord", "(IIIIII)Z"⟩
abbrev cX9_takeNumber : ByteArray := prog_11_method_12_code
def yX9_takeNumber : MethodName := ⟨RX9, "takeNumber", "(II)I"⟩
abbrev cX9_takePart : ByteArray := prog_11_method_13_code
def yX9_takePart : MethodName := ⟨RX9, "takePart", "()V"⟩
abbrev cX9_takeClash : ByteArray := prog_11_method_14_code
def yX9_takeClash : MethodName := ⟨RX9, "takeClash", "()V"⟩
abbrev cX9_takeScene : ByteArray := prog_11_method_15_code
def yX9_takeScene : MethodName := ⟨RX9, "takeScene", "()V"⟩
abbrev cX9_takeClause : ByteArray := prog_11_method_16_code
def yX9_takeClause : MethodName := ⟨RX9, "takeClause", "()V"⟩
abbrev cX9_town : ByteArray := prog_11_method_17_code
def yX9_town : MethodName := ⟨RX9, "town", "()I"⟩
abbrev cX9_fault : ByteArray := prog_11_method_18_code
def yX9_fault : MethodName := ⟨RX9, "fault", "()I"⟩
abbrev cX9_findLooks : ByteArray := prog_11_method_19_code
def yX9_findLooks : MethodName := ⟨RX9, "findLooks", "()V"⟩
abbrev cX9_isPart : ByteArray := prog_11_method_20_code
def yX9_isPart : MethodName := ⟨RX9, "isPart", "(I)Z"⟩
abbrev cX9_isScene : ByteArray := prog_11_method_21_code
def yX9_isScene : MethodName := ⟨RX9, "isScene", "(I)Z"⟩
abbrev cX9_sumOf : ByteArray := prog_11_method_22_code
def yX9_sumOf : MethodName := ⟨RX9, "sumOf", "(II)I"⟩
abbrev cX9_isFree : ByteArray := prog_11_method_23_code
def yX9_isFree : MethodName := ⟨RX9, "isFree", "(II)Z"⟩
abbrev cX9_widthsIn : ByteArray := prog_11_method_24_code
def yX9_widthsIn : MethodName := ⟨RX9, "widthsIn", "(I)I"⟩
abbrev cX9_told : ByteArray := prog_11_method_25_code
def yX9_told : MethodName := ⟨RX9, "told", "(I)I"⟩
abbrev cX9_clashMany : ByteArray := prog_11_method_26_code
def yX9_clashMany : MethodName := ⟨RX9, "clashMany", "()I"⟩
abbrev cX9_part : ByteArray := prog_11_method_27_code
def yX9_part : MethodName := ⟨RX9, "part", "(II)I"⟩
abbrev cX9_scene : ByteArray := prog_11_method_28_code
def yX9_scene : MethodName := ⟨RX9, "scene", "(II)I"⟩
abbrev cX9_look : ByteArray := prog_11_method_29_code
def yX9_look : MethodName := ⟨RX9, "look", "(II)I"⟩
abbrev cX9_law : ByteArray := prog_11_method_30_code
def yX9_law : MethodName := ⟨RX9, "law", "(I)I"⟩
abbrev cX9_price : ByteArray := prog_11_method_31_code
def yX9_price : MethodName := ⟨RX9, "price", "(II)I"⟩
abbrev cX9_width : ByteArray := prog_11_method_32_code
def yX9_width : MethodName := ⟨RX9, "width", "(II)I"⟩
abbrev cX9_isFor : ByteArray := prog_11_method_33_code
def yX9_isFor : MethodName := ⟨RX9, "isFor", "(III)Z"⟩
abbrev cX9_cheapest : ByteArray := prog_11_method_34_code
def yX9_cheapest : MethodName := ⟨RX9, "cheapest", "(II)I"⟩
abbrev cX9_findSets : ByteArray := prog_11_method_35_code
def yX9_findSets : MethodName := ⟨RX9, "findSets", "(II)V"⟩
abbrev cX9_addScene : ByteArray := prog_11_method_36_code
def yX9_addScene : MethodName := ⟨RX9, "addScene", "(II)V"⟩
abbrev cX9_best : ByteArray := prog_11_method_37_code
def yX9_best : MethodName := ⟨RX9, "best", "(III)I"⟩
abbrev cX9_findAllSets : ByteArray := prog_11_method_38_code
def yX9_findAllSets : MethodName := ⟨RX9, "findAllSets", "(I)V"⟩
abbrev cX9_findLeast : ByteArray := prog_11_method_39_code
def yX9_findLeast : MethodName := ⟨RX9, "findLeast", "(I)V"⟩
abbrev cX9_leastIn : ByteArray := prog_11_method_40_code
def yX9_leastIn : MethodName := ⟨RX9, "leastIn", "(I)I"⟩
abbrev cX9_findWorn : ByteArray := prog_11_method_41_code
def yX9_findWorn : MethodName := ⟨RX9, "findWorn", "(I)V"⟩
abbrev cX9_lookOf : ByteArray := prog_11_method_42_code
def yX9_lookOf : MethodName := ⟨RX9, "lookOf", "(I)I"⟩
abbrev cX9_firstLook : ByteArray := prog_11_method_43_code
def yX9_firstLook : MethodName := ⟨RX9, "firstLook", "(II)I"⟩
abbrev cX9_canRest : ByteArray := prog_11_method_44_code
def yX9_canRest : MethodName := ⟨RX9, "canRest", "(III)Z"⟩
abbrev cX9_dressing : ByteArray := prog_11_method_45_code
def yX9_dressing : MethodName := ⟨RX9, "dressing", "(I)I"⟩
abbrev cX9_rentIn : ByteArray := prog_11_method_46_code
def yX9_rentIn : MethodName := ⟨RX9, "rentIn", "(II)I"⟩
abbrev cX9_rent : ByteArray := prog_11_method_47_code
def yX9_rent : MethodName := ⟨RX9, "rent", "(I)I"⟩
abbrev cX9_without : ByteArray := prog_11_method_48_code
def yX9_without : MethodName := ⟨RX9, "without", "(I)I"⟩
abbrev cX9_copy : ByteArray := prog_11_method_49_code
def yX9_copy : MethodName := ⟨RX9, "copy", "(II)V"⟩
abbrev cX9_raise : ByteArray := prog_11_method_50_code
def yX9_raise : MethodName := ⟨RX9, "raise", "(II)I"⟩
abbrev cX9_grow : ByteArray := prog_11_method_51_code
def yX9_grow : MethodName := ⟨RX9, "grow", "(I)I"⟩
abbrev cX9_wedding : ByteArray := prog_11_method_52_code
def yX9_wedding : MethodName := ⟨RX9, "wedding", "(II)I"⟩
abbrev cX9_see : ByteArray := prog_11_method_53_code
def yX9_see : MethodName := ⟨RX9, "see", "(II)I"⟩
abbrev cX9_seenBy : ByteArray := prog_11_method_54_code
def yX9_seenBy : MethodName := ⟨RX9, "seenBy", "(II)I"⟩
abbrev cX9_seen : ByteArray := prog_11_method_55_code
def yX9_seen : MethodName := ⟨RX9, "seen", "(II)I"⟩
abbrev cX9_strange : ByteArray := prog_11_method_56_code
def yX9_strange : MethodName := ⟨RX9, "strange", "()I"⟩
abbrev cX9_pass : ByteArray := prog_11_method_57_code
def yX9_pass : MethodName := ⟨RX9, "pass", "()I"⟩
abbrev cX9_day : ByteArray := prog_11_method_58_code
def yX9_day : MethodName := ⟨RX9, "day", "(I)I"⟩
abbrev cX9_draw : ByteArray := prog_11_method_59_code
def yX9_draw : MethodName := ⟨RX9, "draw", "(I)I"⟩
abbrev cX9_drift : ByteArray := prog_11_method_60_code
def yX9_drift : MethodName := ⟨RX9, "drift", "(I)I"⟩
abbrev cX9_write : ByteArray := prog_11_method_61_code
def yX9_write : MethodName := ⟨RX9, "write", "(II)I"⟩
abbrev cX9_tear : ByteArray := prog_11_method_62_code
def yX9_tear : MethodName := ⟨RX9, "tear", "()I"⟩
abbrev cX9_judge : ByteArray := prog_11_method_63_code
def yX9_judge : MethodName := ⟨RX9, "judge", "()I"⟩
abbrev cX9_seed : ByteArray := prog_11_method_64_code
def yX9_seed : MethodName := ⟨RX9, "seed", "(I)I"⟩
abbrev cX9_keep : ByteArray := prog_11_method_65_code
def yX9_keep : MethodName := ⟨RX9, "keep", "(I)I"⟩
abbrev cX9_goBack : ByteArray := prog_11_method_66_code
def yX9_goBack : MethodName := ⟨RX9, "goBack", "(I)I"⟩
def RJ6 : String := "java/lang/Integer"
def TJ6 : u_T := fun k => match k with
  | _ => ("", "", "", false)
def tyJ6 : Nat → FieldType := fun k => match k with
  | _ => .int
abbrev wsJ60 : List Cond := u_ws RJ6 TJ6 0
theorem nmJ6 : ∀ a, a < 0 → ∀ b, b < 0 → a ≠ b → (TJ6 a).2.1 ≠ (TJ6 b).2.1 := by decide +kernel
theorem tyJ6_ok : ∀ k, k < 0 → parseFieldDescriptor (TJ6 k).2.2.1 = some (tyJ6 k) := by decide +kernel
abbrev cJ6_bitCount_0f7a4 : ByteArray := prog_12_method_49_code
def yJ6_bitCount_0f7a4 : MethodName := ⟨RJ6, "bitCount", "(I)I"⟩
def RJ9 : String := "java/lang/Math"
def TJ9 : u_T := fun k => match k with
  | _ => ("", "", "", false)
def tyJ9 : Nat → FieldType := fun k => match k with
  | _ => .int
abbrev wsJ90 : List Cond := u_ws RJ9 TJ9 0
theorem nmJ9 : ∀ a, a < 0 → ∀ b, b < 0 → a ≠ b → (TJ9 a).2.1 ≠ (TJ9 b).2.1 := by decide +kernel
theorem tyJ9_ok : ∀ k, k < 0 → parseFieldDescriptor (TJ9 k).2.2.1 = some (tyJ9 k) := by decide +kernel
abbrev cJ9_abs_0f7a4 : ByteArray := prog_13_method_59_code
def yJ9_abs_0f7a4 : MethodName := ⟨RJ9, "abs", "(I)I"⟩
abbrev cJ9_max_7cf53 : ByteArray := prog_13_method_65_code
def yJ9_max_7cf53 : MethodName := ⟨RJ9, "max", "(II)I"⟩
abbrev cJ9_min_7cf53 : ByteArray := prog_13_method_69_code
def yJ9_min_7cf53 : MethodName := ⟨RJ9, "min", "(II)I"⟩
def RJ0 : String := "java/lang/String"
def TJ0 : u_T := fun k => match k with
  | _ => ("", "", "", false)
def tyJ0 : Nat → FieldType := fun k => match k with
  | _ => .int
abbrev wsJ00 : List Cond := u_ws RJ0 TJ0 0
theorem nmJ0 : ∀ a, a < 0 → ∀ b, b < 0 → a ≠ b → (TJ0 a).2.1 ≠ (TJ0 b).2.1 := by decide +kernel
theorem tyJ0_ok : ∀ k, k < 0 → parseFieldDescriptor (TJ0 k).2.2.1 = some (tyJ0 k) := by decide +kernel
abbrev cJ0_length_8abf5 : ByteArray := prog_14_method_54_code
def yJ0_length_8abf5 : MethodName := ⟨RJ0, "length", "()I"⟩
abbrev cJ0_charAt_5068e : ByteArray := prog_14_method_56_code
def yJ0_charAt_5068e : MethodName := ⟨RJ0, "charAt", "(I)C"⟩
abbrev cJ0_coder_7d493 : ByteArray := prog_14_method_152_code
def yJ0_coder_7d493 : MethodName := ⟨RJ0, "coder", "()B"⟩
abbrev cJ0_isLatin1_aae02 : ByteArray := prog_14_method_154_code
def yJ0_isLatin1_aae02 : MethodName := ⟨RJ0, "isLatin1", "()Z"⟩
abbrev cJ0_checkIndex_df160 : ByteArray := prog_14_method_155_code
def yJ0_checkIndex_df160 : MethodName := ⟨RJ0, "checkIndex", "(II)V"⟩
def RJ1 : String := "java/lang/StringLatin1"
def TJ1 : u_T := fun k => match k with
  | _ => ("", "", "", false)
def tyJ1 : Nat → FieldType := fun k => match k with
  | _ => .int
abbrev wsJ10 : List Cond := u_ws RJ1 TJ1 0
theorem nmJ1 : ∀ a, a < 0 → ∀ b, b < 0 → a ≠ b → (TJ1 a).2.1 ≠ (TJ1 b).2.1 := by decide +kernel
theorem tyJ1_ok : ∀ k, k < 0 → parseFieldDescriptor (TJ1 k).2.2.1 = some (tyJ1 k) := by decide +kernel
abbrev cJ1_charAt_3b067 : ByteArray := prog_15_method_2_code
def yJ1_charAt_3b067 : MethodName := ⟨RJ1, "charAt", "([BI)C"⟩
def RJ2 : String := "java/lang/StringUTF16"
def TJ2 : u_T := fun k => match k with
  | _ => ("", "", "", false)
def tyJ2 : Nat → FieldType := fun k => match k with
  | _ => .int
abbrev wsJ20 : List Cond := u_ws RJ2 TJ2 0
theorem nmJ2 : ∀ a, a < 0 → ∀ b, b < 0 → a ≠ b → (TJ2 a).2.1 ≠ (TJ2 b).2.1 := by decide +kernel
theorem tyJ2_ok : ∀ k, k < 0 → parseFieldDescriptor (TJ2 k).2.2.1 = some (tyJ2 k) := by decide +kernel
abbrev cJ2_getChar_3b067 : ByteArray := prog_16_method_5_code
def yJ2_getChar_3b067 : MethodName := ⟨RJ2, "getChar", "([BI)C"⟩
abbrev cJ2_length_9d52b : ByteArray := prog_16_method_6_code
def yJ2_length_9d52b : MethodName := ⟨RJ2, "length", "([B)I"⟩
abbrev cJ2_charAt_3b067 : ByteArray := prog_16_method_83_code
def yJ2_charAt_3b067 : MethodName := ⟨RJ2, "charAt", "([BI)C"⟩
abbrev cJ2_checkIndex_2214a : ByteArray := prog_16_method_91_code
def yJ2_checkIndex_2214a : MethodName := ⟨RJ2, "checkIndex", "(I[B)V"⟩
def RJ3 : String := "jdk/internal/util/Preconditions"
def TJ3 : u_T := fun k => match k with
  | _ => ("", "", "", false)
def tyJ3 : Nat → FieldType := fun k => match k with
  | _ => .int
abbrev wsJ30 : List Cond := u_ws RJ3 TJ3 0
theorem nmJ3 : ∀ a, a < 0 → ∀ b, b < 0 → a ≠ b → (TJ3 a).2.1 ≠ (TJ3 b).2.1 := by decide +kernel
theorem tyJ3_ok : ∀ k, k < 0 → parseFieldDescriptor (TJ3 k).2.2.1 = some (tyJ3 k) := by decide +kernel
abbrev cJ3_checkIndex_8e157 : ByteArray := prog_17_method_11_code
def yJ3_checkIndex_8e157 : MethodName := ⟨RJ3, "checkIndex", "(IILjava/util/function/BiFunction;)I"⟩
def RL : String := "RentedLooksLaw"
abbrev cL_law : ByteArray := code
def yL_law : MethodName := ⟨RL, "law", "([I)Z"⟩
abbrev vwCl : List vw_C := [(RX0, TX0, 4), (RX1, TX1, 9), (RX2, TX2, 6), (RX3, TX3, 6), (RX4, TX4, 5), (RX5, TX5, 7), (RX6, TX6, 2), (RX7, TX7, 13), (RX8, TX8, 14), (RX9, TX9, 34)]
end
section
/-- the words that every method takes along: those of the tables that a call hands on -/
def ws0 : List Cond := lw_tbl.filter goodWord
theorem ws0_good {w : Cond} (h : w ∈ ws0) : (w.onTables && w.keeps) = true ∨ ∃ ty, w = .arrayClass ty := good_of_word (List.mem_filter.mp h).2
theorem ws0_in {w : Cond} (h : w ∈ ws0) : w ∈ lw_tbl := (List.mem_filter.mp h).1
theorem gw_of {w : Cond} (h : w ∈ tables_1) (g : goodWord w = true) : w ∈ ws0 := List.mem_filter.mpr ⟨List.mem_append_right _ h, g⟩
theorem gwT1 {i : Nat} {w : Cond} (h : tables_1_1[i]? = some w) (g : goodWord w = true) : w ∈ ws0 := gw_of (List.mem_append_left _ (List.mem_of_getElem? h)) g
theorem gwN1 {i : Nat} {w : Cond} (h : tables_1_1[i]? = some w) : w ∈ lw_tbl := List.mem_append_right _ (List.mem_append_left _ (List.mem_of_getElem? h))
theorem gwT2 {i : Nat} {w : Cond} (h : tables_1_2[i]? = some w) (g : goodWord w = true) : w ∈ ws0 := gw_of (List.mem_append_right _ (List.mem_append_left _ (List.mem_of_getElem? h))) g
theorem gwN2 {i : Nat} {w : Cond} (h : tables_1_2[i]? = some w) : w ∈ lw_tbl := List.mem_append_right _ (List.mem_append_right _ (List.mem_append_left _ (List.mem_of_getElem? h)))
theorem gwT3 {i : Nat} {w : Cond} (h : tables_1_3[i]? = some w) (g : goodWord w = true) : w ∈ ws0 := gw_of (List.mem_append_right _ (List.mem_append_right _ (List.mem_append_left _ (List.mem_of_getElem? h)))) g
theorem gwN3 {i : Nat} {w : Cond} (h : tables_1_3[i]? = some w) : w ∈ lw_tbl := List.mem_append_right _ (List.mem_append_right _ (List.mem_append_right _ (List.mem_append_left _ (List.mem_of_getElem? h))))
theorem gwT4 {i : Nat} {w : Cond} (h : tables_1_4[i]? = some w) (g : goodWord w = true) : w ∈ ws0 := gw_of (List.mem_append_right _ (List.mem_append_right _ (List.mem_append_right _ (List.mem_append_left _ (List.mem_of_getElem? h))))) g
theorem gwN4 {i : Nat} {w : Cond} (h : tables_1_4[i]? = some w) : w ∈ lw_tbl := List.mem_append_right _ (List.mem_append_right _ (List.mem_append_right _ (List.mem_append_right _ (List.mem_append_left _ (List.mem_of_getElem? h)))))
theorem gwT5 {i : Nat} {w : Cond} (h : tables_1_5[i]? = some w) (g : goodWord w = true) : w ∈ ws0 := gw_of (List.mem_append_right _ (List.mem_append_right _ (List.mem_append_right _ (List.mem_append_right _ (List.mem_of_getElem? h))))) g
theorem gwN5 {i : Nat} {w : Cond} (h : tables_1_5[i]? = some w) : w ∈ lw_tbl := List.mem_append_right _ (List.mem_append_right _ (List.mem_append_right _ (List.mem_append_right _ (List.mem_append_right _ (List.mem_of_getElem? h)))))
theorem gwS {i : Nat} {q : MethodName × Nat} (h : lw_privs[i]? = some q) : Cond.selects q.1.cls q.1 q.1 ∈ ws0 := List.mem_filter.mpr ⟨List.mem_append_left _ (List.mem_map.mpr ⟨q, List.mem_of_getElem? h, rfl⟩), rfl⟩
theorem gw_sub {ws : List Cond} (ps : List Nat) (hp : ws = ps.filterMap (fun i => tables_1[i]?)) (h : ws.all goodWord = true) : ∀ w ∈ ws, w ∈ ws0 := by
  intro w hw
  have h1 := List.all_eq_true.mp h w hw
  rw [hp] at hw
  obtain ⟨i, -, hi⟩ := List.mem_filterMap.mp hw
  exact gw_of (List.mem_of_getElem? hi) h1
theorem wi_L : Cond.initialized RL ∈ ws0 := gwT1 (i := 0) (by decide +kernel) (by decide +kernel)
theorem wi_X8 : Cond.initialized RX8 ∈ ws0 := gwT1 (i := 1) (by decide +kernel) (by decide +kernel)
theorem wi_X6 : Cond.initialized RX6 ∈ ws0 := gwT1 (i := 2) (by decide +kernel) (by decide +kernel)
theorem wi_X7 : Cond.initialized RX7 ∈ ws0 := gwT1 (i := 3) (by decide +kernel) (by decide +kernel)
theorem wi_X3 : Cond.initialized RX3 ∈ ws0 := gwT1 (i := 4) (by decide +kernel) (by decide +kernel)
theorem wi_X5 : Cond.initialized RX5 ∈ ws0 := gwT1 (i := 5) (by decide +kernel) (by decide +kernel)
theorem wi_X2 : Cond.initialized RX2 ∈ ws0 := gwT1 (i := 6) (by decide +kernel) (by decide +kernel)
theorem wi_X1 : Cond.initialized RX1 ∈ ws0 := gwT1 (i := 7) (by decide +kernel) (by decide +kernel)
theorem wi_X4 : Cond.initialized RX4 ∈ ws0 := gwT1 (i := 8) (by decide +kernel) (by decide +kernel)
theorem wi_X0 : Cond.initialized RX0 ∈ ws0 := gwT1 (i := 9) (by decide +kernel) (by decide +kernel)
theorem wi_X9 : Cond.initialized RX9 ∈ ws0 := gwT1 (i := 10) (by decide +kernel) (by decide +kernel)
theorem wi_J0 : Cond.initialized RJ0 ∈ ws0 := gwT1 (i := 11) (by decide +kernel) (by decide +kernel)
theorem wi_J1 : Cond.initialized RJ1 ∈ ws0 := gwT1 (i := 12) (by decide +kernel) (by decide +kernel)
theorem wi_J3 : Cond.initialized RJ3 ∈ ws0 := gwT1 (i := 13) (by decide +kernel) (by decide +kernel)
theorem wi_J2 : Cond.initialized RJ2 ∈ ws0 := gwT1 (i := 14) (by decide +kernel) (by decide +kernel)
theorem wi_J9 : Cond.initialized RJ9 ∈ ws0 := gwT1 (i := 15) (by decide +kernel) (by decide +kernel)
theorem wi_J6 : Cond.initialized RJ6 ∈ ws0 := gwT1 (i := 16) (by decide +kernel) (by decide +kernel)
theorem wc_L_7 : Cond.classLink RL 7 RX8 ∈ ws0 := gwT1 (i := 17) (by decide +kernel) (by decide +kernel)
theorem wn_X8 : Cond.instantiable RX8 14 ∈ ws0 := gwT1 (i := 18) (by decide +kernel) (by decide +kernel)
theorem wm_L_9 : Cond.methodLink RL 9 yX8_init ∈ ws0 := gwT1 (i := 19) (by decide +kernel) (by decide +kernel)
theorem wI_X8_init : Cond.instanceMethod yX8_init ∈ ws0 := gwT1 (i := 20) (by decide +kernel) (by decide +kernel)
theorem wC_X8_init : Cond.code yX8_init cX8_init 1 none ∈ ws0 := gwT1 (i := 21) (by decide +kernel) (by decide +kernel)
theorem wm_X8_1 : Cond.methodLink RX8 1 objectInit ∈ ws0 := gwT1 (i := 22) (by decide +kernel) (by decide +kernel)
theorem wI_objectInit : Cond.instanceMethod objectInit ∈ ws0 := gwT1 (i := 23) (by decide +kernel) (by decide +kernel)
theorem wC_objectInit : Cond.code objectInit ⟨#[0xb1]⟩ 1 none ∈ ws0 := gwT1 (i := 24) (by decide +kernel) (by decide +kernel)
theorem wc_X8_7 : Cond.classLink RX8 7 RX6 ∈ ws0 := gwT1 (i := 25) (by decide +kernel) (by decide +kernel)
theorem wn_X6 : Cond.instantiable RX6 2 ∈ ws0 := gwT1 (i := 26) (by decide +kernel) (by decide +kernel)
theorem wI_X6_init : Cond.instanceMethod yX6_init ∈ ws0 := gwT1 (i := 28) (by decide +kernel) (by decide +kernel)
theorem wC_X6_init : Cond.code yX6_init cX6_init 1 none ∈ ws0 := gwT1 (i := 29) (by decide +kernel) (by decide +kernel)
theorem wm_X6_3 : Cond.methodLink RX6 3 objectInit ∈ ws0 := gwT1 (i := 30) (by decide +kernel) (by decide +kernel)
theorem wf_X6_9 : Cond.fieldLink RX6 9 "RentedLooks$Text" "bytes" "[I" ∈ ws0 := gwT1 (i := 31) (by decide +kernel) (by decide +kernel)
theorem wf_X6_15 : Cond.fieldLink RX6 15 "RentedLooks$Text" "length" "I" ∈ ws0 := gwT1 (i := 32) (by decide +kernel) (by decide +kernel)
theorem wa_int : Cond.arrayClass .int ∈ ws0 := gwT1 (i := 40) (by decide +kernel) (by decide +kernel)
theorem wc_X8_16 : Cond.classLink RX8 16 RX7 ∈ ws0 := gwT1 (i := 41) (by decide +kernel) (by decide +kernel)
theorem wn_X7 : Cond.instantiable RX7 13 ∈ ws0 := gwT1 (i := 42) (by decide +kernel) (by decide +kernel)
theorem wI_X7_init : Cond.instanceMethod yX7_init ∈ ws0 := gwT1 (i := 44) (by decide +kernel) (by decide +kernel)
theorem wC_X7_init : Cond.code yX7_init cX7_init 1 none ∈ ws0 := gwT1 (i := 45) (by decide +kernel) (by decide +kernel)
theorem wm_X7_3 : Cond.methodLink RX7 3 objectInit ∈ ws0 := gwT1 (i := 46) (by decide +kernel) (by decide +kernel)
theorem wf_X7_9 : Cond.fieldLink RX7 9 "RentedLooks$Town" "kind" "[I" ∈ ws0 := gwT1 (i := 47) (by decide +kernel) (by decide +kernel)
theorem wf_X7_15 : Cond.fieldLink RX7 15 "RentedLooks$Town" "landlord" "[I" ∈ ws0 := gwT1 (i := 49) (by decide +kernel) (by decide +kernel)
theorem wf_X7_18 : Cond.fieldLink RX7 18 "RentedLooks$Town" "toldWidth" "[I" ∈ ws0 := gwT1 (i := 51) (by decide +kernel) (by decide +kernel)
theorem wf_X7_21 : Cond.fieldLink RX7 21 "RentedLooks$Town" "toldPrice" "[I" ∈ ws0 := gwT1 (i := 53) (by decide +kernel) (by decide +kernel)
theorem wf_X7_24 : Cond.fieldLink RX7 24 "RentedLooks$Town" "from" "[I" ∈ ws0 := gwT1 (i := 55) (by decide +kernel) (by decide +kernel)
theorem wf_X7_27 : Cond.fieldLink RX7 27 "RentedLooks$Town" "to" "[I" ∈ ws0 := gwT1 (i := 57) (by decide +kernel) (by decide +kernel)
theorem wf_X7_30 : Cond.fieldLink RX7 30 "RentedLooks$Town" "clashing" "[I" ∈ ws0 := gwT1 (i := 59) (by decide +kernel) (by decide +kernel)
theorem wf_X7_33 : Cond.fieldLink RX7 33 "RentedLooks$Town" "hour" "[I" ∈ ws0 := gwT1 (i := 61) (by decide +kernel) (by decide +kernel)
theorem wf_X7_36 : Cond.fieldLink RX7 36 "RentedLooks$Town" "low" "[I" ∈ ws0 := gwT1 (i := 65) (by decide +kernel) (by decide +kernel)
theorem wf_X7_39 : Cond.fieldLink RX7 39 "RentedLooks$Town" "high" "[I" ∈ ws0 := gwT1 (i := 68) (by decide +kernel) (by decide +kernel)
theorem wf_X7_42 : Cond.fieldLink RX7 42 "RentedLooks$Town" "parts" "I" ∈ ws0 := gwT1 (i := 71) (by decide +kernel) (by decide +kernel)
theorem wf_X7_53 : Cond.fieldLink RX7 53 "RentedLooks$Town" "clashes" "I" ∈ ws0 := gwT1 (i := 76) (by decide +kernel) (by decide +kernel)
theorem wf_X7_50 : Cond.fieldLink RX7 50 "RentedLooks$Town" "scenes" "I" ∈ ws0 := gwT1 (i := 79) (by decide +kernel) (by decide +kernel)
theorem wc_X8_26 : Cond.classLink RX8 26 RX3 ∈ ws0 := gwT1 (i := 109) (by decide +kernel) (by decide +kernel)
theorem wn_X3 : Cond.instantiable RX3 6 ∈ ws0 := gwT1 (i := 110) (by decide +kernel) (by decide +kernel)
theorem wI_X3_init : Cond.instanceMethod yX3_init ∈ ws0 := gwT1 (i := 112) (by decide +kernel) (by decide +kernel)
theorem wC_X3_init : Cond.code yX3_init cX3_init 3 none ∈ ws0 := gwT1 (i := 113) (by decide +kernel) (by decide +kernel)
theorem wm_X3_3 : Cond.methodLink RX3 3 objectInit ∈ ws0 := gwT1 (i := 114) (by decide +kernel) (by decide +kernel)
theorem wf_X3_9 : Cond.fieldLink RX3 9 "RentedLooks$Reader" "text" "LRentedLooks$Text;" ∈ ws0 := gwT1 (i := 115) (by decide +kernel) (by decide +kernel)
theorem wf_X3_15 : Cond.fieldLink RX3 15 "RentedLooks$Reader" "town" "LRentedLooks$Town;" ∈ ws0 := gwT1 (i := 116) (by decide +kernel) (by decide +kernel)
theorem wf_X3_28 : Cond.fieldLink RX3 28 "RentedLooks$Reader" "at" "I" ∈ ws0 := gwT1 (i := 117) (by decide +kernel) (by decide +kernel)
theorem wf_X3_47 : Cond.fieldLink RX3 47 "RentedLooks$Reader" "start" "I" ∈ ws0 := gwT1 (i := 118) (by decide +kernel) (by decide +kernel)
theorem wf_X3_31 : Cond.fieldLink RX3 31 "RentedLooks$Reader" "faultNumber" "I" ∈ ws0 := gwT1 (i := 119) (by decide +kernel) (by decide +kernel)
theorem wf_X3_19 : Cond.fieldLink RX3 19 "RentedLooks$Reader" "place" "I" ∈ ws0 := gwT1 (i := 120) (by decide +kernel) (by decide +kernel)
theorem wc_X8_35 : Cond.classLink RX8 35 RX5 ∈ ws0 := gwT1 (i := 135) (by decide +kernel) (by decide +kernel)
theorem wn_X5 : Cond.instantiable RX5 7 ∈ ws0 := gwT1 (i := 136) (by decide +kernel) (by decide +kernel)
theorem wI_X5_init : Cond.instanceMethod yX5_init ∈ ws0 := gwT1 (i := 138) (by decide +kernel) (by decide +kernel)
theorem wC_X5_init : Cond.code yX5_init cX5_init 1 none ∈ ws0 := gwT1 (i := 139) (by decide +kernel) (by decide +kernel)
theorem wm_X5_3 : Cond.methodLink RX5 3 objectInit ∈ ws0 := gwT1 (i := 140) (by decide +kernel) (by decide +kernel)
theorem wf_X5_9 : Cond.fieldLink RX5 9 "RentedLooks$State" "widths" "[I" ∈ ws0 := gwT1 (i := 141) (by decide +kernel) (by decide +kernel)
theorem wf_X5_15 : Cond.fieldLink RX5 15 "RentedLooks$State" "prices" "[I" ∈ ws0 := gwT1 (i := 144) (by decide +kernel) (by decide +kernel)
theorem wf_X5_18 : Cond.fieldLink RX5 18 "RentedLooks$State" "worn" "[I" ∈ ws0 := gwT1 (i := 147) (by decide +kernel) (by decide +kernel)
theorem wf_X5_33 : Cond.fieldLink RX5 33 "RentedLooks$State" "spent" "I" ∈ ws0 := gwT1 (i := 149) (by decide +kernel) (by decide +kernel)
theorem wf_X5_37 : Cond.fieldLink RX5 37 "RentedLooks$State" "days" "I" ∈ ws0 := gwT1 (i := 151) (by decide +kernel) (by decide +kernel)
theorem wf_X5_40 : Cond.fieldLink RX5 40 "RentedLooks$State" "lawNow" "I" ∈ ws0 := gwT1 (i := 153) (by decide +kernel) (by decide +kernel)
theorem wf_X5_43 : Cond.fieldLink RX5 43 "RentedLooks$State" "seedNow" "I" ∈ ws0 := gwT1 (i := 155) (by decide +kernel) (by decide +kernel)
theorem wc_X8_52 : Cond.classLink RX8 52 RX2 ∈ ws0 := gwT1 (i := 172) (by decide +kernel) (by decide +kernel)
theorem wn_X2 : Cond.instantiable RX2 6 ∈ ws0 := gwT1 (i := 173) (by decide +kernel) (by decide +kernel)
theorem wI_X2_init : Cond.instanceMethod yX2_init ∈ ws0 := gwT1 (i := 175) (by decide +kernel) (by decide +kernel)
theorem wC_X2_init : Cond.code yX2_init cX2_init 3 none ∈ ws0 := gwT1 (i := 176) (by decide +kernel) (by decide +kernel)
theorem wm_X2_3 : Cond.methodLink RX2 3 objectInit ∈ ws0 := gwT1 (i := 177) (by decide +kernel) (by decide +kernel)
theorem wf_X2_21 : Cond.fieldLink RX2 21 "RentedLooks$Looks" "town" "LRentedLooks$Town;" ∈ ws0 := gwT1 (i := 178) (by decide +kernel) (by decide +kernel)
theorem wf_X2_25 : Cond.fieldLink RX2 25 "RentedLooks$Looks" "state" "LRentedLooks$State;" ∈ ws0 := gwT1 (i := 179) (by decide +kernel) (by decide +kernel)
theorem wf_X2_11 : Cond.fieldLink RX2 11 "RentedLooks$Looks" "brows" "[I" ∈ ws0 := gwT1 (i := 180) (by decide +kernel) (by decide +kernel)
theorem wf_X2_15 : Cond.fieldLink RX2 15 "RentedLooks$Looks" "eyes" "[I" ∈ ws0 := gwT1 (i := 181) (by decide +kernel) (by decide +kernel)
theorem wf_X2_18 : Cond.fieldLink RX2 18 "RentedLooks$Looks" "mouths" "[I" ∈ ws0 := gwT1 (i := 182) (by decide +kernel) (by decide +kernel)
theorem wf_X2_29 : Cond.fieldLink RX2 29 "RentedLooks$Looks" "count" "I" ∈ ws0 := gwT1 (i := 183) (by decide +kernel) (by decide +kernel)
theorem wa_boolean : Cond.arrayClass .boolean ∈ ws0 := gwT1 (i := 200) (by decide +kernel) (by decide +kernel)
theorem wc_X8_61 : Cond.classLink RX8 61 RX1 ∈ ws0 := gwT1 (i := 201) (by decide +kernel) (by decide +kernel)
theorem wn_X1 : Cond.instantiable RX1 9 ∈ ws0 := gwT1 (i := 202) (by decide +kernel) (by decide +kernel)
theorem wI_X1_init : Cond.instanceMethod yX1_init ∈ ws0 := gwT1 (i := 204) (by decide +kernel) (by decide +kernel)
theorem wC_X1_init : Cond.code yX1_init cX1_init 3 none ∈ ws0 := gwT1 (i := 205) (by decide +kernel) (by decide +kernel)
theorem wm_X1_3 : Cond.methodLink RX1 3 objectInit ∈ ws0 := gwT1 (i := 206) (by decide +kernel) (by decide +kernel)
theorem wc_X1_15 : Cond.classLink RX1 15 "[[I" ∈ ws0 := gwT1 (i := 207) (by decide +kernel) (by decide +kernel)
theorem wf_X1_32 : Cond.fieldLink RX1 32 "RentedLooks$Dresser" "town" "LRentedLooks$Town;" ∈ ws0 := gwT1 (i := 209) (by decide +kernel) (by decide +kernel)
theorem wf_X1_36 : Cond.fieldLink RX1 36 "RentedLooks$Dresser" "looks" "LRentedLooks$Looks;" ∈ ws0 := gwT1 (i := 210) (by decide +kernel) (by decide +kernel)
theorem wf_X1_9 : Cond.fieldLink RX1 9 "RentedLooks$Dresser" "setCount" "[I" ∈ ws0 := gwT1 (i := 211) (by decide +kernel) (by decide +kernel)
theorem wf_X1_17 : Cond.fieldLink RX1 17 "RentedLooks$Dresser" "sets" "[[I" ∈ ws0 := gwT1 (i := 212) (by decide +kernel) (by decide +kernel)
theorem wf_X1_20 : Cond.fieldLink RX1 20 "RentedLooks$Dresser" "codes" "[[I" ∈ ws0 := gwT1 (i := 213) (by decide +kernel) (by decide +kernel)
theorem wf_X1_23 : Cond.fieldLink RX1 23 "RentedLooks$Dresser" "costs" "[[I" ∈ ws0 := gwT1 (i := 214) (by decide +kernel) (by decide +kernel)
theorem wf_X1_26 : Cond.fieldLink RX1 26 "RentedLooks$Dresser" "worn" "[I" ∈ ws0 := gwT1 (i := 215) (by decide +kernel) (by decide +kernel)
theorem wf_X1_29 : Cond.fieldLink RX1 29 "RentedLooks$Dresser" "lookOf" "[I" ∈ ws0 := gwT1 (i := 217) (by decide +kernel) (by decide +kernel)
theorem wf_X1_91 : Cond.fieldLink RX1 91 "RentedLooks$Dresser" "total" "I" ∈ ws0 := gwT1 (i := 219) (by decide +kernel) (by decide +kernel)
theorem wc_X8_70 : Cond.classLink RX8 70 RX4 ∈ ws0 := gwT2 (i := 0) (by decide +kernel) (by decide +kernel)
theorem wn_X4 : Cond.instantiable RX4 5 ∈ ws0 := gwT2 (i := 1) (by decide +kernel) (by decide +kernel)
theorem wI_X4_init : Cond.instanceMethod yX4_init ∈ ws0 := gwT2 (i := 3) (by decide +kernel) (by decide +kernel)
theorem wC_X4_init : Cond.code yX4_init cX4_init 3 none ∈ ws0 := gwT2 (i := 4) (by decide +kernel) (by decide +kernel)
theorem wm_X4_3 : Cond.methodLink RX4 3 objectInit ∈ ws0 := gwT2 (i := 5) (by decide +kernel) (by decide +kernel)
theorem wf_X4_18 : Cond.fieldLink RX4 18 "RentedLooks$Sightings" "town" "LRentedLooks$Town;" ∈ ws0 := gwT2 (i := 6) (by decide +kernel) (by decide +kernel)
theorem wf_X4_22 : Cond.fieldLink RX4 22 "RentedLooks$Sightings" "looks" "LRentedLooks$Looks;" ∈ ws0 := gwT2 (i := 7) (by decide +kernel) (by decide +kernel)
theorem wf_X4_9 : Cond.fieldLink RX4 9 "RentedLooks$Sightings" "hours" "[I" ∈ ws0 := gwT2 (i := 8) (by decide +kernel) (by decide +kernel)
theorem wf_X4_15 : Cond.fieldLink RX4 15 "RentedLooks$Sightings" "widths" "[I" ∈ ws0 := gwT2 (i := 9) (by decide +kernel) (by decide +kernel)
theorem wf_X4_26 : Cond.fieldLink RX4 26 "RentedLooks$Sightings" "count" "I" ∈ ws0 := gwT2 (i := 10) (by decide +kernel) (by decide +kernel)
theorem wc_X8_77 : Cond.classLink RX8 77 RX0 ∈ ws0 := gwT2 (i := 23) (by decide +kernel) (by decide +kernel)
theorem wn_X0 : Cond.instantiable RX0 4 ∈ ws0 := gwT2 (i := 24) (by decide +kernel) (by decide +kernel)
theorem wI_X0_init : Cond.instanceMethod yX0_init ∈ ws0 := gwT2 (i := 26) (by decide +kernel) (by decide +kernel)
theorem wC_X0_init : Cond.code yX0_init cX0_init 2 none ∈ ws0 := gwT2 (i := 27) (by decide +kernel) (by decide +kernel)
theorem wm_X0_3 : Cond.methodLink RX0 3 objectInit ∈ ws0 := gwT2 (i := 28) (by decide +kernel) (by decide +kernel)
theorem wf_X0_18 : Cond.fieldLink RX0 18 "RentedLooks$Book" "town" "LRentedLooks$Town;" ∈ ws0 := gwT2 (i := 29) (by decide +kernel) (by decide +kernel)
theorem wf_X0_9 : Cond.fieldLink RX0 9 "RentedLooks$Book" "hours" "[I" ∈ ws0 := gwT2 (i := 30) (by decide +kernel) (by decide +kernel)
theorem wf_X0_15 : Cond.fieldLink RX0 15 "RentedLooks$Book" "parts" "[I" ∈ ws0 := gwT2 (i := 31) (by decide +kernel) (by decide +kernel)
theorem wf_X0_22 : Cond.fieldLink RX0 22 "RentedLooks$Book" "count" "I" ∈ ws0 := gwT2 (i := 32) (by decide +kernel) (by decide +kernel)
theorem wf_X8_10 : Cond.fieldLink RX8 10 "RentedLooks" "theText" "LRentedLooks$Text;" ∈ ws0 := gwT2 (i := 43) (by decide +kernel) (by decide +kernel)
theorem wf_X8_31 : Cond.fieldLink RX8 31 "RentedLooks" "reader" "LRentedLooks$Reader;" ∈ ws0 := gwT2 (i := 44) (by decide +kernel) (by decide +kernel)
theorem wf_X8_19 : Cond.fieldLink RX8 19 "RentedLooks" "theTown" "LRentedLooks$Town;" ∈ ws0 := gwT2 (i := 45) (by decide +kernel) (by decide +kernel)
theorem wf_X8_23 : Cond.fieldLink RX8 23 "RentedLooks" "toldTown" "LRentedLooks$Town;" ∈ ws0 := gwT2 (i := 46) (by decide +kernel) (by decide +kernel)
theorem wf_X8_38 : Cond.fieldLink RX8 38 "RentedLooks" "state" "LRentedLooks$State;" ∈ ws0 := gwT2 (i := 47) (by decide +kernel) (by decide +kernel)
theorem wf_X8_42 : Cond.fieldLink RX8 42 "RentedLooks" "firstImage" "LRentedLooks$State;" ∈ ws0 := gwT2 (i := 48) (by decide +kernel) (by decide +kernel)
theorem wf_X8_45 : Cond.fieldLink RX8 45 "RentedLooks" "secondImage" "LRentedLooks$State;" ∈ ws0 := gwT2 (i := 49) (by decide +kernel) (by decide +kernel)
theorem wf_X8_48 : Cond.fieldLink RX8 48 "RentedLooks" "isKept" "[Z" ∈ ws0 := gwT2 (i := 50) (by decide +kernel) (by decide +kernel)
theorem wf_X8_57 : Cond.fieldLink RX8 57 "RentedLooks" "looks" "LRentedLooks$Looks;" ∈ ws0 := gwT2 (i := 51) (by decide +kernel) (by decide +kernel)
theorem wf_X8_66 : Cond.fieldLink RX8 66 "RentedLooks" "dresser" "LRentedLooks$Dresser;" ∈ ws0 := gwT2 (i := 52) (by decide +kernel) (by decide +kernel)
theorem wf_X8_73 : Cond.fieldLink RX8 73 "RentedLooks" "sightings" "LRentedLooks$Sightings;" ∈ ws0 := gwT2 (i := 53) (by decide +kernel) (by decide +kernel)
theorem wf_X8_82 : Cond.fieldLink RX8 82 "RentedLooks" "theBook" "LRentedLooks$Book;" ∈ ws0 := gwT2 (i := 54) (by decide +kernel) (by decide +kernel)
theorem wf_X8_86 : Cond.fieldLink RX8 86 "RentedLooks" "raisedPrices" "[I" ∈ ws0 := gwT2 (i := 55) (by decide +kernel) (by decide +kernel)
theorem wf_X8_90 : Cond.fieldLink RX8 90 "RentedLooks" "faultPlace" "I" ∈ ws0 := gwT2 (i := 56) (by decide +kernel) (by decide +kernel)
theorem wm_L_15 : Cond.methodLink RL 15 yX8_feed ∈ ws0 := gwT2 (i := 86) (by decide +kernel) (by decide +kernel)
theorem wI_X8_feed : Cond.instanceMethod yX8_feed ∈ ws0 := gwT2 (i := 87) (by decide +kernel) (by decide +kernel)
theorem wV_X8_feed : Cond.selects RX8 yX8_feed yX8_feed ∈ ws0 := gwT2 (i := 88) (by decide +kernel) (by decide +kernel)
theorem wC_X8_feed : Cond.code yX8_feed cX8_feed 5 (some .int) ∈ ws0 := gwT2 (i := 89) (by decide +kernel) (by decide +kernel)
theorem wk_X8_94 : Cond.constant RX8 94 (-1000000002) ∈ ws0 := gwT2 (i := 90) (by decide +kernel) (by decide +kernel)
theorem wk_X8_98 : Cond.constant RX8 98 (-1000000004) ∈ ws0 := gwT2 (i := 91) (by decide +kernel) (by decide +kernel)
theorem wI_X6_add : Cond.instanceMethod yX6_add ∈ ws0 := gwT2 (i := 94) (by decide +kernel) (by decide +kernel)
theorem wC_X6_add : Cond.code yX6_add cX6_add 2 none ∈ ws0 := gwT2 (i := 95) (by decide +kernel) (by decide +kernel)
theorem wm_L_20 : Cond.methodLink RL 20 yX8_town ∈ ws0 := gwT2 (i := 96) (by decide +kernel) (by decide +kernel)
theorem wI_X8_town : Cond.instanceMethod yX8_town ∈ ws0 := gwT2 (i := 97) (by decide +kernel) (by decide +kernel)
theorem wV_X8_town : Cond.selects RX8 yX8_town yX8_town ∈ ws0 := gwT2 (i := 98) (by decide +kernel) (by decide +kernel)
theorem wC_X8_town : Cond.code yX8_town cX8_town 2 (some .int) ∈ ws0 := gwT2 (i := 99) (by decide +kernel) (by decide +kernel)
theorem wI_X3_readTown : Cond.instanceMethod yX3_readTown ∈ ws0 := gwT2 (i := 102) (by decide +kernel) (by decide +kernel)
theorem wC_X3_readTown : Cond.code yX3_readTown cX3_readTown 2 (some .int) ∈ ws0 := gwT2 (i := 103) (by decide +kernel) (by decide +kernel)
theorem wI_X7_clear : Cond.instanceMethod yX7_clear ∈ ws0 := gwT2 (i := 106) (by decide +kernel) (by decide +kernel)
theorem wC_X7_clear : Cond.code yX7_clear cX7_clear 1 none ∈ ws0 := gwT2 (i := 107) (by decide +kernel) (by decide +kernel)
theorem wm_X3_34 : Cond.methodLink RX3 34 yX3_skipBlanks ∈ ws0 := gwT2 (i := 108) (by decide +kernel) (by decide +kernel)
theorem wI_X3_skipBlanks : Cond.instanceMethod yX3_skipBlanks ∈ ws0 := gwT2 (i := 110) (by decide +kernel) (by decide +kernel)
theorem wC_X3_skipBlanks : Cond.code yX3_skipBlanks cX3_skipBlanks 1 none ∈ ws0 := gwT2 (i := 111) (by decide +kernel) (by decide +kernel)
theorem wI_X6_byteAt : Cond.instanceMethod yX6_byteAt ∈ ws0 := gwT2 (i := 114) (by decide +kernel) (by decide +kernel)
theorem wC_X6_byteAt : Cond.code yX6_byteAt cX6_byteAt 2 (some .int) ∈ ws0 := gwT2 (i := 115) (by decide +kernel) (by decide +kernel)
theorem wm_X3_42 : Cond.methodLink RX3 42 yX3_readWord ∈ ws0 := gwT2 (i := 116) (by decide +kernel) (by decide +kernel)
theorem wI_X3_readWord : Cond.instanceMethod yX3_readWord ∈ ws0 := gwT2 (i := 118) (by decide +kernel) (by decide +kernel)
theorem wC_X3_readWord : Cond.code yX3_readWord cX3_readWord 1 none ∈ ws0 := gwT2 (i := 119) (by decide +kernel) (by decide +kernel)
theorem wI_X6_isLetter : Cond.instanceMethod yX6_isLetter ∈ ws0 := gwT2 (i := 122) (by decide +kernel) (by decide +kernel)
theorem wC_X6_isLetter : Cond.code yX6_isLetter cX6_isLetter 3 (some .boolean) ∈ ws0 := gwT2 (i := 123) (by decide +kernel) (by decide +kernel)
theorem wm_X6_19 : Cond.methodLink RX6 19 yX6_byteAt ∈ ws0 := gwT2 (i := 124) (by decide +kernel) (by decide +kernel)
theorem wI_X6_stands : Cond.instanceMethod yX6_stands ∈ ws0 := gwT2 (i := 128) (by decide +kernel) (by decide +kernel)
theorem wC_X6_stands : Cond.code yX6_stands cX6_stands 5 (some .boolean) ∈ ws0 := gwT2 (i := 129) (by decide +kernel) (by decide +kernel)
theorem wm_X6_23 : Cond.methodLink RX6 23 yJ0_length_8abf5 ∈ ws0 := gwT2 (i := 130) (by decide +kernel) (by decide +kernel)
theorem wI_J0_length_8abf5 : Cond.instanceMethod yJ0_length_8abf5 ∈ ws0 := gwT2 (i := 131) (by decide +kernel) (by decide +kernel)
theorem wV_J0_length_8abf5 : Cond.selects RJ0 yJ0_length_8abf5 yJ0_length_8abf5 ∈ ws0 := gwT2 (i := 132) (by decide +kernel) (by decide +kernel)
theorem wC_J0_length_8abf5 : Cond.code yJ0_length_8abf5 cJ0_length_8abf5 1 (some .int) ∈ ws0 := gwT2 (i := 133) (by decide +kernel) (by decide +kernel)
theorem wm_J0_335 : Cond.methodLink RJ0 335 yJ0_coder_7d493 ∈ ws0 := gwT2 (i := 134) (by decide +kernel) (by decide +kernel)
theorem wI_J0_coder_7d493 : Cond.instanceMethod yJ0_coder_7d493 ∈ ws0 := gwT2 (i := 135) (by decide +kernel) (by decide +kernel)
theorem wV_J0_coder_7d493 : Cond.selects RJ0 yJ0_coder_7d493 yJ0_coder_7d493 ∈ ws0 := gwT2 (i := 136) (by decide +kernel) (by decide +kernel)
theorem wC_J0_coder_7d493 : Cond.code yJ0_coder_7d493 cJ0_coder_7d493 1 (some .byte) ∈ ws0 := gwT2 (i := 137) (by decide +kernel) (by decide +kernel)
theorem wf_J0_38 : Cond.fieldLink RJ0 38 "java/lang/String" "COMPACT_STRINGS" "Z" ∈ ws0 := gwT2 (i := 138) (by decide +kernel) (by decide +kernel)
theorem wm_X6_28 : Cond.methodLink RX6 28 yJ0_charAt_5068e ∈ ws0 := gwT2 (i := 140) (by decide +kernel) (by decide +kernel)
theorem wI_J0_charAt_5068e : Cond.instanceMethod yJ0_charAt_5068e ∈ ws0 := gwT2 (i := 141) (by decide +kernel) (by decide +kernel)
theorem wV_J0_charAt_5068e : Cond.selects RJ0 yJ0_charAt_5068e yJ0_charAt_5068e ∈ ws0 := gwT2 (i := 142) (by decide +kernel) (by decide +kernel)
theorem wC_J0_charAt_5068e : Cond.code yJ0_charAt_5068e cJ0_charAt_5068e 2 (some .char) ∈ ws0 := gwT2 (i := 143) (by decide +kernel) (by decide +kernel)
theorem wm_J0_492 : Cond.methodLink RJ0 492 yJ0_isLatin1_aae02 ∈ ws0 := gwT2 (i := 144) (by decide +kernel) (by decide +kernel)
theorem wI_J0_isLatin1_aae02 : Cond.instanceMethod yJ0_isLatin1_aae02 ∈ ws0 := gwT2 (i := 145) (by decide +kernel) (by decide +kernel)
theorem wV_J0_isLatin1_aae02 : Cond.selects RJ0 yJ0_isLatin1_aae02 yJ0_isLatin1_aae02 ∈ ws0 := gwT2 (i := 146) (by decide +kernel) (by decide +kernel)
theorem wC_J0_isLatin1_aae02 : Cond.code yJ0_isLatin1_aae02 cJ0_isLatin1_aae02 1 (some .boolean) ∈ ws0 := gwT2 (i := 147) (by decide +kernel) (by decide +kernel)
theorem wm_J0_495 : Cond.methodLink RJ0 495 yJ1_charAt_3b067 ∈ ws0 := gwT2 (i := 148) (by decide +kernel) (by decide +kernel)
theorem wS_J1_charAt_3b067 : Cond.static yJ1_charAt_3b067 ∈ ws0 := gwT2 (i := 149) (by decide +kernel) (by decide +kernel)
theorem wC_J1_charAt_3b067 : Cond.code yJ1_charAt_3b067 cJ1_charAt_3b067 2 (some .char) ∈ ws0 := gwT2 (i := 150) (by decide +kernel) (by decide +kernel)
theorem wm_J1_9 : Cond.methodLink RJ1 9 yJ0_checkIndex_df160 ∈ ws0 := gwT2 (i := 151) (by decide +kernel) (by decide +kernel)
theorem wS_J0_checkIndex_df160 : Cond.static yJ0_checkIndex_df160 ∈ ws0 := gwT2 (i := 152) (by decide +kernel) (by decide +kernel)
theorem wC_J0_checkIndex_df160 : Cond.code yJ0_checkIndex_df160 cJ0_checkIndex_df160 2 none ∈ ws0 := gwT2 (i := 153) (by decide +kernel) (by decide +kernel)
theorem wf_J0_1053 : Cond.fieldLink RJ0 1053 "jdk/internal/util/Preconditions" "SIOOBE_FORMATTER" "Ljava/util/function/BiFunction;" ∈ ws0 := gwT2 (i := 154) (by decide +kernel) (by decide +kernel)
theorem wm_J0_1059 : Cond.methodLink RJ0 1059 yJ3_checkIndex_8e157 ∈ ws0 := gwT2 (i := 156) (by decide +kernel) (by decide +kernel)
theorem wS_J3_checkIndex_8e157 : Cond.static yJ3_checkIndex_8e157 ∈ ws0 := gwT2 (i := 157) (by decide +kernel) (by decide +kernel)
theorem wC_J3_checkIndex_8e157 : Cond.code yJ3_checkIndex_8e157 cJ3_checkIndex_8e157 3 (some .int) ∈ ws0 := gwT2 (i := 158) (by decide +kernel) (by decide +kernel)
theorem wm_J0_498 : Cond.methodLink RJ0 498 yJ2_charAt_3b067 ∈ ws0 := gwT2 (i := 159) (by decide +kernel) (by decide +kernel)
theorem wS_J2_charAt_3b067 : Cond.static yJ2_charAt_3b067 ∈ ws0 := gwT2 (i := 160) (by decide +kernel) (by decide +kernel)
theorem wC_J2_charAt_3b067 : Cond.code yJ2_charAt_3b067 cJ2_charAt_3b067 2 (some .char) ∈ ws0 := gwT2 (i := 161) (by decide +kernel) (by decide +kernel)
theorem wm_J2_67 : Cond.methodLink RJ2 67 yJ2_checkIndex_2214a ∈ ws0 := gwT2 (i := 162) (by decide +kernel) (by decide +kernel)
theorem wS_J2_checkIndex_2214a : Cond.static yJ2_checkIndex_2214a ∈ ws0 := gwT2 (i := 163) (by decide +kernel) (by decide +kernel)
theorem wC_J2_checkIndex_2214a : Cond.code yJ2_checkIndex_2214a cJ2_checkIndex_2214a 2 none ∈ ws0 := gwT2 (i := 164) (by decide +kernel) (by decide +kernel)
theorem wm_J2_48 : Cond.methodLink RJ2 48 yJ2_length_9d52b ∈ ws0 := gwT2 (i := 165) (by decide +kernel) (by decide +kernel)
theorem wS_J2_length_9d52b : Cond.static yJ2_length_9d52b ∈ ws0 := gwT2 (i := 166) (by decide +kernel) (by decide +kernel)
theorem wC_J2_length_9d52b : Cond.code yJ2_length_9d52b cJ2_length_9d52b 1 (some .int) ∈ ws0 := gwT2 (i := 167) (by decide +kernel) (by decide +kernel)
theorem wm_J2_414 : Cond.methodLink RJ2 414 yJ0_checkIndex_df160 ∈ ws0 := gwT2 (i := 168) (by decide +kernel) (by decide +kernel)
theorem wm_J2_71 : Cond.methodLink RJ2 71 yJ2_getChar_3b067 ∈ ws0 := gwT2 (i := 169) (by decide +kernel) (by decide +kernel)
theorem wS_J2_getChar_3b067 : Cond.static yJ2_getChar_3b067 ∈ ws0 := gwT2 (i := 170) (by decide +kernel) (by decide +kernel)
theorem wC_J2_getChar_3b067 : Cond.code yJ2_getChar_3b067 cJ2_getChar_3b067 2 (some .char) ∈ ws0 := gwT2 (i := 171) (by decide +kernel) (by decide +kernel)
theorem wf_J2_44 : Cond.fieldLink RJ2 44 "java/lang/StringUTF16" "$assertionsDisabled" "Z" ∈ ws0 := gwT2 (i := 172) (by decide +kernel) (by decide +kernel)
theorem wf_J2_59 : Cond.fieldLink RJ2 59 "java/lang/StringUTF16" "HI_BYTE_SHIFT" "I" ∈ ws0 := gwT2 (i := 174) (by decide +kernel) (by decide +kernel)
theorem wf_J2_63 : Cond.fieldLink RJ2 63 "java/lang/StringUTF16" "LO_BYTE_SHIFT" "I" ∈ ws0 := gwT2 (i := 176) (by decide +kernel) (by decide +kernel)
theorem wm_X3_54 : Cond.methodLink RX3 54 yX3_readPart ∈ ws0 := gwT2 (i := 178) (by decide +kernel) (by decide +kernel)
theorem wI_X3_readPart : Cond.instanceMethod yX3_readPart ∈ ws0 := gwT2 (i := 180) (by decide +kernel) (by decide +kernel)
theorem wC_X3_readPart : Cond.code yX3_readPart cX3_readPart 7 none ∈ ws0 := gwT2 (i := 181) (by decide +kernel) (by decide +kernel)
theorem wm_X3_67 : Cond.methodLink RX3 67 yX3_fail ∈ ws0 := gwT2 (i := 182) (by decide +kernel) (by decide +kernel)
theorem wI_X3_fail : Cond.instanceMethod yX3_fail ∈ ws0 := gwT2 (i := 184) (by decide +kernel) (by decide +kernel)
theorem wC_X3_fail : Cond.code yX3_fail cX3_fail 3 none ∈ ws0 := gwT2 (i := 185) (by decide +kernel) (by decide +kernel)
theorem wm_X3_74 : Cond.methodLink RX3 74 yX3_readKind ∈ ws0 := gwT2 (i := 186) (by decide +kernel) (by decide +kernel)
theorem wI_X3_readKind : Cond.instanceMethod yX3_readKind ∈ ws0 := gwT2 (i := 188) (by decide +kernel) (by decide +kernel)
theorem wC_X3_readKind : Cond.code yX3_readKind cX3_readKind 1 (some .int) ∈ ws0 := gwT2 (i := 189) (by decide +kernel) (by decide +kernel)
theorem wm_X3_78 : Cond.methodLink RX3 78 yX3_readNumber ∈ ws0 := gwT2 (i := 193) (by decide +kernel) (by decide +kernel)
theorem wI_X3_readNumber : Cond.instanceMethod yX3_readNumber ∈ ws0 := gwT2 (i := 195) (by decide +kernel) (by decide +kernel)
theorem wC_X3_readNumber : Cond.code yX3_readNumber cX3_readNumber 3 (some .int) ∈ ws0 := gwT2 (i := 196) (by decide +kernel) (by decide +kernel)
theorem wI_X6_isFigure : Cond.instanceMethod yX6_isFigure ∈ ws0 := gwT2 (i := 199) (by decide +kernel) (by decide +kernel)
theorem wC_X6_isFigure : Cond.code yX6_isFigure cX6_isFigure 3 (some .boolean) ∈ ws0 := gwT2 (i := 200) (by decide +kernel) (by decide +kernel)
theorem wm_X3_82 : Cond.methodLink RX3 82 yX3_readEnd ∈ ws0 := gwT2 (i := 201) (by decide +kernel) (by decide +kernel)
theorem wI_X3_readEnd : Cond.instanceMethod yX3_readEnd ∈ ws0 := gwT2 (i := 203) (by decide +kernel) (by decide +kernel)
theorem wC_X3_readEnd : Cond.code yX3_readEnd cX3_readEnd 1 none ∈ ws0 := gwT2 (i := 204) (by decide +kernel) (by decide +kernel)
theorem wI_X7_addPart : Cond.instanceMethod yX7_addPart ∈ ws0 := gwT2 (i := 207) (by decide +kernel) (by decide +kernel)
theorem wC_X7_addPart : Cond.code yX7_addPart cX7_addPart 5 none ∈ ws0 := gwT2 (i := 208) (by decide +kernel) (by decide +kernel)
theorem wI_X7_setHoursOfLatest : Cond.instanceMethod yX7_setHoursOfLatest ∈ ws0 := gwT2 (i := 211) (by decide +kernel) (by decide +kernel)
theorem wC_X7_setHoursOfLatest : Cond.code yX7_setHoursOfLatest cX7_setHoursOfLatest 3 none ∈ ws0 := gwT2 (i := 212) (by decide +kernel) (by decide +kernel)
theorem wm_X7_46 : Cond.methodLink RX7 46 yX7_hasPart ∈ ws0 := gwT2 (i := 213) (by decide +kernel) (by decide +kernel)
theorem wI_X7_hasPart : Cond.instanceMethod yX7_hasPart ∈ ws0 := gwT2 (i := 215) (by decide +kernel) (by decide +kernel)
theorem wC_X7_hasPart : Cond.code yX7_hasPart cX7_hasPart 2 (some .boolean) ∈ ws0 := gwT2 (i := 216) (by decide +kernel) (by decide +kernel)
theorem wm_X3_59 : Cond.methodLink RX3 59 yX3_readClash ∈ ws0 := gwT2 (i := 218) (by decide +kernel) (by decide +kernel)
theorem wI_X3_readClash : Cond.instanceMethod yX3_readClash ∈ ws0 := gwT2 (i := 220) (by decide +kernel) (by decide +kernel)
theorem wC_X3_readClash : Cond.code yX3_readClash cX3_readClash 3 none ∈ ws0 := gwT2 (i := 221) (by decide +kernel) (by decide +kernel)
theorem wI_X7_isClash : Cond.instanceMethod yX7_isClash ∈ ws0 := gwT2 (i := 224) (by decide +kernel) (by decide +kernel)
theorem wC_X7_isClash : Cond.code yX7_isClash cX7_isClash 3 (some .boolean) ∈ ws0 := gwT2 (i := 225) (by decide +kernel) (by decide +kernel)
theorem wS_X8_has : Cond.static yX8_has ∈ ws0 := gwT2 (i := 227) (by decide +kernel) (by decide +kernel)
theorem wC_X8_has : Cond.code yX8_has cX8_has 2 (some .boolean) ∈ ws0 := gwT2 (i := 228) (by decide +kernel) (by decide +kernel)
theorem wI_X7_addClash : Cond.instanceMethod yX7_addClash ∈ ws0 := gwT2 (i := 231) (by decide +kernel) (by decide +kernel)
theorem wC_X7_addClash : Cond.code yX7_addClash cX7_addClash 3 none ∈ ws0 := gwT2 (i := 232) (by decide +kernel) (by decide +kernel)
theorem wm_X3_64 : Cond.methodLink RX3 64 yX3_readScene ∈ ws0 := gwT2 (i := 234) (by decide +kernel) (by decide +kernel)
theorem wI_X3_readScene : Cond.instanceMethod yX3_readScene ∈ ws0 := gwT2 (i := 236) (by decide +kernel) (by decide +kernel)
theorem wC_X3_readScene : Cond.code yX3_readScene cX3_readScene 4 none ∈ ws0 := gwT2 (i := 237) (by decide +kernel) (by decide +kernel)
theorem wI_X7_addScene : Cond.instanceMethod yX7_addScene ∈ ws0 := gwT3 (i := 0) (by decide +kernel) (by decide +kernel)
theorem wC_X7_addScene : Cond.code yX7_addScene cX7_addScene 4 none ∈ ws0 := gwT3 (i := 1) (by decide +kernel) (by decide +kernel)
theorem wI_X7_copyFrom : Cond.instanceMethod yX7_copyFrom ∈ ws0 := gwT3 (i := 4) (by decide +kernel) (by decide +kernel)
theorem wC_X7_copyFrom : Cond.code yX7_copyFrom cX7_copyFrom 2 none ∈ ws0 := gwT3 (i := 5) (by decide +kernel) (by decide +kernel)
theorem wS_X8_copyRow : Cond.static yX8_copyRow ∈ ws0 := gwT3 (i := 7) (by decide +kernel) (by decide +kernel)
theorem wC_X8_copyRow : Cond.code yX8_copyRow cX8_copyRow 4 none ∈ ws0 := gwT3 (i := 8) (by decide +kernel) (by decide +kernel)
theorem wm_X8_271 : Cond.methodLink RX8 271 yJ9_min_7cf53 ∈ ws0 := gwT3 (i := 9) (by decide +kernel) (by decide +kernel)
theorem wS_J9_min_7cf53 : Cond.static yJ9_min_7cf53 ∈ ws0 := gwT3 (i := 10) (by decide +kernel) (by decide +kernel)
theorem wC_J9_min_7cf53 : Cond.code yJ9_min_7cf53 cJ9_min_7cf53 2 (some .int) ∈ ws0 := gwT3 (i := 11) (by decide +kernel) (by decide +kernel)
theorem wI_X5_beginIn : Cond.instanceMethod yX5_beginIn ∈ ws0 := gwT3 (i := 14) (by decide +kernel) (by decide +kernel)
theorem wC_X5_beginIn : Cond.code yX5_beginIn cX5_beginIn 3 none ∈ ws0 := gwT3 (i := 15) (by decide +kernel) (by decide +kernel)
theorem wI_X2_build : Cond.instanceMethod yX2_build ∈ ws0 := gwT3 (i := 19) (by decide +kernel) (by decide +kernel)
theorem wC_X2_build : Cond.code yX2_build cX2_build 4 none ∈ ws0 := gwT3 (i := 20) (by decide +kernel) (by decide +kernel)
theorem wm_X2_38 : Cond.methodLink RX2 38 yX2_isLook ∈ ws0 := gwT3 (i := 21) (by decide +kernel) (by decide +kernel)
theorem wI_X2_isLook : Cond.instanceMethod yX2_isLook ∈ ws0 := gwT3 (i := 23) (by decide +kernel) (by decide +kernel)
theorem wC_X2_isLook : Cond.code yX2_isLook cX2_isLook 4 (some .boolean) ∈ ws0 := gwT3 (i := 24) (by decide +kernel) (by decide +kernel)
theorem wI_X7_isOfKind : Cond.instanceMethod yX7_isOfKind ∈ ws0 := gwT3 (i := 27) (by decide +kernel) (by decide +kernel)
theorem wC_X7_isOfKind : Cond.code yX7_isOfKind cX7_isOfKind 3 (some .boolean) ∈ ws0 := gwT3 (i := 28) (by decide +kernel) (by decide +kernel)
theorem wa_byte : Cond.arrayClass .byte ∈ ws0 := gwT3 (i := 30) (by decide +kernel) (by decide +kernel)
theorem wm_L_25 : Cond.methodLink RL 25 yX8_fault ∈ ws0 := gwT3 (i := 31) (by decide +kernel) (by decide +kernel)
theorem wI_X8_fault : Cond.instanceMethod yX8_fault ∈ ws0 := gwT3 (i := 32) (by decide +kernel) (by decide +kernel)
theorem wV_X8_fault : Cond.selects RX8 yX8_fault yX8_fault ∈ ws0 := gwT3 (i := 33) (by decide +kernel) (by decide +kernel)
theorem wC_X8_fault : Cond.code yX8_fault cX8_fault 1 (some .int) ∈ ws0 := gwT3 (i := 34) (by decide +kernel) (by decide +kernel)
theorem wm_L_29 : Cond.methodLink RL 29 yX8_told ∈ ws0 := gwT3 (i := 35) (by decide +kernel) (by decide +kernel)
theorem wI_X8_told : Cond.instanceMethod yX8_told ∈ ws0 := gwT3 (i := 36) (by decide +kernel) (by decide +kernel)
theorem wV_X8_told : Cond.selects RX8 yX8_told yX8_told ∈ ws0 := gwT3 (i := 37) (by decide +kernel) (by decide +kernel)
theorem wC_X8_told : Cond.code yX8_told cX8_told 2 (some .int) ∈ ws0 := gwT3 (i := 38) (by decide +kernel) (by decide +kernel)
theorem wI_X2_widthsIf : Cond.instanceMethod yX2_widthsIf ∈ ws0 := gwT3 (i := 41) (by decide +kernel) (by decide +kernel)
theorem wC_X2_widthsIf : Cond.code yX2_widthsIf cX2_widthsIf 6 (some .int) ∈ ws0 := gwT3 (i := 42) (by decide +kernel) (by decide +kernel)
theorem wm_X2_61 : Cond.methodLink RX2 61 yX2_widthOf ∈ ws0 := gwT3 (i := 43) (by decide +kernel) (by decide +kernel)
theorem wI_X2_widthOf : Cond.instanceMethod yX2_widthOf ∈ ws0 := gwT3 (i := 45) (by decide +kernel) (by decide +kernel)
theorem wC_X2_widthOf : Cond.code yX2_widthOf cX2_widthOf 2 (some .int) ∈ ws0 := gwT3 (i := 46) (by decide +kernel) (by decide +kernel)
theorem wm_X2_54 : Cond.methodLink RX2 54 yX2_sumOf ∈ ws0 := gwT3 (i := 47) (by decide +kernel) (by decide +kernel)
theorem wI_X2_sumOf : Cond.instanceMethod yX2_sumOf ∈ ws0 := gwT3 (i := 49) (by decide +kernel) (by decide +kernel)
theorem wC_X2_sumOf : Cond.code yX2_sumOf cX2_sumOf 3 (some .int) ∈ ws0 := gwT3 (i := 50) (by decide +kernel) (by decide +kernel)
theorem wm_X2_69 : Cond.methodLink RX2 69 yX2_partsOf ∈ ws0 := gwT3 (i := 52) (by decide +kernel) (by decide +kernel)
theorem wI_X2_partsOf : Cond.instanceMethod yX2_partsOf ∈ ws0 := gwT3 (i := 54) (by decide +kernel) (by decide +kernel)
theorem wC_X2_partsOf : Cond.code yX2_partsOf cX2_partsOf 2 (some .int) ∈ ws0 := gwT3 (i := 55) (by decide +kernel) (by decide +kernel)
theorem wm_L_34 : Cond.methodLink RL 34 yX8_part ∈ ws0 := gwT3 (i := 57) (by decide +kernel) (by decide +kernel)
theorem wI_X8_part : Cond.instanceMethod yX8_part ∈ ws0 := gwT3 (i := 58) (by decide +kernel) (by decide +kernel)
theorem wV_X8_part : Cond.selects RX8 yX8_part yX8_part ∈ ws0 := gwT3 (i := 59) (by decide +kernel) (by decide +kernel)
theorem wC_X8_part : Cond.code yX8_part cX8_part 3 (some .int) ∈ ws0 := gwT3 (i := 60) (by decide +kernel) (by decide +kernel)
theorem wk_X8_150 : Cond.constant RX8 150 (-1000000001) ∈ ws0 := gwT3 (i := 62) (by decide +kernel) (by decide +kernel)
theorem wm_L_39 : Cond.methodLink RL 39 yX8_scene ∈ ws0 := gwT3 (i := 63) (by decide +kernel) (by decide +kernel)
theorem wI_X8_scene : Cond.instanceMethod yX8_scene ∈ ws0 := gwT3 (i := 64) (by decide +kernel) (by decide +kernel)
theorem wV_X8_scene : Cond.selects RX8 yX8_scene yX8_scene ∈ ws0 := gwT3 (i := 65) (by decide +kernel) (by decide +kernel)
theorem wC_X8_scene : Cond.code yX8_scene cX8_scene 3 (some .int) ∈ ws0 := gwT3 (i := 66) (by decide +kernel) (by decide +kernel)
theorem wI_X7_hasScene : Cond.instanceMethod yX7_hasScene ∈ ws0 := gwT3 (i := 69) (by decide +kernel) (by decide +kernel)
theorem wC_X7_hasScene : Cond.code yX7_hasScene cX7_hasScene 2 (some .boolean) ∈ ws0 := gwT3 (i := 70) (by decide +kernel) (by decide +kernel)
theorem wm_L_43 : Cond.methodLink RL 43 yX8_look ∈ ws0 := gwT3 (i := 71) (by decide +kernel) (by decide +kernel)
theorem wI_X8_look : Cond.instanceMethod yX8_look ∈ ws0 := gwT3 (i := 72) (by decide +kernel) (by decide +kernel)
theorem wV_X8_look : Cond.selects RX8 yX8_look yX8_look ∈ ws0 := gwT3 (i := 73) (by decide +kernel) (by decide +kernel)
theorem wC_X8_look : Cond.code yX8_look cX8_look 3 (some .int) ∈ ws0 := gwT3 (i := 74) (by decide +kernel) (by decide +kernel)
theorem wI_X2_priceOf : Cond.instanceMethod yX2_priceOf ∈ ws0 := gwT3 (i := 79) (by decide +kernel) (by decide +kernel)
theorem wC_X2_priceOf : Cond.code yX2_priceOf cX2_priceOf 2 (some .int) ∈ ws0 := gwT3 (i := 80) (by decide +kernel) (by decide +kernel)
theorem wm_L_47 : Cond.methodLink RL 47 yX8_law ∈ ws0 := gwT3 (i := 81) (by decide +kernel) (by decide +kernel)
theorem wI_X8_law : Cond.instanceMethod yX8_law ∈ ws0 := gwT3 (i := 82) (by decide +kernel) (by decide +kernel)
theorem wV_X8_law : Cond.selects RX8 yX8_law yX8_law ∈ ws0 := gwT3 (i := 83) (by decide +kernel) (by decide +kernel)
theorem wC_X8_law : Cond.code yX8_law cX8_law 3 (some .int) ∈ ws0 := gwT3 (i := 84) (by decide +kernel) (by decide +kernel)
theorem wm_L_51 : Cond.methodLink RL 51 yX8_price ∈ ws0 := gwT3 (i := 85) (by decide +kernel) (by decide +kernel)
theorem wI_X8_price : Cond.instanceMethod yX8_price ∈ ws0 := gwT3 (i := 86) (by decide +kernel) (by decide +kernel)
theorem wV_X8_price : Cond.selects RX8 yX8_price yX8_price ∈ ws0 := gwT3 (i := 87) (by decide +kernel) (by decide +kernel)
theorem wC_X8_price : Cond.code yX8_price cX8_price 4 (some .int) ∈ ws0 := gwT3 (i := 88) (by decide +kernel) (by decide +kernel)
theorem wm_L_55 : Cond.methodLink RL 55 yX8_width ∈ ws0 := gwT3 (i := 89) (by decide +kernel) (by decide +kernel)
theorem wI_X8_width : Cond.instanceMethod yX8_width ∈ ws0 := gwT3 (i := 90) (by decide +kernel) (by decide +kernel)
theorem wV_X8_width : Cond.selects RX8 yX8_width yX8_width ∈ ws0 := gwT3 (i := 91) (by decide +kernel) (by decide +kernel)
theorem wC_X8_width : Cond.code yX8_width cX8_width 4 (some .int) ∈ ws0 := gwT3 (i := 92) (by decide +kernel) (by decide +kernel)
theorem wm_L_59 : Cond.methodLink RL 59 yX8_cheapest ∈ ws0 := gwT3 (i := 93) (by decide +kernel) (by decide +kernel)
theorem wI_X8_cheapest : Cond.instanceMethod yX8_cheapest ∈ ws0 := gwT3 (i := 94) (by decide +kernel) (by decide +kernel)
theorem wV_X8_cheapest : Cond.selects RX8 yX8_cheapest yX8_cheapest ∈ ws0 := gwT3 (i := 95) (by decide +kernel) (by decide +kernel)
theorem wC_X8_cheapest : Cond.code yX8_cheapest cX8_cheapest 4 (some .int) ∈ ws0 := gwT3 (i := 96) (by decide +kernel) (by decide +kernel)
theorem wI_X2_cheapestFor : Cond.instanceMethod yX2_cheapestFor ∈ ws0 := gwT3 (i := 99) (by decide +kernel) (by decide +kernel)
theorem wC_X2_cheapestFor : Cond.code yX2_cheapestFor cX2_cheapestFor 5 (some .int) ∈ ws0 := gwT3 (i := 100) (by decide +kernel) (by decide +kernel)
theorem wI_X7_freeIn : Cond.instanceMethod yX7_freeIn ∈ ws0 := gwT3 (i := 104) (by decide +kernel) (by decide +kernel)
theorem wC_X7_freeIn : Cond.code yX7_freeIn cX7_freeIn 4 (some .int) ∈ ws0 := gwT3 (i := 105) (by decide +kernel) (by decide +kernel)
theorem wm_X7_64 : Cond.methodLink RX7 64 yX7_isFree ∈ ws0 := gwT3 (i := 106) (by decide +kernel) (by decide +kernel)
theorem wI_X7_isFree : Cond.instanceMethod yX7_isFree ∈ ws0 := gwT3 (i := 108) (by decide +kernel) (by decide +kernel)
theorem wC_X7_isFree : Cond.code yX7_isFree cX7_isFree 3 (some .boolean) ∈ ws0 := gwT3 (i := 109) (by decide +kernel) (by decide +kernel)
theorem wm_X2_90 : Cond.methodLink RX2 90 yX2_isFor ∈ ws0 := gwT3 (i := 110) (by decide +kernel) (by decide +kernel)
theorem wI_X2_isFor : Cond.instanceMethod yX2_isFor ∈ ws0 := gwT3 (i := 112) (by decide +kernel) (by decide +kernel)
theorem wC_X2_isFor : Cond.code yX2_isFor cX2_isFor 5 (some .boolean) ∈ ws0 := gwT3 (i := 113) (by decide +kernel) (by decide +kernel)
theorem wm_X2_93 : Cond.methodLink RX2 93 yX2_priceOf ∈ ws0 := gwT3 (i := 114) (by decide +kernel) (by decide +kernel)
theorem wm_L_63 : Cond.methodLink RL 63 yX8_dressing ∈ ws0 := gwT3 (i := 115) (by decide +kernel) (by decide +kernel)
theorem wI_X8_dressing : Cond.instanceMethod yX8_dressing ∈ ws0 := gwT3 (i := 116) (by decide +kernel) (by decide +kernel)
theorem wV_X8_dressing : Cond.selects RX8 yX8_dressing yX8_dressing ∈ ws0 := gwT3 (i := 117) (by decide +kernel) (by decide +kernel)
theorem wC_X8_dressing : Cond.code yX8_dressing cX8_dressing 2 (some .int) ∈ ws0 := gwT3 (i := 118) (by decide +kernel) (by decide +kernel)
theorem wm_X8_200 : Cond.methodLink RX8 200 yX8_dressBest ∈ ws0 := gwT3 (i := 119) (by decide +kernel) (by decide +kernel)
theorem wI_X8_dressBest : Cond.instanceMethod yX8_dressBest ∈ ws0 := gwT3 (i := 121) (by decide +kernel) (by decide +kernel)
theorem wC_X8_dressBest : Cond.code yX8_dressBest cX8_dressBest 2 none ∈ ws0 := gwT3 (i := 122) (by decide +kernel) (by decide +kernel)
theorem wI_X1_gather : Cond.instanceMethod yX1_gather ∈ ws0 := gwT3 (i := 125) (by decide +kernel) (by decide +kernel)
theorem wC_X1_gather : Cond.code yX1_gather cX1_gather 3 none ∈ ws0 := gwT3 (i := 126) (by decide +kernel) (by decide +kernel)
theorem wm_X1_40 : Cond.methodLink RX1 40 yX1_addSet ∈ ws0 := gwT3 (i := 127) (by decide +kernel) (by decide +kernel)
theorem wI_X1_addSet : Cond.instanceMethod yX1_addSet ∈ ws0 := gwT3 (i := 129) (by decide +kernel) (by decide +kernel)
theorem wC_X1_addSet : Cond.code yX1_addSet cX1_addSet 8 none ∈ ws0 := gwT3 (i := 130) (by decide +kernel) (by decide +kernel)
theorem wm_X1_76 : Cond.methodLink RX1 76 yJ9_min_7cf53 ∈ ws0 := gwT3 (i := 131) (by decide +kernel) (by decide +kernel)
theorem wm_X1_57 : Cond.methodLink RX1 57 yX1_dressOneMore ∈ ws0 := gwT3 (i := 133) (by decide +kernel) (by decide +kernel)
theorem wI_X1_dressOneMore : Cond.instanceMethod yX1_dressOneMore ∈ ws0 := gwT3 (i := 135) (by decide +kernel) (by decide +kernel)
theorem wC_X1_dressOneMore : Cond.code yX1_dressOneMore cX1_dressOneMore 8 none ∈ ws0 := gwT3 (i := 136) (by decide +kernel) (by decide +kernel)
theorem wI_X1_choose : Cond.instanceMethod yX1_choose ∈ ws0 := gwT3 (i := 142) (by decide +kernel) (by decide +kernel)
theorem wC_X1_choose : Cond.code yX1_choose cX1_choose 6 none ∈ ws0 := gwT3 (i := 143) (by decide +kernel) (by decide +kernel)
theorem wm_X1_82 : Cond.methodLink RX1 82 yX1_cheapestAfter ∈ ws0 := gwT3 (i := 144) (by decide +kernel) (by decide +kernel)
theorem wI_X1_cheapestAfter : Cond.instanceMethod yX1_cheapestAfter ∈ ws0 := gwT3 (i := 146) (by decide +kernel) (by decide +kernel)
theorem wC_X1_cheapestAfter : Cond.code yX1_cheapestAfter cX1_cheapestAfter 5 (some .int) ∈ ws0 := gwT3 (i := 147) (by decide +kernel) (by decide +kernel)
theorem wm_X1_94 : Cond.methodLink RX1 94 yX1_firstCheapest ∈ ws0 := gwT3 (i := 148) (by decide +kernel) (by decide +kernel)
theorem wI_X1_firstCheapest : Cond.instanceMethod yX1_firstCheapest ∈ ws0 := gwT3 (i := 150) (by decide +kernel) (by decide +kernel)
theorem wC_X1_firstCheapest : Cond.code yX1_firstCheapest cX1_firstCheapest 7 (some .int) ∈ ws0 := gwT3 (i := 151) (by decide +kernel) (by decide +kernel)
theorem wk_X1_86 : Cond.constant RX1 86 (1000000000) ∈ ws0 := gwT3 (i := 152) (by decide +kernel) (by decide +kernel)
theorem wS_X8_sumOver : Cond.static yX8_sumOver ∈ ws0 := gwT3 (i := 154) (by decide +kernel) (by decide +kernel)
theorem wC_X8_sumOver : Cond.code yX8_sumOver cX8_sumOver 4 (some .int) ∈ ws0 := gwT3 (i := 155) (by decide +kernel) (by decide +kernel)
theorem wm_X8_291 : Cond.methodLink RX8 291 yX8_has ∈ ws0 := gwT3 (i := 156) (by decide +kernel) (by decide +kernel)
theorem wm_X1_97 : Cond.methodLink RX1 97 yX1_giveLooks ∈ ws0 := gwT3 (i := 157) (by decide +kernel) (by decide +kernel)
theorem wI_X1_giveLooks : Cond.instanceMethod yX1_giveLooks ∈ ws0 := gwT3 (i := 159) (by decide +kernel) (by decide +kernel)
theorem wC_X1_giveLooks : Cond.code yX1_giveLooks cX1_giveLooks 5 none ∈ ws0 := gwT3 (i := 160) (by decide +kernel) (by decide +kernel)
theorem wm_L_67 : Cond.methodLink RL 67 yX8_rent ∈ ws0 := gwT3 (i := 161) (by decide +kernel) (by decide +kernel)
theorem wI_X8_rent : Cond.instanceMethod yX8_rent ∈ ws0 := gwT3 (i := 162) (by decide +kernel) (by decide +kernel)
theorem wV_X8_rent : Cond.selects RX8 yX8_rent yX8_rent ∈ ws0 := gwT3 (i := 163) (by decide +kernel) (by decide +kernel)
theorem wC_X8_rent : Cond.code yX8_rent cX8_rent 2 (some .int) ∈ ws0 := gwT3 (i := 164) (by decide +kernel) (by decide +kernel)
theorem wm_X8_209 : Cond.methodLink RX8 209 yX8_isLandlord ∈ ws0 := gwT3 (i := 165) (by decide +kernel) (by decide +kernel)
theorem wS_X8_isLandlord : Cond.static yX8_isLandlord ∈ ws0 := gwT3 (i := 166) (by decide +kernel) (by decide +kernel)
theorem wC_X8_isLandlord : Cond.code yX8_isLandlord cX8_isLandlord 1 (some .boolean) ∈ ws0 := gwT3 (i := 167) (by decide +kernel) (by decide +kernel)
theorem wI_X7_ownedBy : Cond.instanceMethod yX7_ownedBy ∈ ws0 := gwT3 (i := 170) (by decide +kernel) (by decide +kernel)
theorem wC_X7_ownedBy : Cond.code yX7_ownedBy cX7_ownedBy 4 (some .int) ∈ ws0 := gwT3 (i := 171) (by decide +kernel) (by decide +kernel)
theorem wI_X1_priceOfWorn : Cond.instanceMethod yX1_priceOfWorn ∈ ws0 := gwT3 (i := 174) (by decide +kernel) (by decide +kernel)
theorem wC_X1_priceOfWorn : Cond.code yX1_priceOfWorn cX1_priceOfWorn 5 (some .int) ∈ ws0 := gwT3 (i := 175) (by decide +kernel) (by decide +kernel)
theorem wm_L_71 : Cond.methodLink RL 71 yX8_without ∈ ws0 := gwT3 (i := 176) (by decide +kernel) (by decide +kernel)
theorem wI_X8_without : Cond.instanceMethod yX8_without ∈ ws0 := gwT3 (i := 177) (by decide +kernel) (by decide +kernel)
theorem wV_X8_without : Cond.selects RX8 yX8_without yX8_without ∈ ws0 := gwT3 (i := 178) (by decide +kernel) (by decide +kernel)
theorem wC_X8_without : Cond.code yX8_without cX8_without 4 (some .int) ∈ ws0 := gwT3 (i := 179) (by decide +kernel) (by decide +kernel)
theorem wm_L_75 : Cond.methodLink RL 75 yX8_raise ∈ ws0 := gwT3 (i := 180) (by decide +kernel) (by decide +kernel)
theorem wI_X8_raise : Cond.instanceMethod yX8_raise ∈ ws0 := gwT3 (i := 181) (by decide +kernel) (by decide +kernel)
theorem wV_X8_raise : Cond.selects RX8 yX8_raise yX8_raise ∈ ws0 := gwT3 (i := 182) (by decide +kernel) (by decide +kernel)
theorem wC_X8_raise : Cond.code yX8_raise cX8_raise 8 (some .int) ∈ ws0 := gwT3 (i := 183) (by decide +kernel) (by decide +kernel)
theorem wI_X5_raisePrices : Cond.instanceMethod yX5_raisePrices ∈ ws0 := gwT3 (i := 186) (by decide +kernel) (by decide +kernel)
theorem wC_X5_raisePrices : Cond.code yX5_raisePrices cX5_raisePrices 6 none ∈ ws0 := gwT3 (i := 187) (by decide +kernel) (by decide +kernel)
theorem wm_X5_46 : Cond.methodLink RX5 46 yJ9_min_7cf53 ∈ ws0 := gwT3 (i := 188) (by decide +kernel) (by decide +kernel)
theorem wm_L_79 : Cond.methodLink RL 79 yX8_grow ∈ ws0 := gwT3 (i := 190) (by decide +kernel) (by decide +kernel)
theorem wI_X8_grow : Cond.instanceMethod yX8_grow ∈ ws0 := gwT3 (i := 191) (by decide +kernel) (by decide +kernel)
theorem wV_X8_grow : Cond.selects RX8 yX8_grow yX8_grow ∈ ws0 := gwT3 (i := 192) (by decide +kernel) (by decide +kernel)
theorem wC_X8_grow : Cond.code yX8_grow cX8_grow 8 (some .int) ∈ ws0 := gwT3 (i := 193) (by decide +kernel) (by decide +kernel)
theorem wm_X8_230 : Cond.methodLink RX8 230 yJ6_bitCount_0f7a4 ∈ ws0 := gwT3 (i := 194) (by decide +kernel) (by decide +kernel)
theorem wS_J6_bitCount_0f7a4 : Cond.static yJ6_bitCount_0f7a4 ∈ ws0 := gwT3 (i := 195) (by decide +kernel) (by decide +kernel)
theorem wC_J6_bitCount_0f7a4 : Cond.code yJ6_bitCount_0f7a4 cJ6_bitCount_0f7a4 1 (some .int) ∈ ws0 := gwT3 (i := 196) (by decide +kernel) (by decide +kernel)
theorem wk_J6_265 : Cond.constant RJ6 265 (1431655765) ∈ ws0 := gwT3 (i := 197) (by decide +kernel) (by decide +kernel)
theorem wk_J6_266 : Cond.constant RJ6 266 (858993459) ∈ ws0 := gwT3 (i := 198) (by decide +kernel) (by decide +kernel)
theorem wk_J6_267 : Cond.constant RJ6 267 (252645135) ∈ ws0 := gwT3 (i := 199) (by decide +kernel) (by decide +kernel)
theorem wm_L_83 : Cond.methodLink RL 83 yX8_wedding ∈ ws0 := gwT3 (i := 200) (by decide +kernel) (by decide +kernel)
theorem wI_X8_wedding : Cond.instanceMethod yX8_wedding ∈ ws0 := gwT3 (i := 201) (by decide +kernel) (by decide +kernel)
theorem wV_X8_wedding : Cond.selects RX8 yX8_wedding yX8_wedding ∈ ws0 := gwT3 (i := 202) (by decide +kernel) (by decide +kernel)
theorem wC_X8_wedding : Cond.code yX8_wedding cX8_wedding 9 (some .int) ∈ ws0 := gwT3 (i := 203) (by decide +kernel) (by decide +kernel)
theorem wm_X8_235 : Cond.methodLink RX8 235 yX8_isHour ∈ ws0 := gwT3 (i := 204) (by decide +kernel) (by decide +kernel)
theorem wS_X8_isHour : Cond.static yX8_isHour ∈ ws0 := gwT3 (i := 205) (by decide +kernel) (by decide +kernel)
theorem wC_X8_isHour : Cond.code yX8_isHour cX8_isHour 1 (some .boolean) ∈ ws0 := gwT3 (i := 206) (by decide +kernel) (by decide +kernel)
theorem wI_X2_mayMarry : Cond.instanceMethod yX2_mayMarry ∈ ws0 := gwT3 (i := 210) (by decide +kernel) (by decide +kernel)
theorem wC_X2_mayMarry : Cond.code yX2_mayMarry cX2_mayMarry 6 (some .boolean) ∈ ws0 := gwT3 (i := 211) (by decide +kernel) (by decide +kernel)
theorem wm_L_87 : Cond.methodLink RL 87 yX8_see ∈ ws0 := gwT3 (i := 212) (by decide +kernel) (by decide +kernel)
theorem wI_X8_see : Cond.instanceMethod yX8_see ∈ ws0 := gwT3 (i := 213) (by decide +kernel) (by decide +kernel)
theorem wV_X8_see : Cond.selects RX8 yX8_see yX8_see ∈ ws0 := gwT3 (i := 214) (by decide +kernel) (by decide +kernel)
theorem wC_X8_see : Cond.code yX8_see cX8_see 3 (some .int) ∈ ws0 := gwT3 (i := 215) (by decide +kernel) (by decide +kernel)
theorem wI_X4_add : Cond.instanceMethod yX4_add ∈ ws0 := gwT3 (i := 218) (by decide +kernel) (by decide +kernel)
theorem wC_X4_add : Cond.code yX4_add cX4_add 3 (some .boolean) ∈ ws0 := gwT3 (i := 219) (by decide +kernel) (by decide +kernel)
theorem wm_L_91 : Cond.methodLink RL 91 yX8_seen ∈ ws0 := gwT3 (i := 220) (by decide +kernel) (by decide +kernel)
theorem wI_X8_seen : Cond.instanceMethod yX8_seen ∈ ws0 := gwT3 (i := 221) (by decide +kernel) (by decide +kernel)
theorem wV_X8_seen : Cond.selects RX8 yX8_seen yX8_seen ∈ ws0 := gwT3 (i := 222) (by decide +kernel) (by decide +kernel)
theorem wC_X8_seen : Cond.code yX8_seen cX8_seen 3 (some .int) ∈ ws0 := gwT3 (i := 223) (by decide +kernel) (by decide +kernel)
theorem wI_X4_mayBeWorn : Cond.instanceMethod yX4_mayBeWorn ∈ ws0 := gwT3 (i := 226) (by decide +kernel) (by decide +kernel)
theorem wC_X4_mayBeWorn : Cond.code yX4_mayBeWorn cX4_mayBeWorn 5 (some .int) ∈ ws0 := gwT3 (i := 227) (by decide +kernel) (by decide +kernel)
theorem wm_X4_45 : Cond.methodLink RX4 45 yX4_mayBe ∈ ws0 := gwT3 (i := 229) (by decide +kernel) (by decide +kernel)
theorem wI_X4_mayBe : Cond.instanceMethod yX4_mayBe ∈ ws0 := gwT3 (i := 231) (by decide +kernel) (by decide +kernel)
theorem wC_X4_mayBe : Cond.code yX4_mayBe cX4_mayBe 4 (some .boolean) ∈ ws0 := gwT3 (i := 232) (by decide +kernel) (by decide +kernel)
theorem wI_X4_surelyWorn : Cond.instanceMethod yX4_surelyWorn ∈ ws0 := gwT3 (i := 237) (by decide +kernel) (by decide +kernel)
theorem wC_X4_surelyWorn : Cond.code yX4_surelyWorn cX4_surelyWorn 5 (some .int) ∈ ws0 := gwT3 (i := 238) (by decide +kernel) (by decide +kernel)
theorem wm_X4_49 : Cond.methodLink RX4 49 yX4_mayBeWorn ∈ ws0 := gwT3 (i := 239) (by decide +kernel) (by decide +kernel)
theorem wm_L_95 : Cond.methodLink RL 95 yX8_strange ∈ ws0 := gwT4 (i := 0) (by decide +kernel) (by decide +kernel)
theorem wI_X8_strange : Cond.instanceMethod yX8_strange ∈ ws0 := gwT4 (i := 1) (by decide +kernel) (by decide +kernel)
theorem wV_X8_strange : Cond.selects RX8 yX8_strange yX8_strange ∈ ws0 := gwT4 (i := 2) (by decide +kernel) (by decide +kernel)
theorem wC_X8_strange : Cond.code yX8_strange cX8_strange 1 (some .int) ∈ ws0 := gwT4 (i := 3) (by decide +kernel) (by decide +kernel)
theorem wI_X4_firstStrange : Cond.instanceMethod yX4_firstStrange ∈ ws0 := gwT4 (i := 6) (by decide +kernel) (by decide +kernel)
theorem wC_X4_firstStrange : Cond.code yX4_firstStrange cX4_firstStrange 2 (some .int) ∈ ws0 := gwT4 (i := 7) (by decide +kernel) (by decide +kernel)
theorem wm_L_99 : Cond.methodLink RL 99 yX8_day ∈ ws0 := gwT4 (i := 8) (by decide +kernel) (by decide +kernel)
theorem wI_X8_day : Cond.instanceMethod yX8_day ∈ ws0 := gwT4 (i := 9) (by decide +kernel) (by decide +kernel)
theorem wV_X8_day : Cond.selects RX8 yX8_day yX8_day ∈ ws0 := gwT4 (i := 10) (by decide +kernel) (by decide +kernel)
theorem wC_X8_day : Cond.code yX8_day cX8_day 4 (some .int) ∈ ws0 := gwT4 (i := 11) (by decide +kernel) (by decide +kernel)
theorem wm_X8_257 : Cond.methodLink RX8 257 yX8_passDay ∈ ws0 := gwT4 (i := 12) (by decide +kernel) (by decide +kernel)
theorem wI_X8_passDay : Cond.instanceMethod yX8_passDay ∈ ws0 := gwT4 (i := 14) (by decide +kernel) (by decide +kernel)
theorem wC_X8_passDay : Cond.code yX8_passDay cX8_passDay 2 (some .int) ∈ ws0 := gwT4 (i := 15) (by decide +kernel) (by decide +kernel)
theorem wI_X5_wearHour : Cond.instanceMethod yX5_wearHour ∈ ws0 := gwT4 (i := 18) (by decide +kernel) (by decide +kernel)
theorem wC_X5_wearHour : Cond.code yX5_wearHour cX5_wearHour 3 none ∈ ws0 := gwT4 (i := 19) (by decide +kernel) (by decide +kernel)
theorem wI_X5_wearOut : Cond.instanceMethod yX5_wearOut ∈ ws0 := gwT4 (i := 22) (by decide +kernel) (by decide +kernel)
theorem wC_X5_wearOut : Cond.code yX5_wearOut cX5_wearOut 2 none ∈ ws0 := gwT4 (i := 23) (by decide +kernel) (by decide +kernel)
theorem wm_X5_67 : Cond.methodLink RX5 67 yJ9_max_7cf53 ∈ ws0 := gwT4 (i := 24) (by decide +kernel) (by decide +kernel)
theorem wS_J9_max_7cf53 : Cond.static yJ9_max_7cf53 ∈ ws0 := gwT4 (i := 25) (by decide +kernel) (by decide +kernel)
theorem wC_J9_max_7cf53 : Cond.code yJ9_max_7cf53 cJ9_max_7cf53 2 (some .int) ∈ ws0 := gwT4 (i := 26) (by decide +kernel) (by decide +kernel)
theorem wk_X8_270 : Cond.constant RX8 270 (999999999) ∈ ws0 := gwT4 (i := 27) (by decide +kernel) (by decide +kernel)
end
section
theorem wm_L_103 : Cond.methodLink RL 103 yX8_drift ∈ ws0 := gwT4 (i := 28) (by decide +kernel) (by decide +kernel)
theorem wI_X8_drift : Cond.instanceMethod yX8_drift ∈ ws0 := gwT4 (i := 29) (by decide +kernel) (by decide +kernel)
theorem wV_X8_drift : Cond.selects RX8 yX8_drift yX8_drift ∈ ws0 := gwT4 (i := 30) (by decide +kernel) (by decide +kernel)
theorem wC_X8_drift : Cond.code yX8_drift cX8_drift 4 (some .int) ∈ ws0 := gwT4 (i := 31) (by decide +kernel) (by decide +kernel)
theorem wI_X5_drawPrices : Cond.instanceMethod yX5_drawPrices ∈ ws0 := gwT4 (i := 34) (by decide +kernel) (by decide +kernel)
theorem wC_X5_drawPrices : Cond.code yX5_drawPrices cX5_drawPrices 5 none ∈ ws0 := gwT4 (i := 35) (by decide +kernel) (by decide +kernel)
theorem wm_X5_63 : Cond.methodLink RX5 63 yX5_drawOfFour ∈ ws0 := gwT4 (i := 36) (by decide +kernel) (by decide +kernel)
theorem wI_X5_drawOfFour : Cond.instanceMethod yX5_drawOfFour ∈ ws0 := gwT4 (i := 38) (by decide +kernel) (by decide +kernel)
theorem wC_X5_drawOfFour : Cond.code yX5_drawOfFour cX5_drawOfFour 1 (some .int) ∈ ws0 := gwT4 (i := 39) (by decide +kernel) (by decide +kernel)
theorem wl_X5_56 : Cond.constantLong RX5 56 (1103515245) ∈ ws0 := gwT4 (i := 40) (by decide +kernel) (by decide +kernel)
theorem wl_X5_58 : Cond.constantLong RX5 58 (12345) ∈ ws0 := gwT4 (i := 41) (by decide +kernel) (by decide +kernel)
theorem wl_X5_60 : Cond.constantLong RX5 60 (2147483647) ∈ ws0 := gwT4 (i := 42) (by decide +kernel) (by decide +kernel)
theorem wk_X5_62 : Cond.constant RX5 62 (65536) ∈ ws0 := gwT4 (i := 43) (by decide +kernel) (by decide +kernel)
theorem wm_L_107 : Cond.methodLink RL 107 yX8_write ∈ ws0 := gwT4 (i := 44) (by decide +kernel) (by decide +kernel)
theorem wI_X8_write : Cond.instanceMethod yX8_write ∈ ws0 := gwT4 (i := 45) (by decide +kernel) (by decide +kernel)
theorem wV_X8_write : Cond.selects RX8 yX8_write yX8_write ∈ ws0 := gwT4 (i := 46) (by decide +kernel) (by decide +kernel)
theorem wC_X8_write : Cond.code yX8_write cX8_write 3 (some .int) ∈ ws0 := gwT4 (i := 47) (by decide +kernel) (by decide +kernel)
theorem wI_X0_add : Cond.instanceMethod yX0_add ∈ ws0 := gwT4 (i := 50) (by decide +kernel) (by decide +kernel)
theorem wC_X0_add : Cond.code yX0_add cX0_add 3 (some .boolean) ∈ ws0 := gwT4 (i := 51) (by decide +kernel) (by decide +kernel)
theorem wm_L_111 : Cond.methodLink RL 111 yX8_tear ∈ ws0 := gwT4 (i := 52) (by decide +kernel) (by decide +kernel)
theorem wI_X8_tear : Cond.instanceMethod yX8_tear ∈ ws0 := gwT4 (i := 53) (by decide +kernel) (by decide +kernel)
theorem wV_X8_tear : Cond.selects RX8 yX8_tear yX8_tear ∈ ws0 := gwT4 (i := 54) (by decide +kernel) (by decide +kernel)
theorem wC_X8_tear : Cond.code yX8_tear cX8_tear 2 (some .int) ∈ ws0 := gwT4 (i := 55) (by decide +kernel) (by decide +kernel)
theorem wm_L_115 : Cond.methodLink RL 115 yX8_judge ∈ ws0 := gwT4 (i := 56) (by decide +kernel) (by decide +kernel)
theorem wI_X8_judge : Cond.instanceMethod yX8_judge ∈ ws0 := gwT4 (i := 57) (by decide +kernel) (by decide +kernel)
theorem wV_X8_judge : Cond.selects RX8 yX8_judge yX8_judge ∈ ws0 := gwT4 (i := 58) (by decide +kernel) (by decide +kernel)
theorem wC_X8_judge : Cond.code yX8_judge cX8_judge 1 (some .int) ∈ ws0 := gwT4 (i := 59) (by decide +kernel) (by decide +kernel)
theorem wI_X0_firstWrong : Cond.instanceMethod yX0_firstWrong ∈ ws0 := gwT4 (i := 62) (by decide +kernel) (by decide +kernel)
theorem wC_X0_firstWrong : Cond.code yX0_firstWrong cX0_firstWrong 3 (some .int) ∈ ws0 := gwT4 (i := 63) (by decide +kernel) (by decide +kernel)
theorem wm_X0_32 : Cond.methodLink RX0 32 yX0_wasToldAhead ∈ ws0 := gwT4 (i := 65) (by decide +kernel) (by decide +kernel)
theorem wI_X0_wasToldAhead : Cond.instanceMethod yX0_wasToldAhead ∈ ws0 := gwT4 (i := 67) (by decide +kernel) (by decide +kernel)
theorem wC_X0_wasToldAhead : Cond.code yX0_wasToldAhead cX0_wasToldAhead 4 (some .boolean) ∈ ws0 := gwT4 (i := 68) (by decide +kernel) (by decide +kernel)
theorem wm_X0_35 : Cond.methodLink RX0 35 yJ9_abs_0f7a4 ∈ ws0 := gwT4 (i := 69) (by decide +kernel) (by decide +kernel)
theorem wS_J9_abs_0f7a4 : Cond.static yJ9_abs_0f7a4 ∈ ws0 := gwT4 (i := 70) (by decide +kernel) (by decide +kernel)
theorem wC_J9_abs_0f7a4 : Cond.code yJ9_abs_0f7a4 cJ9_abs_0f7a4 1 (some .int) ∈ ws0 := gwT4 (i := 71) (by decide +kernel) (by decide +kernel)
theorem wm_L_119 : Cond.methodLink RL 119 yX8_seed ∈ ws0 := gwT4 (i := 72) (by decide +kernel) (by decide +kernel)
theorem wI_X8_seed : Cond.instanceMethod yX8_seed ∈ ws0 := gwT4 (i := 73) (by decide +kernel) (by decide +kernel)
theorem wV_X8_seed : Cond.selects RX8 yX8_seed yX8_seed ∈ ws0 := gwT4 (i := 74) (by decide +kernel) (by decide +kernel)
theorem wC_X8_seed : Cond.code yX8_seed cX8_seed 3 (some .int) ∈ ws0 := gwT4 (i := 75) (by decide +kernel) (by decide +kernel)
theorem wm_L_123 : Cond.methodLink RL 123 yX8_keep ∈ ws0 := gwT4 (i := 76) (by decide +kernel) (by decide +kernel)
theorem wI_X8_keep : Cond.instanceMethod yX8_keep ∈ ws0 := gwT4 (i := 77) (by decide +kernel) (by decide +kernel)
theorem wV_X8_keep : Cond.selects RX8 yX8_keep yX8_keep ∈ ws0 := gwT4 (i := 78) (by decide +kernel) (by decide +kernel)
theorem wC_X8_keep : Cond.code yX8_keep cX8_keep 2 (some .int) ∈ ws0 := gwT4 (i := 79) (by decide +kernel) (by decide +kernel)
theorem wm_X8_283 : Cond.methodLink RX8 283 yX8_imageAt ∈ ws0 := gwT4 (i := 80) (by decide +kernel) (by decide +kernel)
theorem wI_X8_imageAt : Cond.instanceMethod yX8_imageAt ∈ ws0 := gwT4 (i := 82) (by decide +kernel) (by decide +kernel)
theorem wC_X8_imageAt : Cond.code yX8_imageAt cX8_imageAt 2 (some (.object "RentedLooks$State")) ∈ ws0 := gwT4 (i := 83) (by decide +kernel) (by decide +kernel)
theorem wI_X5_copyFrom : Cond.instanceMethod yX5_copyFrom ∈ ws0 := gwT4 (i := 86) (by decide +kernel) (by decide +kernel)
theorem wC_X5_copyFrom : Cond.code yX5_copyFrom cX5_copyFrom 2 none ∈ ws0 := gwT4 (i := 87) (by decide +kernel) (by decide +kernel)
theorem wm_L_127 : Cond.methodLink RL 127 yX8_goBack ∈ ws0 := gwT4 (i := 88) (by decide +kernel) (by decide +kernel)
theorem wI_X8_goBack : Cond.instanceMethod yX8_goBack ∈ ws0 := gwT4 (i := 89) (by decide +kernel) (by decide +kernel)
theorem wV_X8_goBack : Cond.selects RX8 yX8_goBack yX8_goBack ∈ ws0 := gwT4 (i := 90) (by decide +kernel) (by decide +kernel)
theorem wC_X8_goBack : Cond.code yX8_goBack cX8_goBack 2 (some .int) ∈ ws0 := gwT4 (i := 91) (by decide +kernel) (by decide +kernel)
theorem wk_X8_290 : Cond.constant RX8 290 (-1000000003) ∈ ws0 := gwT4 (i := 92) (by decide +kernel) (by decide +kernel)
theorem wc_L_10 : Cond.classLink RL 10 RX9 ∈ ws0 := gwT4 (i := 93) (by decide +kernel) (by decide +kernel)
theorem wn_X9 : Cond.instantiable RX9 34 ∈ ws0 := gwT4 (i := 94) (by decide +kernel) (by decide +kernel)
theorem wm_L_12 : Cond.methodLink RL 12 yX9_init ∈ ws0 := gwT4 (i := 95) (by decide +kernel) (by decide +kernel)
theorem wI_X9_init : Cond.instanceMethod yX9_init ∈ ws0 := gwT4 (i := 96) (by decide +kernel) (by decide +kernel)
theorem wC_X9_init : Cond.code yX9_init cX9_init 1 none ∈ ws0 := gwT4 (i := 97) (by decide +kernel) (by decide +kernel)
theorem wm_X9_1 : Cond.methodLink RX9 1 objectInit ∈ ws0 := gwT4 (i := 98) (by decide +kernel) (by decide +kernel)
theorem wf_X9_7 : Cond.fieldLink RX9 7 "RentedLooksModel" "w" "[I" ∈ ws0 := gwT4 (i := 99) (by decide +kernel) (by decide +kernel)
theorem wf_X9_13 : Cond.fieldLink RX9 13 "RentedLooksModel" "isKept" "[Z" ∈ ws0 := gwT4 (i := 100) (by decide +kernel) (by decide +kernel)
theorem wf_X9_17 : Cond.fieldLink RX9 17 "RentedLooksModel" "kind" "[I" ∈ ws0 := gwT4 (i := 101) (by decide +kernel) (by decide +kernel)
theorem wf_X9_20 : Cond.fieldLink RX9 20 "RentedLooksModel" "lord" "[I" ∈ ws0 := gwT4 (i := 102) (by decide +kernel) (by decide +kernel)
theorem wf_X9_23 : Cond.fieldLink RX9 23 "RentedLooksModel" "wide" "[I" ∈ ws0 := gwT4 (i := 103) (by decide +kernel) (by decide +kernel)
theorem wf_X9_26 : Cond.fieldLink RX9 26 "RentedLooksModel" "cost" "[I" ∈ ws0 := gwT4 (i := 104) (by decide +kernel) (by decide +kernel)
theorem wf_X9_29 : Cond.fieldLink RX9 29 "RentedLooksModel" "from" "[I" ∈ ws0 := gwT4 (i := 105) (by decide +kernel) (by decide +kernel)
theorem wf_X9_32 : Cond.fieldLink RX9 32 "RentedLooksModel" "until" "[I" ∈ ws0 := gwT4 (i := 106) (by decide +kernel) (by decide +kernel)
theorem wf_X9_35 : Cond.fieldLink RX9 35 "RentedLooksModel" "clash" "[I" ∈ ws0 := gwT4 (i := 107) (by decide +kernel) (by decide +kernel)
theorem wf_X9_38 : Cond.fieldLink RX9 38 "RentedLooksModel" "when" "[I" ∈ ws0 := gwT4 (i := 108) (by decide +kernel) (by decide +kernel)
theorem wf_X9_41 : Cond.fieldLink RX9 41 "RentedLooksModel" "least" "[I" ∈ ws0 := gwT4 (i := 109) (by decide +kernel) (by decide +kernel)
theorem wf_X9_44 : Cond.fieldLink RX9 44 "RentedLooksModel" "most" "[I" ∈ ws0 := gwT4 (i := 110) (by decide +kernel) (by decide +kernel)
theorem wf_X9_47 : Cond.fieldLink RX9 47 "RentedLooksModel" "many" "[I" ∈ ws0 := gwT4 (i := 111) (by decide +kernel) (by decide +kernel)
theorem wf_X9_50 : Cond.fieldLink RX9 50 "RentedLooksModel" "text" "[I" ∈ ws0 := gwT4 (i := 112) (by decide +kernel) (by decide +kernel)
theorem wf_X9_94 : Cond.fieldLink RX9 94 "RentedLooksModel" "textSize" "I" ∈ ws0 := gwT4 (i := 113) (by decide +kernel) (by decide +kernel)
theorem wf_X9_100 : Cond.fieldLink RX9 100 "RentedLooksModel" "at" "I" ∈ ws0 := gwT4 (i := 114) (by decide +kernel) (by decide +kernel)
theorem wf_X9_110 : Cond.fieldLink RX9 110 "RentedLooksModel" "first" "I" ∈ ws0 := gwT4 (i := 115) (by decide +kernel) (by decide +kernel)
theorem wf_X9_117 : Cond.fieldLink RX9 117 "RentedLooksModel" "length" "I" ∈ ws0 := gwT4 (i := 116) (by decide +kernel) (by decide +kernel)
theorem wf_X9_103 : Cond.fieldLink RX9 103 "RentedLooksModel" "faultOf" "I" ∈ ws0 := gwT4 (i := 117) (by decide +kernel) (by decide +kernel)
theorem wf_X9_53 : Cond.fieldLink RX9 53 "RentedLooksModel" "fault" "I" ∈ ws0 := gwT4 (i := 118) (by decide +kernel) (by decide +kernel)
theorem wf_X9_57 : Cond.fieldLink RX9 57 "RentedLooksModel" "looks" "[I" ∈ ws0 := gwT4 (i := 119) (by decide +kernel) (by decide +kernel)
theorem wf_X9_165 : Cond.fieldLink RX9 165 "RentedLooksModel" "lookMany" "I" ∈ ws0 := gwT4 (i := 120) (by decide +kernel) (by decide +kernel)
theorem wf_X9_168 : Cond.fieldLink RX9 168 "RentedLooksModel" "banned" "I" ∈ ws0 := gwT4 (i := 121) (by decide +kernel) (by decide +kernel)
theorem wf_X9_60 : Cond.fieldLink RX9 60 "RentedLooksModel" "canBe" "[Z" ∈ ws0 := gwT4 (i := 122) (by decide +kernel) (by decide +kernel)
theorem wf_X9_63 : Cond.fieldLink RX9 63 "RentedLooksModel" "leastFrom" "[I" ∈ ws0 := gwT4 (i := 123) (by decide +kernel) (by decide +kernel)
theorem wf_X9_66 : Cond.fieldLink RX9 66 "RentedLooksModel" "before" "[Z" ∈ ws0 := gwT4 (i := 124) (by decide +kernel) (by decide +kernel)
theorem wf_X9_69 : Cond.fieldLink RX9 69 "RentedLooksModel" "then" "[Z" ∈ ws0 := gwT4 (i := 125) (by decide +kernel) (by decide +kernel)
theorem wf_X9_72 : Cond.fieldLink RX9 72 "RentedLooksModel" "worn" "[I" ∈ ws0 := gwT4 (i := 126) (by decide +kernel) (by decide +kernel)
theorem wf_X9_75 : Cond.fieldLink RX9 75 "RentedLooksModel" "seenHour" "[I" ∈ ws0 := gwT4 (i := 127) (by decide +kernel) (by decide +kernel)
theorem wf_X9_78 : Cond.fieldLink RX9 78 "RentedLooksModel" "seenWide" "[I" ∈ ws0 := gwT4 (i := 128) (by decide +kernel) (by decide +kernel)
theorem wf_X9_156 : Cond.fieldLink RX9 156 "RentedLooksModel" "seenMany" "I" ∈ ws0 := gwT4 (i := 129) (by decide +kernel) (by decide +kernel)
theorem wf_X9_81 : Cond.fieldLink RX9 81 "RentedLooksModel" "bookHour" "[I" ∈ ws0 := gwT4 (i := 130) (by decide +kernel) (by decide +kernel)
theorem wf_X9_84 : Cond.fieldLink RX9 84 "RentedLooksModel" "bookPart" "[I" ∈ ws0 := gwT4 (i := 131) (by decide +kernel) (by decide +kernel)
theorem wf_X9_159 : Cond.fieldLink RX9 159 "RentedLooksModel" "written" "I" ∈ ws0 := gwT4 (i := 132) (by decide +kernel) (by decide +kernel)
theorem wm_L_19 : Cond.methodLink RL 19 yX9_feed ∈ ws0 := gwT4 (i := 202) (by decide +kernel) (by decide +kernel)
theorem wI_X9_feed : Cond.instanceMethod yX9_feed ∈ ws0 := gwT4 (i := 203) (by decide +kernel) (by decide +kernel)
theorem wV_X9_feed : Cond.selects RX9 yX9_feed yX9_feed ∈ ws0 := gwT4 (i := 204) (by decide +kernel) (by decide +kernel)
theorem wC_X9_feed : Cond.code yX9_feed cX9_feed 5 (some .int) ∈ ws0 := gwT4 (i := 205) (by decide +kernel) (by decide +kernel)
theorem wl_X9_87 : Cond.constantLong RX9 87 (8) ∈ ws0 := gwT4 (i := 206) (by decide +kernel) (by decide +kernel)
theorem wm_X9_89 : Cond.methodLink RX9 89 yX9_in ∈ ws0 := gwT4 (i := 207) (by decide +kernel) (by decide +kernel)
theorem wS_X9_in : Cond.static yX9_in ∈ ws0 := gwT4 (i := 208) (by decide +kernel) (by decide +kernel)
theorem wC_X9_in : Cond.code yX9_in cX9_in 6 (some .boolean) ∈ ws0 := gwT4 (i := 209) (by decide +kernel) (by decide +kernel)
theorem wk_X9_93 : Cond.constant RX9 93 (-1000000002) ∈ ws0 := gwT4 (i := 210) (by decide +kernel) (by decide +kernel)
theorem wk_X9_97 : Cond.constant RX9 97 (-1000000004) ∈ ws0 := gwT4 (i := 211) (by decide +kernel) (by decide +kernel)
theorem wl_X9_98 : Cond.constantLong RX9 98 (255) ∈ ws0 := gwT4 (i := 212) (by decide +kernel) (by decide +kernel)
theorem wm_L_24 : Cond.methodLink RL 24 yX9_town ∈ ws0 := gwT4 (i := 213) (by decide +kernel) (by decide +kernel)
theorem wI_X9_town : Cond.instanceMethod yX9_town ∈ ws0 := gwT4 (i := 214) (by decide +kernel) (by decide +kernel)
theorem wV_X9_town : Cond.selects RX9 yX9_town yX9_town ∈ ws0 := gwT4 (i := 215) (by decide +kernel) (by decide +kernel)
theorem wC_X9_town : Cond.code yX9_town cX9_town 2 (some .int) ∈ ws0 := gwT4 (i := 216) (by decide +kernel) (by decide +kernel)
theorem wm_X9_106 : Cond.methodLink RX9 106 yX9_here ∈ ws0 := gwT4 (i := 217) (by decide +kernel) (by decide +kernel)
theorem wI_X9_here : Cond.instanceMethod yX9_here ∈ ws0 := gwT4 (i := 219) (by decide +kernel) (by decide +kernel)
theorem wC_X9_here : Cond.code yX9_here cX9_here 1 (some .int) ∈ ws0 := gwT4 (i := 220) (by decide +kernel) (by decide +kernel)
theorem wm_X9_153 : Cond.methodLink RX9 153 yX9_takeClause ∈ ws0 := gwT4 (i := 221) (by decide +kernel) (by decide +kernel)
theorem wI_X9_takeClause : Cond.instanceMethod yX9_takeClause ∈ ws0 := gwT4 (i := 223) (by decide +kernel) (by decide +kernel)
theorem wC_X9_takeClause : Cond.code yX9_takeClause cX9_takeClause 2 none ∈ ws0 := gwT4 (i := 224) (by decide +kernel) (by decide +kernel)
theorem wm_X9_129 : Cond.methodLink RX9 129 yX9_takeWord ∈ ws0 := gwT4 (i := 225) (by decide +kernel) (by decide +kernel)
theorem wI_X9_takeWord : Cond.instanceMethod yX9_takeWord ∈ ws0 := gwT4 (i := 227) (by decide +kernel) (by decide +kernel)
theorem wC_X9_takeWord : Cond.code yX9_takeWord cX9_takeWord 2 none ∈ ws0 := gwT4 (i := 228) (by decide +kernel) (by decide +kernel)
theorem wl_X9_113 : Cond.constantLong RX9 113 (97) ∈ ws0 := gwT4 (i := 229) (by decide +kernel) (by decide +kernel)
theorem wl_X9_115 : Cond.constantLong RX9 115 (122) ∈ ws0 := gwT4 (i := 230) (by decide +kernel) (by decide +kernel)
theorem wm_X9_132 : Cond.methodLink RX9 132 yX9_isWord ∈ ws0 := gwT4 (i := 231) (by decide +kernel) (by decide +kernel)
theorem wI_X9_isWord : Cond.instanceMethod yX9_isWord ∈ ws0 := gwT4 (i := 233) (by decide +kernel) (by decide +kernel)
theorem wC_X9_isWord : Cond.code yX9_isWord cX9_isWord 9 (some .boolean) ∈ ws0 := gwT4 (i := 234) (by decide +kernel) (by decide +kernel)
theorem wm_X9_124 : Cond.methodLink RX9 124 yX9_want ∈ ws0 := gwT4 (i := 235) (by decide +kernel) (by decide +kernel)
theorem wI_X9_want : Cond.instanceMethod yX9_want ∈ ws0 := gwT4 (i := 237) (by decide +kernel) (by decide +kernel)
theorem wC_X9_want : Cond.code yX9_want cX9_want 4 (some .boolean) ∈ ws0 := gwT4 (i := 238) (by decide +kernel) (by decide +kernel)
theorem wm_X9_144 : Cond.methodLink RX9 144 yX9_takePart ∈ ws0 := gwT4 (i := 239) (by decide +kernel) (by decide +kernel)
theorem wI_X9_takePart : Cond.instanceMethod yX9_takePart ∈ ws0 := gwT5 (i := 1) (by decide +kernel) (by decide +kernel)
theorem wC_X9_takePart : Cond.code yX9_takePart cX9_takePart 3 none ∈ ws0 := gwT5 (i := 2) (by decide +kernel) (by decide +kernel)
theorem wm_X9_136 : Cond.methodLink RX9 136 yX9_takeNumber ∈ ws0 := gwT5 (i := 3) (by decide +kernel) (by decide +kernel)
theorem wI_X9_takeNumber : Cond.instanceMethod yX9_takeNumber ∈ ws0 := gwT5 (i := 5) (by decide +kernel) (by decide +kernel)
theorem wC_X9_takeNumber : Cond.code yX9_takeNumber cX9_takeNumber 6 (some .int) ∈ ws0 := gwT5 (i := 6) (by decide +kernel) (by decide +kernel)
theorem wl_X9_120 : Cond.constantLong RX9 120 (48) ∈ ws0 := gwT5 (i := 7) (by decide +kernel) (by decide +kernel)
theorem wl_X9_122 : Cond.constantLong RX9 122 (57) ∈ ws0 := gwT5 (i := 8) (by decide +kernel) (by decide +kernel)
theorem wk_X9_128 : Cond.constant RX9 128 (99999) ∈ ws0 := gwT5 (i := 9) (by decide +kernel) (by decide +kernel)
theorem wm_X9_147 : Cond.methodLink RX9 147 yX9_takeClash ∈ ws0 := gwT5 (i := 10) (by decide +kernel) (by decide +kernel)
theorem wI_X9_takeClash : Cond.instanceMethod yX9_takeClash ∈ ws0 := gwT5 (i := 12) (by decide +kernel) (by decide +kernel)
theorem wC_X9_takeClash : Cond.code yX9_takeClash cX9_takeClash 3 none ∈ ws0 := gwT5 (i := 13) (by decide +kernel) (by decide +kernel)
theorem wm_X9_140 : Cond.methodLink RX9 140 yX9_has ∈ ws0 := gwT5 (i := 14) (by decide +kernel) (by decide +kernel)
theorem wS_X9_has : Cond.static yX9_has ∈ ws0 := gwT5 (i := 15) (by decide +kernel) (by decide +kernel)
theorem wC_X9_has : Cond.code yX9_has cX9_has 2 (some .boolean) ∈ ws0 := gwT5 (i := 16) (by decide +kernel) (by decide +kernel)
theorem wm_X9_150 : Cond.methodLink RX9 150 yX9_takeScene ∈ ws0 := gwT5 (i := 17) (by decide +kernel) (by decide +kernel)
theorem wI_X9_takeScene : Cond.instanceMethod yX9_takeScene ∈ ws0 := gwT5 (i := 19) (by decide +kernel) (by decide +kernel)
theorem wC_X9_takeScene : Cond.code yX9_takeScene cX9_takeScene 3 none ∈ ws0 := gwT5 (i := 20) (by decide +kernel) (by decide +kernel)
theorem wm_X9_162 : Cond.methodLink RX9 162 yX9_findLooks ∈ ws0 := gwT5 (i := 21) (by decide +kernel) (by decide +kernel)
theorem wI_X9_findLooks : Cond.instanceMethod yX9_findLooks ∈ ws0 := gwT5 (i := 23) (by decide +kernel) (by decide +kernel)
theorem wC_X9_findLooks : Cond.code yX9_findLooks cX9_findLooks 5 none ∈ ws0 := gwT5 (i := 24) (by decide +kernel) (by decide +kernel)
theorem wm_L_28 : Cond.methodLink RL 28 yX9_fault ∈ ws0 := gwT5 (i := 25) (by decide +kernel) (by decide +kernel)
theorem wI_X9_fault : Cond.instanceMethod yX9_fault ∈ ws0 := gwT5 (i := 26) (by decide +kernel) (by decide +kernel)
theorem wV_X9_fault : Cond.selects RX9 yX9_fault yX9_fault ∈ ws0 := gwT5 (i := 27) (by decide +kernel) (by decide +kernel)
theorem wC_X9_fault : Cond.code yX9_fault cX9_fault 1 (some .int) ∈ ws0 := gwT5 (i := 28) (by decide +kernel) (by decide +kernel)
theorem wm_L_33 : Cond.methodLink RL 33 yX9_told ∈ ws0 := gwT5 (i := 29) (by decide +kernel) (by decide +kernel)
theorem wI_X9_told : Cond.instanceMethod yX9_told ∈ ws0 := gwT5 (i := 30) (by decide +kernel) (by decide +kernel)
theorem wV_X9_told : Cond.selects RX9 yX9_told yX9_told ∈ ws0 := gwT5 (i := 31) (by decide +kernel) (by decide +kernel)
theorem wC_X9_told : Cond.code yX9_told cX9_told 2 (some .int) ∈ ws0 := gwT5 (i := 32) (by decide +kernel) (by decide +kernel)
theorem wm_X9_174 : Cond.methodLink RX9 174 yX9_clashMany ∈ ws0 := gwT5 (i := 33) (by decide +kernel) (by decide +kernel)
theorem wI_X9_clashMany : Cond.instanceMethod yX9_clashMany ∈ ws0 := gwT5 (i := 35) (by decide +kernel) (by decide +kernel)
theorem wC_X9_clashMany : Cond.code yX9_clashMany cX9_clashMany 3 (some .int) ∈ ws0 := gwT5 (i := 36) (by decide +kernel) (by decide +kernel)
theorem wm_X9_181 : Cond.methodLink RX9 181 yX9_ones ∈ ws0 := gwT5 (i := 37) (by decide +kernel) (by decide +kernel)
theorem wS_X9_ones : Cond.static yX9_ones ∈ ws0 := gwT5 (i := 38) (by decide +kernel) (by decide +kernel)
theorem wC_X9_ones : Cond.code yX9_ones cX9_ones 3 (some .int) ∈ ws0 := gwT5 (i := 39) (by decide +kernel) (by decide +kernel)
theorem wm_X9_177 : Cond.methodLink RX9 177 yX9_widthsIn ∈ ws0 := gwT5 (i := 40) (by decide +kernel) (by decide +kernel)
theorem wI_X9_widthsIn : Cond.instanceMethod yX9_widthsIn ∈ ws0 := gwT5 (i := 42) (by decide +kernel) (by decide +kernel)
theorem wC_X9_widthsIn : Cond.code yX9_widthsIn cX9_widthsIn 4 (some .int) ∈ ws0 := gwT5 (i := 43) (by decide +kernel) (by decide +kernel)
theorem wm_X9_171 : Cond.methodLink RX9 171 yX9_sumOf ∈ ws0 := gwT5 (i := 44) (by decide +kernel) (by decide +kernel)
theorem wI_X9_sumOf : Cond.instanceMethod yX9_sumOf ∈ ws0 := gwT5 (i := 46) (by decide +kernel) (by decide +kernel)
theorem wC_X9_sumOf : Cond.code yX9_sumOf cX9_sumOf 5 (some .int) ∈ ws0 := gwT5 (i := 47) (by decide +kernel) (by decide +kernel)
theorem wm_L_38 : Cond.methodLink RL 38 yX9_part ∈ ws0 := gwT5 (i := 48) (by decide +kernel) (by decide +kernel)
theorem wI_X9_part : Cond.instanceMethod yX9_part ∈ ws0 := gwT5 (i := 49) (by decide +kernel) (by decide +kernel)
theorem wV_X9_part : Cond.selects RX9 yX9_part yX9_part ∈ ws0 := gwT5 (i := 50) (by decide +kernel) (by decide +kernel)
theorem wC_X9_part : Cond.code yX9_part cX9_part 3 (some .int) ∈ ws0 := gwT5 (i := 51) (by decide +kernel) (by decide +kernel)
theorem wm_X9_184 : Cond.methodLink RX9 184 yX9_isPart ∈ ws0 := gwT5 (i := 52) (by decide +kernel) (by decide +kernel)
theorem wI_X9_isPart : Cond.instanceMethod yX9_isPart ∈ ws0 := gwT5 (i := 54) (by decide +kernel) (by decide +kernel)
theorem wC_X9_isPart : Cond.code yX9_isPart cX9_isPart 2 (some .boolean) ∈ ws0 := gwT5 (i := 55) (by decide +kernel) (by decide +kernel)
theorem wk_X9_188 : Cond.constant RX9 188 (-1000000001) ∈ ws0 := gwT5 (i := 56) (by decide +kernel) (by decide +kernel)
theorem wm_L_42 : Cond.methodLink RL 42 yX9_scene ∈ ws0 := gwT5 (i := 57) (by decide +kernel) (by decide +kernel)
theorem wI_X9_scene : Cond.instanceMethod yX9_scene ∈ ws0 := gwT5 (i := 58) (by decide +kernel) (by decide +kernel)
theorem wV_X9_scene : Cond.selects RX9 yX9_scene yX9_scene ∈ ws0 := gwT5 (i := 59) (by decide +kernel) (by decide +kernel)
theorem wC_X9_scene : Cond.code yX9_scene cX9_scene 3 (some .int) ∈ ws0 := gwT5 (i := 60) (by decide +kernel) (by decide +kernel)
theorem wm_X9_189 : Cond.methodLink RX9 189 yX9_isScene ∈ ws0 := gwT5 (i := 61) (by decide +kernel) (by decide +kernel)
theorem wI_X9_isScene : Cond.instanceMethod yX9_isScene ∈ ws0 := gwT5 (i := 63) (by decide +kernel) (by decide +kernel)
theorem wC_X9_isScene : Cond.code yX9_isScene cX9_isScene 2 (some .boolean) ∈ ws0 := gwT5 (i := 64) (by decide +kernel) (by decide +kernel)
theorem wm_L_46 : Cond.methodLink RL 46 yX9_look ∈ ws0 := gwT5 (i := 65) (by decide +kernel) (by decide +kernel)
theorem wI_X9_look : Cond.instanceMethod yX9_look ∈ ws0 := gwT5 (i := 66) (by decide +kernel) (by decide +kernel)
theorem wV_X9_look : Cond.selects RX9 yX9_look yX9_look ∈ ws0 := gwT5 (i := 67) (by decide +kernel) (by decide +kernel)
theorem wC_X9_look : Cond.code yX9_look cX9_look 3 (some .int) ∈ ws0 := gwT5 (i := 68) (by decide +kernel) (by decide +kernel)
theorem wl_X9_192 : Cond.constantLong RX9 192 (2) ∈ ws0 := gwT5 (i := 69) (by decide +kernel) (by decide +kernel)
theorem wm_L_50 : Cond.methodLink RL 50 yX9_law ∈ ws0 := gwT5 (i := 70) (by decide +kernel) (by decide +kernel)
theorem wI_X9_law : Cond.instanceMethod yX9_law ∈ ws0 := gwT5 (i := 71) (by decide +kernel) (by decide +kernel)
theorem wV_X9_law : Cond.selects RX9 yX9_law yX9_law ∈ ws0 := gwT5 (i := 72) (by decide +kernel) (by decide +kernel)
theorem wC_X9_law : Cond.code yX9_law cX9_law 3 (some .int) ∈ ws0 := gwT5 (i := 73) (by decide +kernel) (by decide +kernel)
theorem wm_L_54 : Cond.methodLink RL 54 yX9_price ∈ ws0 := gwT5 (i := 74) (by decide +kernel) (by decide +kernel)
theorem wI_X9_price : Cond.instanceMethod yX9_price ∈ ws0 := gwT5 (i := 75) (by decide +kernel) (by decide +kernel)
theorem wV_X9_price : Cond.selects RX9 yX9_price yX9_price ∈ ws0 := gwT5 (i := 76) (by decide +kernel) (by decide +kernel)
theorem wC_X9_price : Cond.code yX9_price cX9_price 4 (some .int) ∈ ws0 := gwT5 (i := 77) (by decide +kernel) (by decide +kernel)
theorem wl_X9_194 : Cond.constantLong RX9 194 (99) ∈ ws0 := gwT5 (i := 78) (by decide +kernel) (by decide +kernel)
theorem wm_L_58 : Cond.methodLink RL 58 yX9_width ∈ ws0 := gwT5 (i := 79) (by decide +kernel) (by decide +kernel)
theorem wI_X9_width : Cond.instanceMethod yX9_width ∈ ws0 := gwT5 (i := 80) (by decide +kernel) (by decide +kernel)
theorem wV_X9_width : Cond.selects RX9 yX9_width yX9_width ∈ ws0 := gwT5 (i := 81) (by decide +kernel) (by decide +kernel)
theorem wC_X9_width : Cond.code yX9_width cX9_width 4 (some .int) ∈ ws0 := gwT5 (i := 82) (by decide +kernel) (by decide +kernel)
theorem wl_X9_196 : Cond.constantLong RX9 196 (9) ∈ ws0 := gwT5 (i := 83) (by decide +kernel) (by decide +kernel)
theorem wm_L_62 : Cond.methodLink RL 62 yX9_cheapest ∈ ws0 := gwT5 (i := 84) (by decide +kernel) (by decide +kernel)
theorem wI_X9_cheapest : Cond.instanceMethod yX9_cheapest ∈ ws0 := gwT5 (i := 85) (by decide +kernel) (by decide +kernel)
theorem wV_X9_cheapest : Cond.selects RX9 yX9_cheapest yX9_cheapest ∈ ws0 := gwT5 (i := 86) (by decide +kernel) (by decide +kernel)
theorem wC_X9_cheapest : Cond.code yX9_cheapest cX9_cheapest 6 (some .int) ∈ ws0 := gwT5 (i := 87) (by decide +kernel) (by decide +kernel)
theorem wm_X9_201 : Cond.methodLink RX9 201 yX9_isFor ∈ ws0 := gwT5 (i := 88) (by decide +kernel) (by decide +kernel)
theorem wI_X9_isFor : Cond.instanceMethod yX9_isFor ∈ ws0 := gwT5 (i := 90) (by decide +kernel) (by decide +kernel)
theorem wC_X9_isFor : Cond.code yX9_isFor cX9_isFor 4 (some .boolean) ∈ ws0 := gwT5 (i := 91) (by decide +kernel) (by decide +kernel)
theorem wm_X9_198 : Cond.methodLink RX9 198 yX9_isFree ∈ ws0 := gwT5 (i := 92) (by decide +kernel) (by decide +kernel)
theorem wI_X9_isFree : Cond.instanceMethod yX9_isFree ∈ ws0 := gwT5 (i := 94) (by decide +kernel) (by decide +kernel)
theorem wC_X9_isFree : Cond.code yX9_isFree cX9_isFree 5 (some .boolean) ∈ ws0 := gwT5 (i := 95) (by decide +kernel) (by decide +kernel)
theorem wm_L_66 : Cond.methodLink RL 66 yX9_dressing ∈ ws0 := gwT5 (i := 96) (by decide +kernel) (by decide +kernel)
theorem wI_X9_dressing : Cond.instanceMethod yX9_dressing ∈ ws0 := gwT5 (i := 97) (by decide +kernel) (by decide +kernel)
theorem wV_X9_dressing : Cond.selects RX9 yX9_dressing yX9_dressing ∈ ws0 := gwT5 (i := 98) (by decide +kernel) (by decide +kernel)
theorem wC_X9_dressing : Cond.code yX9_dressing cX9_dressing 3 (some .int) ∈ ws0 := gwT5 (i := 99) (by decide +kernel) (by decide +kernel)
theorem wm_X9_234 : Cond.methodLink RX9 234 yX9_leastIn ∈ ws0 := gwT5 (i := 100) (by decide +kernel) (by decide +kernel)
theorem wI_X9_leastIn : Cond.instanceMethod yX9_leastIn ∈ ws0 := gwT5 (i := 102) (by decide +kernel) (by decide +kernel)
theorem wC_X9_leastIn : Cond.code yX9_leastIn cX9_leastIn 2 (some .int) ∈ ws0 := gwT5 (i := 103) (by decide +kernel) (by decide +kernel)
theorem wm_X9_217 : Cond.methodLink RX9 217 yX9_findAllSets ∈ ws0 := gwT5 (i := 104) (by decide +kernel) (by decide +kernel)
theorem wI_X9_findAllSets : Cond.instanceMethod yX9_findAllSets ∈ ws0 := gwT5 (i := 106) (by decide +kernel) (by decide +kernel)
theorem wC_X9_findAllSets : Cond.code yX9_findAllSets cX9_findAllSets 3 none ∈ ws0 := gwT5 (i := 107) (by decide +kernel) (by decide +kernel)
theorem wm_X9_210 : Cond.methodLink RX9 210 yX9_findSets ∈ ws0 := gwT5 (i := 108) (by decide +kernel) (by decide +kernel)
theorem wI_X9_findSets : Cond.instanceMethod yX9_findSets ∈ ws0 := gwT5 (i := 110) (by decide +kernel) (by decide +kernel)
theorem wC_X9_findSets : Cond.code yX9_findSets cX9_findSets 4 none ∈ ws0 := gwT5 (i := 111) (by decide +kernel) (by decide +kernel)
theorem wm_X9_205 : Cond.methodLink RX9 205 yX9_addScene ∈ ws0 := gwT5 (i := 112) (by decide +kernel) (by decide +kernel)
theorem wI_X9_addScene : Cond.instanceMethod yX9_addScene ∈ ws0 := gwT5 (i := 114) (by decide +kernel) (by decide +kernel)
theorem wC_X9_addScene : Cond.code yX9_addScene cX9_addScene 5 none ∈ ws0 := gwT5 (i := 115) (by decide +kernel) (by decide +kernel)
theorem wm_X9_221 : Cond.methodLink RX9 221 yX9_findLeast ∈ ws0 := gwT5 (i := 116) (by decide +kernel) (by decide +kernel)
theorem wI_X9_findLeast : Cond.instanceMethod yX9_findLeast ∈ ws0 := gwT5 (i := 118) (by decide +kernel) (by decide +kernel)
theorem wC_X9_findLeast : Cond.code yX9_findLeast cX9_findLeast 4 none ∈ ws0 := gwT5 (i := 119) (by decide +kernel) (by decide +kernel)
theorem wm_X9_213 : Cond.methodLink RX9 213 yX9_best ∈ ws0 := gwT5 (i := 120) (by decide +kernel) (by decide +kernel)
theorem wI_X9_best : Cond.instanceMethod yX9_best ∈ ws0 := gwT5 (i := 122) (by decide +kernel) (by decide +kernel)
theorem wC_X9_best : Cond.code yX9_best cX9_best 7 (some .int) ∈ ws0 := gwT5 (i := 123) (by decide +kernel) (by decide +kernel)
theorem wk_X9_209 : Cond.constant RX9 209 (1000000) ∈ ws0 := gwT5 (i := 124) (by decide +kernel) (by decide +kernel)
theorem wm_X9_237 : Cond.methodLink RX9 237 yX9_findWorn ∈ ws0 := gwT5 (i := 125) (by decide +kernel) (by decide +kernel)
theorem wI_X9_findWorn : Cond.instanceMethod yX9_findWorn ∈ ws0 := gwT5 (i := 127) (by decide +kernel) (by decide +kernel)
theorem wC_X9_findWorn : Cond.code yX9_findWorn cX9_findWorn 7 none ∈ ws0 := gwT5 (i := 128) (by decide +kernel) (by decide +kernel)
theorem wm_X9_224 : Cond.methodLink RX9 224 yX9_one ∈ ws0 := gwT5 (i := 129) (by decide +kernel) (by decide +kernel)
theorem wS_X9_one : Cond.static yX9_one ∈ ws0 := gwT5 (i := 130) (by decide +kernel) (by decide +kernel)
theorem wC_X9_one : Cond.code yX9_one cX9_one 1 (some .int) ∈ ws0 := gwT5 (i := 131) (by decide +kernel) (by decide +kernel)
theorem wm_X9_240 : Cond.methodLink RX9 240 yX9_lookOf ∈ ws0 := gwT5 (i := 132) (by decide +kernel) (by decide +kernel)
theorem wI_X9_lookOf : Cond.instanceMethod yX9_lookOf ∈ ws0 := gwT5 (i := 134) (by decide +kernel) (by decide +kernel)
theorem wC_X9_lookOf : Cond.code yX9_lookOf cX9_lookOf 5 (some .int) ∈ ws0 := gwT5 (i := 135) (by decide +kernel) (by decide +kernel)
theorem wm_X9_228 : Cond.methodLink RX9 228 yX9_firstLook ∈ ws0 := gwT5 (i := 136) (by decide +kernel) (by decide +kernel)
theorem wI_X9_firstLook : Cond.instanceMethod yX9_firstLook ∈ ws0 := gwT5 (i := 138) (by decide +kernel) (by decide +kernel)
theorem wC_X9_firstLook : Cond.code yX9_firstLook cX9_firstLook 6 (some .int) ∈ ws0 := gwT5 (i := 139) (by decide +kernel) (by decide +kernel)
theorem wm_X9_231 : Cond.methodLink RX9 231 yX9_canRest ∈ ws0 := gwT5 (i := 140) (by decide +kernel) (by decide +kernel)
theorem wI_X9_canRest : Cond.instanceMethod yX9_canRest ∈ ws0 := gwT5 (i := 142) (by decide +kernel) (by decide +kernel)
theorem wC_X9_canRest : Cond.code yX9_canRest cX9_canRest 5 (some .boolean) ∈ ws0 := gwT5 (i := 143) (by decide +kernel) (by decide +kernel)
theorem wm_L_70 : Cond.methodLink RL 70 yX9_rent ∈ ws0 := gwT5 (i := 144) (by decide +kernel) (by decide +kernel)
theorem wI_X9_rent : Cond.instanceMethod yX9_rent ∈ ws0 := gwT5 (i := 145) (by decide +kernel) (by decide +kernel)
theorem wV_X9_rent : Cond.selects RX9 yX9_rent yX9_rent ∈ ws0 := gwT5 (i := 146) (by decide +kernel) (by decide +kernel)
theorem wC_X9_rent : Cond.code yX9_rent cX9_rent 2 (some .int) ∈ ws0 := gwT5 (i := 147) (by decide +kernel) (by decide +kernel)
theorem wl_X9_243 : Cond.constantLong RX9 243 (3) ∈ ws0 := gwT5 (i := 148) (by decide +kernel) (by decide +kernel)
theorem wm_X9_245 : Cond.methodLink RX9 245 yX9_rentIn ∈ ws0 := gwT5 (i := 149) (by decide +kernel) (by decide +kernel)
theorem wI_X9_rentIn : Cond.instanceMethod yX9_rentIn ∈ ws0 := gwT5 (i := 151) (by decide +kernel) (by decide +kernel)
theorem wC_X9_rentIn : Cond.code yX9_rentIn cX9_rentIn 6 (some .int) ∈ ws0 := gwT5 (i := 152) (by decide +kernel) (by decide +kernel)
theorem wm_L_74 : Cond.methodLink RL 74 yX9_without ∈ ws0 := gwT5 (i := 153) (by decide +kernel) (by decide +kernel)
theorem wI_X9_without : Cond.instanceMethod yX9_without ∈ ws0 := gwT5 (i := 154) (by decide +kernel) (by decide +kernel)
theorem wV_X9_without : Cond.selects RX9 yX9_without yX9_without ∈ ws0 := gwT5 (i := 155) (by decide +kernel) (by decide +kernel)
theorem wC_X9_without : Cond.code yX9_without cX9_without 4 (some .int) ∈ ws0 := gwT5 (i := 156) (by decide +kernel) (by decide +kernel)
theorem wm_L_78 : Cond.methodLink RL 78 yX9_raise ∈ ws0 := gwT5 (i := 157) (by decide +kernel) (by decide +kernel)
theorem wI_X9_raise : Cond.instanceMethod yX9_raise ∈ ws0 := gwT5 (i := 158) (by decide +kernel) (by decide +kernel)
theorem wV_X9_raise : Cond.selects RX9 yX9_raise yX9_raise ∈ ws0 := gwT5 (i := 159) (by decide +kernel) (by decide +kernel)
theorem wC_X9_raise : Cond.code yX9_raise cX9_raise 8 (some .int) ∈ ws0 := gwT5 (i := 160) (by decide +kernel) (by decide +kernel)
theorem wm_X9_248 : Cond.methodLink RX9 248 yX9_copy ∈ ws0 := gwT5 (i := 161) (by decide +kernel) (by decide +kernel)
theorem wI_X9_copy : Cond.instanceMethod yX9_copy ∈ ws0 := gwT5 (i := 163) (by decide +kernel) (by decide +kernel)
theorem wC_X9_copy : Cond.code yX9_copy cX9_copy 4 none ∈ ws0 := gwT5 (i := 164) (by decide +kernel) (by decide +kernel)
theorem wm_L_82 : Cond.methodLink RL 82 yX9_grow ∈ ws0 := gwT5 (i := 165) (by decide +kernel) (by decide +kernel)
theorem wI_X9_grow : Cond.instanceMethod yX9_grow ∈ ws0 := gwT5 (i := 166) (by decide +kernel) (by decide +kernel)
theorem wV_X9_grow : Cond.selects RX9 yX9_grow yX9_grow ∈ ws0 := gwT5 (i := 167) (by decide +kernel) (by decide +kernel)
theorem wC_X9_grow : Cond.code yX9_grow cX9_grow 8 (some .int) ∈ ws0 := gwT5 (i := 168) (by decide +kernel) (by decide +kernel)
theorem wm_L_86 : Cond.methodLink RL 86 yX9_wedding ∈ ws0 := gwT5 (i := 169) (by decide +kernel) (by decide +kernel)
theorem wI_X9_wedding : Cond.instanceMethod yX9_wedding ∈ ws0 := gwT5 (i := 170) (by decide +kernel) (by decide +kernel)
theorem wV_X9_wedding : Cond.selects RX9 yX9_wedding yX9_wedding ∈ ws0 := gwT5 (i := 171) (by decide +kernel) (by decide +kernel)
theorem wC_X9_wedding : Cond.code yX9_wedding cX9_wedding 9 (some .int) ∈ ws0 := gwT5 (i := 172) (by decide +kernel) (by decide +kernel)
theorem wl_X9_251 : Cond.constantLong RX9 251 (11) ∈ ws0 := gwT5 (i := 173) (by decide +kernel) (by decide +kernel)
theorem wm_L_90 : Cond.methodLink RL 90 yX9_see ∈ ws0 := gwT5 (i := 174) (by decide +kernel) (by decide +kernel)
theorem wI_X9_see : Cond.instanceMethod yX9_see ∈ ws0 := gwT5 (i := 175) (by decide +kernel) (by decide +kernel)
theorem wV_X9_see : Cond.selects RX9 yX9_see yX9_see ∈ ws0 := gwT5 (i := 176) (by decide +kernel) (by decide +kernel)
theorem wC_X9_see : Cond.code yX9_see cX9_see 3 (some .int) ∈ ws0 := gwT5 (i := 177) (by decide +kernel) (by decide +kernel)
theorem wl_X9_253 : Cond.constantLong RX9 253 (27) ∈ ws0 := gwT5 (i := 178) (by decide +kernel) (by decide +kernel)
theorem wm_L_94 : Cond.methodLink RL 94 yX9_seen ∈ ws0 := gwT5 (i := 179) (by decide +kernel) (by decide +kernel)
theorem wI_X9_seen : Cond.instanceMethod yX9_seen ∈ ws0 := gwT5 (i := 180) (by decide +kernel) (by decide +kernel)
theorem wV_X9_seen : Cond.selects RX9 yX9_seen yX9_seen ∈ ws0 := gwT5 (i := 181) (by decide +kernel) (by decide +kernel)
theorem wC_X9_seen : Cond.code yX9_seen cX9_seen 3 (some .int) ∈ ws0 := gwT5 (i := 182) (by decide +kernel) (by decide +kernel)
theorem wm_X9_255 : Cond.methodLink RX9 255 yX9_seenBy ∈ ws0 := gwT5 (i := 183) (by decide +kernel) (by decide +kernel)
theorem wI_X9_seenBy : Cond.instanceMethod yX9_seenBy ∈ ws0 := gwT5 (i := 185) (by decide +kernel) (by decide +kernel)
theorem wC_X9_seenBy : Cond.code yX9_seenBy cX9_seenBy 6 (some .int) ∈ ws0 := gwT5 (i := 186) (by decide +kernel) (by decide +kernel)
theorem wm_L_98 : Cond.methodLink RL 98 yX9_strange ∈ ws0 := gwT5 (i := 187) (by decide +kernel) (by decide +kernel)
theorem wI_X9_strange : Cond.instanceMethod yX9_strange ∈ ws0 := gwT5 (i := 188) (by decide +kernel) (by decide +kernel)
theorem wV_X9_strange : Cond.selects RX9 yX9_strange yX9_strange ∈ ws0 := gwT5 (i := 189) (by decide +kernel) (by decide +kernel)
theorem wC_X9_strange : Cond.code yX9_strange cX9_strange 2 (some .int) ∈ ws0 := gwT5 (i := 190) (by decide +kernel) (by decide +kernel)
theorem wm_L_102 : Cond.methodLink RL 102 yX9_day ∈ ws0 := gwT5 (i := 191) (by decide +kernel) (by decide +kernel)
theorem wI_X9_day : Cond.instanceMethod yX9_day ∈ ws0 := gwT5 (i := 192) (by decide +kernel) (by decide +kernel)
theorem wV_X9_day : Cond.selects RX9 yX9_day yX9_day ∈ ws0 := gwT5 (i := 193) (by decide +kernel) (by decide +kernel)
theorem wC_X9_day : Cond.code yX9_day cX9_day 4 (some .int) ∈ ws0 := gwT5 (i := 194) (by decide +kernel) (by decide +kernel)
theorem wm_X9_259 : Cond.methodLink RX9 259 yX9_pass ∈ ws0 := gwT5 (i := 195) (by decide +kernel) (by decide +kernel)
theorem wI_X9_pass : Cond.instanceMethod yX9_pass ∈ ws0 := gwT5 (i := 197) (by decide +kernel) (by decide +kernel)
theorem wC_X9_pass : Cond.code yX9_pass cX9_pass 4 (some .int) ∈ ws0 := gwT5 (i := 198) (by decide +kernel) (by decide +kernel)
theorem wk_X9_258 : Cond.constant RX9 258 (999999999) ∈ ws0 := gwT5 (i := 199) (by decide +kernel) (by decide +kernel)
theorem wm_L_106 : Cond.methodLink RL 106 yX9_drift ∈ ws0 := gwT5 (i := 200) (by decide +kernel) (by decide +kernel)
theorem wI_X9_drift : Cond.instanceMethod yX9_drift ∈ ws0 := gwT5 (i := 201) (by decide +kernel) (by decide +kernel)
theorem wV_X9_drift : Cond.selects RX9 yX9_drift yX9_drift ∈ ws0 := gwT5 (i := 202) (by decide +kernel) (by decide +kernel)
theorem wC_X9_drift : Cond.code yX9_drift cX9_drift 7 (some .int) ∈ ws0 := gwT5 (i := 203) (by decide +kernel) (by decide +kernel)
theorem wm_X9_269 : Cond.methodLink RX9 269 yX9_draw ∈ ws0 := gwT5 (i := 204) (by decide +kernel) (by decide +kernel)
theorem wI_X9_draw : Cond.instanceMethod yX9_draw ∈ ws0 := gwT5 (i := 206) (by decide +kernel) (by decide +kernel)
theorem wC_X9_draw : Cond.code yX9_draw cX9_draw 2 (some .int) ∈ ws0 := gwT5 (i := 207) (by decide +kernel) (by decide +kernel)
theorem wl_X9_262 : Cond.constantLong RX9 262 (1103515245) ∈ ws0 := gwT5 (i := 208) (by decide +kernel) (by decide +kernel)
theorem wl_X9_264 : Cond.constantLong RX9 264 (12345) ∈ ws0 := gwT5 (i := 209) (by decide +kernel) (by decide +kernel)
theorem wl_X9_266 : Cond.constantLong RX9 266 (2147483648) ∈ ws0 := gwT5 (i := 210) (by decide +kernel) (by decide +kernel)
theorem wk_X9_268 : Cond.constant RX9 268 (65536) ∈ ws0 := gwT5 (i := 211) (by decide +kernel) (by decide +kernel)
theorem wm_L_110 : Cond.methodLink RL 110 yX9_write ∈ ws0 := gwT5 (i := 212) (by decide +kernel) (by decide +kernel)
theorem wI_X9_write : Cond.instanceMethod yX9_write ∈ ws0 := gwT5 (i := 213) (by decide +kernel) (by decide +kernel)
theorem wV_X9_write : Cond.selects RX9 yX9_write yX9_write ∈ ws0 := gwT5 (i := 214) (by decide +kernel) (by decide +kernel)
theorem wC_X9_write : Cond.code yX9_write cX9_write 3 (some .int) ∈ ws0 := gwT5 (i := 215) (by decide +kernel) (by decide +kernel)
theorem wm_L_114 : Cond.methodLink RL 114 yX9_tear ∈ ws0 := gwT5 (i := 216) (by decide +kernel) (by decide +kernel)
theorem wI_X9_tear : Cond.instanceMethod yX9_tear ∈ ws0 := gwT5 (i := 217) (by decide +kernel) (by decide +kernel)
theorem wV_X9_tear : Cond.selects RX9 yX9_tear yX9_tear ∈ ws0 := gwT5 (i := 218) (by decide +kernel) (by decide +kernel)
theorem wC_X9_tear : Cond.code yX9_tear cX9_tear 2 (some .int) ∈ ws0 := gwT5 (i := 219) (by decide +kernel) (by decide +kernel)
theorem wm_L_118 : Cond.methodLink RL 118 yX9_judge ∈ ws0 := gwT5 (i := 220) (by decide +kernel) (by decide +kernel)
theorem wI_X9_judge : Cond.instanceMethod yX9_judge ∈ ws0 := gwT5 (i := 221) (by decide +kernel) (by decide +kernel)
theorem wV_X9_judge : Cond.selects RX9 yX9_judge yX9_judge ∈ ws0 := gwT5 (i := 222) (by decide +kernel) (by decide +kernel)
theorem wC_X9_judge : Cond.code yX9_judge cX9_judge 6 (some .int) ∈ ws0 := gwT5 (i := 223) (by decide +kernel) (by decide +kernel)
theorem wm_L_122 : Cond.methodLink RL 122 yX9_seed ∈ ws0 := gwT5 (i := 224) (by decide +kernel) (by decide +kernel)
theorem wI_X9_seed : Cond.instanceMethod yX9_seed ∈ ws0 := gwT5 (i := 225) (by decide +kernel) (by decide +kernel)
theorem wV_X9_seed : Cond.selects RX9 yX9_seed yX9_seed ∈ ws0 := gwT5 (i := 226) (by decide +kernel) (by decide +kernel)
theorem wC_X9_seed : Cond.code yX9_seed cX9_seed 3 (some .int) ∈ ws0 := gwT5 (i := 227) (by decide +kernel) (by decide +kernel)
theorem wm_L_126 : Cond.methodLink RL 126 yX9_keep ∈ ws0 := gwT5 (i := 228) (by decide +kernel) (by decide +kernel)
theorem wI_X9_keep : Cond.instanceMethod yX9_keep ∈ ws0 := gwT5 (i := 229) (by decide +kernel) (by decide +kernel)
theorem wV_X9_keep : Cond.selects RX9 yX9_keep yX9_keep ∈ ws0 := gwT5 (i := 230) (by decide +kernel) (by decide +kernel)
theorem wC_X9_keep : Cond.code yX9_keep cX9_keep 2 (some .int) ∈ ws0 := gwT5 (i := 231) (by decide +kernel) (by decide +kernel)
theorem wm_L_130 : Cond.methodLink RL 130 yX9_goBack ∈ ws0 := gwT5 (i := 232) (by decide +kernel) (by decide +kernel)
theorem wI_X9_goBack : Cond.instanceMethod yX9_goBack ∈ ws0 := gwT5 (i := 233) (by decide +kernel) (by decide +kernel)
theorem wV_X9_goBack : Cond.selects RX9 yX9_goBack yX9_goBack ∈ ws0 := gwT5 (i := 234) (by decide +kernel) (by decide +kernel)
theorem wC_X9_goBack : Cond.code yX9_goBack cX9_goBack 2 (some .int) ∈ ws0 := gwT5 (i := 235) (by decide +kernel) (by decide +kernel)
theorem wk_X9_272 : Cond.constant RX9 272 (-1000000003) ∈ ws0 := gwT5 (i := 236) (by decide +kernel) (by decide +kernel)
theorem wl_L_13 : Cond.constantLong RL 13 (4294967295) ∈ ws0 := gwT5 (i := 237) (by decide +kernel) (by decide +kernel)
theorem wf_J0_9 : Cond.fieldLink RJ0 9 "java/lang/String" "value" "[B" ∈ ws0 := gwT5 (i := 238) (by decide +kernel) (by decide +kernel)
theorem wf_J0_15 : Cond.fieldLink RJ0 15 "java/lang/String" "coder" "B" ∈ ws0 := gwT5 (i := 239) (by decide +kernel) (by decide +kernel)
theorem wV_X6_add : Cond.selects RX6 yX6_add yX6_add ∈ ws0 := gwS (i := 0) (q := (yX6_add, 2)) (by decide +kernel)
theorem wV_X3_readTown : Cond.selects RX3 yX3_readTown yX3_readTown ∈ ws0 := gwS (i := 1) (q := (yX3_readTown, 6)) (by decide +kernel)
theorem wV_X7_clear : Cond.selects RX7 yX7_clear yX7_clear ∈ ws0 := gwS (i := 2) (q := (yX7_clear, 13)) (by decide +kernel)
theorem wV_X3_skipBlanks : Cond.selects RX3 yX3_skipBlanks yX3_skipBlanks ∈ ws0 := gwS (i := 3) (q := (yX3_skipBlanks, 6)) (by decide +kernel)
theorem wV_X6_byteAt : Cond.selects RX6 yX6_byteAt yX6_byteAt ∈ ws0 := gwS (i := 4) (q := (yX6_byteAt, 2)) (by decide +kernel)
theorem wV_X3_readWord : Cond.selects RX3 yX3_readWord yX3_readWord ∈ ws0 := gwS (i := 5) (q := (yX3_readWord, 6)) (by decide +kernel)
theorem wV_X6_isLetter : Cond.selects RX6 yX6_isLetter yX6_isLetter ∈ ws0 := gwS (i := 6) (q := (yX6_isLetter, 2)) (by decide +kernel)
theorem wV_X6_stands : Cond.selects RX6 yX6_stands yX6_stands ∈ ws0 := gwS (i := 7) (q := (yX6_stands, 2)) (by decide +kernel)
theorem wV_X3_readPart : Cond.selects RX3 yX3_readPart yX3_readPart ∈ ws0 := gwS (i := 8) (q := (yX3_readPart, 6)) (by decide +kernel)
theorem wV_X3_fail : Cond.selects RX3 yX3_fail yX3_fail ∈ ws0 := gwS (i := 9) (q := (yX3_fail, 6)) (by decide +kernel)
theorem wV_X3_readKind : Cond.selects RX3 yX3_readKind yX3_readKind ∈ ws0 := gwS (i := 10) (q := (yX3_readKind, 6)) (by decide +kernel)
theorem wV_X3_readNumber : Cond.selects RX3 yX3_readNumber yX3_readNumber ∈ ws0 := gwS (i := 11) (q := (yX3_readNumber, 6)) (by decide +kernel)
theorem wV_X6_isFigure : Cond.selects RX6 yX6_isFigure yX6_isFigure ∈ ws0 := gwS (i := 12) (q := (yX6_isFigure, 2)) (by decide +kernel)
theorem wV_X3_readEnd : Cond.selects RX3 yX3_readEnd yX3_readEnd ∈ ws0 := gwS (i := 13) (q := (yX3_readEnd, 6)) (by decide +kernel)
theorem wV_X7_addPart : Cond.selects RX7 yX7_addPart yX7_addPart ∈ ws0 := gwS (i := 14) (q := (yX7_addPart, 13)) (by decide +kernel)
theorem wV_X7_setHoursOfLatest : Cond.selects RX7 yX7_setHoursOfLatest yX7_setHoursOfLatest ∈ ws0 := gwS (i := 15) (q := (yX7_setHoursOfLatest, 13)) (by decide +kernel)
theorem wV_X7_hasPart : Cond.selects RX7 yX7_hasPart yX7_hasPart ∈ ws0 := gwS (i := 16) (q := (yX7_hasPart, 13)) (by decide +kernel)
theorem wV_X3_readClash : Cond.selects RX3 yX3_readClash yX3_readClash ∈ ws0 := gwS (i := 17) (q := (yX3_readClash, 6)) (by decide +kernel)
theorem wV_X7_isClash : Cond.selects RX7 yX7_isClash yX7_isClash ∈ ws0 := gwS (i := 18) (q := (yX7_isClash, 13)) (by decide +kernel)
theorem wV_X7_addClash : Cond.selects RX7 yX7_addClash yX7_addClash ∈ ws0 := gwS (i := 19) (q := (yX7_addClash, 13)) (by decide +kernel)
theorem wV_X3_readScene : Cond.selects RX3 yX3_readScene yX3_readScene ∈ ws0 := gwS (i := 20) (q := (yX3_readScene, 6)) (by decide +kernel)
theorem wV_X7_addScene : Cond.selects RX7 yX7_addScene yX7_addScene ∈ ws0 := gwS (i := 21) (q := (yX7_addScene, 13)) (by decide +kernel)
theorem wV_X7_copyFrom : Cond.selects RX7 yX7_copyFrom yX7_copyFrom ∈ ws0 := gwS (i := 22) (q := (yX7_copyFrom, 13)) (by decide +kernel)
theorem wV_X5_beginIn : Cond.selects RX5 yX5_beginIn yX5_beginIn ∈ ws0 := gwS (i := 23) (q := (yX5_beginIn, 7)) (by decide +kernel)
theorem wV_X2_build : Cond.selects RX2 yX2_build yX2_build ∈ ws0 := gwS (i := 24) (q := (yX2_build, 6)) (by decide +kernel)
theorem wV_X2_isLook : Cond.selects RX2 yX2_isLook yX2_isLook ∈ ws0 := gwS (i := 25) (q := (yX2_isLook, 6)) (by decide +kernel)
theorem wV_X7_isOfKind : Cond.selects RX7 yX7_isOfKind yX7_isOfKind ∈ ws0 := gwS (i := 26) (q := (yX7_isOfKind, 13)) (by decide +kernel)
theorem wV_X2_widthsIf : Cond.selects RX2 yX2_widthsIf yX2_widthsIf ∈ ws0 := gwS (i := 27) (q := (yX2_widthsIf, 6)) (by decide +kernel)
theorem wV_X2_widthOf : Cond.selects RX2 yX2_widthOf yX2_widthOf ∈ ws0 := gwS (i := 28) (q := (yX2_widthOf, 6)) (by decide +kernel)
theorem wV_X2_sumOf : Cond.selects RX2 yX2_sumOf yX2_sumOf ∈ ws0 := gwS (i := 29) (q := (yX2_sumOf, 6)) (by decide +kernel)
theorem wV_X2_partsOf : Cond.selects RX2 yX2_partsOf yX2_partsOf ∈ ws0 := gwS (i := 30) (q := (yX2_partsOf, 6)) (by decide +kernel)
theorem wV_X7_hasScene : Cond.selects RX7 yX7_hasScene yX7_hasScene ∈ ws0 := gwS (i := 31) (q := (yX7_hasScene, 13)) (by decide +kernel)
theorem wV_X2_priceOf : Cond.selects RX2 yX2_priceOf yX2_priceOf ∈ ws0 := gwS (i := 32) (q := (yX2_priceOf, 6)) (by decide +kernel)
theorem wV_X2_cheapestFor : Cond.selects RX2 yX2_cheapestFor yX2_cheapestFor ∈ ws0 := gwS (i := 33) (q := (yX2_cheapestFor, 6)) (by decide +kernel)
theorem wV_X7_freeIn : Cond.selects RX7 yX7_freeIn yX7_freeIn ∈ ws0 := gwS (i := 34) (q := (yX7_freeIn, 13)) (by decide +kernel)
theorem wV_X7_isFree : Cond.selects RX7 yX7_isFree yX7_isFree ∈ ws0 := gwS (i := 35) (q := (yX7_isFree, 13)) (by decide +kernel)
theorem wV_X2_isFor : Cond.selects RX2 yX2_isFor yX2_isFor ∈ ws0 := gwS (i := 36) (q := (yX2_isFor, 6)) (by decide +kernel)
theorem wV_X8_dressBest : Cond.selects RX8 yX8_dressBest yX8_dressBest ∈ ws0 := gwS (i := 37) (q := (yX8_dressBest, 14)) (by decide +kernel)
theorem wV_X1_gather : Cond.selects RX1 yX1_gather yX1_gather ∈ ws0 := gwS (i := 38) (q := (yX1_gather, 9)) (by decide +kernel)
theorem wV_X1_addSet : Cond.selects RX1 yX1_addSet yX1_addSet ∈ ws0 := gwS (i := 39) (q := (yX1_addSet, 9)) (by decide +kernel)
theorem wV_X1_dressOneMore : Cond.selects RX1 yX1_dressOneMore yX1_dressOneMore ∈ ws0 := gwS (i := 40) (q := (yX1_dressOneMore, 9)) (by decide +kernel)
theorem wV_X1_choose : Cond.selects RX1 yX1_choose yX1_choose ∈ ws0 := gwS (i := 41) (q := (yX1_choose, 9)) (by decide +kernel)
theorem wV_X1_cheapestAfter : Cond.selects RX1 yX1_cheapestAfter yX1_cheapestAfter ∈ ws0 := gwS (i := 42) (q := (yX1_cheapestAfter, 9)) (by decide +kernel)
theorem wV_X1_firstCheapest : Cond.selects RX1 yX1_firstCheapest yX1_firstCheapest ∈ ws0 := gwS (i := 43) (q := (yX1_firstCheapest, 9)) (by decide +kernel)
theorem wV_X1_giveLooks : Cond.selects RX1 yX1_giveLooks yX1_giveLooks ∈ ws0 := gwS (i := 44) (q := (yX1_giveLooks, 9)) (by decide +kernel)
theorem wV_X7_ownedBy : Cond.selects RX7 yX7_ownedBy yX7_ownedBy ∈ ws0 := gwS (i := 45) (q := (yX7_ownedBy, 13)) (by decide +kernel)
theorem wV_X1_priceOfWorn : Cond.selects RX1 yX1_priceOfWorn yX1_priceOfWorn ∈ ws0 := gwS (i := 46) (q := (yX1_priceOfWorn, 9)) (by decide +kernel)
theorem wV_X5_raisePrices : Cond.selects RX5 yX5_raisePrices yX5_raisePrices ∈ ws0 := gwS (i := 47) (q := (yX5_raisePrices, 7)) (by decide +kernel)
theorem wV_X2_mayMarry : Cond.selects RX2 yX2_mayMarry yX2_mayMarry ∈ ws0 := gwS (i := 48) (q := (yX2_mayMarry, 6)) (by decide +kernel)
theorem wV_X4_add : Cond.selects RX4 yX4_add yX4_add ∈ ws0 := gwS (i := 49) (q := (yX4_add, 5)) (by decide +kernel)
theorem wV_X4_mayBeWorn : Cond.selects RX4 yX4_mayBeWorn yX4_mayBeWorn ∈ ws0 := gwS (i := 50) (q := (yX4_mayBeWorn, 5)) (by decide +kernel)
theorem wV_X4_mayBe : Cond.selects RX4 yX4_mayBe yX4_mayBe ∈ ws0 := gwS (i := 51) (q := (yX4_mayBe, 5)) (by decide +kernel)
theorem wV_X4_surelyWorn : Cond.selects RX4 yX4_surelyWorn yX4_surelyWorn ∈ ws0 := gwS (i := 52) (q := (yX4_surelyWorn, 5)) (by decide +kernel)
theorem wV_X4_firstStrange : Cond.selects RX4 yX4_firstStrange yX4_firstStrange ∈ ws0 := gwS (i := 53) (q := (yX4_firstStrange, 5)) (by decide +kernel)
theorem wV_X8_passDay : Cond.selects RX8 yX8_passDay yX8_passDay ∈ ws0 := gwS (i := 54) (q := (yX8_passDay, 14)) (by decide +kernel)
theorem wV_X5_wearHour : Cond.selects RX5 yX5_wearHour yX5_wearHour ∈ ws0 := gwS (i := 55) (q := (yX5_wearHour, 7)) (by decide +kernel)
theorem wV_X5_wearOut : Cond.selects RX5 yX5_wearOut yX5_wearOut ∈ ws0 := gwS (i := 56) (q := (yX5_wearOut, 7)) (by decide +kernel)
theorem wV_X5_drawPrices : Cond.selects RX5 yX5_drawPrices yX5_drawPrices ∈ ws0 := gwS (i := 57) (q := (yX5_drawPrices, 7)) (by decide +kernel)
theorem wV_X5_drawOfFour : Cond.selects RX5 yX5_drawOfFour yX5_drawOfFour ∈ ws0 := gwS (i := 58) (q := (yX5_drawOfFour, 7)) (by decide +kernel)
theorem wV_X0_add : Cond.selects RX0 yX0_add yX0_add ∈ ws0 := gwS (i := 59) (q := (yX0_add, 4)) (by decide +kernel)
theorem wV_X0_firstWrong : Cond.selects RX0 yX0_firstWrong yX0_firstWrong ∈ ws0 := gwS (i := 60) (q := (yX0_firstWrong, 4)) (by decide +kernel)
theorem wV_X0_wasToldAhead : Cond.selects RX0 yX0_wasToldAhead yX0_wasToldAhead ∈ ws0 := gwS (i := 61) (q := (yX0_wasToldAhead, 4)) (by decide +kernel)
theorem wV_X8_imageAt : Cond.selects RX8 yX8_imageAt yX8_imageAt ∈ ws0 := gwS (i := 62) (q := (yX8_imageAt, 14)) (by decide +kernel)
theorem wV_X5_copyFrom : Cond.selects RX5 yX5_copyFrom yX5_copyFrom ∈ ws0 := gwS (i := 63) (q := (yX5_copyFrom, 7)) (by decide +kernel)
theorem wV_X9_here : Cond.selects RX9 yX9_here yX9_here ∈ ws0 := gwS (i := 64) (q := (yX9_here, 34)) (by decide +kernel)
theorem wV_X9_takeClause : Cond.selects RX9 yX9_takeClause yX9_takeClause ∈ ws0 := gwS (i := 65) (q := (yX9_takeClause, 34)) (by decide +kernel)
theorem wV_X9_takeWord : Cond.selects RX9 yX9_takeWord yX9_takeWord ∈ ws0 := gwS (i := 66) (q := (yX9_takeWord, 34)) (by decide +kernel)
theorem wV_X9_isWord : Cond.selects RX9 yX9_isWord yX9_isWord ∈ ws0 := gwS (i := 67) (q := (yX9_isWord, 34)) (by decide +kernel)
theorem wV_X9_want : Cond.selects RX9 yX9_want yX9_want ∈ ws0 := gwS (i := 68) (q := (yX9_want, 34)) (by decide +kernel)
theorem wV_X9_takePart : Cond.selects RX9 yX9_takePart yX9_takePart ∈ ws0 := gwS (i := 69) (q := (yX9_takePart, 34)) (by decide +kernel)
theorem wV_X9_takeNumber : Cond.selects RX9 yX9_takeNumber yX9_takeNumber ∈ ws0 := gwS (i := 70) (q := (yX9_takeNumber, 34)) (by decide +kernel)
theorem wV_X9_takeClash : Cond.selects RX9 yX9_takeClash yX9_takeClash ∈ ws0 := gwS (i := 71) (q := (yX9_takeClash, 34)) (by decide +kernel)
theorem wV_X9_takeScene : Cond.selects RX9 yX9_takeScene yX9_takeScene ∈ ws0 := gwS (i := 72) (q := (yX9_takeScene, 34)) (by decide +kernel)
theorem wV_X9_findLooks : Cond.selects RX9 yX9_findLooks yX9_findLooks ∈ ws0 := gwS (i := 73) (q := (yX9_findLooks, 34)) (by decide +kernel)
theorem wV_X9_clashMany : Cond.selects RX9 yX9_clashMany yX9_clashMany ∈ ws0 := gwS (i := 74) (q := (yX9_clashMany, 34)) (by decide +kernel)
theorem wV_X9_widthsIn : Cond.selects RX9 yX9_widthsIn yX9_widthsIn ∈ ws0 := gwS (i := 75) (q := (yX9_widthsIn, 34)) (by decide +kernel)
theorem wV_X9_sumOf : Cond.selects RX9 yX9_sumOf yX9_sumOf ∈ ws0 := gwS (i := 76) (q := (yX9_sumOf, 34)) (by decide +kernel)
theorem wV_X9_isPart : Cond.selects RX9 yX9_isPart yX9_isPart ∈ ws0 := gwS (i := 77) (q := (yX9_isPart, 34)) (by decide +kernel)
theorem wV_X9_isScene : Cond.selects RX9 yX9_isScene yX9_isScene ∈ ws0 := gwS (i := 78) (q := (yX9_isScene, 34)) (by decide +kernel)
theorem wV_X9_isFor : Cond.selects RX9 yX9_isFor yX9_isFor ∈ ws0 := gwS (i := 79) (q := (yX9_isFor, 34)) (by decide +kernel)
theorem wV_X9_isFree : Cond.selects RX9 yX9_isFree yX9_isFree ∈ ws0 := gwS (i := 80) (q := (yX9_isFree, 34)) (by decide +kernel)
theorem wV_X9_leastIn : Cond.selects RX9 yX9_leastIn yX9_leastIn ∈ ws0 := gwS (i := 81) (q := (yX9_leastIn, 34)) (by decide +kernel)
theorem wV_X9_findAllSets : Cond.selects RX9 yX9_findAllSets yX9_findAllSets ∈ ws0 := gwS (i := 82) (q := (yX9_findAllSets, 34)) (by decide +kernel)
theorem wV_X9_findSets : Cond.selects RX9 yX9_findSets yX9_findSets ∈ ws0 := gwS (i := 83) (q := (yX9_findSets, 34)) (by decide +kernel)
theorem wV_X9_addScene : Cond.selects RX9 yX9_addScene yX9_addScene ∈ ws0 := gwS (i := 84) (q := (yX9_addScene, 34)) (by decide +kernel)
theorem wV_X9_findLeast : Cond.selects RX9 yX9_findLeast yX9_findLeast ∈ ws0 := gwS (i := 85) (q := (yX9_findLeast, 34)) (by decide +kernel)
theorem wV_X9_best : Cond.selects RX9 yX9_best yX9_best ∈ ws0 := gwS (i := 86) (q := (yX9_best, 34)) (by decide +kernel)
theorem wV_X9_findWorn : Cond.selects RX9 yX9_findWorn yX9_findWorn ∈ ws0 := gwS (i := 87) (q := (yX9_findWorn, 34)) (by decide +kernel)
theorem wV_X9_lookOf : Cond.selects RX9 yX9_lookOf yX9_lookOf ∈ ws0 := gwS (i := 88) (q := (yX9_lookOf, 34)) (by decide +kernel)
theorem wV_X9_firstLook : Cond.selects RX9 yX9_firstLook yX9_firstLook ∈ ws0 := gwS (i := 89) (q := (yX9_firstLook, 34)) (by decide +kernel)
theorem wV_X9_canRest : Cond.selects RX9 yX9_canRest yX9_canRest ∈ ws0 := gwS (i := 90) (q := (yX9_canRest, 34)) (by decide +kernel)
theorem wV_X9_rentIn : Cond.selects RX9 yX9_rentIn yX9_rentIn ∈ ws0 := gwS (i := 91) (q := (yX9_rentIn, 34)) (by decide +kernel)
theorem wV_X9_copy : Cond.selects RX9 yX9_copy yX9_copy ∈ ws0 := gwS (i := 92) (q := (yX9_copy, 34)) (by decide +kernel)
theorem wV_X9_seenBy : Cond.selects RX9 yX9_seenBy yX9_seenBy ∈ ws0 := gwS (i := 93) (q := (yX9_seenBy, 34)) (by decide +kernel)
theorem wV_X9_pass : Cond.selects RX9 yX9_pass yX9_pass ∈ ws0 := gwS (i := 94) (q := (yX9_pass, 34)) (by decide +kernel)
theorem wV_X9_draw : Cond.selects RX9 yX9_draw yX9_draw ∈ ws0 := gwS (i := 95) (q := (yX9_draw, 34)) (by decide +kernel)
set_option maxRecDepth 20000 in
theorem inX0 : ∀ w ∈ u_ws RX0 TX0 4, w ∈ ws0 := gw_sub [274, 276, 278, 280] (by decide +kernel) (by decide +kernel)
set_option maxRecDepth 20000 in
theorem inX1 : ∀ w ∈ u_ws RX1 TX1 9, w ∈ ws0 := gw_sub [221, 223, 225, 227, 229, 231, 233, 235, 237] (by decide +kernel) (by decide +kernel)
set_option maxRecDepth 20000 in
theorem inX2 : ∀ w ∈ u_ws RX2 TX2 6, w ∈ ws0 := gw_sub [187, 189, 191, 193, 195, 197] (by decide +kernel) (by decide +kernel)
set_option maxRecDepth 20000 in
theorem inX3 : ∀ w ∈ u_ws RX3 TX3 6, w ∈ ws0 := gw_sub [122, 124, 126, 128, 130, 132] (by decide +kernel) (by decide +kernel)
set_option maxRecDepth 20000 in
theorem inX4 : ∀ w ∈ u_ws RX4 TX4 5, w ∈ ws0 := gw_sub [252, 254, 256, 258, 260] (by decide +kernel) (by decide +kernel)
set_option maxRecDepth 20000 in
theorem inX5 : ∀ w ∈ u_ws RX5 TX5 7, w ∈ ws0 := gw_sub [157, 159, 161, 163, 165, 167, 169] (by decide +kernel) (by decide +kernel)
set_option maxRecDepth 20000 in
theorem inX6 : ∀ w ∈ u_ws RX6 TX6 2, w ∈ ws0 := gw_sub [35, 37] (by decide +kernel) (by decide +kernel)
set_option maxRecDepth 20000 in
theorem inX7 : ∀ w ∈ u_ws RX7 TX7 13, w ∈ ws0 := gw_sub [82, 84, 86, 88, 90, 92, 94, 96, 98, 100, 102, 104, 106] (by decide +kernel) (by decide +kernel)
set_option maxRecDepth 20000 in
theorem inX8 : ∀ w ∈ u_ws RX8 TX8 14, w ∈ ws0 := gw_sub [297, 299, 301, 303, 305, 307, 309, 311, 313, 315, 317, 319, 321, 323] (by decide +kernel) (by decide +kernel)
set_option maxRecDepth 20000 in
theorem inX9 : ∀ w ∈ u_ws RX9 TX9 34, w ∈ ws0 := gw_sub [853, 855, 857, 859, 861, 863, 865, 867, 869, 871, 873, 875, 877, 879, 881, 883, 885, 887, 889, 891, 893, 895, 897, 899, 901, 903, 905, 907, 909, 911, 913, 915, 917, 919] (by decide +kernel) (by decide +kernel)
end
section
theorem dJ0_length_8abf5_0 : decode cJ0_length_8abf5 0 = .ok (.aload_n 0, 1) := by decide +kernel
theorem dJ0_length_8abf5_1 : decode cJ0_length_8abf5 1 = .ok (.getfield 9, 3) := by decide +kernel
theorem dJ0_length_8abf5_4 : decode cJ0_length_8abf5 4 = .ok (.arraylength, 1) := by decide +kernel
theorem dJ0_length_8abf5_5 : decode cJ0_length_8abf5 5 = .ok (.aload_n 0, 1) := by decide +kernel
theorem dJ0_length_8abf5_6 : decode cJ0_length_8abf5 6 = .ok (.invokevirtual 335, 3) := by decide +kernel
theorem dJ0_length_8abf5_9 : decode cJ0_length_8abf5 9 = .ok (.ishr, 1) := by decide +kernel
theorem dJ0_length_8abf5_10 : decode cJ0_length_8abf5 10 = .ok (.ireturn, 1) := by decide +kernel
theorem dJ0_charAt_5068e_0 : decode cJ0_charAt_5068e 0 = .ok (.aload_n 0, 1) := by decide +kernel
theorem dJ0_charAt_5068e_1 : decode cJ0_charAt_5068e 1 = .ok (.invokevirtual 492, 3) := by decide +kernel
theorem dJ0_charAt_5068e_4 : decode cJ0_charAt_5068e 4 = .ok (.ifCond .eq 12, 3) := by decide +kernel
theorem dJ0_charAt_5068e_7 : decode cJ0_charAt_5068e 7 = .ok (.aload_n 0, 1) := by decide +kernel
theorem dJ0_charAt_5068e_8 : decode cJ0_charAt_5068e 8 = .ok (.getfield 9, 3) := by decide +kernel
theorem dJ0_charAt_5068e_11 : decode cJ0_charAt_5068e 11 = .ok (.iload_n 1, 1) := by decide +kernel
theorem dJ0_charAt_5068e_12 : decode cJ0_charAt_5068e 12 = .ok (.invokestatic 495, 3) := by decide +kernel
theorem dJ0_charAt_5068e_15 : decode cJ0_charAt_5068e 15 = .ok (.ireturn, 1) := by decide +kernel
theorem dJ0_charAt_5068e_16 : decode cJ0_charAt_5068e 16 = .ok (.aload_n 0, 1) := by decide +kernel
theorem dJ0_charAt_5068e_17 : decode cJ0_charAt_5068e 17 = .ok (.getfield 9, 3) := by decide +kernel
theorem dJ0_charAt_5068e_20 : decode cJ0_charAt_5068e 20 = .ok (.iload_n 1, 1) := by decide +kernel
theorem dJ0_charAt_5068e_21 : decode cJ0_charAt_5068e 21 = .ok (.invokestatic 498, 3) := by decide +kernel
theorem dJ0_charAt_5068e_24 : decode cJ0_charAt_5068e 24 = .ok (.ireturn, 1) := by decide +kernel
theorem dJ0_coder_7d493_0 : decode cJ0_coder_7d493 0 = .ok (.getstatic 38, 3) := by decide +kernel
theorem dJ0_coder_7d493_3 : decode cJ0_coder_7d493 3 = .ok (.ifCond .eq 10, 3) := by decide +kernel
theorem dJ0_coder_7d493_6 : decode cJ0_coder_7d493 6 = .ok (.aload_n 0, 1) := by decide +kernel
theorem dJ0_coder_7d493_7 : decode cJ0_coder_7d493 7 = .ok (.getfield 15, 3) := by decide +kernel
theorem dJ0_coder_7d493_10 : decode cJ0_coder_7d493 10 = .ok (.goto 4, 3) := by decide +kernel
theorem dJ0_coder_7d493_13 : decode cJ0_coder_7d493 13 = .ok (.iconst 1, 1) := by decide +kernel
theorem dJ0_coder_7d493_14 : decode cJ0_coder_7d493 14 = .ok (.ireturn, 1) := by decide +kernel
theorem dJ0_isLatin1_aae02_0 : decode cJ0_isLatin1_aae02 0 = .ok (.getstatic 38, 3) := by decide +kernel
theorem dJ0_isLatin1_aae02_3 : decode cJ0_isLatin1_aae02 3 = .ok (.ifCond .eq 14, 3) := by decide +kernel
theorem dJ0_isLatin1_aae02_6 : decode cJ0_isLatin1_aae02 6 = .ok (.aload_n 0, 1) := by decide +kernel
theorem dJ0_isLatin1_aae02_7 : decode cJ0_isLatin1_aae02 7 = .ok (.getfield 15, 3) := by decide +kernel
theorem dJ0_isLatin1_aae02_10 : decode cJ0_isLatin1_aae02 10 = .ok (.ifCond .ne 7, 3) := by decide +kernel
theorem dJ0_isLatin1_aae02_13 : decode cJ0_isLatin1_aae02 13 = .ok (.iconst 1, 1) := by decide +kernel
theorem dJ0_isLatin1_aae02_14 : decode cJ0_isLatin1_aae02 14 = .ok (.goto 4, 3) := by decide +kernel
theorem dJ0_isLatin1_aae02_17 : decode cJ0_isLatin1_aae02 17 = .ok (.iconst 0, 1) := by decide +kernel
theorem dJ0_isLatin1_aae02_18 : decode cJ0_isLatin1_aae02 18 = .ok (.ireturn, 1) := by decide +kernel
theorem dJ0_checkIndex_df160_0 : decode cJ0_checkIndex_df160 0 = .ok (.iload_n 0, 1) := by decide +kernel
theorem dJ0_checkIndex_df160_1 : decode cJ0_checkIndex_df160 1 = .ok (.iload_n 1, 1) := by decide +kernel
theorem dJ0_checkIndex_df160_2 : decode cJ0_checkIndex_df160 2 = .ok (.getstatic 1053, 3) := by decide +kernel
theorem dJ0_checkIndex_df160_5 : decode cJ0_checkIndex_df160 5 = .ok (.invokestatic 1059, 3) := by decide +kernel
theorem dJ0_checkIndex_df160_8 : decode cJ0_checkIndex_df160 8 = .ok (.pop, 1) := by decide +kernel
theorem dJ0_checkIndex_df160_9 : decode cJ0_checkIndex_df160 9 = .ok (.return_, 1) := by decide +kernel
theorem dJ1_charAt_3b067_0 : decode cJ1_charAt_3b067 0 = .ok (.iload_n 1, 1) := by decide +kernel
theorem dJ1_charAt_3b067_1 : decode cJ1_charAt_3b067 1 = .ok (.aload_n 0, 1) := by decide +kernel
theorem dJ1_charAt_3b067_2 : decode cJ1_charAt_3b067 2 = .ok (.arraylength, 1) := by decide +kernel
theorem dJ1_charAt_3b067_3 : decode cJ1_charAt_3b067 3 = .ok (.invokestatic 9, 3) := by decide +kernel
theorem dJ1_charAt_3b067_6 : decode cJ1_charAt_3b067 6 = .ok (.aload_n 0, 1) := by decide +kernel
theorem dJ1_charAt_3b067_7 : decode cJ1_charAt_3b067 7 = .ok (.iload_n 1, 1) := by decide +kernel
theorem dJ1_charAt_3b067_8 : decode cJ1_charAt_3b067 8 = .ok (.baload, 1) := by decide +kernel
theorem dJ1_charAt_3b067_9 : decode cJ1_charAt_3b067 9 = .ok (.sipush 255, 3) := by decide +kernel
theorem dJ1_charAt_3b067_12 : decode cJ1_charAt_3b067 12 = .ok (.iand, 1) := by decide +kernel
theorem dJ1_charAt_3b067_13 : decode cJ1_charAt_3b067 13 = .ok (.i2c, 1) := by decide +kernel
theorem dJ1_charAt_3b067_14 : decode cJ1_charAt_3b067 14 = .ok (.ireturn, 1) := by decide +kernel
theorem dJ2_getChar_3b067_0 : decode cJ2_getChar_3b067 0 = .ok (.getstatic 44, 3) := by decide +kernel
theorem dJ2_getChar_3b067_3 : decode cJ2_getChar_3b067 3 = .ok (.ifCond .ne 25, 3) := by decide +kernel
theorem dJ2_getChar_3b067_6 : decode cJ2_getChar_3b067 6 = .ok (.iload_n 1, 1) := by decide +kernel
theorem dJ2_getChar_3b067_7 : decode cJ2_getChar_3b067 7 = .ok (.ifCond .lt 11, 3) := by decide +kernel
theorem dJ2_getChar_3b067_10 : decode cJ2_getChar_3b067 10 = .ok (.iload_n 1, 1) := by decide +kernel
theorem dJ2_getChar_3b067_11 : decode cJ2_getChar_3b067 11 = .ok (.aload_n 0, 1) := by decide +kernel
theorem dJ2_getChar_3b067_12 : decode cJ2_getChar_3b067 12 = .ok (.invokestatic 48, 3) := by decide +kernel
theorem dJ2_getChar_3b067_15 : decode cJ2_getChar_3b067 15 = .ok (.if_icmp .lt 13, 3) := by decide +kernel
theorem dJ2_getChar_3b067_18 : decode cJ2_getChar_3b067 18 = .ok (.new 52, 3) := by decide +kernel
theorem dJ2_getChar_3b067_21 : decode cJ2_getChar_3b067 21 = .ok (.dup, 1) := by decide +kernel
theorem dJ2_getChar_3b067_22 : decode cJ2_getChar_3b067 22 = .ok (.ldc 54, 2) := by decide +kernel
theorem dJ2_getChar_3b067_24 : decode cJ2_getChar_3b067 24 = .ok (.invokespecial 56, 3) := by decide +kernel
theorem dJ2_getChar_3b067_27 : decode cJ2_getChar_3b067 27 = .ok (.athrow, 1) := by decide +kernel
theorem dJ2_getChar_3b067_28 : decode cJ2_getChar_3b067 28 = .ok (.iload_n 1, 1) := by decide +kernel
theorem dJ2_getChar_3b067_29 : decode cJ2_getChar_3b067 29 = .ok (.iconst 1, 1) := by decide +kernel
theorem dJ2_getChar_3b067_30 : decode cJ2_getChar_3b067 30 = .ok (.ishl, 1) := by decide +kernel
theorem dJ2_getChar_3b067_31 : decode cJ2_getChar_3b067 31 = .ok (.istore_n 1, 1) := by decide +kernel
theorem dJ2_getChar_3b067_32 : decode cJ2_getChar_3b067 32 = .ok (.aload_n 0, 1) := by decide +kernel
theorem dJ2_getChar_3b067_33 : decode cJ2_getChar_3b067 33 = .ok (.iload_n 1, 1) := by decide +kernel
theorem dJ2_getChar_3b067_34 : decode cJ2_getChar_3b067 34 = .ok (.iinc 1 1, 3) := by decide +kernel
theorem dJ2_getChar_3b067_37 : decode cJ2_getChar_3b067 37 = .ok (.baload, 1) := by decide +kernel
theorem dJ2_getChar_3b067_38 : decode cJ2_getChar_3b067 38 = .ok (.sipush 255, 3) := by decide +kernel
theorem dJ2_getChar_3b067_41 : decode cJ2_getChar_3b067 41 = .ok (.iand, 1) := by decide +kernel
theorem dJ2_getChar_3b067_42 : decode cJ2_getChar_3b067 42 = .ok (.getstatic 59, 3) := by decide +kernel
theorem dJ2_getChar_3b067_45 : decode cJ2_getChar_3b067 45 = .ok (.ishl, 1) := by decide +kernel
theorem dJ2_getChar_3b067_46 : decode cJ2_getChar_3b067 46 = .ok (.aload_n 0, 1) := by decide +kernel
theorem dJ2_getChar_3b067_47 : decode cJ2_getChar_3b067 47 = .ok (.iload_n 1, 1) := by decide +kernel
theorem dJ2_getChar_3b067_48 : decode cJ2_getChar_3b067 48 = .ok (.baload, 1) := by decide +kernel
theorem dJ2_getChar_3b067_49 : decode cJ2_getChar_3b067 49 = .ok (.sipush 255, 3) := by decide +kernel
theorem dJ2_getChar_3b067_52 : decode cJ2_getChar_3b067 52 = .ok (.iand, 1) := by decide +kernel
theorem dJ2_getChar_3b067_53 : decode cJ2_getChar_3b067 53 = .ok (.getstatic 63, 3) := by decide +kernel
theorem dJ2_getChar_3b067_56 : decode cJ2_getChar_3b067 56 = .ok (.ishl, 1) := by decide +kernel
theorem dJ2_getChar_3b067_57 : decode cJ2_getChar_3b067 57 = .ok (.ior, 1) := by decide +kernel
theorem dJ2_getChar_3b067_58 : decode cJ2_getChar_3b067 58 = .ok (.i2c, 1) := by decide +kernel
theorem dJ2_getChar_3b067_59 : decode cJ2_getChar_3b067 59 = .ok (.ireturn, 1) := by decide +kernel
theorem dJ2_length_9d52b_0 : decode cJ2_length_9d52b 0 = .ok (.aload_n 0, 1) := by decide +kernel
theorem dJ2_length_9d52b_1 : decode cJ2_length_9d52b 1 = .ok (.arraylength, 1) := by decide +kernel
theorem dJ2_length_9d52b_2 : decode cJ2_length_9d52b 2 = .ok (.iconst 1, 1) := by decide +kernel
theorem dJ2_length_9d52b_3 : decode cJ2_length_9d52b 3 = .ok (.ishr, 1) := by decide +kernel
theorem dJ2_length_9d52b_4 : decode cJ2_length_9d52b 4 = .ok (.ireturn, 1) := by decide +kernel
theorem dJ2_charAt_3b067_0 : decode cJ2_charAt_3b067 0 = .ok (.iload_n 1, 1) := by decide +kernel
theorem dJ2_charAt_3b067_1 : decode cJ2_charAt_3b067 1 = .ok (.aload_n 0, 1) := by decide +kernel
theorem dJ2_charAt_3b067_2 : decode cJ2_charAt_3b067 2 = .ok (.invokestatic 67, 3) := by decide +kernel
theorem dJ2_charAt_3b067_5 : decode cJ2_charAt_3b067 5 = .ok (.aload_n 0, 1) := by decide +kernel
theorem dJ2_charAt_3b067_6 : decode cJ2_charAt_3b067 6 = .ok (.iload_n 1, 1) := by decide +kernel
theorem dJ2_charAt_3b067_7 : decode cJ2_charAt_3b067 7 = .ok (.invokestatic 71, 3) := by decide +kernel
theorem dJ2_charAt_3b067_10 : decode cJ2_charAt_3b067 10 = .ok (.ireturn, 1) := by decide +kernel
theorem dJ2_checkIndex_2214a_0 : decode cJ2_checkIndex_2214a 0 = .ok (.iload_n 0, 1) := by decide +kernel
theorem dJ2_checkIndex_2214a_1 : decode cJ2_checkIndex_2214a 1 = .ok (.aload_n 1, 1) := by decide +kernel
theorem dJ2_checkIndex_2214a_2 : decode cJ2_checkIndex_2214a 2 = .ok (.invokestatic 48, 3) := by decide +kernel
theorem dJ2_checkIndex_2214a_5 : decode cJ2_checkIndex_2214a 5 = .ok (.invokestatic 414, 3) := by decide +kernel
theorem dJ2_checkIndex_2214a_8 : decode cJ2_checkIndex_2214a 8 = .ok (.return_, 1) := by decide +kernel
theorem dJ3_checkIndex_8e157_0 : decode cJ3_checkIndex_8e157 0 = .ok (.iload_n 0, 1) := by decide +kernel
theorem dJ3_checkIndex_8e157_1 : decode cJ3_checkIndex_8e157 1 = .ok (.ifCond .lt 8, 3) := by decide +kernel
theorem dJ3_checkIndex_8e157_4 : decode cJ3_checkIndex_8e157 4 = .ok (.iload_n 0, 1) := by decide +kernel
theorem dJ3_checkIndex_8e157_5 : decode cJ3_checkIndex_8e157 5 = .ok (.iload_n 1, 1) := by decide +kernel
theorem dJ3_checkIndex_8e157_6 : decode cJ3_checkIndex_8e157 6 = .ok (.if_icmp .lt 10, 3) := by decide +kernel
theorem dJ3_checkIndex_8e157_9 : decode cJ3_checkIndex_8e157 9 = .ok (.aload_n 2, 1) := by decide +kernel
theorem dJ3_checkIndex_8e157_10 : decode cJ3_checkIndex_8e157 10 = .ok (.iload_n 0, 1) := by decide +kernel
theorem dJ3_checkIndex_8e157_11 : decode cJ3_checkIndex_8e157 11 = .ok (.iload_n 1, 1) := by decide +kernel
theorem dJ3_checkIndex_8e157_12 : decode cJ3_checkIndex_8e157 12 = .ok (.invokestatic 95, 3) := by decide +kernel
theorem dJ3_checkIndex_8e157_15 : decode cJ3_checkIndex_8e157 15 = .ok (.athrow, 1) := by decide +kernel
theorem dJ3_checkIndex_8e157_16 : decode cJ3_checkIndex_8e157 16 = .ok (.iload_n 0, 1) := by decide +kernel
theorem dJ3_checkIndex_8e157_17 : decode cJ3_checkIndex_8e157 17 = .ok (.ireturn, 1) := by decide +kernel
theorem dJ6_bitCount_0f7a4_0 : decode cJ6_bitCount_0f7a4 0 = .ok (.iload_n 0, 1) := by decide +kernel
theorem dJ6_bitCount_0f7a4_1 : decode cJ6_bitCount_0f7a4 1 = .ok (.iload_n 0, 1) := by decide +kernel
theorem dJ6_bitCount_0f7a4_2 : decode cJ6_bitCount_0f7a4 2 = .ok (.iconst 1, 1) := by decide +kernel
theorem dJ6_bitCount_0f7a4_3 : decode cJ6_bitCount_0f7a4 3 = .ok (.iushr, 1) := by decide +kernel
theorem dJ6_bitCount_0f7a4_4 : decode cJ6_bitCount_0f7a4 4 = .ok (.ldc_w 265, 3) := by decide +kernel
theorem dJ6_bitCount_0f7a4_7 : decode cJ6_bitCount_0f7a4 7 = .ok (.iand, 1) := by decide +kernel
theorem dJ6_bitCount_0f7a4_8 : decode cJ6_bitCount_0f7a4 8 = .ok (.isub, 1) := by decide +kernel
theorem dJ6_bitCount_0f7a4_9 : decode cJ6_bitCount_0f7a4 9 = .ok (.istore_n 0, 1) := by decide +kernel
theorem dJ6_bitCount_0f7a4_10 : decode cJ6_bitCount_0f7a4 10 = .ok (.iload_n 0, 1) := by decide +kernel
theorem dJ6_bitCount_0f7a4_11 : decode cJ6_bitCount_0f7a4 11 = .ok (.ldc_w 266, 3) := by decide +kernel
theorem dJ6_bitCount_0f7a4_14 : decode cJ6_bitCount_0f7a4 14 = .ok (.iand, 1) := by decide +kernel
theorem dJ6_bitCount_0f7a4_15 : decode cJ6_bitCount_0f7a4 15 = .ok (.iload_n 0, 1) := by decide +kernel
theorem dJ6_bitCount_0f7a4_16 : decode cJ6_bitCount_0f7a4 16 = .ok (.iconst 2, 1) := by decide +kernel
theorem dJ6_bitCount_0f7a4_17 : decode cJ6_bitCount_0f7a4 17 = .ok (.iushr, 1) := by decide +kernel
theorem dJ6_bitCount_0f7a4_18 : decode cJ6_bitCount_0f7a4 18 = .ok (.ldc_w 266, 3) := by decide +kernel
theorem dJ6_bitCount_0f7a4_21 : decode cJ6_bitCount_0f7a4 21 = .ok (.iand, 1) := by decide +kernel
theorem dJ6_bitCount_0f7a4_22 : decode cJ6_bitCount_0f7a4 22 = .ok (.iadd, 1) := by decide +kernel
theorem dJ6_bitCount_0f7a4_23 : decode cJ6_bitCount_0f7a4 23 = .ok (.istore_n 0, 1) := by decide +kernel
theorem dJ6_bitCount_0f7a4_24 : decode cJ6_bitCount_0f7a4 24 = .ok (.iload_n 0, 1) := by decide +kernel
theorem dJ6_bitCount_0f7a4_25 : decode cJ6_bitCount_0f7a4 25 = .ok (.iload_n 0, 1) := by decide +kernel
theorem dJ6_bitCount_0f7a4_26 : decode cJ6_bitCount_0f7a4 26 = .ok (.iconst 4, 1) := by decide +kernel
theorem dJ6_bitCount_0f7a4_27 : decode cJ6_bitCount_0f7a4 27 = .ok (.iushr, 1) := by decide +kernel
theorem dJ6_bitCount_0f7a4_28 : decode cJ6_bitCount_0f7a4 28 = .ok (.iadd, 1) := by decide +kernel
theorem dJ6_bitCount_0f7a4_29 : decode cJ6_bitCount_0f7a4 29 = .ok (.ldc_w 267, 3) := by decide +kernel
theorem dJ6_bitCount_0f7a4_32 : decode cJ6_bitCount_0f7a4 32 = .ok (.iand, 1) := by decide +kernel
theorem dJ6_bitCount_0f7a4_33 : decode cJ6_bitCount_0f7a4 33 = .ok (.istore_n 0, 1) := by decide +kernel
theorem dJ6_bitCount_0f7a4_34 : decode cJ6_bitCount_0f7a4 34 = .ok (.iload_n 0, 1) := by decide +kernel
theorem dJ6_bitCount_0f7a4_35 : decode cJ6_bitCount_0f7a4 35 = .ok (.iload_n 0, 1) := by decide +kernel
theorem dJ6_bitCount_0f7a4_36 : decode cJ6_bitCount_0f7a4 36 = .ok (.bipush 8, 2) := by decide +kernel
theorem dJ6_bitCount_0f7a4_38 : decode cJ6_bitCount_0f7a4 38 = .ok (.iushr, 1) := by decide +kernel
theorem dJ6_bitCount_0f7a4_39 : decode cJ6_bitCount_0f7a4 39 = .ok (.iadd, 1) := by decide +kernel
theorem dJ6_bitCount_0f7a4_40 : decode cJ6_bitCount_0f7a4 40 = .ok (.istore_n 0, 1) := by decide +kernel
theorem dJ6_bitCount_0f7a4_41 : decode cJ6_bitCount_0f7a4 41 = .ok (.iload_n 0, 1) := by decide +kernel
theorem dJ6_bitCount_0f7a4_42 : decode cJ6_bitCount_0f7a4 42 = .ok (.iload_n 0, 1) := by decide +kernel
theorem dJ6_bitCount_0f7a4_43 : decode cJ6_bitCount_0f7a4 43 = .ok (.bipush 16, 2) := by decide +kernel
theorem dJ6_bitCount_0f7a4_45 : decode cJ6_bitCount_0f7a4 45 = .ok (.iushr, 1) := by decide +kernel
theorem dJ6_bitCount_0f7a4_46 : decode cJ6_bitCount_0f7a4 46 = .ok (.iadd, 1) := by decide +kernel
theorem dJ6_bitCount_0f7a4_47 : decode cJ6_bitCount_0f7a4 47 = .ok (.istore_n 0, 1) := by decide +kernel
theorem dJ6_bitCount_0f7a4_48 : decode cJ6_bitCount_0f7a4 48 = .ok (.iload_n 0, 1) := by decide +kernel
theorem dJ6_bitCount_0f7a4_49 : decode cJ6_bitCount_0f7a4 49 = .ok (.bipush 63, 2) := by decide +kernel
theorem dJ6_bitCount_0f7a4_51 : decode cJ6_bitCount_0f7a4 51 = .ok (.iand, 1) := by decide +kernel
theorem dJ6_bitCount_0f7a4_52 : decode cJ6_bitCount_0f7a4 52 = .ok (.ireturn, 1) := by decide +kernel
theorem dJ9_abs_0f7a4_0 : decode cJ9_abs_0f7a4 0 = .ok (.iload_n 0, 1) := by decide +kernel
theorem dJ9_abs_0f7a4_1 : decode cJ9_abs_0f7a4 1 = .ok (.ifCond .ge 8, 3) := by decide +kernel
theorem dJ9_abs_0f7a4_4 : decode cJ9_abs_0f7a4 4 = .ok (.iload_n 0, 1) := by decide +kernel
theorem dJ9_abs_0f7a4_5 : decode cJ9_abs_0f7a4 5 = .ok (.ineg, 1) := by decide +kernel
theorem dJ9_abs_0f7a4_6 : decode cJ9_abs_0f7a4 6 = .ok (.goto 4, 3) := by decide +kernel
theorem dJ9_abs_0f7a4_9 : decode cJ9_abs_0f7a4 9 = .ok (.iload_n 0, 1) := by decide +kernel
theorem dJ9_abs_0f7a4_10 : decode cJ9_abs_0f7a4 10 = .ok (.ireturn, 1) := by decide +kernel
theorem dJ9_max_7cf53_0 : decode cJ9_max_7cf53 0 = .ok (.iload_n 0, 1) := by decide +kernel
theorem dJ9_max_7cf53_1 : decode cJ9_max_7cf53 1 = .ok (.iload_n 1, 1) := by decide +kernel
theorem dJ9_max_7cf53_2 : decode cJ9_max_7cf53 2 = .ok (.if_icmp .lt 7, 3) := by decide +kernel
theorem dJ9_max_7cf53_5 : decode cJ9_max_7cf53 5 = .ok (.iload_n 0, 1) := by decide +kernel
theorem dJ9_max_7cf53_6 : decode cJ9_max_7cf53 6 = .ok (.goto 4, 3) := by decide +kernel
theorem dJ9_max_7cf53_9 : decode cJ9_max_7cf53 9 = .ok (.iload_n 1, 1) := by decide +kernel
theorem dJ9_max_7cf53_10 : decode cJ9_max_7cf53 10 = .ok (.ireturn, 1) := by decide +kernel
theorem dJ9_min_7cf53_0 : decode cJ9_min_7cf53 0 = .ok (.iload_n 0, 1) := by decide +kernel
theorem dJ9_min_7cf53_1 : decode cJ9_min_7cf53 1 = .ok (.iload_n 1, 1) := by decide +kernel
theorem dJ9_min_7cf53_2 : decode cJ9_min_7cf53 2 = .ok (.if_icmp .gt 7, 3) := by decide +kernel
theorem dJ9_min_7cf53_5 : decode cJ9_min_7cf53 5 = .ok (.iload_n 0, 1) := by decide +kernel
theorem dJ9_min_7cf53_6 : decode cJ9_min_7cf53 6 = .ok (.goto 4, 3) := by decide +kernel
theorem dJ9_min_7cf53_9 : decode cJ9_min_7cf53 9 = .ok (.iload_n 1, 1) := by decide +kernel
theorem dJ9_min_7cf53_10 : decode cJ9_min_7cf53 10 = .ok (.ireturn, 1) := by decide +kernel
theorem dL_law_0 : decode cL_law 0 = .ok (.new 7, 3) := by decide +kernel
theorem dL_law_3 : decode cL_law 3 = .ok (.dup, 1) := by decide +kernel
theorem dL_law_4 : decode cL_law 4 = .ok (.invokespecial 9, 3) := by decide +kernel
theorem dL_law_7 : decode cL_law 7 = .ok (.astore_n 1, 1) := by decide +kernel
theorem dL_law_8 : decode cL_law 8 = .ok (.new 10, 3) := by decide +kernel
theorem dL_law_11 : decode cL_law 11 = .ok (.dup, 1) := by decide +kernel
theorem dL_law_12 : decode cL_law 12 = .ok (.invokespecial 12, 3) := by decide +kernel
theorem dL_law_15 : decode cL_law 15 = .ok (.astore_n 2, 1) := by decide +kernel
theorem dL_law_16 : decode cL_law 16 = .ok (.iconst 0, 1) := by decide +kernel
theorem dL_law_17 : decode cL_law 17 = .ok (.istore_n 3, 1) := by decide +kernel
theorem dL_law_18 : decode cL_law 18 = .ok (.iload_n 3, 1) := by decide +kernel
theorem dL_law_19 : decode cL_law 19 = .ok (.aload_n 0, 1) := by decide +kernel
theorem dL_law_20 : decode cL_law 20 = .ok (.arraylength, 1) := by decide +kernel
theorem dL_law_21 : decode cL_law 21 = .ok (.iconst 4, 1) := by decide +kernel
theorem dL_law_22 : decode cL_law 22 = .ok (.isub, 1) := by decide +kernel
theorem dL_law_23 : decode cL_law 23 = .ok (.if_icmp .gt 887, 3) := by decide +kernel
theorem dL_law_26 : decode cL_law 26 = .ok (.aload_n 0, 1) := by decide +kernel
theorem dL_law_27 : decode cL_law 27 = .ok (.iload_n 3, 1) := by decide +kernel
theorem dL_law_28 : decode cL_law 28 = .ok (.iaload, 1) := by decide +kernel
theorem dL_law_29 : decode cL_law 29 = .ok (.bipush 31, 2) := by decide +kernel
theorem dL_law_31 : decode cL_law 31 = .ok (.iand, 1) := by decide +kernel
theorem dL_law_32 : decode cL_law 32 = .ok (.tableswitch 872 0 27 #[128, 191, 204, 217, 240, 273, 306, 339, 362, 395, 428, 461, 484, 507, 530, 563, 586, 619, 652, 685, 698, 721, 744, 777, 790, 803, 826, 849], 128) := by decide +kernel
theorem dL_law_160 : decode cL_law 160 = .ok (.aload_n 1, 1) := by decide +kernel
theorem dL_law_161 : decode cL_law 161 = .ok (.aload_n 0, 1) := by decide +kernel
theorem dL_law_162 : decode cL_law 162 = .ok (.iload_n 3, 1) := by decide +kernel
theorem dL_law_163 : decode cL_law 163 = .ok (.iconst 1, 1) := by decide +kernel
theorem dL_law_164 : decode cL_law 164 = .ok (.iadd, 1) := by decide +kernel
theorem dL_law_165 : decode cL_law 165 = .ok (.iaload, 1) := by decide +kernel
theorem dL_law_166 : decode cL_law 166 = .ok (.aload_n 0, 1) := by decide +kernel
theorem dL_law_167 : decode cL_law 167 = .ok (.iload_n 3, 1) := by decide +kernel
theorem dL_law_168 : decode cL_law 168 = .ok (.iconst 2, 1) := by decide +kernel
theorem dL_law_169 : decode cL_law 169 = .ok (.iadd, 1) := by decide +kernel
theorem dL_law_170 : decode cL_law 170 = .ok (.iaload, 1) := by decide +kernel
theorem dL_law_171 : decode cL_law 171 = .ok (.i2l, 1) := by decide +kernel
theorem dL_law_172 : decode cL_law 172 = .ok (.bipush 32, 2) := by decide +kernel
theorem dL_law_174 : decode cL_law 174 = .ok (.lshl, 1) := by decide +kernel
theorem dL_law_175 : decode cL_law 175 = .ok (.aload_n 0, 1) := by decide +kernel
theorem dL_law_176 : decode cL_law 176 = .ok (.iload_n 3, 1) := by decide +kernel
theorem dL_law_177 : decode cL_law 177 = .ok (.iconst 3, 1) := by decide +kernel
theorem dL_law_178 : decode cL_law 178 = .ok (.iadd, 1) := by decide +kernel
theorem dL_law_179 : decode cL_law 179 = .ok (.iaload, 1) := by decide +kernel
theorem dL_law_180 : decode cL_law 180 = .ok (.i2l, 1) := by decide +kernel
theorem dL_law_181 : decode cL_law 181 = .ok (.ldc2_w 13, 3) := by decide +kernel
theorem dL_law_184 : decode cL_law 184 = .ok (.land, 1) := by decide +kernel
theorem dL_law_185 : decode cL_law 185 = .ok (.lor, 1) := by decide +kernel
theorem dL_law_186 : decode cL_law 186 = .ok (.invokevirtual 15, 3) := by decide +kernel
theorem dL_law_189 : decode cL_law 189 = .ok (.aload_n 2, 1) := by decide +kernel
theorem dL_law_190 : decode cL_law 190 = .ok (.aload_n 0, 1) := by decide +kernel
theorem dL_law_191 : decode cL_law 191 = .ok (.iload_n 3, 1) := by decide +kernel
theorem dL_law_192 : decode cL_law 192 = .ok (.iconst 1, 1) := by decide +kernel
theorem dL_law_193 : decode cL_law 193 = .ok (.iadd, 1) := by decide +kernel
theorem dL_law_194 : decode cL_law 194 = .ok (.iaload, 1) := by decide +kernel
theorem dL_law_195 : decode cL_law 195 = .ok (.aload_n 0, 1) := by decide +kernel
theorem dL_law_196 : decode cL_law 196 = .ok (.iload_n 3, 1) := by decide +kernel
theorem dL_law_197 : decode cL_law 197 = .ok (.iconst 2, 1) := by decide +kernel
theorem dL_law_198 : decode cL_law 198 = .ok (.iadd, 1) := by decide +kernel
theorem dL_law_199 : decode cL_law 199 = .ok (.iaload, 1) := by decide +kernel
theorem dL_law_200 : decode cL_law 200 = .ok (.i2l, 1) := by decide +kernel
theorem dL_law_201 : decode cL_law 201 = .ok (.bipush 32, 2) := by decide +kernel
theorem dL_law_203 : decode cL_law 203 = .ok (.lshl, 1) := by decide +kernel
theorem dL_law_204 : decode cL_law 204 = .ok (.aload_n 0, 1) := by decide +kernel
theorem dL_law_205 : decode cL_law 205 = .ok (.iload_n 3, 1) := by decide +kernel
theorem dL_law_206 : decode cL_law 206 = .ok (.iconst 3, 1) := by decide +kernel
theorem dL_law_207 : decode cL_law 207 = .ok (.iadd, 1) := by decide +kernel
theorem dL_law_208 : decode cL_law 208 = .ok (.iaload, 1) := by decide +kernel
theorem dL_law_209 : decode cL_law 209 = .ok (.i2l, 1) := by decide +kernel
theorem dL_law_210 : decode cL_law 210 = .ok (.ldc2_w 13, 3) := by decide +kernel
theorem dL_law_213 : decode cL_law 213 = .ok (.land, 1) := by decide +kernel
theorem dL_law_214 : decode cL_law 214 = .ok (.lor, 1) := by decide +kernel
theorem dL_law_215 : decode cL_law 215 = .ok (.invokevirtual 19, 3) := by decide +kernel
theorem dL_law_218 : decode cL_law 218 = .ok (.if_icmp .eq 686, 3) := by decide +kernel
theorem dL_law_221 : decode cL_law 221 = .ok (.iconst 0, 1) := by decide +kernel
theorem dL_law_222 : decode cL_law 222 = .ok (.ireturn, 1) := by decide +kernel
theorem dL_law_223 : decode cL_law 223 = .ok (.aload_n 1, 1) := by decide +kernel
theorem dL_law_224 : decode cL_law 224 = .ok (.invokevirtual 20, 3) := by decide +kernel
theorem dL_law_227 : decode cL_law 227 = .ok (.aload_n 2, 1) := by decide +kernel
theorem dL_law_228 : decode cL_law 228 = .ok (.invokevirtual 24, 3) := by decide +kernel
theorem dL_law_231 : decode cL_law 231 = .ok (.if_icmp .eq 673, 3) := by decide +kernel
theorem dL_law_234 : decode cL_law 234 = .ok (.iconst 0, 1) := by decide +kernel
theorem dL_law_235 : decode cL_law 235 = .ok (.ireturn, 1) := by decide +kernel
theorem dL_law_236 : decode cL_law 236 = .ok (.aload_n 1, 1) := by decide +kernel
theorem dL_law_237 : decode cL_law 237 = .ok (.invokevirtual 25, 3) := by decide +kernel
theorem dL_law_240 : decode cL_law 240 = .ok (.aload_n 2, 1) := by decide +kernel
theorem dL_law_241 : decode cL_law 241 = .ok (.invokevirtual 28, 3) := by decide +kernel
theorem dL_law_244 : decode cL_law 244 = .ok (.if_icmp .eq 660, 3) := by decide +kernel
theorem dL_law_247 : decode cL_law 247 = .ok (.iconst 0, 1) := by decide +kernel
theorem dL_law_248 : decode cL_law 248 = .ok (.ireturn, 1) := by decide +kernel
theorem dL_law_249 : decode cL_law 249 = .ok (.aload_n 1, 1) := by decide +kernel
theorem dL_law_250 : decode cL_law 250 = .ok (.aload_n 0, 1) := by decide +kernel
theorem dL_law_251 : decode cL_law 251 = .ok (.iload_n 3, 1) := by decide +kernel
theorem dL_law_252 : decode cL_law 252 = .ok (.iconst 1, 1) := by decide +kernel
theorem dL_law_253 : decode cL_law 253 = .ok (.iadd, 1) := by decide +kernel
theorem dL_law_254 : decode cL_law 254 = .ok (.iaload, 1) := by decide +kernel
theorem dL_law_255 : decode cL_law 255 = .ok (.invokevirtual 29, 3) := by decide +kernel
theorem dL_law_258 : decode cL_law 258 = .ok (.aload_n 2, 1) := by decide +kernel
theorem dL_law_259 : decode cL_law 259 = .ok (.aload_n 0, 1) := by decide +kernel
theorem dL_law_260 : decode cL_law 260 = .ok (.iload_n 3, 1) := by decide +kernel
theorem dL_law_261 : decode cL_law 261 = .ok (.iconst 1, 1) := by decide +kernel
theorem dL_law_262 : decode cL_law 262 = .ok (.iadd, 1) := by decide +kernel
theorem dL_law_263 : decode cL_law 263 = .ok (.iaload, 1) := by decide +kernel
theorem dL_law_264 : decode cL_law 264 = .ok (.invokevirtual 33, 3) := by decide +kernel
theorem dL_law_267 : decode cL_law 267 = .ok (.if_icmp .eq 637, 3) := by decide +kernel
theorem dL_law_270 : decode cL_law 270 = .ok (.iconst 0, 1) := by decide +kernel
theorem dL_law_271 : decode cL_law 271 = .ok (.ireturn, 1) := by decide +kernel
theorem dL_law_272 : decode cL_law 272 = .ok (.aload_n 1, 1) := by decide +kernel
theorem dL_law_273 : decode cL_law 273 = .ok (.aload_n 0, 1) := by decide +kernel
theorem dL_law_274 : decode cL_law 274 = .ok (.iload_n 3, 1) := by decide +kernel
theorem dL_law_275 : decode cL_law 275 = .ok (.iconst 1, 1) := by decide +kernel
theorem dL_law_276 : decode cL_law 276 = .ok (.iadd, 1) := by decide +kernel
theorem dL_law_277 : decode cL_law 277 = .ok (.iaload, 1) := by decide +kernel
theorem dL_law_278 : decode cL_law 278 = .ok (.aload_n 0, 1) := by decide +kernel
theorem dL_law_279 : decode cL_law 279 = .ok (.iload_n 3, 1) := by decide +kernel
theorem dL_law_280 : decode cL_law 280 = .ok (.iconst 2, 1) := by decide +kernel
theorem dL_law_281 : decode cL_law 281 = .ok (.iadd, 1) := by decide +kernel
theorem dL_law_282 : decode cL_law 282 = .ok (.iaload, 1) := by decide +kernel
theorem dL_law_283 : decode cL_law 283 = .ok (.invokevirtual 34, 3) := by decide +kernel
theorem dL_law_286 : decode cL_law 286 = .ok (.aload_n 2, 1) := by decide +kernel
theorem dL_law_287 : decode cL_law 287 = .ok (.aload_n 0, 1) := by decide +kernel
theorem dL_law_288 : decode cL_law 288 = .ok (.iload_n 3, 1) := by decide +kernel
theorem dL_law_289 : decode cL_law 289 = .ok (.iconst 1, 1) := by decide +kernel
theorem dL_law_290 : decode cL_law 290 = .ok (.iadd, 1) := by decide +kernel
theorem dL_law_291 : decode cL_law 291 = .ok (.iaload, 1) := by decide +kernel
theorem dL_law_292 : decode cL_law 292 = .ok (.aload_n 0, 1) := by decide +kernel
theorem dL_law_293 : decode cL_law 293 = .ok (.iload_n 3, 1) := by decide +kernel
theorem dL_law_294 : decode cL_law 294 = .ok (.iconst 2, 1) := by decide +kernel
theorem dL_law_295 : decode cL_law 295 = .ok (.iadd, 1) := by decide +kernel
theorem dL_law_296 : decode cL_law 296 = .ok (.iaload, 1) := by decide +kernel
theorem dL_law_297 : decode cL_law 297 = .ok (.invokevirtual 38, 3) := by decide +kernel
theorem dL_law_300 : decode cL_law 300 = .ok (.if_icmp .eq 604, 3) := by decide +kernel
theorem dL_law_303 : decode cL_law 303 = .ok (.iconst 0, 1) := by decide +kernel
theorem dL_law_304 : decode cL_law 304 = .ok (.ireturn, 1) := by decide +kernel
theorem dL_law_305 : decode cL_law 305 = .ok (.aload_n 1, 1) := by decide +kernel
theorem dL_law_306 : decode cL_law 306 = .ok (.aload_n 0, 1) := by decide +kernel
theorem dL_law_307 : decode cL_law 307 = .ok (.iload_n 3, 1) := by decide +kernel
theorem dL_law_308 : decode cL_law 308 = .ok (.iconst 1, 1) := by decide +kernel
theorem dL_law_309 : decode cL_law 309 = .ok (.iadd, 1) := by decide +kernel
theorem dL_law_310 : decode cL_law 310 = .ok (.iaload, 1) := by decide +kernel
theorem dL_law_311 : decode cL_law 311 = .ok (.aload_n 0, 1) := by decide +kernel
theorem dL_law_312 : decode cL_law 312 = .ok (.iload_n 3, 1) := by decide +kernel
theorem dL_law_313 : decode cL_law 313 = .ok (.iconst 2, 1) := by decide +kernel
theorem dL_law_314 : decode cL_law 314 = .ok (.iadd, 1) := by decide +kernel
theorem dL_law_315 : decode cL_law 315 = .ok (.iaload, 1) := by decide +kernel
theorem dL_law_316 : decode cL_law 316 = .ok (.invokevirtual 39, 3) := by decide +kernel
theorem dL_law_319 : decode cL_law 319 = .ok (.aload_n 2, 1) := by decide +kernel
theorem dL_law_320 : decode cL_law 320 = .ok (.aload_n 0, 1) := by decide +kernel
theorem dL_law_321 : decode cL_law 321 = .ok (.iload_n 3, 1) := by decide +kernel
theorem dL_law_322 : decode cL_law 322 = .ok (.iconst 1, 1) := by decide +kernel
theorem dL_law_323 : decode cL_law 323 = .ok (.iadd, 1) := by decide +kernel
theorem dL_law_324 : decode cL_law 324 = .ok (.iaload, 1) := by decide +kernel
theorem dL_law_325 : decode cL_law 325 = .ok (.aload_n 0, 1) := by decide +kernel
theorem dL_law_326 : decode cL_law 326 = .ok (.iload_n 3, 1) := by decide +kernel
theorem dL_law_327 : decode cL_law 327 = .ok (.iconst 2, 1) := by decide +kernel
theorem dL_law_328 : decode cL_law 328 = .ok (.iadd, 1) := by decide +kernel
theorem dL_law_329 : decode cL_law 329 = .ok (.iaload, 1) := by decide +kernel
theorem dL_law_330 : decode cL_law 330 = .ok (.invokevirtual 42, 3) := by decide +kernel
theorem dL_law_333 : decode cL_law 333 = .ok (.if_icmp .eq 571, 3) := by decide +kernel
theorem dL_law_336 : decode cL_law 336 = .ok (.iconst 0, 1) := by decide +kernel
theorem dL_law_337 : decode cL_law 337 = .ok (.ireturn, 1) := by decide +kernel
theorem dL_law_338 : decode cL_law 338 = .ok (.aload_n 1, 1) := by decide +kernel
theorem dL_law_339 : decode cL_law 339 = .ok (.aload_n 0, 1) := by decide +kernel
theorem dL_law_340 : decode cL_law 340 = .ok (.iload_n 3, 1) := by decide +kernel
theorem dL_law_341 : decode cL_law 341 = .ok (.iconst 1, 1) := by decide +kernel
theorem dL_law_342 : decode cL_law 342 = .ok (.iadd, 1) := by decide +kernel
theorem dL_law_343 : decode cL_law 343 = .ok (.iaload, 1) := by decide +kernel
theorem dL_law_344 : decode cL_law 344 = .ok (.aload_n 0, 1) := by decide +kernel
theorem dL_law_345 : decode cL_law 345 = .ok (.iload_n 3, 1) := by decide +kernel
theorem dL_law_346 : decode cL_law 346 = .ok (.iconst 2, 1) := by decide +kernel
theorem dL_law_347 : decode cL_law 347 = .ok (.iadd, 1) := by decide +kernel
theorem dL_law_348 : decode cL_law 348 = .ok (.iaload, 1) := by decide +kernel
theorem dL_law_349 : decode cL_law 349 = .ok (.invokevirtual 43, 3) := by decide +kernel
theorem dL_law_352 : decode cL_law 352 = .ok (.aload_n 2, 1) := by decide +kernel
theorem dL_law_353 : decode cL_law 353 = .ok (.aload_n 0, 1) := by decide +kernel
theorem dL_law_354 : decode cL_law 354 = .ok (.iload_n 3, 1) := by decide +kernel
theorem dL_law_355 : decode cL_law 355 = .ok (.iconst 1, 1) := by decide +kernel
theorem dL_law_356 : decode cL_law 356 = .ok (.iadd, 1) := by decide +kernel
theorem dL_law_357 : decode cL_law 357 = .ok (.iaload, 1) := by decide +kernel
theorem dL_law_358 : decode cL_law 358 = .ok (.aload_n 0, 1) := by decide +kernel
theorem dL_law_359 : decode cL_law 359 = .ok (.iload_n 3, 1) := by decide +kernel
theorem dL_law_360 : decode cL_law 360 = .ok (.iconst 2, 1) := by decide +kernel
theorem dL_law_361 : decode cL_law 361 = .ok (.iadd, 1) := by decide +kernel
theorem dL_law_362 : decode cL_law 362 = .ok (.iaload, 1) := by decide +kernel
theorem dL_law_363 : decode cL_law 363 = .ok (.invokevirtual 46, 3) := by decide +kernel
theorem dL_law_366 : decode cL_law 366 = .ok (.if_icmp .eq 538, 3) := by decide +kernel
theorem dL_law_369 : decode cL_law 369 = .ok (.iconst 0, 1) := by decide +kernel
theorem dL_law_370 : decode cL_law 370 = .ok (.ireturn, 1) := by decide +kernel
theorem dL_law_371 : decode cL_law 371 = .ok (.aload_n 1, 1) := by decide +kernel
theorem dL_law_372 : decode cL_law 372 = .ok (.aload_n 0, 1) := by decide +kernel
theorem dL_law_373 : decode cL_law 373 = .ok (.iload_n 3, 1) := by decide +kernel
theorem dL_law_374 : decode cL_law 374 = .ok (.iconst 1, 1) := by decide +kernel
theorem dL_law_375 : decode cL_law 375 = .ok (.iadd, 1) := by decide +kernel
theorem dL_law_376 : decode cL_law 376 = .ok (.iaload, 1) := by decide +kernel
theorem dL_law_377 : decode cL_law 377 = .ok (.invokevirtual 47, 3) := by decide +kernel
theorem dL_law_380 : decode cL_law 380 = .ok (.aload_n 2, 1) := by decide +kernel
theorem dL_law_381 : decode cL_law 381 = .ok (.aload_n 0, 1) := by decide +kernel
theorem dL_law_382 : decode cL_law 382 = .ok (.iload_n 3, 1) := by decide +kernel
theorem dL_law_383 : decode cL_law 383 = .ok (.iconst 1, 1) := by decide +kernel
theorem dL_law_384 : decode cL_law 384 = .ok (.iadd, 1) := by decide +kernel
theorem dL_law_385 : decode cL_law 385 = .ok (.iaload, 1) := by decide +kernel
theorem dL_law_386 : decode cL_law 386 = .ok (.invokevirtual 50, 3) := by decide +kernel
theorem dL_law_389 : decode cL_law 389 = .ok (.if_icmp .eq 515, 3) := by decide +kernel
theorem dL_law_392 : decode cL_law 392 = .ok (.iconst 0, 1) := by decide +kernel
theorem dL_law_393 : decode cL_law 393 = .ok (.ireturn, 1) := by decide +kernel
theorem dL_law_394 : decode cL_law 394 = .ok (.aload_n 1, 1) := by decide +kernel
theorem dL_law_395 : decode cL_law 395 = .ok (.aload_n 0, 1) := by decide +kernel
theorem dL_law_396 : decode cL_law 396 = .ok (.iload_n 3, 1) := by decide +kernel
theorem dL_law_397 : decode cL_law 397 = .ok (.iconst 1, 1) := by decide +kernel
theorem dL_law_398 : decode cL_law 398 = .ok (.iadd, 1) := by decide +kernel
theorem dL_law_399 : decode cL_law 399 = .ok (.iaload, 1) := by decide +kernel
theorem dL_law_400 : decode cL_law 400 = .ok (.aload_n 0, 1) := by decide +kernel
theorem dL_law_401 : decode cL_law 401 = .ok (.iload_n 3, 1) := by decide +kernel
theorem dL_law_402 : decode cL_law 402 = .ok (.iconst 2, 1) := by decide +kernel
theorem dL_law_403 : decode cL_law 403 = .ok (.iadd, 1) := by decide +kernel
theorem dL_law_404 : decode cL_law 404 = .ok (.iaload, 1) := by decide +kernel
theorem dL_law_405 : decode cL_law 405 = .ok (.invokevirtual 51, 3) := by decide +kernel
theorem dL_law_408 : decode cL_law 408 = .ok (.aload_n 2, 1) := by decide +kernel
theorem dL_law_409 : decode cL_law 409 = .ok (.aload_n 0, 1) := by decide +kernel
theorem dL_law_410 : decode cL_law 410 = .ok (.iload_n 3, 1) := by decide +kernel
theorem dL_law_411 : decode cL_law 411 = .ok (.iconst 1, 1) := by decide +kernel
theorem dL_law_412 : decode cL_law 412 = .ok (.iadd, 1) := by decide +kernel
theorem dL_law_413 : decode cL_law 413 = .ok (.iaload, 1) := by decide +kernel
theorem dL_law_414 : decode cL_law 414 = .ok (.aload_n 0, 1) := by decide +kernel
theorem dL_law_415 : decode cL_law 415 = .ok (.iload_n 3, 1) := by decide +kernel
theorem dL_law_416 : decode cL_law 416 = .ok (.iconst 2, 1) := by decide +kernel
theorem dL_law_417 : decode cL_law 417 = .ok (.iadd, 1) := by decide +kernel
theorem dL_law_418 : decode cL_law 418 = .ok (.iaload, 1) := by decide +kernel
theorem dL_law_419 : decode cL_law 419 = .ok (.invokevirtual 54, 3) := by decide +kernel
theorem dL_law_422 : decode cL_law 422 = .ok (.if_icmp .eq 482, 3) := by decide +kernel
theorem dL_law_425 : decode cL_law 425 = .ok (.iconst 0, 1) := by decide +kernel
theorem dL_law_426 : decode cL_law 426 = .ok (.ireturn, 1) := by decide +kernel
theorem dL_law_427 : decode cL_law 427 = .ok (.aload_n 1, 1) := by decide +kernel
theorem dL_law_428 : decode cL_law 428 = .ok (.aload_n 0, 1) := by decide +kernel
theorem dL_law_429 : decode cL_law 429 = .ok (.iload_n 3, 1) := by decide +kernel
theorem dL_law_430 : decode cL_law 430 = .ok (.iconst 1, 1) := by decide +kernel
theorem dL_law_431 : decode cL_law 431 = .ok (.iadd, 1) := by decide +kernel
theorem dL_law_432 : decode cL_law 432 = .ok (.iaload, 1) := by decide +kernel
theorem dL_law_433 : decode cL_law 433 = .ok (.aload_n 0, 1) := by decide +kernel
theorem dL_law_434 : decode cL_law 434 = .ok (.iload_n 3, 1) := by decide +kernel
theorem dL_law_435 : decode cL_law 435 = .ok (.iconst 2, 1) := by decide +kernel
theorem dL_law_436 : decode cL_law 436 = .ok (.iadd, 1) := by decide +kernel
theorem dL_law_437 : decode cL_law 437 = .ok (.iaload, 1) := by decide +kernel
theorem dL_law_438 : decode cL_law 438 = .ok (.invokevirtual 55, 3) := by decide +kernel
theorem dL_law_441 : decode cL_law 441 = .ok (.aload_n 2, 1) := by decide +kernel
theorem dL_law_442 : decode cL_law 442 = .ok (.aload_n 0, 1) := by decide +kernel
theorem dL_law_443 : decode cL_law 443 = .ok (.iload_n 3, 1) := by decide +kernel
theorem dL_law_444 : decode cL_law 444 = .ok (.iconst 1, 1) := by decide +kernel
theorem dL_law_445 : decode cL_law 445 = .ok (.iadd, 1) := by decide +kernel
theorem dL_law_446 : decode cL_law 446 = .ok (.iaload, 1) := by decide +kernel
theorem dL_law_447 : decode cL_law 447 = .ok (.aload_n 0, 1) := by decide +kernel
theorem dL_law_448 : decode cL_law 448 = .ok (.iload_n 3, 1) := by decide +kernel
theorem dL_law_449 : decode cL_law 449 = .ok (.iconst 2, 1) := by decide +kernel
theorem dL_law_450 : decode cL_law 450 = .ok (.iadd, 1) := by decide +kernel
theorem dL_law_451 : decode cL_law 451 = .ok (.iaload, 1) := by decide +kernel
theorem dL_law_452 : decode cL_law 452 = .ok (.invokevirtual 58, 3) := by decide +kernel
theorem dL_law_455 : decode cL_law 455 = .ok (.if_icmp .eq 449, 3) := by decide +kernel
theorem dL_law_458 : decode cL_law 458 = .ok (.iconst 0, 1) := by decide +kernel
theorem dL_law_459 : decode cL_law 459 = .ok (.ireturn, 1) := by decide +kernel
theorem dL_law_460 : decode cL_law 460 = .ok (.aload_n 1, 1) := by decide +kernel
theorem dL_law_461 : decode cL_law 461 = .ok (.aload_n 0, 1) := by decide +kernel
theorem dL_law_462 : decode cL_law 462 = .ok (.iload_n 3, 1) := by decide +kernel
theorem dL_law_463 : decode cL_law 463 = .ok (.iconst 1, 1) := by decide +kernel
theorem dL_law_464 : decode cL_law 464 = .ok (.iadd, 1) := by decide +kernel
theorem dL_law_465 : decode cL_law 465 = .ok (.iaload, 1) := by decide +kernel
theorem dL_law_466 : decode cL_law 466 = .ok (.aload_n 0, 1) := by decide +kernel
theorem dL_law_467 : decode cL_law 467 = .ok (.iload_n 3, 1) := by decide +kernel
theorem dL_law_468 : decode cL_law 468 = .ok (.iconst 2, 1) := by decide +kernel
theorem dL_law_469 : decode cL_law 469 = .ok (.iadd, 1) := by decide +kernel
theorem dL_law_470 : decode cL_law 470 = .ok (.iaload, 1) := by decide +kernel
theorem dL_law_471 : decode cL_law 471 = .ok (.invokevirtual 59, 3) := by decide +kernel
theorem dL_law_474 : decode cL_law 474 = .ok (.aload_n 2, 1) := by decide +kernel
theorem dL_law_475 : decode cL_law 475 = .ok (.aload_n 0, 1) := by decide +kernel
theorem dL_law_476 : decode cL_law 476 = .ok (.iload_n 3, 1) := by decide +kernel
theorem dL_law_477 : decode cL_law 477 = .ok (.iconst 1, 1) := by decide +kernel
theorem dL_law_478 : decode cL_law 478 = .ok (.iadd, 1) := by decide +kernel
theorem dL_law_479 : decode cL_law 479 = .ok (.iaload, 1) := by decide +kernel
theorem dL_law_480 : decode cL_law 480 = .ok (.aload_n 0, 1) := by decide +kernel
theorem dL_law_481 : decode cL_law 481 = .ok (.iload_n 3, 1) := by decide +kernel
theorem dL_law_482 : decode cL_law 482 = .ok (.iconst 2, 1) := by decide +kernel
theorem dL_law_483 : decode cL_law 483 = .ok (.iadd, 1) := by decide +kernel
theorem dL_law_484 : decode cL_law 484 = .ok (.iaload, 1) := by decide +kernel
theorem dL_law_485 : decode cL_law 485 = .ok (.invokevirtual 62, 3) := by decide +kernel
theorem dL_law_488 : decode cL_law 488 = .ok (.if_icmp .eq 416, 3) := by decide +kernel
theorem dL_law_491 : decode cL_law 491 = .ok (.iconst 0, 1) := by decide +kernel
theorem dL_law_492 : decode cL_law 492 = .ok (.ireturn, 1) := by decide +kernel
theorem dL_law_493 : decode cL_law 493 = .ok (.aload_n 1, 1) := by decide +kernel
theorem dL_law_494 : decode cL_law 494 = .ok (.aload_n 0, 1) := by decide +kernel
theorem dL_law_495 : decode cL_law 495 = .ok (.iload_n 3, 1) := by decide +kernel
theorem dL_law_496 : decode cL_law 496 = .ok (.iconst 1, 1) := by decide +kernel
theorem dL_law_497 : decode cL_law 497 = .ok (.iadd, 1) := by decide +kernel
theorem dL_law_498 : decode cL_law 498 = .ok (.iaload, 1) := by decide +kernel
theorem dL_law_499 : decode cL_law 499 = .ok (.invokevirtual 63, 3) := by decide +kernel
theorem dL_law_502 : decode cL_law 502 = .ok (.aload_n 2, 1) := by decide +kernel
theorem dL_law_503 : decode cL_law 503 = .ok (.aload_n 0, 1) := by decide +kernel
theorem dL_law_504 : decode cL_law 504 = .ok (.iload_n 3, 1) := by decide +kernel
theorem dL_law_505 : decode cL_law 505 = .ok (.iconst 1, 1) := by decide +kernel
theorem dL_law_506 : decode cL_law 506 = .ok (.iadd, 1) := by decide +kernel
theorem dL_law_507 : decode cL_law 507 = .ok (.iaload, 1) := by decide +kernel
theorem dL_law_508 : decode cL_law 508 = .ok (.invokevirtual 66, 3) := by decide +kernel
theorem dL_law_511 : decode cL_law 511 = .ok (.if_icmp .eq 393, 3) := by decide +kernel
theorem dL_law_514 : decode cL_law 514 = .ok (.iconst 0, 1) := by decide +kernel
theorem dL_law_515 : decode cL_law 515 = .ok (.ireturn, 1) := by decide +kernel
theorem dL_law_516 : decode cL_law 516 = .ok (.aload_n 1, 1) := by decide +kernel
theorem dL_law_517 : decode cL_law 517 = .ok (.aload_n 0, 1) := by decide +kernel
theorem dL_law_518 : decode cL_law 518 = .ok (.iload_n 3, 1) := by decide +kernel
theorem dL_law_519 : decode cL_law 519 = .ok (.iconst 1, 1) := by decide +kernel
theorem dL_law_520 : decode cL_law 520 = .ok (.iadd, 1) := by decide +kernel
theorem dL_law_521 : decode cL_law 521 = .ok (.iaload, 1) := by decide +kernel
theorem dL_law_522 : decode cL_law 522 = .ok (.invokevirtual 67, 3) := by decide +kernel
theorem dL_law_525 : decode cL_law 525 = .ok (.aload_n 2, 1) := by decide +kernel
theorem dL_law_526 : decode cL_law 526 = .ok (.aload_n 0, 1) := by decide +kernel
theorem dL_law_527 : decode cL_law 527 = .ok (.iload_n 3, 1) := by decide +kernel
theorem dL_law_528 : decode cL_law 528 = .ok (.iconst 1, 1) := by decide +kernel
theorem dL_law_529 : decode cL_law 529 = .ok (.iadd, 1) := by decide +kernel
theorem dL_law_530 : decode cL_law 530 = .ok (.iaload, 1) := by decide +kernel
theorem dL_law_531 : decode cL_law 531 = .ok (.invokevirtual 70, 3) := by decide +kernel
theorem dL_law_534 : decode cL_law 534 = .ok (.if_icmp .eq 370, 3) := by decide +kernel
theorem dL_law_537 : decode cL_law 537 = .ok (.iconst 0, 1) := by decide +kernel
theorem dL_law_538 : decode cL_law 538 = .ok (.ireturn, 1) := by decide +kernel
theorem dL_law_539 : decode cL_law 539 = .ok (.aload_n 1, 1) := by decide +kernel
theorem dL_law_540 : decode cL_law 540 = .ok (.aload_n 0, 1) := by decide +kernel
theorem dL_law_541 : decode cL_law 541 = .ok (.iload_n 3, 1) := by decide +kernel
theorem dL_law_542 : decode cL_law 542 = .ok (.iconst 1, 1) := by decide +kernel
theorem dL_law_543 : decode cL_law 543 = .ok (.iadd, 1) := by decide +kernel
theorem dL_law_544 : decode cL_law 544 = .ok (.iaload, 1) := by decide +kernel
theorem dL_law_545 : decode cL_law 545 = .ok (.invokevirtual 71, 3) := by decide +kernel
theorem dL_law_548 : decode cL_law 548 = .ok (.aload_n 2, 1) := by decide +kernel
theorem dL_law_549 : decode cL_law 549 = .ok (.aload_n 0, 1) := by decide +kernel
theorem dL_law_550 : decode cL_law 550 = .ok (.iload_n 3, 1) := by decide +kernel
theorem dL_law_551 : decode cL_law 551 = .ok (.iconst 1, 1) := by decide +kernel
theorem dL_law_552 : decode cL_law 552 = .ok (.iadd, 1) := by decide +kernel
theorem dL_law_553 : decode cL_law 553 = .ok (.iaload, 1) := by decide +kernel
theorem dL_law_554 : decode cL_law 554 = .ok (.invokevirtual 74, 3) := by decide +kernel
theorem dL_law_557 : decode cL_law 557 = .ok (.if_icmp .eq 347, 3) := by decide +kernel
theorem dL_law_560 : decode cL_law 560 = .ok (.iconst 0, 1) := by decide +kernel
theorem dL_law_561 : decode cL_law 561 = .ok (.ireturn, 1) := by decide +kernel
theorem dL_law_562 : decode cL_law 562 = .ok (.aload_n 1, 1) := by decide +kernel
theorem dL_law_563 : decode cL_law 563 = .ok (.aload_n 0, 1) := by decide +kernel
theorem dL_law_564 : decode cL_law 564 = .ok (.iload_n 3, 1) := by decide +kernel
theorem dL_law_565 : decode cL_law 565 = .ok (.iconst 1, 1) := by decide +kernel
theorem dL_law_566 : decode cL_law 566 = .ok (.iadd, 1) := by decide +kernel
theorem dL_law_567 : decode cL_law 567 = .ok (.iaload, 1) := by decide +kernel
theorem dL_law_568 : decode cL_law 568 = .ok (.aload_n 0, 1) := by decide +kernel
theorem dL_law_569 : decode cL_law 569 = .ok (.iload_n 3, 1) := by decide +kernel
theorem dL_law_570 : decode cL_law 570 = .ok (.iconst 2, 1) := by decide +kernel
theorem dL_law_571 : decode cL_law 571 = .ok (.iadd, 1) := by decide +kernel
theorem dL_law_572 : decode cL_law 572 = .ok (.iaload, 1) := by decide +kernel
theorem dL_law_573 : decode cL_law 573 = .ok (.invokevirtual 75, 3) := by decide +kernel
theorem dL_law_576 : decode cL_law 576 = .ok (.aload_n 2, 1) := by decide +kernel
theorem dL_law_577 : decode cL_law 577 = .ok (.aload_n 0, 1) := by decide +kernel
theorem dL_law_578 : decode cL_law 578 = .ok (.iload_n 3, 1) := by decide +kernel
theorem dL_law_579 : decode cL_law 579 = .ok (.iconst 1, 1) := by decide +kernel
theorem dL_law_580 : decode cL_law 580 = .ok (.iadd, 1) := by decide +kernel
theorem dL_law_581 : decode cL_law 581 = .ok (.iaload, 1) := by decide +kernel
theorem dL_law_582 : decode cL_law 582 = .ok (.aload_n 0, 1) := by decide +kernel
theorem dL_law_583 : decode cL_law 583 = .ok (.iload_n 3, 1) := by decide +kernel
theorem dL_law_584 : decode cL_law 584 = .ok (.iconst 2, 1) := by decide +kernel
theorem dL_law_585 : decode cL_law 585 = .ok (.iadd, 1) := by decide +kernel
theorem dL_law_586 : decode cL_law 586 = .ok (.iaload, 1) := by decide +kernel
theorem dL_law_587 : decode cL_law 587 = .ok (.invokevirtual 78, 3) := by decide +kernel
theorem dL_law_590 : decode cL_law 590 = .ok (.if_icmp .eq 314, 3) := by decide +kernel
theorem dL_law_593 : decode cL_law 593 = .ok (.iconst 0, 1) := by decide +kernel
theorem dL_law_594 : decode cL_law 594 = .ok (.ireturn, 1) := by decide +kernel
theorem dL_law_595 : decode cL_law 595 = .ok (.aload_n 1, 1) := by decide +kernel
theorem dL_law_596 : decode cL_law 596 = .ok (.aload_n 0, 1) := by decide +kernel
theorem dL_law_597 : decode cL_law 597 = .ok (.iload_n 3, 1) := by decide +kernel
theorem dL_law_598 : decode cL_law 598 = .ok (.iconst 1, 1) := by decide +kernel
theorem dL_law_599 : decode cL_law 599 = .ok (.iadd, 1) := by decide +kernel
theorem dL_law_600 : decode cL_law 600 = .ok (.iaload, 1) := by decide +kernel
theorem dL_law_601 : decode cL_law 601 = .ok (.invokevirtual 79, 3) := by decide +kernel
theorem dL_law_604 : decode cL_law 604 = .ok (.aload_n 2, 1) := by decide +kernel
theorem dL_law_605 : decode cL_law 605 = .ok (.aload_n 0, 1) := by decide +kernel
theorem dL_law_606 : decode cL_law 606 = .ok (.iload_n 3, 1) := by decide +kernel
theorem dL_law_607 : decode cL_law 607 = .ok (.iconst 1, 1) := by decide +kernel
theorem dL_law_608 : decode cL_law 608 = .ok (.iadd, 1) := by decide +kernel
theorem dL_law_609 : decode cL_law 609 = .ok (.iaload, 1) := by decide +kernel
theorem dL_law_610 : decode cL_law 610 = .ok (.invokevirtual 82, 3) := by decide +kernel
theorem dL_law_613 : decode cL_law 613 = .ok (.if_icmp .eq 291, 3) := by decide +kernel
theorem dL_law_616 : decode cL_law 616 = .ok (.iconst 0, 1) := by decide +kernel
theorem dL_law_617 : decode cL_law 617 = .ok (.ireturn, 1) := by decide +kernel
theorem dL_law_618 : decode cL_law 618 = .ok (.aload_n 1, 1) := by decide +kernel
theorem dL_law_619 : decode cL_law 619 = .ok (.aload_n 0, 1) := by decide +kernel
theorem dL_law_620 : decode cL_law 620 = .ok (.iload_n 3, 1) := by decide +kernel
theorem dL_law_621 : decode cL_law 621 = .ok (.iconst 1, 1) := by decide +kernel
theorem dL_law_622 : decode cL_law 622 = .ok (.iadd, 1) := by decide +kernel
theorem dL_law_623 : decode cL_law 623 = .ok (.iaload, 1) := by decide +kernel
theorem dL_law_624 : decode cL_law 624 = .ok (.aload_n 0, 1) := by decide +kernel
theorem dL_law_625 : decode cL_law 625 = .ok (.iload_n 3, 1) := by decide +kernel
theorem dL_law_626 : decode cL_law 626 = .ok (.iconst 2, 1) := by decide +kernel
theorem dL_law_627 : decode cL_law 627 = .ok (.iadd, 1) := by decide +kernel
theorem dL_law_628 : decode cL_law 628 = .ok (.iaload, 1) := by decide +kernel
theorem dL_law_629 : decode cL_law 629 = .ok (.invokevirtual 83, 3) := by decide +kernel
theorem dL_law_632 : decode cL_law 632 = .ok (.aload_n 2, 1) := by decide +kernel
theorem dL_law_633 : decode cL_law 633 = .ok (.aload_n 0, 1) := by decide +kernel
theorem dL_law_634 : decode cL_law 634 = .ok (.iload_n 3, 1) := by decide +kernel
theorem dL_law_635 : decode cL_law 635 = .ok (.iconst 1, 1) := by decide +kernel
theorem dL_law_636 : decode cL_law 636 = .ok (.iadd, 1) := by decide +kernel
theorem dL_law_637 : decode cL_law 637 = .ok (.iaload, 1) := by decide +kernel
theorem dL_law_638 : decode cL_law 638 = .ok (.aload_n 0, 1) := by decide +kernel
theorem dL_law_639 : decode cL_law 639 = .ok (.iload_n 3, 1) := by decide +kernel
theorem dL_law_640 : decode cL_law 640 = .ok (.iconst 2, 1) := by decide +kernel
theorem dL_law_641 : decode cL_law 641 = .ok (.iadd, 1) := by decide +kernel
theorem dL_law_642 : decode cL_law 642 = .ok (.iaload, 1) := by decide +kernel
theorem dL_law_643 : decode cL_law 643 = .ok (.invokevirtual 86, 3) := by decide +kernel
theorem dL_law_646 : decode cL_law 646 = .ok (.if_icmp .eq 258, 3) := by decide +kernel
theorem dL_law_649 : decode cL_law 649 = .ok (.iconst 0, 1) := by decide +kernel
theorem dL_law_650 : decode cL_law 650 = .ok (.ireturn, 1) := by decide +kernel
theorem dL_law_651 : decode cL_law 651 = .ok (.aload_n 1, 1) := by decide +kernel
theorem dL_law_652 : decode cL_law 652 = .ok (.aload_n 0, 1) := by decide +kernel
theorem dL_law_653 : decode cL_law 653 = .ok (.iload_n 3, 1) := by decide +kernel
theorem dL_law_654 : decode cL_law 654 = .ok (.iconst 1, 1) := by decide +kernel
theorem dL_law_655 : decode cL_law 655 = .ok (.iadd, 1) := by decide +kernel
theorem dL_law_656 : decode cL_law 656 = .ok (.iaload, 1) := by decide +kernel
theorem dL_law_657 : decode cL_law 657 = .ok (.aload_n 0, 1) := by decide +kernel
theorem dL_law_658 : decode cL_law 658 = .ok (.iload_n 3, 1) := by decide +kernel
theorem dL_law_659 : decode cL_law 659 = .ok (.iconst 2, 1) := by decide +kernel
theorem dL_law_660 : decode cL_law 660 = .ok (.iadd, 1) := by decide +kernel
theorem dL_law_661 : decode cL_law 661 = .ok (.iaload, 1) := by decide +kernel
theorem dL_law_662 : decode cL_law 662 = .ok (.invokevirtual 87, 3) := by decide +kernel
theorem dL_law_665 : decode cL_law 665 = .ok (.aload_n 2, 1) := by decide +kernel
theorem dL_law_666 : decode cL_law 666 = .ok (.aload_n 0, 1) := by decide +kernel
theorem dL_law_667 : decode cL_law 667 = .ok (.iload_n 3, 1) := by decide +kernel
theorem dL_law_668 : decode cL_law 668 = .ok (.iconst 1, 1) := by decide +kernel
theorem dL_law_669 : decode cL_law 669 = .ok (.iadd, 1) := by decide +kernel
theorem dL_law_670 : decode cL_law 670 = .ok (.iaload, 1) := by decide +kernel
theorem dL_law_671 : decode cL_law 671 = .ok (.aload_n 0, 1) := by decide +kernel
theorem dL_law_672 : decode cL_law 672 = .ok (.iload_n 3, 1) := by decide +kernel
theorem dL_law_673 : decode cL_law 673 = .ok (.iconst 2, 1) := by decide +kernel
theorem dL_law_674 : decode cL_law 674 = .ok (.iadd, 1) := by decide +kernel
theorem dL_law_675 : decode cL_law 675 = .ok (.iaload, 1) := by decide +kernel
theorem dL_law_676 : decode cL_law 676 = .ok (.invokevirtual 90, 3) := by decide +kernel
theorem dL_law_679 : decode cL_law 679 = .ok (.if_icmp .eq 225, 3) := by decide +kernel
theorem dL_law_682 : decode cL_law 682 = .ok (.iconst 0, 1) := by decide +kernel
theorem dL_law_683 : decode cL_law 683 = .ok (.ireturn, 1) := by decide +kernel
theorem dL_law_684 : decode cL_law 684 = .ok (.aload_n 1, 1) := by decide +kernel
theorem dL_law_685 : decode cL_law 685 = .ok (.aload_n 0, 1) := by decide +kernel
theorem dL_law_686 : decode cL_law 686 = .ok (.iload_n 3, 1) := by decide +kernel
theorem dL_law_687 : decode cL_law 687 = .ok (.iconst 1, 1) := by decide +kernel
theorem dL_law_688 : decode cL_law 688 = .ok (.iadd, 1) := by decide +kernel
theorem dL_law_689 : decode cL_law 689 = .ok (.iaload, 1) := by decide +kernel
theorem dL_law_690 : decode cL_law 690 = .ok (.aload_n 0, 1) := by decide +kernel
theorem dL_law_691 : decode cL_law 691 = .ok (.iload_n 3, 1) := by decide +kernel
theorem dL_law_692 : decode cL_law 692 = .ok (.iconst 2, 1) := by decide +kernel
theorem dL_law_693 : decode cL_law 693 = .ok (.iadd, 1) := by decide +kernel
theorem dL_law_694 : decode cL_law 694 = .ok (.iaload, 1) := by decide +kernel
theorem dL_law_695 : decode cL_law 695 = .ok (.invokevirtual 91, 3) := by decide +kernel
theorem dL_law_698 : decode cL_law 698 = .ok (.aload_n 2, 1) := by decide +kernel
theorem dL_law_699 : decode cL_law 699 = .ok (.aload_n 0, 1) := by decide +kernel
theorem dL_law_700 : decode cL_law 700 = .ok (.iload_n 3, 1) := by decide +kernel
theorem dL_law_701 : decode cL_law 701 = .ok (.iconst 1, 1) := by decide +kernel
theorem dL_law_702 : decode cL_law 702 = .ok (.iadd, 1) := by decide +kernel
theorem dL_law_703 : decode cL_law 703 = .ok (.iaload, 1) := by decide +kernel
theorem dL_law_704 : decode cL_law 704 = .ok (.aload_n 0, 1) := by decide +kernel
theorem dL_law_705 : decode cL_law 705 = .ok (.iload_n 3, 1) := by decide +kernel
theorem dL_law_706 : decode cL_law 706 = .ok (.iconst 2, 1) := by decide +kernel
theorem dL_law_707 : decode cL_law 707 = .ok (.iadd, 1) := by decide +kernel
theorem dL_law_708 : decode cL_law 708 = .ok (.iaload, 1) := by decide +kernel
theorem dL_law_709 : decode cL_law 709 = .ok (.invokevirtual 94, 3) := by decide +kernel
theorem dL_law_712 : decode cL_law 712 = .ok (.if_icmp .eq 192, 3) := by decide +kernel
theorem dL_law_715 : decode cL_law 715 = .ok (.iconst 0, 1) := by decide +kernel
theorem dL_law_716 : decode cL_law 716 = .ok (.ireturn, 1) := by decide +kernel
theorem dL_law_717 : decode cL_law 717 = .ok (.aload_n 1, 1) := by decide +kernel
theorem dL_law_718 : decode cL_law 718 = .ok (.invokevirtual 95, 3) := by decide +kernel
theorem dL_law_721 : decode cL_law 721 = .ok (.aload_n 2, 1) := by decide +kernel
theorem dL_law_722 : decode cL_law 722 = .ok (.invokevirtual 98, 3) := by decide +kernel
theorem dL_law_725 : decode cL_law 725 = .ok (.if_icmp .eq 179, 3) := by decide +kernel
theorem dL_law_728 : decode cL_law 728 = .ok (.iconst 0, 1) := by decide +kernel
theorem dL_law_729 : decode cL_law 729 = .ok (.ireturn, 1) := by decide +kernel
theorem dL_law_730 : decode cL_law 730 = .ok (.aload_n 1, 1) := by decide +kernel
theorem dL_law_731 : decode cL_law 731 = .ok (.aload_n 0, 1) := by decide +kernel
theorem dL_law_732 : decode cL_law 732 = .ok (.iload_n 3, 1) := by decide +kernel
theorem dL_law_733 : decode cL_law 733 = .ok (.iconst 1, 1) := by decide +kernel
theorem dL_law_734 : decode cL_law 734 = .ok (.iadd, 1) := by decide +kernel
theorem dL_law_735 : decode cL_law 735 = .ok (.iaload, 1) := by decide +kernel
theorem dL_law_736 : decode cL_law 736 = .ok (.invokevirtual 99, 3) := by decide +kernel
theorem dL_law_739 : decode cL_law 739 = .ok (.aload_n 2, 1) := by decide +kernel
theorem dL_law_740 : decode cL_law 740 = .ok (.aload_n 0, 1) := by decide +kernel
theorem dL_law_741 : decode cL_law 741 = .ok (.iload_n 3, 1) := by decide +kernel
theorem dL_law_742 : decode cL_law 742 = .ok (.iconst 1, 1) := by decide +kernel
theorem dL_law_743 : decode cL_law 743 = .ok (.iadd, 1) := by decide +kernel
theorem dL_law_744 : decode cL_law 744 = .ok (.iaload, 1) := by decide +kernel
theorem dL_law_745 : decode cL_law 745 = .ok (.invokevirtual 102, 3) := by decide +kernel
theorem dL_law_748 : decode cL_law 748 = .ok (.if_icmp .eq 156, 3) := by decide +kernel
theorem dL_law_751 : decode cL_law 751 = .ok (.iconst 0, 1) := by decide +kernel
theorem dL_law_752 : decode cL_law 752 = .ok (.ireturn, 1) := by decide +kernel
theorem dL_law_753 : decode cL_law 753 = .ok (.aload_n 1, 1) := by decide +kernel
theorem dL_law_754 : decode cL_law 754 = .ok (.aload_n 0, 1) := by decide +kernel
theorem dL_law_755 : decode cL_law 755 = .ok (.iload_n 3, 1) := by decide +kernel
theorem dL_law_756 : decode cL_law 756 = .ok (.iconst 1, 1) := by decide +kernel
theorem dL_law_757 : decode cL_law 757 = .ok (.iadd, 1) := by decide +kernel
theorem dL_law_758 : decode cL_law 758 = .ok (.iaload, 1) := by decide +kernel
theorem dL_law_759 : decode cL_law 759 = .ok (.invokevirtual 103, 3) := by decide +kernel
theorem dL_law_762 : decode cL_law 762 = .ok (.aload_n 2, 1) := by decide +kernel
theorem dL_law_763 : decode cL_law 763 = .ok (.aload_n 0, 1) := by decide +kernel
theorem dL_law_764 : decode cL_law 764 = .ok (.iload_n 3, 1) := by decide +kernel
theorem dL_law_765 : decode cL_law 765 = .ok (.iconst 1, 1) := by decide +kernel
theorem dL_law_766 : decode cL_law 766 = .ok (.iadd, 1) := by decide +kernel
theorem dL_law_767 : decode cL_law 767 = .ok (.iaload, 1) := by decide +kernel
theorem dL_law_768 : decode cL_law 768 = .ok (.invokevirtual 106, 3) := by decide +kernel
theorem dL_law_771 : decode cL_law 771 = .ok (.if_icmp .eq 133, 3) := by decide +kernel
theorem dL_law_774 : decode cL_law 774 = .ok (.iconst 0, 1) := by decide +kernel
theorem dL_law_775 : decode cL_law 775 = .ok (.ireturn, 1) := by decide +kernel
theorem dL_law_776 : decode cL_law 776 = .ok (.aload_n 1, 1) := by decide +kernel
theorem dL_law_777 : decode cL_law 777 = .ok (.aload_n 0, 1) := by decide +kernel
theorem dL_law_778 : decode cL_law 778 = .ok (.iload_n 3, 1) := by decide +kernel
theorem dL_law_779 : decode cL_law 779 = .ok (.iconst 1, 1) := by decide +kernel
theorem dL_law_780 : decode cL_law 780 = .ok (.iadd, 1) := by decide +kernel
theorem dL_law_781 : decode cL_law 781 = .ok (.iaload, 1) := by decide +kernel
theorem dL_law_782 : decode cL_law 782 = .ok (.aload_n 0, 1) := by decide +kernel
theorem dL_law_783 : decode cL_law 783 = .ok (.iload_n 3, 1) := by decide +kernel
theorem dL_law_784 : decode cL_law 784 = .ok (.iconst 2, 1) := by decide +kernel
theorem dL_law_785 : decode cL_law 785 = .ok (.iadd, 1) := by decide +kernel
theorem dL_law_786 : decode cL_law 786 = .ok (.iaload, 1) := by decide +kernel
theorem dL_law_787 : decode cL_law 787 = .ok (.invokevirtual 107, 3) := by decide +kernel
theorem dL_law_790 : decode cL_law 790 = .ok (.aload_n 2, 1) := by decide +kernel
theorem dL_law_791 : decode cL_law 791 = .ok (.aload_n 0, 1) := by decide +kernel
theorem dL_law_792 : decode cL_law 792 = .ok (.iload_n 3, 1) := by decide +kernel
theorem dL_law_793 : decode cL_law 793 = .ok (.iconst 1, 1) := by decide +kernel
theorem dL_law_794 : decode cL_law 794 = .ok (.iadd, 1) := by decide +kernel
theorem dL_law_795 : decode cL_law 795 = .ok (.iaload, 1) := by decide +kernel
theorem dL_law_796 : decode cL_law 796 = .ok (.aload_n 0, 1) := by decide +kernel
theorem dL_law_797 : decode cL_law 797 = .ok (.iload_n 3, 1) := by decide +kernel
theorem dL_law_798 : decode cL_law 798 = .ok (.iconst 2, 1) := by decide +kernel
theorem dL_law_799 : decode cL_law 799 = .ok (.iadd, 1) := by decide +kernel
theorem dL_law_800 : decode cL_law 800 = .ok (.iaload, 1) := by decide +kernel
theorem dL_law_801 : decode cL_law 801 = .ok (.invokevirtual 110, 3) := by decide +kernel
theorem dL_law_804 : decode cL_law 804 = .ok (.if_icmp .eq 100, 3) := by decide +kernel
theorem dL_law_807 : decode cL_law 807 = .ok (.iconst 0, 1) := by decide +kernel
theorem dL_law_808 : decode cL_law 808 = .ok (.ireturn, 1) := by decide +kernel
theorem dL_law_809 : decode cL_law 809 = .ok (.aload_n 1, 1) := by decide +kernel
theorem dL_law_810 : decode cL_law 810 = .ok (.invokevirtual 111, 3) := by decide +kernel
theorem dL_law_813 : decode cL_law 813 = .ok (.aload_n 2, 1) := by decide +kernel
theorem dL_law_814 : decode cL_law 814 = .ok (.invokevirtual 114, 3) := by decide +kernel
theorem dL_law_817 : decode cL_law 817 = .ok (.if_icmp .eq 87, 3) := by decide +kernel
theorem dL_law_820 : decode cL_law 820 = .ok (.iconst 0, 1) := by decide +kernel
theorem dL_law_821 : decode cL_law 821 = .ok (.ireturn, 1) := by decide +kernel
theorem dL_law_822 : decode cL_law 822 = .ok (.aload_n 1, 1) := by decide +kernel
theorem dL_law_823 : decode cL_law 823 = .ok (.invokevirtual 115, 3) := by decide +kernel
theorem dL_law_826 : decode cL_law 826 = .ok (.aload_n 2, 1) := by decide +kernel
theorem dL_law_827 : decode cL_law 827 = .ok (.invokevirtual 118, 3) := by decide +kernel
theorem dL_law_830 : decode cL_law 830 = .ok (.if_icmp .eq 74, 3) := by decide +kernel
theorem dL_law_833 : decode cL_law 833 = .ok (.iconst 0, 1) := by decide +kernel
theorem dL_law_834 : decode cL_law 834 = .ok (.ireturn, 1) := by decide +kernel
theorem dL_law_835 : decode cL_law 835 = .ok (.aload_n 1, 1) := by decide +kernel
theorem dL_law_836 : decode cL_law 836 = .ok (.aload_n 0, 1) := by decide +kernel
theorem dL_law_837 : decode cL_law 837 = .ok (.iload_n 3, 1) := by decide +kernel
theorem dL_law_838 : decode cL_law 838 = .ok (.iconst 1, 1) := by decide +kernel
theorem dL_law_839 : decode cL_law 839 = .ok (.iadd, 1) := by decide +kernel
theorem dL_law_840 : decode cL_law 840 = .ok (.iaload, 1) := by decide +kernel
theorem dL_law_841 : decode cL_law 841 = .ok (.invokevirtual 119, 3) := by decide +kernel
theorem dL_law_844 : decode cL_law 844 = .ok (.aload_n 2, 1) := by decide +kernel
theorem dL_law_845 : decode cL_law 845 = .ok (.aload_n 0, 1) := by decide +kernel
theorem dL_law_846 : decode cL_law 846 = .ok (.iload_n 3, 1) := by decide +kernel
theorem dL_law_847 : decode cL_law 847 = .ok (.iconst 1, 1) := by decide +kernel
theorem dL_law_848 : decode cL_law 848 = .ok (.iadd, 1) := by decide +kernel
theorem dL_law_849 : decode cL_law 849 = .ok (.iaload, 1) := by decide +kernel
theorem dL_law_850 : decode cL_law 850 = .ok (.invokevirtual 122, 3) := by decide +kernel
theorem dL_law_853 : decode cL_law 853 = .ok (.if_icmp .eq 51, 3) := by decide +kernel
theorem dL_law_856 : decode cL_law 856 = .ok (.iconst 0, 1) := by decide +kernel
theorem dL_law_857 : decode cL_law 857 = .ok (.ireturn, 1) := by decide +kernel
theorem dL_law_858 : decode cL_law 858 = .ok (.aload_n 1, 1) := by decide +kernel
theorem dL_law_859 : decode cL_law 859 = .ok (.aload_n 0, 1) := by decide +kernel
theorem dL_law_860 : decode cL_law 860 = .ok (.iload_n 3, 1) := by decide +kernel
theorem dL_law_861 : decode cL_law 861 = .ok (.iconst 1, 1) := by decide +kernel
theorem dL_law_862 : decode cL_law 862 = .ok (.iadd, 1) := by decide +kernel
theorem dL_law_863 : decode cL_law 863 = .ok (.iaload, 1) := by decide +kernel
theorem dL_law_864 : decode cL_law 864 = .ok (.invokevirtual 123, 3) := by decide +kernel
theorem dL_law_867 : decode cL_law 867 = .ok (.aload_n 2, 1) := by decide +kernel
theorem dL_law_868 : decode cL_law 868 = .ok (.aload_n 0, 1) := by decide +kernel
theorem dL_law_869 : decode cL_law 869 = .ok (.iload_n 3, 1) := by decide +kernel
theorem dL_law_870 : decode cL_law 870 = .ok (.iconst 1, 1) := by decide +kernel
theorem dL_law_871 : decode cL_law 871 = .ok (.iadd, 1) := by decide +kernel
theorem dL_law_872 : decode cL_law 872 = .ok (.iaload, 1) := by decide +kernel
theorem dL_law_873 : decode cL_law 873 = .ok (.invokevirtual 126, 3) := by decide +kernel
theorem dL_law_876 : decode cL_law 876 = .ok (.if_icmp .eq 28, 3) := by decide +kernel
theorem dL_law_879 : decode cL_law 879 = .ok (.iconst 0, 1) := by decide +kernel
theorem dL_law_880 : decode cL_law 880 = .ok (.ireturn, 1) := by decide +kernel
theorem dL_law_881 : decode cL_law 881 = .ok (.aload_n 1, 1) := by decide +kernel
theorem dL_law_882 : decode cL_law 882 = .ok (.aload_n 0, 1) := by decide +kernel
theorem dL_law_883 : decode cL_law 883 = .ok (.iload_n 3, 1) := by decide +kernel
theorem dL_law_884 : decode cL_law 884 = .ok (.iconst 1, 1) := by decide +kernel
theorem dL_law_885 : decode cL_law 885 = .ok (.iadd, 1) := by decide +kernel
theorem dL_law_886 : decode cL_law 886 = .ok (.iaload, 1) := by decide +kernel
theorem dL_law_887 : decode cL_law 887 = .ok (.invokevirtual 127, 3) := by decide +kernel
theorem dL_law_890 : decode cL_law 890 = .ok (.aload_n 2, 1) := by decide +kernel
theorem dL_law_891 : decode cL_law 891 = .ok (.aload_n 0, 1) := by decide +kernel
theorem dL_law_892 : decode cL_law 892 = .ok (.iload_n 3, 1) := by decide +kernel
theorem dL_law_893 : decode cL_law 893 = .ok (.iconst 1, 1) := by decide +kernel
theorem dL_law_894 : decode cL_law 894 = .ok (.iadd, 1) := by decide +kernel
theorem dL_law_895 : decode cL_law 895 = .ok (.iaload, 1) := by decide +kernel
theorem dL_law_896 : decode cL_law 896 = .ok (.invokevirtual 130, 3) := by decide +kernel
theorem dL_law_899 : decode cL_law 899 = .ok (.if_icmp .eq 5, 3) := by decide +kernel
theorem dL_law_902 : decode cL_law 902 = .ok (.iconst 0, 1) := by decide +kernel
theorem dL_law_903 : decode cL_law 903 = .ok (.ireturn, 1) := by decide +kernel
theorem dL_law_904 : decode cL_law 904 = .ok (.iinc 3 4, 3) := by decide +kernel
theorem dL_law_907 : decode cL_law 907 = .ok (.goto (-889), 3) := by decide +kernel
theorem dL_law_910 : decode cL_law 910 = .ok (.iconst 1, 1) := by decide +kernel
theorem dL_law_911 : decode cL_law 911 = .ok (.ireturn, 1) := by decide +kernel
theorem dX0_init_0 : decode cX0_init 0 = .ok (.aload_n 0, 1) := by decide +kernel
theorem dX0_init_1 : decode cX0_init 1 = .ok (.invokespecial 3, 3) := by decide +kernel
theorem dX0_init_4 : decode cX0_init 4 = .ok (.aload_n 0, 1) := by decide +kernel
theorem dX0_init_5 : decode cX0_init 5 = .ok (.bipush 40, 2) := by decide +kernel
theorem dX0_init_7 : decode cX0_init 7 = .ok (.newarray .int, 2) := by decide +kernel
theorem dX0_init_9 : decode cX0_init 9 = .ok (.putfield 9, 3) := by decide +kernel
theorem dX0_init_12 : decode cX0_init 12 = .ok (.aload_n 0, 1) := by decide +kernel
theorem dX0_init_13 : decode cX0_init 13 = .ok (.bipush 40, 2) := by decide +kernel
theorem dX0_init_15 : decode cX0_init 15 = .ok (.newarray .int, 2) := by decide +kernel
theorem dX0_init_17 : decode cX0_init 17 = .ok (.putfield 15, 3) := by decide +kernel
theorem dX0_init_20 : decode cX0_init 20 = .ok (.aload_n 0, 1) := by decide +kernel
theorem dX0_init_21 : decode cX0_init 21 = .ok (.aload_n 1, 1) := by decide +kernel
theorem dX0_init_22 : decode cX0_init 22 = .ok (.putfield 18, 3) := by decide +kernel
theorem dX0_init_25 : decode cX0_init 25 = .ok (.return_, 1) := by decide +kernel
theorem dX0_add_0 : decode cX0_add 0 = .ok (.aload_n 0, 1) := by decide +kernel
theorem dX0_add_1 : decode cX0_add 1 = .ok (.getfield 22, 3) := by decide +kernel
theorem dX0_add_4 : decode cX0_add 4 = .ok (.bipush 40, 2) := by decide +kernel
theorem dX0_add_6 : decode cX0_add 6 = .ok (.if_icmp .lt 5, 3) := by decide +kernel
theorem dX0_add_9 : decode cX0_add 9 = .ok (.iconst 0, 1) := by decide +kernel
theorem dX0_add_10 : decode cX0_add 10 = .ok (.ireturn, 1) := by decide +kernel
theorem dX0_add_11 : decode cX0_add 11 = .ok (.aload_n 0, 1) := by decide +kernel
theorem dX0_add_12 : decode cX0_add 12 = .ok (.getfield 9, 3) := by decide +kernel
theorem dX0_add_15 : decode cX0_add 15 = .ok (.aload_n 0, 1) := by decide +kernel
theorem dX0_add_16 : decode cX0_add 16 = .ok (.getfield 22, 3) := by decide +kernel
theorem dX0_add_19 : decode cX0_add 19 = .ok (.iload_n 1, 1) := by decide +kernel
theorem dX0_add_20 : decode cX0_add 20 = .ok (.iastore, 1) := by decide +kernel
theorem dX0_add_21 : decode cX0_add 21 = .ok (.aload_n 0, 1) := by decide +kernel
theorem dX0_add_22 : decode cX0_add 22 = .ok (.getfield 15, 3) := by decide +kernel
theorem dX0_add_25 : decode cX0_add 25 = .ok (.aload_n 0, 1) := by decide +kernel
theorem dX0_add_26 : decode cX0_add 26 = .ok (.getfield 22, 3) := by decide +kernel
theorem dX0_add_29 : decode cX0_add 29 = .ok (.iload_n 2, 1) := by decide +kernel
theorem dX0_add_30 : decode cX0_add 30 = .ok (.iastore, 1) := by decide +kernel
theorem dX0_add_31 : decode cX0_add 31 = .ok (.aload_n 0, 1) := by decide +kernel
theorem dX0_add_32 : decode cX0_add 32 = .ok (.dup, 1) := by decide +kernel
theorem dX0_add_33 : decode cX0_add 33 = .ok (.getfield 22, 3) := by decide +kernel
theorem dX0_add_36 : decode cX0_add 36 = .ok (.iconst 1, 1) := by decide +kernel
theorem dX0_add_37 : decode cX0_add 37 = .ok (.iadd, 1) := by decide +kernel
theorem dX0_add_38 : decode cX0_add 38 = .ok (.putfield 22, 3) := by decide +kernel
theorem dX0_add_41 : decode cX0_add 41 = .ok (.iconst 1, 1) := by decide +kernel
theorem dX0_add_42 : decode cX0_add 42 = .ok (.ireturn, 1) := by decide +kernel
theorem dX0_firstWrong_0 : decode cX0_firstWrong 0 = .ok (.iconst 0, 1) := by decide +kernel
theorem dX0_firstWrong_1 : decode cX0_firstWrong 1 = .ok (.istore_n 2, 1) := by decide +kernel
theorem dX0_firstWrong_2 : decode cX0_firstWrong 2 = .ok (.iload_n 2, 1) := by decide +kernel
theorem dX0_firstWrong_3 : decode cX0_firstWrong 3 = .ok (.aload_n 0, 1) := by decide +kernel
theorem dX0_firstWrong_4 : decode cX0_firstWrong 4 = .ok (.getfield 22, 3) := by decide +kernel
theorem dX0_firstWrong_7 : decode cX0_firstWrong 7 = .ok (.if_icmp .ge 42, 3) := by decide +kernel
theorem dX0_firstWrong_10 : decode cX0_firstWrong 10 = .ok (.aload_n 0, 1) := by decide +kernel
theorem dX0_firstWrong_11 : decode cX0_firstWrong 11 = .ok (.getfield 18, 3) := by decide +kernel
theorem dX0_firstWrong_14 : decode cX0_firstWrong 14 = .ok (.aload_n 0, 1) := by decide +kernel
theorem dX0_firstWrong_15 : decode cX0_firstWrong 15 = .ok (.getfield 15, 3) := by decide +kernel
theorem dX0_firstWrong_18 : decode cX0_firstWrong 18 = .ok (.iload_n 2, 1) := by decide +kernel
theorem dX0_firstWrong_19 : decode cX0_firstWrong 19 = .ok (.iaload, 1) := by decide +kernel
theorem dX0_firstWrong_20 : decode cX0_firstWrong 20 = .ok (.aload_n 0, 1) := by decide +kernel
theorem dX0_firstWrong_21 : decode cX0_firstWrong 21 = .ok (.getfield 9, 3) := by decide +kernel
theorem dX0_firstWrong_24 : decode cX0_firstWrong 24 = .ok (.iload_n 2, 1) := by decide +kernel
theorem dX0_firstWrong_25 : decode cX0_firstWrong 25 = .ok (.iaload, 1) := by decide +kernel
theorem dX0_firstWrong_26 : decode cX0_firstWrong 26 = .ok (.invokevirtual 26, 3) := by decide +kernel
theorem dX0_firstWrong_29 : decode cX0_firstWrong 29 = .ok (.ifCond .eq 12, 3) := by decide +kernel
theorem dX0_firstWrong_32 : decode cX0_firstWrong 32 = .ok (.aload_n 0, 1) := by decide +kernel
theorem dX0_firstWrong_33 : decode cX0_firstWrong 33 = .ok (.iload_n 2, 1) := by decide +kernel
theorem dX0_firstWrong_34 : decode cX0_firstWrong 34 = .ok (.iload_n 1, 1) := by decide +kernel
theorem dX0_firstWrong_35 : decode cX0_firstWrong 35 = .ok (.invokevirtual 32, 3) := by decide +kernel
theorem dX0_firstWrong_38 : decode cX0_firstWrong 38 = .ok (.ifCond .eq 5, 3) := by decide +kernel
theorem dX0_firstWrong_41 : decode cX0_firstWrong 41 = .ok (.iload_n 2, 1) := by decide +kernel
theorem dX0_firstWrong_42 : decode cX0_firstWrong 42 = .ok (.ireturn, 1) := by decide +kernel
theorem dX0_firstWrong_43 : decode cX0_firstWrong 43 = .ok (.iinc 2 1, 3) := by decide +kernel
theorem dX0_firstWrong_46 : decode cX0_firstWrong 46 = .ok (.goto (-44), 3) := by decide +kernel
theorem dX0_firstWrong_49 : decode cX0_firstWrong 49 = .ok (.iconst (-1), 1) := by decide +kernel
theorem dX0_firstWrong_50 : decode cX0_firstWrong 50 = .ok (.ireturn, 1) := by decide +kernel
theorem dX0_wasToldAhead_0 : decode cX0_wasToldAhead 0 = .ok (.iconst 0, 1) := by decide +kernel
theorem dX0_wasToldAhead_1 : decode cX0_wasToldAhead 1 = .ok (.istore_n 3, 1) := by decide +kernel
theorem dX0_wasToldAhead_2 : decode cX0_wasToldAhead 2 = .ok (.iload_n 3, 1) := by decide +kernel
theorem dX0_wasToldAhead_3 : decode cX0_wasToldAhead 3 = .ok (.iload_n 1, 1) := by decide +kernel
theorem dX0_wasToldAhead_4 : decode cX0_wasToldAhead 4 = .ok (.if_icmp .ge 46, 3) := by decide +kernel
theorem dX0_wasToldAhead_7 : decode cX0_wasToldAhead 7 = .ok (.aload_n 0, 1) := by decide +kernel
theorem dX0_wasToldAhead_8 : decode cX0_wasToldAhead 8 = .ok (.getfield 15, 3) := by decide +kernel
theorem dX0_wasToldAhead_11 : decode cX0_wasToldAhead 11 = .ok (.iload_n 3, 1) := by decide +kernel
theorem dX0_wasToldAhead_12 : decode cX0_wasToldAhead 12 = .ok (.iaload, 1) := by decide +kernel
theorem dX0_wasToldAhead_13 : decode cX0_wasToldAhead 13 = .ok (.aload_n 0, 1) := by decide +kernel
theorem dX0_wasToldAhead_14 : decode cX0_wasToldAhead 14 = .ok (.getfield 15, 3) := by decide +kernel
theorem dX0_wasToldAhead_17 : decode cX0_wasToldAhead 17 = .ok (.iload_n 1, 1) := by decide +kernel
theorem dX0_wasToldAhead_18 : decode cX0_wasToldAhead 18 = .ok (.iaload, 1) := by decide +kernel
theorem dX0_wasToldAhead_19 : decode cX0_wasToldAhead 19 = .ok (.if_icmp .ne 25, 3) := by decide +kernel
theorem dX0_wasToldAhead_22 : decode cX0_wasToldAhead 22 = .ok (.aload_n 0, 1) := by decide +kernel
theorem dX0_wasToldAhead_23 : decode cX0_wasToldAhead 23 = .ok (.getfield 9, 3) := by decide +kernel
theorem dX0_wasToldAhead_26 : decode cX0_wasToldAhead 26 = .ok (.iload_n 3, 1) := by decide +kernel
theorem dX0_wasToldAhead_27 : decode cX0_wasToldAhead 27 = .ok (.iaload, 1) := by decide +kernel
theorem dX0_wasToldAhead_28 : decode cX0_wasToldAhead 28 = .ok (.aload_n 0, 1) := by decide +kernel
theorem dX0_wasToldAhead_29 : decode cX0_wasToldAhead 29 = .ok (.getfield 9, 3) := by decide +kernel
theorem dX0_wasToldAhead_32 : decode cX0_wasToldAhead 32 = .ok (.iload_n 1, 1) := by decide +kernel
theorem dX0_wasToldAhead_33 : decode cX0_wasToldAhead 33 = .ok (.iaload, 1) := by decide +kernel
theorem dX0_wasToldAhead_34 : decode cX0_wasToldAhead 34 = .ok (.isub, 1) := by decide +kernel
theorem dX0_wasToldAhead_35 : decode cX0_wasToldAhead 35 = .ok (.invokestatic 35, 3) := by decide +kernel
theorem dX0_wasToldAhead_38 : decode cX0_wasToldAhead 38 = .ok (.iload_n 2, 1) := by decide +kernel
theorem dX0_wasToldAhead_39 : decode cX0_wasToldAhead 39 = .ok (.if_icmp .gt 5, 3) := by decide +kernel
theorem dX0_wasToldAhead_42 : decode cX0_wasToldAhead 42 = .ok (.iconst 1, 1) := by decide +kernel
theorem dX0_wasToldAhead_43 : decode cX0_wasToldAhead 43 = .ok (.ireturn, 1) := by decide +kernel
theorem dX0_wasToldAhead_44 : decode cX0_wasToldAhead 44 = .ok (.iinc 3 1, 3) := by decide +kernel
theorem dX0_wasToldAhead_47 : decode cX0_wasToldAhead 47 = .ok (.goto (-45), 3) := by decide +kernel
theorem dX0_wasToldAhead_50 : decode cX0_wasToldAhead 50 = .ok (.iconst 0, 1) := by decide +kernel
theorem dX0_wasToldAhead_51 : decode cX0_wasToldAhead 51 = .ok (.ireturn, 1) := by decide +kernel
theorem dX1_init_0 : decode cX1_init 0 = .ok (.aload_n 0, 1) := by decide +kernel
theorem dX1_init_1 : decode cX1_init 1 = .ok (.invokespecial 3, 3) := by decide +kernel
theorem dX1_init_4 : decode cX1_init 4 = .ok (.aload_n 0, 1) := by decide +kernel
theorem dX1_init_5 : decode cX1_init 5 = .ok (.bipush 13, 2) := by decide +kernel
theorem dX1_init_7 : decode cX1_init 7 = .ok (.newarray .int, 2) := by decide +kernel
theorem dX1_init_9 : decode cX1_init 9 = .ok (.putfield 9, 3) := by decide +kernel
theorem dX1_init_12 : decode cX1_init 12 = .ok (.aload_n 0, 1) := by decide +kernel
theorem dX1_init_13 : decode cX1_init 13 = .ok (.bipush 13, 2) := by decide +kernel
theorem dX1_init_15 : decode cX1_init 15 = .ok (.bipush 64, 2) := by decide +kernel
theorem dX1_init_17 : decode cX1_init 17 = .ok (.multianewarray 15 2, 4) := by decide +kernel
theorem dX1_init_21 : decode cX1_init 21 = .ok (.putfield 17, 3) := by decide +kernel
theorem dX1_init_24 : decode cX1_init 24 = .ok (.aload_n 0, 1) := by decide +kernel
theorem dX1_init_25 : decode cX1_init 25 = .ok (.bipush 13, 2) := by decide +kernel
theorem dX1_init_27 : decode cX1_init 27 = .ok (.bipush 64, 2) := by decide +kernel
theorem dX1_init_29 : decode cX1_init 29 = .ok (.multianewarray 15 2, 4) := by decide +kernel
theorem dX1_init_33 : decode cX1_init 33 = .ok (.putfield 20, 3) := by decide +kernel
theorem dX1_init_36 : decode cX1_init 36 = .ok (.aload_n 0, 1) := by decide +kernel
theorem dX1_init_37 : decode cX1_init 37 = .ok (.bipush 12, 2) := by decide +kernel
theorem dX1_init_39 : decode cX1_init 39 = .ok (.bipush 64, 2) := by decide +kernel
theorem dX1_init_41 : decode cX1_init 41 = .ok (.multianewarray 15 2, 4) := by decide +kernel
theorem dX1_init_45 : decode cX1_init 45 = .ok (.putfield 23, 3) := by decide +kernel
theorem dX1_init_48 : decode cX1_init 48 = .ok (.aload_n 0, 1) := by decide +kernel
theorem dX1_init_49 : decode cX1_init 49 = .ok (.bipush 12, 2) := by decide +kernel
theorem dX1_init_51 : decode cX1_init 51 = .ok (.newarray .int, 2) := by decide +kernel
theorem dX1_init_53 : decode cX1_init 53 = .ok (.putfield 26, 3) := by decide +kernel
theorem dX1_init_56 : decode cX1_init 56 = .ok (.aload_n 0, 1) := by decide +kernel
theorem dX1_init_57 : decode cX1_init 57 = .ok (.bipush 8, 2) := by decide +kernel
theorem dX1_init_59 : decode cX1_init 59 = .ok (.newarray .int, 2) := by decide +kernel
theorem dX1_init_61 : decode cX1_init 61 = .ok (.putfield 29, 3) := by decide +kernel
theorem dX1_init_64 : decode cX1_init 64 = .ok (.aload_n 0, 1) := by decide +kernel
theorem dX1_init_65 : decode cX1_init 65 = .ok (.aload_n 1, 1) := by decide +kernel
theorem dX1_init_66 : decode cX1_init 66 = .ok (.putfield 32, 3) := by decide +kernel
theorem dX1_init_69 : decode cX1_init 69 = .ok (.aload_n 0, 1) := by decide +kernel
theorem dX1_init_70 : decode cX1_init 70 = .ok (.aload_n 2, 1) := by decide +kernel
theorem dX1_init_71 : decode cX1_init 71 = .ok (.putfield 36, 3) := by decide +kernel
theorem dX1_init_74 : decode cX1_init 74 = .ok (.return_, 1) := by decide +kernel
theorem dX1_gather_0 : decode cX1_gather 0 = .ok (.iconst 0, 1) := by decide +kernel
theorem dX1_gather_1 : decode cX1_gather 1 = .ok (.istore_n 2, 1) := by decide +kernel
theorem dX1_gather_2 : decode cX1_gather 2 = .ok (.iload_n 2, 1) := by decide +kernel
theorem dX1_gather_3 : decode cX1_gather 3 = .ok (.bipush 12, 2) := by decide +kernel
theorem dX1_gather_5 : decode cX1_gather 5 = .ok (.if_icmp .ge 23, 3) := by decide +kernel
theorem dX1_gather_8 : decode cX1_gather 8 = .ok (.aload_n 0, 1) := by decide +kernel
theorem dX1_gather_9 : decode cX1_gather 9 = .ok (.getfield 9, 3) := by decide +kernel
theorem dX1_gather_12 : decode cX1_gather 12 = .ok (.iload_n 2, 1) := by decide +kernel
theorem dX1_gather_13 : decode cX1_gather 13 = .ok (.iconst 0, 1) := by decide +kernel
theorem dX1_gather_14 : decode cX1_gather 14 = .ok (.iastore, 1) := by decide +kernel
theorem dX1_gather_15 : decode cX1_gather 15 = .ok (.aload_n 0, 1) := by decide +kernel
theorem dX1_gather_16 : decode cX1_gather 16 = .ok (.iload_n 2, 1) := by decide +kernel
theorem dX1_gather_17 : decode cX1_gather 17 = .ok (.iconst 0, 1) := by decide +kernel
theorem dX1_gather_18 : decode cX1_gather 18 = .ok (.iconst 0, 1) := by decide +kernel
theorem dX1_gather_19 : decode cX1_gather 19 = .ok (.invokevirtual 40, 3) := by decide +kernel
theorem dX1_gather_22 : decode cX1_gather 22 = .ok (.iinc 2 1, 3) := by decide +kernel
theorem dX1_gather_25 : decode cX1_gather 25 = .ok (.goto (-23), 3) := by decide +kernel
theorem dX1_gather_28 : decode cX1_gather 28 = .ok (.iconst 0, 1) := by decide +kernel
theorem dX1_gather_29 : decode cX1_gather 29 = .ok (.istore_n 2, 1) := by decide +kernel
theorem dX1_gather_30 : decode cX1_gather 30 = .ok (.iload_n 2, 1) := by decide +kernel
theorem dX1_gather_31 : decode cX1_gather 31 = .ok (.aload_n 0, 1) := by decide +kernel
theorem dX1_gather_32 : decode cX1_gather 32 = .ok (.getfield 32, 3) := by decide +kernel
theorem dX1_gather_35 : decode cX1_gather 35 = .ok (.getfield 44, 3) := by decide +kernel
theorem dX1_gather_38 : decode cX1_gather 38 = .ok (.if_icmp .ge 43, 3) := by decide +kernel
theorem dX1_gather_41 : decode cX1_gather 41 = .ok (.aload_n 0, 1) := by decide +kernel
theorem dX1_gather_42 : decode cX1_gather 42 = .ok (.aload_n 0, 1) := by decide +kernel
theorem dX1_gather_43 : decode cX1_gather 43 = .ok (.getfield 32, 3) := by decide +kernel
theorem dX1_gather_46 : decode cX1_gather 46 = .ok (.getfield 50, 3) := by decide +kernel
theorem dX1_gather_49 : decode cX1_gather 49 = .ok (.iload_n 2, 1) := by decide +kernel
theorem dX1_gather_50 : decode cX1_gather 50 = .ok (.iaload, 1) := by decide +kernel
theorem dX1_gather_51 : decode cX1_gather 51 = .ok (.iload_n 2, 1) := by decide +kernel
theorem dX1_gather_52 : decode cX1_gather 52 = .ok (.aload_n 0, 1) := by decide +kernel
theorem dX1_gather_53 : decode cX1_gather 53 = .ok (.getfield 32, 3) := by decide +kernel
theorem dX1_gather_56 : decode cX1_gather 56 = .ok (.aload_n 0, 1) := by decide +kernel
theorem dX1_gather_57 : decode cX1_gather 57 = .ok (.getfield 32, 3) := by decide +kernel
theorem dX1_gather_60 : decode cX1_gather 60 = .ok (.getfield 50, 3) := by decide +kernel
theorem dX1_gather_63 : decode cX1_gather 63 = .ok (.iload_n 2, 1) := by decide +kernel
theorem dX1_gather_64 : decode cX1_gather 64 = .ok (.iaload, 1) := by decide +kernel
theorem dX1_gather_65 : decode cX1_gather 65 = .ok (.invokevirtual 53, 3) := by decide +kernel
theorem dX1_gather_68 : decode cX1_gather 68 = .ok (.iload_n 1, 1) := by decide +kernel
theorem dX1_gather_69 : decode cX1_gather 69 = .ok (.iconst (-1), 1) := by decide +kernel
theorem dX1_gather_70 : decode cX1_gather 70 = .ok (.ixor, 1) := by decide +kernel
theorem dX1_gather_71 : decode cX1_gather 71 = .ok (.iand, 1) := by decide +kernel
theorem dX1_gather_72 : decode cX1_gather 72 = .ok (.invokevirtual 57, 3) := by decide +kernel
theorem dX1_gather_75 : decode cX1_gather 75 = .ok (.iinc 2 1, 3) := by decide +kernel
theorem dX1_gather_78 : decode cX1_gather 78 = .ok (.goto (-48), 3) := by decide +kernel
theorem dX1_gather_81 : decode cX1_gather 81 = .ok (.return_, 1) := by decide +kernel
theorem dX1_dressOneMore_0 : decode cX1_dressOneMore 0 = .ok (.iload_n 1, 1) := by decide +kernel
theorem dX1_dressOneMore_1 : decode cX1_dressOneMore 1 = .ok (.ifCond .lt 9, 3) := by decide +kernel
theorem dX1_dressOneMore_4 : decode cX1_dressOneMore 4 = .ok (.iload_n 1, 1) := by decide +kernel
theorem dX1_dressOneMore_5 : decode cX1_dressOneMore 5 = .ok (.bipush 12, 2) := by decide +kernel
theorem dX1_dressOneMore_7 : decode cX1_dressOneMore 7 = .ok (.if_icmp .lt 4, 3) := by decide +kernel
theorem dX1_dressOneMore_10 : decode cX1_dressOneMore 10 = .ok (.return_, 1) := by decide +kernel
theorem dX1_dressOneMore_11 : decode cX1_dressOneMore 11 = .ok (.aload_n 0, 1) := by decide +kernel
theorem dX1_dressOneMore_12 : decode cX1_dressOneMore 12 = .ok (.getfield 17, 3) := by decide +kernel
theorem dX1_dressOneMore_15 : decode cX1_dressOneMore 15 = .ok (.iload_n 1, 1) := by decide +kernel
theorem dX1_dressOneMore_16 : decode cX1_dressOneMore 16 = .ok (.aaload, 1) := by decide +kernel
theorem dX1_dressOneMore_17 : decode cX1_dressOneMore 17 = .ok (.aload_n 0, 1) := by decide +kernel
theorem dX1_dressOneMore_18 : decode cX1_dressOneMore 18 = .ok (.getfield 17, 3) := by decide +kernel
theorem dX1_dressOneMore_21 : decode cX1_dressOneMore 21 = .ok (.bipush 12, 2) := by decide +kernel
theorem dX1_dressOneMore_23 : decode cX1_dressOneMore 23 = .ok (.aaload, 1) := by decide +kernel
theorem dX1_dressOneMore_24 : decode cX1_dressOneMore 24 = .ok (.invokestatic 60, 3) := by decide +kernel
theorem dX1_dressOneMore_27 : decode cX1_dressOneMore 27 = .ok (.aload_n 0, 1) := by decide +kernel
theorem dX1_dressOneMore_28 : decode cX1_dressOneMore 28 = .ok (.getfield 20, 3) := by decide +kernel
theorem dX1_dressOneMore_31 : decode cX1_dressOneMore 31 = .ok (.iload_n 1, 1) := by decide +kernel
theorem dX1_dressOneMore_32 : decode cX1_dressOneMore 32 = .ok (.aaload, 1) := by decide +kernel
theorem dX1_dressOneMore_33 : decode cX1_dressOneMore 33 = .ok (.aload_n 0, 1) := by decide +kernel
theorem dX1_dressOneMore_34 : decode cX1_dressOneMore 34 = .ok (.getfield 20, 3) := by decide +kernel
theorem dX1_dressOneMore_37 : decode cX1_dressOneMore 37 = .ok (.bipush 12, 2) := by decide +kernel
theorem dX1_dressOneMore_39 : decode cX1_dressOneMore 39 = .ok (.aaload, 1) := by decide +kernel
theorem dX1_dressOneMore_40 : decode cX1_dressOneMore 40 = .ok (.invokestatic 60, 3) := by decide +kernel
theorem dX1_dressOneMore_43 : decode cX1_dressOneMore 43 = .ok (.aload_n 0, 1) := by decide +kernel
theorem dX1_dressOneMore_44 : decode cX1_dressOneMore 44 = .ok (.getfield 9, 3) := by decide +kernel
theorem dX1_dressOneMore_47 : decode cX1_dressOneMore 47 = .ok (.bipush 12, 2) := by decide +kernel
theorem dX1_dressOneMore_49 : decode cX1_dressOneMore 49 = .ok (.aload_n 0, 1) := by decide +kernel
theorem dX1_dressOneMore_50 : decode cX1_dressOneMore 50 = .ok (.getfield 9, 3) := by decide +kernel
theorem dX1_dressOneMore_53 : decode cX1_dressOneMore 53 = .ok (.iload_n 1, 1) := by decide +kernel
theorem dX1_dressOneMore_54 : decode cX1_dressOneMore 54 = .ok (.iaload, 1) := by decide +kernel
theorem dX1_dressOneMore_55 : decode cX1_dressOneMore 55 = .ok (.iastore, 1) := by decide +kernel
theorem dX1_dressOneMore_56 : decode cX1_dressOneMore 56 = .ok (.aload_n 0, 1) := by decide +kernel
theorem dX1_dressOneMore_57 : decode cX1_dressOneMore 57 = .ok (.getfield 9, 3) := by decide +kernel
theorem dX1_dressOneMore_60 : decode cX1_dressOneMore 60 = .ok (.iload_n 1, 1) := by decide +kernel
theorem dX1_dressOneMore_61 : decode cX1_dressOneMore 61 = .ok (.iconst 0, 1) := by decide +kernel
theorem dX1_dressOneMore_62 : decode cX1_dressOneMore 62 = .ok (.iastore, 1) := by decide +kernel
theorem dX1_dressOneMore_63 : decode cX1_dressOneMore 63 = .ok (.iconst 0, 1) := by decide +kernel
theorem dX1_dressOneMore_64 : decode cX1_dressOneMore 64 = .ok (.istore 4, 2) := by decide +kernel
theorem dX1_dressOneMore_66 : decode cX1_dressOneMore 66 = .ok (.iload 4, 2) := by decide +kernel
theorem dX1_dressOneMore_68 : decode cX1_dressOneMore 68 = .ok (.aload_n 0, 1) := by decide +kernel
theorem dX1_dressOneMore_69 : decode cX1_dressOneMore 69 = .ok (.getfield 36, 3) := by decide +kernel
theorem dX1_dressOneMore_72 : decode cX1_dressOneMore 72 = .ok (.getfield 64, 3) := by decide +kernel
theorem dX1_dressOneMore_75 : decode cX1_dressOneMore 75 = .ok (.if_icmp .ge 101, 3) := by decide +kernel
theorem dX1_dressOneMore_78 : decode cX1_dressOneMore 78 = .ok (.aload_n 0, 1) := by decide +kernel
theorem dX1_dressOneMore_79 : decode cX1_dressOneMore 79 = .ok (.getfield 36, 3) := by decide +kernel
theorem dX1_dressOneMore_82 : decode cX1_dressOneMore 82 = .ok (.iload 4, 2) := by decide +kernel
theorem dX1_dressOneMore_84 : decode cX1_dressOneMore 84 = .ok (.iload_n 2, 1) := by decide +kernel
theorem dX1_dressOneMore_85 : decode cX1_dressOneMore 85 = .ok (.iload_n 3, 1) := by decide +kernel
theorem dX1_dressOneMore_86 : decode cX1_dressOneMore 86 = .ok (.invokevirtual 69, 3) := by decide +kernel
theorem dX1_dressOneMore_89 : decode cX1_dressOneMore 89 = .ok (.ifCond .eq 81, 3) := by decide +kernel
theorem dX1_dressOneMore_92 : decode cX1_dressOneMore 92 = .ok (.aload_n 0, 1) := by decide +kernel
theorem dX1_dressOneMore_93 : decode cX1_dressOneMore 93 = .ok (.getfield 36, 3) := by decide +kernel
theorem dX1_dressOneMore_96 : decode cX1_dressOneMore 96 = .ok (.iload 4, 2) := by decide +kernel
theorem dX1_dressOneMore_98 : decode cX1_dressOneMore 98 = .ok (.invokevirtual 73, 3) := by decide +kernel
theorem dX1_dressOneMore_101 : decode cX1_dressOneMore 101 = .ok (.istore 5, 2) := by decide +kernel
theorem dX1_dressOneMore_103 : decode cX1_dressOneMore 103 = .ok (.iconst 0, 1) := by decide +kernel
theorem dX1_dressOneMore_104 : decode cX1_dressOneMore 104 = .ok (.istore 6, 2) := by decide +kernel
theorem dX1_dressOneMore_106 : decode cX1_dressOneMore 106 = .ok (.iload 6, 2) := by decide +kernel
theorem dX1_dressOneMore_108 : decode cX1_dressOneMore 108 = .ok (.aload_n 0, 1) := by decide +kernel
theorem dX1_dressOneMore_109 : decode cX1_dressOneMore 109 = .ok (.getfield 9, 3) := by decide +kernel
theorem dX1_dressOneMore_112 : decode cX1_dressOneMore 112 = .ok (.bipush 12, 2) := by decide +kernel
theorem dX1_dressOneMore_114 : decode cX1_dressOneMore 114 = .ok (.iaload, 1) := by decide +kernel
theorem dX1_dressOneMore_115 : decode cX1_dressOneMore 115 = .ok (.if_icmp .ge 55, 3) := by decide +kernel
theorem dX1_dressOneMore_118 : decode cX1_dressOneMore 118 = .ok (.aload_n 0, 1) := by decide +kernel
theorem dX1_dressOneMore_119 : decode cX1_dressOneMore 119 = .ok (.getfield 17, 3) := by decide +kernel
theorem dX1_dressOneMore_122 : decode cX1_dressOneMore 122 = .ok (.bipush 12, 2) := by decide +kernel
theorem dX1_dressOneMore_124 : decode cX1_dressOneMore 124 = .ok (.aaload, 1) := by decide +kernel
theorem dX1_dressOneMore_125 : decode cX1_dressOneMore 125 = .ok (.iload 6, 2) := by decide +kernel
theorem dX1_dressOneMore_127 : decode cX1_dressOneMore 127 = .ok (.iaload, 1) := by decide +kernel
theorem dX1_dressOneMore_128 : decode cX1_dressOneMore 128 = .ok (.istore 7, 2) := by decide +kernel
theorem dX1_dressOneMore_130 : decode cX1_dressOneMore 130 = .ok (.iload 7, 2) := by decide +kernel
theorem dX1_dressOneMore_132 : decode cX1_dressOneMore 132 = .ok (.iload 5, 2) := by decide +kernel
theorem dX1_dressOneMore_134 : decode cX1_dressOneMore 134 = .ok (.iand, 1) := by decide +kernel
theorem dX1_dressOneMore_135 : decode cX1_dressOneMore 135 = .ok (.ifCond .ne 29, 3) := by decide +kernel
theorem dX1_dressOneMore_138 : decode cX1_dressOneMore 138 = .ok (.aload_n 0, 1) := by decide +kernel
theorem dX1_dressOneMore_139 : decode cX1_dressOneMore 139 = .ok (.iload_n 1, 1) := by decide +kernel
theorem dX1_dressOneMore_140 : decode cX1_dressOneMore 140 = .ok (.iload 7, 2) := by decide +kernel
theorem dX1_dressOneMore_142 : decode cX1_dressOneMore 142 = .ok (.iload 5, 2) := by decide +kernel
theorem dX1_dressOneMore_144 : decode cX1_dressOneMore 144 = .ok (.ior, 1) := by decide +kernel
theorem dX1_dressOneMore_145 : decode cX1_dressOneMore 145 = .ok (.aload_n 0, 1) := by decide +kernel
theorem dX1_dressOneMore_146 : decode cX1_dressOneMore 146 = .ok (.getfield 20, 3) := by decide +kernel
theorem dX1_dressOneMore_149 : decode cX1_dressOneMore 149 = .ok (.bipush 12, 2) := by decide +kernel
theorem dX1_dressOneMore_151 : decode cX1_dressOneMore 151 = .ok (.aaload, 1) := by decide +kernel
theorem dX1_dressOneMore_152 : decode cX1_dressOneMore 152 = .ok (.iload 6, 2) := by decide +kernel
theorem dX1_dressOneMore_154 : decode cX1_dressOneMore 154 = .ok (.iaload, 1) := by decide +kernel
theorem dX1_dressOneMore_155 : decode cX1_dressOneMore 155 = .ok (.bipush 64, 2) := by decide +kernel
theorem dX1_dressOneMore_157 : decode cX1_dressOneMore 157 = .ok (.imul, 1) := by decide +kernel
theorem dX1_dressOneMore_158 : decode cX1_dressOneMore 158 = .ok (.iload 4, 2) := by decide +kernel
theorem dX1_dressOneMore_160 : decode cX1_dressOneMore 160 = .ok (.iadd, 1) := by decide +kernel
theorem dX1_dressOneMore_161 : decode cX1_dressOneMore 161 = .ok (.invokevirtual 40, 3) := by decide +kernel
theorem dX1_dressOneMore_164 : decode cX1_dressOneMore 164 = .ok (.iinc 6 1, 3) := by decide +kernel
theorem dX1_dressOneMore_167 : decode cX1_dressOneMore 167 = .ok (.goto (-61), 3) := by decide +kernel
theorem dX1_dressOneMore_170 : decode cX1_dressOneMore 170 = .ok (.iinc 4 1, 3) := by decide +kernel
theorem dX1_dressOneMore_173 : decode cX1_dressOneMore 173 = .ok (.goto (-107), 3) := by decide +kernel
theorem dX1_dressOneMore_176 : decode cX1_dressOneMore 176 = .ok (.return_, 1) := by decide +kernel
theorem dX1_addSet_0 : decode cX1_addSet 0 = .ok (.aload_n 0, 1) := by decide +kernel
theorem dX1_addSet_1 : decode cX1_addSet 1 = .ok (.getfield 17, 3) := by decide +kernel
theorem dX1_addSet_4 : decode cX1_addSet 4 = .ok (.iload_n 1, 1) := by decide +kernel
theorem dX1_addSet_5 : decode cX1_addSet 5 = .ok (.aaload, 1) := by decide +kernel
theorem dX1_addSet_6 : decode cX1_addSet 6 = .ok (.astore 4, 2) := by decide +kernel
theorem dX1_addSet_8 : decode cX1_addSet 8 = .ok (.aload_n 0, 1) := by decide +kernel
theorem dX1_addSet_9 : decode cX1_addSet 9 = .ok (.getfield 9, 3) := by decide +kernel
theorem dX1_addSet_12 : decode cX1_addSet 12 = .ok (.iload_n 1, 1) := by decide +kernel
theorem dX1_addSet_13 : decode cX1_addSet 13 = .ok (.iaload, 1) := by decide +kernel
theorem dX1_addSet_14 : decode cX1_addSet 14 = .ok (.istore 5, 2) := by decide +kernel
theorem dX1_addSet_16 : decode cX1_addSet 16 = .ok (.iload 5, 2) := by decide +kernel
theorem dX1_addSet_18 : decode cX1_addSet 18 = .ok (.istore 6, 2) := by decide +kernel
theorem dX1_addSet_20 : decode cX1_addSet 20 = .ok (.iload 6, 2) := by decide +kernel
theorem dX1_addSet_22 : decode cX1_addSet 22 = .ok (.ifCond .le 20, 3) := by decide +kernel
theorem dX1_addSet_25 : decode cX1_addSet 25 = .ok (.aload 4, 2) := by decide +kernel
theorem dX1_addSet_27 : decode cX1_addSet 27 = .ok (.iload 6, 2) := by decide +kernel
theorem dX1_addSet_29 : decode cX1_addSet 29 = .ok (.iconst 1, 1) := by decide +kernel
theorem dX1_addSet_30 : decode cX1_addSet 30 = .ok (.isub, 1) := by decide +kernel
theorem dX1_addSet_31 : decode cX1_addSet 31 = .ok (.iaload, 1) := by decide +kernel
theorem dX1_addSet_32 : decode cX1_addSet 32 = .ok (.iload_n 2, 1) := by decide +kernel
theorem dX1_addSet_33 : decode cX1_addSet 33 = .ok (.if_icmp .lt 9, 3) := by decide +kernel
theorem dX1_addSet_36 : decode cX1_addSet 36 = .ok (.iinc 6 (-1), 3) := by decide +kernel
theorem dX1_addSet_39 : decode cX1_addSet 39 = .ok (.goto (-19), 3) := by decide +kernel
theorem dX1_addSet_42 : decode cX1_addSet 42 = .ok (.iload 6, 2) := by decide +kernel
theorem dX1_addSet_44 : decode cX1_addSet 44 = .ok (.iload 5, 2) := by decide +kernel
theorem dX1_addSet_46 : decode cX1_addSet 46 = .ok (.if_icmp .ge 35, 3) := by decide +kernel
theorem dX1_addSet_49 : decode cX1_addSet 49 = .ok (.aload 4, 2) := by decide +kernel
theorem dX1_addSet_51 : decode cX1_addSet 51 = .ok (.iload 6, 2) := by decide +kernel
theorem dX1_addSet_53 : decode cX1_addSet 53 = .ok (.iaload, 1) := by decide +kernel
theorem dX1_addSet_54 : decode cX1_addSet 54 = .ok (.iload_n 2, 1) := by decide +kernel
theorem dX1_addSet_55 : decode cX1_addSet 55 = .ok (.if_icmp .ne 26, 3) := by decide +kernel
theorem dX1_addSet_58 : decode cX1_addSet 58 = .ok (.aload_n 0, 1) := by decide +kernel
theorem dX1_addSet_59 : decode cX1_addSet 59 = .ok (.getfield 20, 3) := by decide +kernel
theorem dX1_addSet_62 : decode cX1_addSet 62 = .ok (.iload_n 1, 1) := by decide +kernel
theorem dX1_addSet_63 : decode cX1_addSet 63 = .ok (.aaload, 1) := by decide +kernel
theorem dX1_addSet_64 : decode cX1_addSet 64 = .ok (.iload 6, 2) := by decide +kernel
theorem dX1_addSet_66 : decode cX1_addSet 66 = .ok (.aload_n 0, 1) := by decide +kernel
theorem dX1_addSet_67 : decode cX1_addSet 67 = .ok (.getfield 20, 3) := by decide +kernel
theorem dX1_addSet_70 : decode cX1_addSet 70 = .ok (.iload_n 1, 1) := by decide +kernel
theorem dX1_addSet_71 : decode cX1_addSet 71 = .ok (.aaload, 1) := by decide +kernel
theorem dX1_addSet_72 : decode cX1_addSet 72 = .ok (.iload 6, 2) := by decide +kernel
theorem dX1_addSet_74 : decode cX1_addSet 74 = .ok (.iaload, 1) := by decide +kernel
theorem dX1_addSet_75 : decode cX1_addSet 75 = .ok (.iload_n 3, 1) := by decide +kernel
theorem dX1_addSet_76 : decode cX1_addSet 76 = .ok (.invokestatic 76, 3) := by decide +kernel
theorem dX1_addSet_79 : decode cX1_addSet 79 = .ok (.iastore, 1) := by decide +kernel
theorem dX1_addSet_80 : decode cX1_addSet 80 = .ok (.return_, 1) := by decide +kernel
theorem dX1_addSet_81 : decode cX1_addSet 81 = .ok (.iload 5, 2) := by decide +kernel
theorem dX1_addSet_83 : decode cX1_addSet 83 = .ok (.bipush 64, 2) := by decide +kernel
theorem dX1_addSet_85 : decode cX1_addSet 85 = .ok (.if_icmp .lt 4, 3) := by decide +kernel
theorem dX1_addSet_88 : decode cX1_addSet 88 = .ok (.return_, 1) := by decide +kernel
theorem dX1_addSet_89 : decode cX1_addSet 89 = .ok (.iload 5, 2) := by decide +kernel
theorem dX1_addSet_91 : decode cX1_addSet 91 = .ok (.istore 7, 2) := by decide +kernel
theorem dX1_addSet_93 : decode cX1_addSet 93 = .ok (.iload 7, 2) := by decide +kernel
theorem dX1_addSet_95 : decode cX1_addSet 95 = .ok (.iload 6, 2) := by decide +kernel
theorem dX1_addSet_97 : decode cX1_addSet 97 = .ok (.if_icmp .le 41, 3) := by decide +kernel
theorem dX1_addSet_100 : decode cX1_addSet 100 = .ok (.aload 4, 2) := by decide +kernel
theorem dX1_addSet_102 : decode cX1_addSet 102 = .ok (.iload 7, 2) := by decide +kernel
theorem dX1_addSet_104 : decode cX1_addSet 104 = .ok (.aload 4, 2) := by decide +kernel
theorem dX1_addSet_106 : decode cX1_addSet 106 = .ok (.iload 7, 2) := by decide +kernel
theorem dX1_addSet_108 : decode cX1_addSet 108 = .ok (.iconst 1, 1) := by decide +kernel
theorem dX1_addSet_109 : decode cX1_addSet 109 = .ok (.isub, 1) := by decide +kernel
theorem dX1_addSet_110 : decode cX1_addSet 110 = .ok (.iaload, 1) := by decide +kernel
theorem dX1_addSet_111 : decode cX1_addSet 111 = .ok (.iastore, 1) := by decide +kernel
theorem dX1_addSet_112 : decode cX1_addSet 112 = .ok (.aload_n 0, 1) := by decide +kernel
theorem dX1_addSet_113 : decode cX1_addSet 113 = .ok (.getfield 20, 3) := by decide +kernel
theorem dX1_addSet_116 : decode cX1_addSet 116 = .ok (.iload_n 1, 1) := by decide +kernel
theorem dX1_addSet_117 : decode cX1_addSet 117 = .ok (.aaload, 1) := by decide +kernel
theorem dX1_addSet_118 : decode cX1_addSet 118 = .ok (.iload 7, 2) := by decide +kernel
theorem dX1_addSet_120 : decode cX1_addSet 120 = .ok (.aload_n 0, 1) := by decide +kernel
theorem dX1_addSet_121 : decode cX1_addSet 121 = .ok (.getfield 20, 3) := by decide +kernel
theorem dX1_addSet_124 : decode cX1_addSet 124 = .ok (.iload_n 1, 1) := by decide +kernel
theorem dX1_addSet_125 : decode cX1_addSet 125 = .ok (.aaload, 1) := by decide +kernel
theorem dX1_addSet_126 : decode cX1_addSet 126 = .ok (.iload 7, 2) := by decide +kernel
theorem dX1_addSet_128 : decode cX1_addSet 128 = .ok (.iconst 1, 1) := by decide +kernel
theorem dX1_addSet_129 : decode cX1_addSet 129 = .ok (.isub, 1) := by decide +kernel
theorem dX1_addSet_130 : decode cX1_addSet 130 = .ok (.iaload, 1) := by decide +kernel
theorem dX1_addSet_131 : decode cX1_addSet 131 = .ok (.iastore, 1) := by decide +kernel
theorem dX1_addSet_132 : decode cX1_addSet 132 = .ok (.iinc 7 (-1), 3) := by decide +kernel
theorem dX1_addSet_135 : decode cX1_addSet 135 = .ok (.goto (-42), 3) := by decide +kernel
theorem dX1_addSet_138 : decode cX1_addSet 138 = .ok (.aload 4, 2) := by decide +kernel
theorem dX1_addSet_140 : decode cX1_addSet 140 = .ok (.iload 6, 2) := by decide +kernel
theorem dX1_addSet_142 : decode cX1_addSet 142 = .ok (.iload_n 2, 1) := by decide +kernel
theorem dX1_addSet_143 : decode cX1_addSet 143 = .ok (.iastore, 1) := by decide +kernel
theorem dX1_addSet_144 : decode cX1_addSet 144 = .ok (.aload_n 0, 1) := by decide +kernel
theorem dX1_addSet_145 : decode cX1_addSet 145 = .ok (.getfield 20, 3) := by decide +kernel
theorem dX1_addSet_148 : decode cX1_addSet 148 = .ok (.iload_n 1, 1) := by decide +kernel
theorem dX1_addSet_149 : decode cX1_addSet 149 = .ok (.aaload, 1) := by decide +kernel
theorem dX1_addSet_150 : decode cX1_addSet 150 = .ok (.iload 6, 2) := by decide +kernel
theorem dX1_addSet_152 : decode cX1_addSet 152 = .ok (.iload_n 3, 1) := by decide +kernel
theorem dX1_addSet_153 : decode cX1_addSet 153 = .ok (.iastore, 1) := by decide +kernel
theorem dX1_addSet_154 : decode cX1_addSet 154 = .ok (.aload_n 0, 1) := by decide +kernel
theorem dX1_addSet_155 : decode cX1_addSet 155 = .ok (.getfield 9, 3) := by decide +kernel
theorem dX1_addSet_158 : decode cX1_addSet 158 = .ok (.iload_n 1, 1) := by decide +kernel
theorem dX1_addSet_159 : decode cX1_addSet 159 = .ok (.iload 5, 2) := by decide +kernel
theorem dX1_addSet_161 : decode cX1_addSet 161 = .ok (.iconst 1, 1) := by decide +kernel
theorem dX1_addSet_162 : decode cX1_addSet 162 = .ok (.iadd, 1) := by decide +kernel
theorem dX1_addSet_163 : decode cX1_addSet 163 = .ok (.iastore, 1) := by decide +kernel
theorem dX1_addSet_164 : decode cX1_addSet 164 = .ok (.return_, 1) := by decide +kernel
theorem dX1_choose_0 : decode cX1_choose 0 = .ok (.bipush 11, 2) := by decide +kernel
theorem dX1_choose_2 : decode cX1_choose 2 = .ok (.istore_n 3, 1) := by decide +kernel
theorem dX1_choose_3 : decode cX1_choose 3 = .ok (.iload_n 3, 1) := by decide +kernel
theorem dX1_choose_4 : decode cX1_choose 4 = .ok (.ifCond .lt 83, 3) := by decide +kernel
theorem dX1_choose_7 : decode cX1_choose 7 = .ok (.iconst 0, 1) := by decide +kernel
theorem dX1_choose_8 : decode cX1_choose 8 = .ok (.istore 4, 2) := by decide +kernel
theorem dX1_choose_10 : decode cX1_choose 10 = .ok (.iload 4, 2) := by decide +kernel
theorem dX1_choose_12 : decode cX1_choose 12 = .ok (.aload_n 0, 1) := by decide +kernel
theorem dX1_choose_13 : decode cX1_choose 13 = .ok (.getfield 9, 3) := by decide +kernel
theorem dX1_choose_16 : decode cX1_choose 16 = .ok (.iload_n 3, 1) := by decide +kernel
theorem dX1_choose_17 : decode cX1_choose 17 = .ok (.iaload, 1) := by decide +kernel
theorem dX1_choose_18 : decode cX1_choose 18 = .ok (.if_icmp .ge 63, 3) := by decide +kernel
theorem dX1_choose_21 : decode cX1_choose 21 = .ok (.aload_n 0, 1) := by decide +kernel
theorem dX1_choose_22 : decode cX1_choose 22 = .ok (.iload_n 3, 1) := by decide +kernel
theorem dX1_choose_23 : decode cX1_choose 23 = .ok (.aload_n 0, 1) := by decide +kernel
theorem dX1_choose_24 : decode cX1_choose 24 = .ok (.getfield 17, 3) := by decide +kernel
theorem dX1_choose_27 : decode cX1_choose 27 = .ok (.iload_n 3, 1) := by decide +kernel
theorem dX1_choose_28 : decode cX1_choose 28 = .ok (.aaload, 1) := by decide +kernel
theorem dX1_choose_29 : decode cX1_choose 29 = .ok (.iload 4, 2) := by decide +kernel
theorem dX1_choose_31 : decode cX1_choose 31 = .ok (.iaload, 1) := by decide +kernel
theorem dX1_choose_32 : decode cX1_choose 32 = .ok (.iload_n 2, 1) := by decide +kernel
theorem dX1_choose_33 : decode cX1_choose 33 = .ok (.invokevirtual 82, 3) := by decide +kernel
theorem dX1_choose_36 : decode cX1_choose 36 = .ok (.istore 5, 2) := by decide +kernel
theorem dX1_choose_38 : decode cX1_choose 38 = .ok (.aload_n 0, 1) := by decide +kernel
theorem dX1_choose_39 : decode cX1_choose 39 = .ok (.getfield 23, 3) := by decide +kernel
theorem dX1_choose_42 : decode cX1_choose 42 = .ok (.iload_n 3, 1) := by decide +kernel
theorem dX1_choose_43 : decode cX1_choose 43 = .ok (.aaload, 1) := by decide +kernel
theorem dX1_choose_44 : decode cX1_choose 44 = .ok (.iload 4, 2) := by decide +kernel
theorem dX1_choose_46 : decode cX1_choose 46 = .ok (.iload 5, 2) := by decide +kernel
theorem dX1_choose_48 : decode cX1_choose 48 = .ok (.ldc 86, 2) := by decide +kernel
theorem dX1_choose_50 : decode cX1_choose 50 = .ok (.if_icmp .ne 8, 3) := by decide +kernel
theorem dX1_choose_53 : decode cX1_choose 53 = .ok (.ldc 86, 2) := by decide +kernel
theorem dX1_choose_55 : decode cX1_choose 55 = .ok (.goto 19, 3) := by decide +kernel
theorem dX1_choose_58 : decode cX1_choose 58 = .ok (.iload 5, 2) := by decide +kernel
theorem dX1_choose_60 : decode cX1_choose 60 = .ok (.aload_n 0, 1) := by decide +kernel
theorem dX1_choose_61 : decode cX1_choose 61 = .ok (.getfield 17, 3) := by decide +kernel
theorem dX1_choose_64 : decode cX1_choose 64 = .ok (.iload_n 3, 1) := by decide +kernel
theorem dX1_choose_65 : decode cX1_choose 65 = .ok (.aaload, 1) := by decide +kernel
theorem dX1_choose_66 : decode cX1_choose 66 = .ok (.iload 4, 2) := by decide +kernel
theorem dX1_choose_68 : decode cX1_choose 68 = .ok (.iaload, 1) := by decide +kernel
theorem dX1_choose_69 : decode cX1_choose 69 = .ok (.aload_n 1, 1) := by decide +kernel
theorem dX1_choose_70 : decode cX1_choose 70 = .ok (.invokestatic 87, 3) := by decide +kernel
theorem dX1_choose_73 : decode cX1_choose 73 = .ok (.iadd, 1) := by decide +kernel
theorem dX1_choose_74 : decode cX1_choose 74 = .ok (.iastore, 1) := by decide +kernel
theorem dX1_choose_75 : decode cX1_choose 75 = .ok (.iinc 4 1, 3) := by decide +kernel
theorem dX1_choose_78 : decode cX1_choose 78 = .ok (.goto (-68), 3) := by decide +kernel
theorem dX1_choose_81 : decode cX1_choose 81 = .ok (.iinc 3 (-1), 3) := by decide +kernel
theorem dX1_choose_84 : decode cX1_choose 84 = .ok (.goto (-81), 3) := by decide +kernel
theorem dX1_choose_87 : decode cX1_choose 87 = .ok (.aload_n 0, 1) := by decide +kernel
theorem dX1_choose_88 : decode cX1_choose 88 = .ok (.aload_n 0, 1) := by decide +kernel
theorem dX1_choose_89 : decode cX1_choose 89 = .ok (.iconst (-1), 1) := by decide +kernel
theorem dX1_choose_90 : decode cX1_choose 90 = .ok (.iconst 0, 1) := by decide +kernel
theorem dX1_choose_91 : decode cX1_choose 91 = .ok (.iload_n 2, 1) := by decide +kernel
theorem dX1_choose_92 : decode cX1_choose 92 = .ok (.invokevirtual 82, 3) := by decide +kernel
theorem dX1_choose_95 : decode cX1_choose 95 = .ok (.putfield 91, 3) := by decide +kernel
theorem dX1_choose_98 : decode cX1_choose 98 = .ok (.iconst 0, 1) := by decide +kernel
theorem dX1_choose_99 : decode cX1_choose 99 = .ok (.istore_n 3, 1) := by decide +kernel
theorem dX1_choose_100 : decode cX1_choose 100 = .ok (.iconst 0, 1) := by decide +kernel
theorem dX1_choose_101 : decode cX1_choose 101 = .ok (.istore 4, 2) := by decide +kernel
theorem dX1_choose_103 : decode cX1_choose 103 = .ok (.iload 4, 2) := by decide +kernel
theorem dX1_choose_105 : decode cX1_choose 105 = .ok (.bipush 12, 2) := by decide +kernel
theorem dX1_choose_107 : decode cX1_choose 107 = .ok (.if_icmp .ge 87, 3) := by decide +kernel
theorem dX1_choose_110 : decode cX1_choose 110 = .ok (.aload_n 0, 1) := by decide +kernel
theorem dX1_choose_111 : decode cX1_choose 111 = .ok (.getfield 91, 3) := by decide +kernel
theorem dX1_choose_114 : decode cX1_choose 114 = .ok (.ldc 86, 2) := by decide +kernel
theorem dX1_choose_116 : decode cX1_choose 116 = .ok (.if_icmp .ne 7, 3) := by decide +kernel
theorem dX1_choose_119 : decode cX1_choose 119 = .ok (.iconst (-1), 1) := by decide +kernel
theorem dX1_choose_120 : decode cX1_choose 120 = .ok (.goto 11, 3) := by decide +kernel
theorem dX1_choose_123 : decode cX1_choose 123 = .ok (.aload_n 0, 1) := by decide +kernel
theorem dX1_choose_124 : decode cX1_choose 124 = .ok (.iload 4, 2) := by decide +kernel
theorem dX1_choose_126 : decode cX1_choose 126 = .ok (.iload_n 3, 1) := by decide +kernel
theorem dX1_choose_127 : decode cX1_choose 127 = .ok (.iload_n 2, 1) := by decide +kernel
theorem dX1_choose_128 : decode cX1_choose 128 = .ok (.invokevirtual 94, 3) := by decide +kernel
theorem dX1_choose_131 : decode cX1_choose 131 = .ok (.istore 5, 2) := by decide +kernel
theorem dX1_choose_133 : decode cX1_choose 133 = .ok (.iload 5, 2) := by decide +kernel
theorem dX1_choose_135 : decode cX1_choose 135 = .ok (.iconst (-1), 1) := by decide +kernel
theorem dX1_choose_136 : decode cX1_choose 136 = .ok (.if_icmp .ne 7, 3) := by decide +kernel
theorem dX1_choose_139 : decode cX1_choose 139 = .ok (.iconst 0, 1) := by decide +kernel
theorem dX1_choose_140 : decode cX1_choose 140 = .ok (.goto 13, 3) := by decide +kernel
theorem dX1_choose_143 : decode cX1_choose 143 = .ok (.aload_n 0, 1) := by decide +kernel
theorem dX1_choose_144 : decode cX1_choose 144 = .ok (.getfield 17, 3) := by decide +kernel
theorem dX1_choose_147 : decode cX1_choose 147 = .ok (.iload 4, 2) := by decide +kernel
theorem dX1_choose_149 : decode cX1_choose 149 = .ok (.aaload, 1) := by decide +kernel
theorem dX1_choose_150 : decode cX1_choose 150 = .ok (.iload 5, 2) := by decide +kernel
theorem dX1_choose_152 : decode cX1_choose 152 = .ok (.iaload, 1) := by decide +kernel
theorem dX1_choose_153 : decode cX1_choose 153 = .ok (.istore_n 3, 1) := by decide +kernel
theorem dX1_choose_154 : decode cX1_choose 154 = .ok (.aload_n 0, 1) := by decide +kernel
theorem dX1_choose_155 : decode cX1_choose 155 = .ok (.getfield 26, 3) := by decide +kernel
theorem dX1_choose_158 : decode cX1_choose 158 = .ok (.iload 4, 2) := by decide +kernel
theorem dX1_choose_160 : decode cX1_choose 160 = .ok (.iload_n 3, 1) := by decide +kernel
theorem dX1_choose_161 : decode cX1_choose 161 = .ok (.iastore, 1) := by decide +kernel
theorem dX1_choose_162 : decode cX1_choose 162 = .ok (.aload_n 0, 1) := by decide +kernel
theorem dX1_choose_163 : decode cX1_choose 163 = .ok (.iload 4, 2) := by decide +kernel
theorem dX1_choose_165 : decode cX1_choose 165 = .ok (.iload 5, 2) := by decide +kernel
theorem dX1_choose_167 : decode cX1_choose 167 = .ok (.iconst (-1), 1) := by decide +kernel
theorem dX1_choose_168 : decode cX1_choose 168 = .ok (.if_icmp .ne 7, 3) := by decide +kernel
theorem dX1_choose_171 : decode cX1_choose 171 = .ok (.iconst 0, 1) := by decide +kernel
theorem dX1_choose_172 : decode cX1_choose 172 = .ok (.goto 13, 3) := by decide +kernel
theorem dX1_choose_175 : decode cX1_choose 175 = .ok (.aload_n 0, 1) := by decide +kernel
theorem dX1_choose_176 : decode cX1_choose 176 = .ok (.getfield 20, 3) := by decide +kernel
theorem dX1_choose_179 : decode cX1_choose 179 = .ok (.iload 4, 2) := by decide +kernel
theorem dX1_choose_181 : decode cX1_choose 181 = .ok (.aaload, 1) := by decide +kernel
theorem dX1_choose_182 : decode cX1_choose 182 = .ok (.iload 5, 2) := by decide +kernel
theorem dX1_choose_184 : decode cX1_choose 184 = .ok (.iaload, 1) := by decide +kernel
theorem dX1_choose_185 : decode cX1_choose 185 = .ok (.invokevirtual 97, 3) := by decide +kernel
theorem dX1_choose_188 : decode cX1_choose 188 = .ok (.iinc 4 1, 3) := by decide +kernel
theorem dX1_choose_191 : decode cX1_choose 191 = .ok (.goto (-88), 3) := by decide +kernel
theorem dX1_choose_194 : decode cX1_choose 194 = .ok (.aload_n 0, 1) := by decide +kernel
theorem dX1_choose_195 : decode cX1_choose 195 = .ok (.getfield 91, 3) := by decide +kernel
theorem dX1_choose_198 : decode cX1_choose 198 = .ok (.ldc 86, 2) := by decide +kernel
theorem dX1_choose_200 : decode cX1_choose 200 = .ok (.if_icmp .ne 8, 3) := by decide +kernel
theorem dX1_choose_203 : decode cX1_choose 203 = .ok (.aload_n 0, 1) := by decide +kernel
theorem dX1_choose_204 : decode cX1_choose 204 = .ok (.iconst (-1), 1) := by decide +kernel
theorem dX1_choose_205 : decode cX1_choose 205 = .ok (.putfield 91, 3) := by decide +kernel
theorem dX1_choose_208 : decode cX1_choose 208 = .ok (.return_, 1) := by decide +kernel
theorem dX1_cheapestAfter_0 : decode cX1_cheapestAfter 0 = .ok (.iload_n 1, 1) := by decide +kernel
theorem dX1_cheapestAfter_1 : decode cX1_cheapestAfter 1 = .ok (.iconst 1, 1) := by decide +kernel
theorem dX1_cheapestAfter_2 : decode cX1_cheapestAfter 2 = .ok (.iadd, 1) := by decide +kernel
theorem dX1_cheapestAfter_3 : decode cX1_cheapestAfter 3 = .ok (.bipush 12, 2) := by decide +kernel
theorem dX1_cheapestAfter_5 : decode cX1_cheapestAfter 5 = .ok (.if_icmp .lt 5, 3) := by decide +kernel
theorem dX1_cheapestAfter_8 : decode cX1_cheapestAfter 8 = .ok (.iconst 0, 1) := by decide +kernel
theorem dX1_cheapestAfter_9 : decode cX1_cheapestAfter 9 = .ok (.ireturn, 1) := by decide +kernel
theorem dX1_cheapestAfter_10 : decode cX1_cheapestAfter 10 = .ok (.aload_n 0, 1) := by decide +kernel
theorem dX1_cheapestAfter_11 : decode cX1_cheapestAfter 11 = .ok (.iload_n 1, 1) := by decide +kernel
theorem dX1_cheapestAfter_12 : decode cX1_cheapestAfter 12 = .ok (.iconst 1, 1) := by decide +kernel
theorem dX1_cheapestAfter_13 : decode cX1_cheapestAfter 13 = .ok (.iadd, 1) := by decide +kernel
theorem dX1_cheapestAfter_14 : decode cX1_cheapestAfter 14 = .ok (.iload_n 2, 1) := by decide +kernel
theorem dX1_cheapestAfter_15 : decode cX1_cheapestAfter 15 = .ok (.iload_n 3, 1) := by decide +kernel
theorem dX1_cheapestAfter_16 : decode cX1_cheapestAfter 16 = .ok (.invokevirtual 94, 3) := by decide +kernel
theorem dX1_cheapestAfter_19 : decode cX1_cheapestAfter 19 = .ok (.istore 4, 2) := by decide +kernel
theorem dX1_cheapestAfter_21 : decode cX1_cheapestAfter 21 = .ok (.iload 4, 2) := by decide +kernel
theorem dX1_cheapestAfter_23 : decode cX1_cheapestAfter 23 = .ok (.iconst (-1), 1) := by decide +kernel
theorem dX1_cheapestAfter_24 : decode cX1_cheapestAfter 24 = .ok (.if_icmp .ne 8, 3) := by decide +kernel
theorem dX1_cheapestAfter_27 : decode cX1_cheapestAfter 27 = .ok (.ldc 86, 2) := by decide +kernel
theorem dX1_cheapestAfter_29 : decode cX1_cheapestAfter 29 = .ok (.goto 14, 3) := by decide +kernel
theorem dX1_cheapestAfter_32 : decode cX1_cheapestAfter 32 = .ok (.aload_n 0, 1) := by decide +kernel
theorem dX1_cheapestAfter_33 : decode cX1_cheapestAfter 33 = .ok (.getfield 23, 3) := by decide +kernel
theorem dX1_cheapestAfter_36 : decode cX1_cheapestAfter 36 = .ok (.iload_n 1, 1) := by decide +kernel
theorem dX1_cheapestAfter_37 : decode cX1_cheapestAfter 37 = .ok (.iconst 1, 1) := by decide +kernel
theorem dX1_cheapestAfter_38 : decode cX1_cheapestAfter 38 = .ok (.iadd, 1) := by decide +kernel
theorem dX1_cheapestAfter_39 : decode cX1_cheapestAfter 39 = .ok (.aaload, 1) := by decide +kernel
theorem dX1_cheapestAfter_40 : decode cX1_cheapestAfter 40 = .ok (.iload 4, 2) := by decide +kernel
theorem dX1_cheapestAfter_42 : decode cX1_cheapestAfter 42 = .ok (.iaload, 1) := by decide +kernel
theorem dX1_cheapestAfter_43 : decode cX1_cheapestAfter 43 = .ok (.ireturn, 1) := by decide +kernel
theorem dX1_firstCheapest_0 : decode cX1_firstCheapest 0 = .ok (.iconst (-1), 1) := by decide +kernel
theorem dX1_firstCheapest_1 : decode cX1_firstCheapest 1 = .ok (.istore 4, 2) := by decide +kernel
theorem dX1_firstCheapest_3 : decode cX1_firstCheapest 3 = .ok (.ldc 86, 2) := by decide +kernel
theorem dX1_firstCheapest_5 : decode cX1_firstCheapest 5 = .ok (.istore 5, 2) := by decide +kernel
theorem dX1_firstCheapest_7 : decode cX1_firstCheapest 7 = .ok (.iconst 0, 1) := by decide +kernel
theorem dX1_firstCheapest_8 : decode cX1_firstCheapest 8 = .ok (.istore 6, 2) := by decide +kernel
theorem dX1_firstCheapest_10 : decode cX1_firstCheapest 10 = .ok (.iload 6, 2) := by decide +kernel
theorem dX1_firstCheapest_12 : decode cX1_firstCheapest 12 = .ok (.aload_n 0, 1) := by decide +kernel
theorem dX1_firstCheapest_13 : decode cX1_firstCheapest 13 = .ok (.getfield 9, 3) := by decide +kernel
theorem dX1_firstCheapest_16 : decode cX1_firstCheapest 16 = .ok (.iload_n 1, 1) := by decide +kernel
theorem dX1_firstCheapest_17 : decode cX1_firstCheapest 17 = .ok (.iaload, 1) := by decide +kernel
theorem dX1_firstCheapest_18 : decode cX1_firstCheapest 18 = .ok (.if_icmp .ge 56, 3) := by decide +kernel
theorem dX1_firstCheapest_21 : decode cX1_firstCheapest 21 = .ok (.aload_n 0, 1) := by decide +kernel
theorem dX1_firstCheapest_22 : decode cX1_firstCheapest 22 = .ok (.getfield 23, 3) := by decide +kernel
theorem dX1_firstCheapest_25 : decode cX1_firstCheapest 25 = .ok (.iload_n 1, 1) := by decide +kernel
theorem dX1_firstCheapest_26 : decode cX1_firstCheapest 26 = .ok (.aaload, 1) := by decide +kernel
theorem dX1_firstCheapest_27 : decode cX1_firstCheapest 27 = .ok (.iload 6, 2) := by decide +kernel
theorem dX1_firstCheapest_29 : decode cX1_firstCheapest 29 = .ok (.iaload, 1) := by decide +kernel
theorem dX1_firstCheapest_30 : decode cX1_firstCheapest 30 = .ok (.iload 5, 2) := by decide +kernel
theorem dX1_firstCheapest_32 : decode cX1_firstCheapest 32 = .ok (.if_icmp .ge 36, 3) := by decide +kernel
theorem dX1_firstCheapest_35 : decode cX1_firstCheapest 35 = .ok (.iload_n 3, 1) := by decide +kernel
theorem dX1_firstCheapest_36 : decode cX1_firstCheapest 36 = .ok (.ifCond .eq 17, 3) := by decide +kernel
theorem dX1_firstCheapest_39 : decode cX1_firstCheapest 39 = .ok (.aload_n 0, 1) := by decide +kernel
theorem dX1_firstCheapest_40 : decode cX1_firstCheapest 40 = .ok (.getfield 17, 3) := by decide +kernel
theorem dX1_firstCheapest_43 : decode cX1_firstCheapest 43 = .ok (.iload_n 1, 1) := by decide +kernel
theorem dX1_firstCheapest_44 : decode cX1_firstCheapest 44 = .ok (.aaload, 1) := by decide +kernel
theorem dX1_firstCheapest_45 : decode cX1_firstCheapest 45 = .ok (.iload 6, 2) := by decide +kernel
theorem dX1_firstCheapest_47 : decode cX1_firstCheapest 47 = .ok (.iaload, 1) := by decide +kernel
theorem dX1_firstCheapest_48 : decode cX1_firstCheapest 48 = .ok (.iload_n 2, 1) := by decide +kernel
theorem dX1_firstCheapest_49 : decode cX1_firstCheapest 49 = .ok (.iand, 1) := by decide +kernel
theorem dX1_firstCheapest_50 : decode cX1_firstCheapest 50 = .ok (.ifCond .ne 18, 3) := by decide +kernel
theorem dX1_firstCheapest_53 : decode cX1_firstCheapest 53 = .ok (.aload_n 0, 1) := by decide +kernel
theorem dX1_firstCheapest_54 : decode cX1_firstCheapest 54 = .ok (.getfield 23, 3) := by decide +kernel
theorem dX1_firstCheapest_57 : decode cX1_firstCheapest 57 = .ok (.iload_n 1, 1) := by decide +kernel
theorem dX1_firstCheapest_58 : decode cX1_firstCheapest 58 = .ok (.aaload, 1) := by decide +kernel
theorem dX1_firstCheapest_59 : decode cX1_firstCheapest 59 = .ok (.iload 6, 2) := by decide +kernel
theorem dX1_firstCheapest_61 : decode cX1_firstCheapest 61 = .ok (.iaload, 1) := by decide +kernel
theorem dX1_firstCheapest_62 : decode cX1_firstCheapest 62 = .ok (.istore 5, 2) := by decide +kernel
theorem dX1_firstCheapest_64 : decode cX1_firstCheapest 64 = .ok (.iload 6, 2) := by decide +kernel
theorem dX1_firstCheapest_66 : decode cX1_firstCheapest 66 = .ok (.istore 4, 2) := by decide +kernel
theorem dX1_firstCheapest_68 : decode cX1_firstCheapest 68 = .ok (.iinc 6 1, 3) := by decide +kernel
theorem dX1_firstCheapest_71 : decode cX1_firstCheapest 71 = .ok (.goto (-61), 3) := by decide +kernel
theorem dX1_firstCheapest_74 : decode cX1_firstCheapest 74 = .ok (.iload 4, 2) := by decide +kernel
theorem dX1_firstCheapest_76 : decode cX1_firstCheapest 76 = .ok (.ireturn, 1) := by decide +kernel
theorem dX1_giveLooks_0 : decode cX1_giveLooks 0 = .ok (.iload_n 2, 1) := by decide +kernel
theorem dX1_giveLooks_1 : decode cX1_giveLooks 1 = .ok (.istore_n 3, 1) := by decide +kernel
theorem dX1_giveLooks_2 : decode cX1_giveLooks 2 = .ok (.aload_n 0, 1) := by decide +kernel
theorem dX1_giveLooks_3 : decode cX1_giveLooks 3 = .ok (.getfield 32, 3) := by decide +kernel
theorem dX1_giveLooks_6 : decode cX1_giveLooks 6 = .ok (.getfield 44, 3) := by decide +kernel
theorem dX1_giveLooks_9 : decode cX1_giveLooks 9 = .ok (.iconst 1, 1) := by decide +kernel
theorem dX1_giveLooks_10 : decode cX1_giveLooks 10 = .ok (.isub, 1) := by decide +kernel
theorem dX1_giveLooks_11 : decode cX1_giveLooks 11 = .ok (.istore 4, 2) := by decide +kernel
theorem dX1_giveLooks_13 : decode cX1_giveLooks 13 = .ok (.iload 4, 2) := by decide +kernel
theorem dX1_giveLooks_15 : decode cX1_giveLooks 15 = .ok (.ifCond .lt 39, 3) := by decide +kernel
theorem dX1_giveLooks_18 : decode cX1_giveLooks 18 = .ok (.aload_n 0, 1) := by decide +kernel
theorem dX1_giveLooks_19 : decode cX1_giveLooks 19 = .ok (.getfield 32, 3) := by decide +kernel
theorem dX1_giveLooks_22 : decode cX1_giveLooks 22 = .ok (.getfield 50, 3) := by decide +kernel
theorem dX1_giveLooks_25 : decode cX1_giveLooks 25 = .ok (.iload 4, 2) := by decide +kernel
theorem dX1_giveLooks_27 : decode cX1_giveLooks 27 = .ok (.iaload, 1) := by decide +kernel
theorem dX1_giveLooks_28 : decode cX1_giveLooks 28 = .ok (.iload_n 1, 1) := by decide +kernel
theorem dX1_giveLooks_29 : decode cX1_giveLooks 29 = .ok (.if_icmp .ne 19, 3) := by decide +kernel
theorem dX1_giveLooks_32 : decode cX1_giveLooks 32 = .ok (.aload_n 0, 1) := by decide +kernel
theorem dX1_giveLooks_33 : decode cX1_giveLooks 33 = .ok (.getfield 29, 3) := by decide +kernel
theorem dX1_giveLooks_36 : decode cX1_giveLooks 36 = .ok (.iload 4, 2) := by decide +kernel
theorem dX1_giveLooks_38 : decode cX1_giveLooks 38 = .ok (.iload_n 3, 1) := by decide +kernel
theorem dX1_giveLooks_39 : decode cX1_giveLooks 39 = .ok (.bipush 64, 2) := by decide +kernel
theorem dX1_giveLooks_41 : decode cX1_giveLooks 41 = .ok (.irem, 1) := by decide +kernel
theorem dX1_giveLooks_42 : decode cX1_giveLooks 42 = .ok (.iastore, 1) := by decide +kernel
theorem dX1_giveLooks_43 : decode cX1_giveLooks 43 = .ok (.iload_n 3, 1) := by decide +kernel
theorem dX1_giveLooks_44 : decode cX1_giveLooks 44 = .ok (.bipush 64, 2) := by decide +kernel
theorem dX1_giveLooks_46 : decode cX1_giveLooks 46 = .ok (.idiv, 1) := by decide +kernel
theorem dX1_giveLooks_47 : decode cX1_giveLooks 47 = .ok (.istore_n 3, 1) := by decide +kernel
theorem dX1_giveLooks_48 : decode cX1_giveLooks 48 = .ok (.iinc 4 (-1), 3) := by decide +kernel
theorem dX1_giveLooks_51 : decode cX1_giveLooks 51 = .ok (.goto (-38), 3) := by decide +kernel
theorem dX1_giveLooks_54 : decode cX1_giveLooks 54 = .ok (.return_, 1) := by decide +kernel
theorem dX1_priceOfWorn_0 : decode cX1_priceOfWorn 0 = .ok (.iconst 0, 1) := by decide +kernel
theorem dX1_priceOfWorn_1 : decode cX1_priceOfWorn 1 = .ok (.istore_n 3, 1) := by decide +kernel
theorem dX1_priceOfWorn_2 : decode cX1_priceOfWorn 2 = .ok (.iconst 0, 1) := by decide +kernel
theorem dX1_priceOfWorn_3 : decode cX1_priceOfWorn 3 = .ok (.istore 4, 2) := by decide +kernel
theorem dX1_priceOfWorn_5 : decode cX1_priceOfWorn 5 = .ok (.iload 4, 2) := by decide +kernel
theorem dX1_priceOfWorn_7 : decode cX1_priceOfWorn 7 = .ok (.bipush 12, 2) := by decide +kernel
theorem dX1_priceOfWorn_9 : decode cX1_priceOfWorn 9 = .ok (.if_icmp .ge 25, 3) := by decide +kernel
theorem dX1_priceOfWorn_12 : decode cX1_priceOfWorn 12 = .ok (.iload_n 3, 1) := by decide +kernel
theorem dX1_priceOfWorn_13 : decode cX1_priceOfWorn 13 = .ok (.aload_n 0, 1) := by decide +kernel
theorem dX1_priceOfWorn_14 : decode cX1_priceOfWorn 14 = .ok (.getfield 26, 3) := by decide +kernel
theorem dX1_priceOfWorn_17 : decode cX1_priceOfWorn 17 = .ok (.iload 4, 2) := by decide +kernel
theorem dX1_priceOfWorn_19 : decode cX1_priceOfWorn 19 = .ok (.iaload, 1) := by decide +kernel
theorem dX1_priceOfWorn_20 : decode cX1_priceOfWorn 20 = .ok (.iload_n 1, 1) := by decide +kernel
theorem dX1_priceOfWorn_21 : decode cX1_priceOfWorn 21 = .ok (.iand, 1) := by decide +kernel
theorem dX1_priceOfWorn_22 : decode cX1_priceOfWorn 22 = .ok (.aload_n 2, 1) := by decide +kernel
theorem dX1_priceOfWorn_23 : decode cX1_priceOfWorn 23 = .ok (.invokestatic 87, 3) := by decide +kernel
theorem dX1_priceOfWorn_26 : decode cX1_priceOfWorn 26 = .ok (.iadd, 1) := by decide +kernel
theorem dX1_priceOfWorn_27 : decode cX1_priceOfWorn 27 = .ok (.istore_n 3, 1) := by decide +kernel
theorem dX1_priceOfWorn_28 : decode cX1_priceOfWorn 28 = .ok (.iinc 4 1, 3) := by decide +kernel
theorem dX1_priceOfWorn_31 : decode cX1_priceOfWorn 31 = .ok (.goto (-26), 3) := by decide +kernel
theorem dX1_priceOfWorn_34 : decode cX1_priceOfWorn 34 = .ok (.iload_n 3, 1) := by decide +kernel
theorem dX1_priceOfWorn_35 : decode cX1_priceOfWorn 35 = .ok (.ireturn, 1) := by decide +kernel
theorem dX2_init_0 : decode cX2_init 0 = .ok (.aload_n 0, 1) := by decide +kernel
theorem dX2_init_1 : decode cX2_init 1 = .ok (.invokespecial 3, 3) := by decide +kernel
theorem dX2_init_4 : decode cX2_init 4 = .ok (.aload_n 0, 1) := by decide +kernel
theorem dX2_init_5 : decode cX2_init 5 = .ok (.bipush 36, 2) := by decide +kernel
theorem dX2_init_7 : decode cX2_init 7 = .ok (.newarray .int, 2) := by decide +kernel
theorem dX2_init_9 : decode cX2_init 9 = .ok (.putfield 11, 3) := by decide +kernel
theorem dX2_init_12 : decode cX2_init 12 = .ok (.aload_n 0, 1) := by decide +kernel
theorem dX2_init_13 : decode cX2_init 13 = .ok (.bipush 36, 2) := by decide +kernel
theorem dX2_init_15 : decode cX2_init 15 = .ok (.newarray .int, 2) := by decide +kernel
theorem dX2_init_17 : decode cX2_init 17 = .ok (.putfield 15, 3) := by decide +kernel
theorem dX2_init_20 : decode cX2_init 20 = .ok (.aload_n 0, 1) := by decide +kernel
theorem dX2_init_21 : decode cX2_init 21 = .ok (.bipush 36, 2) := by decide +kernel
theorem dX2_init_23 : decode cX2_init 23 = .ok (.newarray .int, 2) := by decide +kernel
theorem dX2_init_25 : decode cX2_init 25 = .ok (.putfield 18, 3) := by decide +kernel
theorem dX2_init_28 : decode cX2_init 28 = .ok (.aload_n 0, 1) := by decide +kernel
theorem dX2_init_29 : decode cX2_init 29 = .ok (.aload_n 1, 1) := by decide +kernel
theorem dX2_init_30 : decode cX2_init 30 = .ok (.putfield 21, 3) := by decide +kernel
theorem dX2_init_33 : decode cX2_init 33 = .ok (.aload_n 0, 1) := by decide +kernel
theorem dX2_init_34 : decode cX2_init 34 = .ok (.aload_n 2, 1) := by decide +kernel
theorem dX2_init_35 : decode cX2_init 35 = .ok (.putfield 25, 3) := by decide +kernel
theorem dX2_init_38 : decode cX2_init 38 = .ok (.return_, 1) := by decide +kernel
theorem dX2_build_0 : decode cX2_build 0 = .ok (.aload_n 0, 1) := by decide +kernel
theorem dX2_build_1 : decode cX2_build 1 = .ok (.iconst 0, 1) := by decide +kernel
theorem dX2_build_2 : decode cX2_build 2 = .ok (.putfield 29, 3) := by decide +kernel
theorem dX2_build_5 : decode cX2_build 5 = .ok (.iconst 0, 1) := by decide +kernel
theorem dX2_build_6 : decode cX2_build 6 = .ok (.istore_n 1, 1) := by decide +kernel
theorem dX2_build_7 : decode cX2_build 7 = .ok (.iload_n 1, 1) := by decide +kernel
theorem dX2_build_8 : decode cX2_build 8 = .ok (.aload_n 0, 1) := by decide +kernel
theorem dX2_build_9 : decode cX2_build 9 = .ok (.getfield 21, 3) := by decide +kernel
theorem dX2_build_12 : decode cX2_build 12 = .ok (.getfield 33, 3) := by decide +kernel
theorem dX2_build_15 : decode cX2_build 15 = .ok (.if_icmp .ge 106, 3) := by decide +kernel
theorem dX2_build_18 : decode cX2_build 18 = .ok (.iconst 0, 1) := by decide +kernel
theorem dX2_build_19 : decode cX2_build 19 = .ok (.istore_n 2, 1) := by decide +kernel
theorem dX2_build_20 : decode cX2_build 20 = .ok (.iload_n 2, 1) := by decide +kernel
theorem dX2_build_21 : decode cX2_build 21 = .ok (.aload_n 0, 1) := by decide +kernel
theorem dX2_build_22 : decode cX2_build 22 = .ok (.getfield 21, 3) := by decide +kernel
theorem dX2_build_25 : decode cX2_build 25 = .ok (.getfield 33, 3) := by decide +kernel
theorem dX2_build_28 : decode cX2_build 28 = .ok (.if_icmp .ge 87, 3) := by decide +kernel
theorem dX2_build_31 : decode cX2_build 31 = .ok (.iconst 0, 1) := by decide +kernel
theorem dX2_build_32 : decode cX2_build 32 = .ok (.istore_n 3, 1) := by decide +kernel
theorem dX2_build_33 : decode cX2_build 33 = .ok (.iload_n 3, 1) := by decide +kernel
theorem dX2_build_34 : decode cX2_build 34 = .ok (.aload_n 0, 1) := by decide +kernel
theorem dX2_build_35 : decode cX2_build 35 = .ok (.getfield 21, 3) := by decide +kernel
theorem dX2_build_38 : decode cX2_build 38 = .ok (.getfield 33, 3) := by decide +kernel
theorem dX2_build_41 : decode cX2_build 41 = .ok (.if_icmp .ge 68, 3) := by decide +kernel
theorem dX2_build_44 : decode cX2_build 44 = .ok (.aload_n 0, 1) := by decide +kernel
theorem dX2_build_45 : decode cX2_build 45 = .ok (.iload_n 1, 1) := by decide +kernel
theorem dX2_build_46 : decode cX2_build 46 = .ok (.iload_n 2, 1) := by decide +kernel
theorem dX2_build_47 : decode cX2_build 47 = .ok (.iload_n 3, 1) := by decide +kernel
theorem dX2_build_48 : decode cX2_build 48 = .ok (.invokevirtual 38, 3) := by decide +kernel
theorem dX2_build_51 : decode cX2_build 51 = .ok (.ifCond .eq 52, 3) := by decide +kernel
theorem dX2_build_54 : decode cX2_build 54 = .ok (.aload_n 0, 1) := by decide +kernel
theorem dX2_build_55 : decode cX2_build 55 = .ok (.getfield 29, 3) := by decide +kernel
theorem dX2_build_58 : decode cX2_build 58 = .ok (.bipush 36, 2) := by decide +kernel
theorem dX2_build_60 : decode cX2_build 60 = .ok (.if_icmp .ge 43, 3) := by decide +kernel
theorem dX2_build_63 : decode cX2_build 63 = .ok (.aload_n 0, 1) := by decide +kernel
theorem dX2_build_64 : decode cX2_build 64 = .ok (.getfield 11, 3) := by decide +kernel
theorem dX2_build_67 : decode cX2_build 67 = .ok (.aload_n 0, 1) := by decide +kernel
theorem dX2_build_68 : decode cX2_build 68 = .ok (.getfield 29, 3) := by decide +kernel
theorem dX2_build_71 : decode cX2_build 71 = .ok (.iload_n 1, 1) := by decide +kernel
theorem dX2_build_72 : decode cX2_build 72 = .ok (.iastore, 1) := by decide +kernel
theorem dX2_build_73 : decode cX2_build 73 = .ok (.aload_n 0, 1) := by decide +kernel
theorem dX2_build_74 : decode cX2_build 74 = .ok (.getfield 15, 3) := by decide +kernel
theorem dX2_build_77 : decode cX2_build 77 = .ok (.aload_n 0, 1) := by decide +kernel
theorem dX2_build_78 : decode cX2_build 78 = .ok (.getfield 29, 3) := by decide +kernel
theorem dX2_build_81 : decode cX2_build 81 = .ok (.iload_n 2, 1) := by decide +kernel
theorem dX2_build_82 : decode cX2_build 82 = .ok (.iastore, 1) := by decide +kernel
theorem dX2_build_83 : decode cX2_build 83 = .ok (.aload_n 0, 1) := by decide +kernel
theorem dX2_build_84 : decode cX2_build 84 = .ok (.getfield 18, 3) := by decide +kernel
theorem dX2_build_87 : decode cX2_build 87 = .ok (.aload_n 0, 1) := by decide +kernel
theorem dX2_build_88 : decode cX2_build 88 = .ok (.getfield 29, 3) := by decide +kernel
theorem dX2_build_91 : decode cX2_build 91 = .ok (.iload_n 3, 1) := by decide +kernel
theorem dX2_build_92 : decode cX2_build 92 = .ok (.iastore, 1) := by decide +kernel
theorem dX2_build_93 : decode cX2_build 93 = .ok (.aload_n 0, 1) := by decide +kernel
theorem dX2_build_94 : decode cX2_build 94 = .ok (.dup, 1) := by decide +kernel
theorem dX2_build_95 : decode cX2_build 95 = .ok (.getfield 29, 3) := by decide +kernel
theorem dX2_build_98 : decode cX2_build 98 = .ok (.iconst 1, 1) := by decide +kernel
theorem dX2_build_99 : decode cX2_build 99 = .ok (.iadd, 1) := by decide +kernel
theorem dX2_build_100 : decode cX2_build 100 = .ok (.putfield 29, 3) := by decide +kernel
theorem dX2_build_103 : decode cX2_build 103 = .ok (.iinc 3 1, 3) := by decide +kernel
theorem dX2_build_106 : decode cX2_build 106 = .ok (.goto (-73), 3) := by decide +kernel
theorem dX2_build_109 : decode cX2_build 109 = .ok (.iinc 2 1, 3) := by decide +kernel
theorem dX2_build_112 : decode cX2_build 112 = .ok (.goto (-92), 3) := by decide +kernel
theorem dX2_build_115 : decode cX2_build 115 = .ok (.iinc 1 1, 3) := by decide +kernel
theorem dX2_build_118 : decode cX2_build 118 = .ok (.goto (-111), 3) := by decide +kernel
theorem dX2_build_121 : decode cX2_build 121 = .ok (.return_, 1) := by decide +kernel
theorem dX2_isLook_0 : decode cX2_isLook 0 = .ok (.aload_n 0, 1) := by decide +kernel
theorem dX2_isLook_1 : decode cX2_isLook 1 = .ok (.getfield 21, 3) := by decide +kernel
theorem dX2_isLook_4 : decode cX2_isLook 4 = .ok (.iload_n 1, 1) := by decide +kernel
theorem dX2_isLook_5 : decode cX2_isLook 5 = .ok (.iconst 0, 1) := by decide +kernel
theorem dX2_isLook_6 : decode cX2_isLook 6 = .ok (.invokevirtual 42, 3) := by decide +kernel
theorem dX2_isLook_9 : decode cX2_isLook 9 = .ok (.ifCond .eq 67, 3) := by decide +kernel
theorem dX2_isLook_12 : decode cX2_isLook 12 = .ok (.aload_n 0, 1) := by decide +kernel
theorem dX2_isLook_13 : decode cX2_isLook 13 = .ok (.getfield 21, 3) := by decide +kernel
theorem dX2_isLook_16 : decode cX2_isLook 16 = .ok (.iload_n 2, 1) := by decide +kernel
theorem dX2_isLook_17 : decode cX2_isLook 17 = .ok (.iconst 1, 1) := by decide +kernel
theorem dX2_isLook_18 : decode cX2_isLook 18 = .ok (.invokevirtual 42, 3) := by decide +kernel
theorem dX2_isLook_21 : decode cX2_isLook 21 = .ok (.ifCond .eq 55, 3) := by decide +kernel
theorem dX2_isLook_24 : decode cX2_isLook 24 = .ok (.aload_n 0, 1) := by decide +kernel
theorem dX2_isLook_25 : decode cX2_isLook 25 = .ok (.getfield 21, 3) := by decide +kernel
theorem dX2_isLook_28 : decode cX2_isLook 28 = .ok (.iload_n 3, 1) := by decide +kernel
theorem dX2_isLook_29 : decode cX2_isLook 29 = .ok (.iconst 2, 1) := by decide +kernel
theorem dX2_isLook_30 : decode cX2_isLook 30 = .ok (.invokevirtual 42, 3) := by decide +kernel
theorem dX2_isLook_33 : decode cX2_isLook 33 = .ok (.ifCond .eq 43, 3) := by decide +kernel
theorem dX2_isLook_36 : decode cX2_isLook 36 = .ok (.aload_n 0, 1) := by decide +kernel
end
section
theorem dX2_isLook_37 : decode cX2_isLook 37 = .ok (.getfield 21, 3) := by decide +kernel
theorem dX2_isLook_40 : decode cX2_isLook 40 = .ok (.iload_n 1, 1) := by decide +kernel
theorem dX2_isLook_41 : decode cX2_isLook 41 = .ok (.iload_n 2, 1) := by decide +kernel
theorem dX2_isLook_42 : decode cX2_isLook 42 = .ok (.invokevirtual 46, 3) := by decide +kernel
theorem dX2_isLook_45 : decode cX2_isLook 45 = .ok (.ifCond .ne 31, 3) := by decide +kernel
theorem dX2_isLook_48 : decode cX2_isLook 48 = .ok (.aload_n 0, 1) := by decide +kernel
theorem dX2_isLook_49 : decode cX2_isLook 49 = .ok (.getfield 21, 3) := by decide +kernel
theorem dX2_isLook_52 : decode cX2_isLook 52 = .ok (.iload_n 1, 1) := by decide +kernel
theorem dX2_isLook_53 : decode cX2_isLook 53 = .ok (.iload_n 3, 1) := by decide +kernel
theorem dX2_isLook_54 : decode cX2_isLook 54 = .ok (.invokevirtual 46, 3) := by decide +kernel
theorem dX2_isLook_57 : decode cX2_isLook 57 = .ok (.ifCond .ne 19, 3) := by decide +kernel
theorem dX2_isLook_60 : decode cX2_isLook 60 = .ok (.aload_n 0, 1) := by decide +kernel
theorem dX2_isLook_61 : decode cX2_isLook 61 = .ok (.getfield 21, 3) := by decide +kernel
theorem dX2_isLook_64 : decode cX2_isLook 64 = .ok (.iload_n 2, 1) := by decide +kernel
theorem dX2_isLook_65 : decode cX2_isLook 65 = .ok (.iload_n 3, 1) := by decide +kernel
theorem dX2_isLook_66 : decode cX2_isLook 66 = .ok (.invokevirtual 46, 3) := by decide +kernel
theorem dX2_isLook_69 : decode cX2_isLook 69 = .ok (.ifCond .ne 7, 3) := by decide +kernel
theorem dX2_isLook_72 : decode cX2_isLook 72 = .ok (.iconst 1, 1) := by decide +kernel
theorem dX2_isLook_73 : decode cX2_isLook 73 = .ok (.goto 4, 3) := by decide +kernel
theorem dX2_isLook_76 : decode cX2_isLook 76 = .ok (.iconst 0, 1) := by decide +kernel
theorem dX2_isLook_77 : decode cX2_isLook 77 = .ok (.ireturn, 1) := by decide +kernel
theorem dX2_partsOf_0 : decode cX2_partsOf 0 = .ok (.iload_n 1, 1) := by decide +kernel
theorem dX2_partsOf_1 : decode cX2_partsOf 1 = .ok (.ifCond .lt 40, 3) := by decide +kernel
theorem dX2_partsOf_4 : decode cX2_partsOf 4 = .ok (.iload_n 1, 1) := by decide +kernel
theorem dX2_partsOf_5 : decode cX2_partsOf 5 = .ok (.aload_n 0, 1) := by decide +kernel
theorem dX2_partsOf_6 : decode cX2_partsOf 6 = .ok (.getfield 29, 3) := by decide +kernel
theorem dX2_partsOf_9 : decode cX2_partsOf 9 = .ok (.if_icmp .ge 32, 3) := by decide +kernel
theorem dX2_partsOf_12 : decode cX2_partsOf 12 = .ok (.iconst 1, 1) := by decide +kernel
theorem dX2_partsOf_13 : decode cX2_partsOf 13 = .ok (.aload_n 0, 1) := by decide +kernel
theorem dX2_partsOf_14 : decode cX2_partsOf 14 = .ok (.getfield 11, 3) := by decide +kernel
theorem dX2_partsOf_17 : decode cX2_partsOf 17 = .ok (.iload_n 1, 1) := by decide +kernel
theorem dX2_partsOf_18 : decode cX2_partsOf 18 = .ok (.iaload, 1) := by decide +kernel
theorem dX2_partsOf_19 : decode cX2_partsOf 19 = .ok (.ishl, 1) := by decide +kernel
theorem dX2_partsOf_20 : decode cX2_partsOf 20 = .ok (.iconst 1, 1) := by decide +kernel
theorem dX2_partsOf_21 : decode cX2_partsOf 21 = .ok (.aload_n 0, 1) := by decide +kernel
theorem dX2_partsOf_22 : decode cX2_partsOf 22 = .ok (.getfield 15, 3) := by decide +kernel
theorem dX2_partsOf_25 : decode cX2_partsOf 25 = .ok (.iload_n 1, 1) := by decide +kernel
theorem dX2_partsOf_26 : decode cX2_partsOf 26 = .ok (.iaload, 1) := by decide +kernel
theorem dX2_partsOf_27 : decode cX2_partsOf 27 = .ok (.ishl, 1) := by decide +kernel
theorem dX2_partsOf_28 : decode cX2_partsOf 28 = .ok (.ior, 1) := by decide +kernel
theorem dX2_partsOf_29 : decode cX2_partsOf 29 = .ok (.iconst 1, 1) := by decide +kernel
theorem dX2_partsOf_30 : decode cX2_partsOf 30 = .ok (.aload_n 0, 1) := by decide +kernel
theorem dX2_partsOf_31 : decode cX2_partsOf 31 = .ok (.getfield 18, 3) := by decide +kernel
theorem dX2_partsOf_34 : decode cX2_partsOf 34 = .ok (.iload_n 1, 1) := by decide +kernel
theorem dX2_partsOf_35 : decode cX2_partsOf 35 = .ok (.iaload, 1) := by decide +kernel
theorem dX2_partsOf_36 : decode cX2_partsOf 36 = .ok (.ishl, 1) := by decide +kernel
theorem dX2_partsOf_37 : decode cX2_partsOf 37 = .ok (.ior, 1) := by decide +kernel
theorem dX2_partsOf_38 : decode cX2_partsOf 38 = .ok (.goto 4, 3) := by decide +kernel
theorem dX2_partsOf_41 : decode cX2_partsOf 41 = .ok (.iconst 0, 1) := by decide +kernel
theorem dX2_partsOf_42 : decode cX2_partsOf 42 = .ok (.ireturn, 1) := by decide +kernel
theorem dX2_widthOf_0 : decode cX2_widthOf 0 = .ok (.aload_n 0, 1) := by decide +kernel
theorem dX2_widthOf_1 : decode cX2_widthOf 1 = .ok (.iload_n 1, 1) := by decide +kernel
theorem dX2_widthOf_2 : decode cX2_widthOf 2 = .ok (.aload_n 0, 1) := by decide +kernel
theorem dX2_widthOf_3 : decode cX2_widthOf 3 = .ok (.getfield 25, 3) := by decide +kernel
theorem dX2_widthOf_6 : decode cX2_widthOf 6 = .ok (.getfield 49, 3) := by decide +kernel
theorem dX2_widthOf_9 : decode cX2_widthOf 9 = .ok (.invokevirtual 54, 3) := by decide +kernel
theorem dX2_widthOf_12 : decode cX2_widthOf 12 = .ok (.ireturn, 1) := by decide +kernel
theorem dX2_priceOf_0 : decode cX2_priceOf 0 = .ok (.aload_n 0, 1) := by decide +kernel
theorem dX2_priceOf_1 : decode cX2_priceOf 1 = .ok (.iload_n 1, 1) := by decide +kernel
theorem dX2_priceOf_2 : decode cX2_priceOf 2 = .ok (.aload_n 0, 1) := by decide +kernel
theorem dX2_priceOf_3 : decode cX2_priceOf 3 = .ok (.getfield 25, 3) := by decide +kernel
theorem dX2_priceOf_6 : decode cX2_priceOf 6 = .ok (.getfield 58, 3) := by decide +kernel
theorem dX2_priceOf_9 : decode cX2_priceOf 9 = .ok (.invokevirtual 54, 3) := by decide +kernel
theorem dX2_priceOf_12 : decode cX2_priceOf 12 = .ok (.ireturn, 1) := by decide +kernel
theorem dX2_sumOf_0 : decode cX2_sumOf 0 = .ok (.iload_n 1, 1) := by decide +kernel
theorem dX2_sumOf_1 : decode cX2_sumOf 1 = .ok (.ifCond .lt 18, 3) := by decide +kernel
theorem dX2_sumOf_4 : decode cX2_sumOf 4 = .ok (.iload_n 1, 1) := by decide +kernel
theorem dX2_sumOf_5 : decode cX2_sumOf 5 = .ok (.aload_n 0, 1) := by decide +kernel
theorem dX2_sumOf_6 : decode cX2_sumOf 6 = .ok (.getfield 29, 3) := by decide +kernel
theorem dX2_sumOf_9 : decode cX2_sumOf 9 = .ok (.if_icmp .ge 10, 3) := by decide +kernel
theorem dX2_sumOf_12 : decode cX2_sumOf 12 = .ok (.aload_n 2, 1) := by decide +kernel
theorem dX2_sumOf_13 : decode cX2_sumOf 13 = .ok (.arraylength, 1) := by decide +kernel
theorem dX2_sumOf_14 : decode cX2_sumOf 14 = .ok (.bipush 10, 2) := by decide +kernel
theorem dX2_sumOf_16 : decode cX2_sumOf 16 = .ok (.if_icmp .ge 5, 3) := by decide +kernel
theorem dX2_sumOf_19 : decode cX2_sumOf 19 = .ok (.iconst 0, 1) := by decide +kernel
theorem dX2_sumOf_20 : decode cX2_sumOf 20 = .ok (.ireturn, 1) := by decide +kernel
theorem dX2_sumOf_21 : decode cX2_sumOf 21 = .ok (.aload_n 2, 1) := by decide +kernel
theorem dX2_sumOf_22 : decode cX2_sumOf 22 = .ok (.aload_n 0, 1) := by decide +kernel
theorem dX2_sumOf_23 : decode cX2_sumOf 23 = .ok (.getfield 11, 3) := by decide +kernel
theorem dX2_sumOf_26 : decode cX2_sumOf 26 = .ok (.iload_n 1, 1) := by decide +kernel
theorem dX2_sumOf_27 : decode cX2_sumOf 27 = .ok (.iaload, 1) := by decide +kernel
theorem dX2_sumOf_28 : decode cX2_sumOf 28 = .ok (.iaload, 1) := by decide +kernel
theorem dX2_sumOf_29 : decode cX2_sumOf 29 = .ok (.aload_n 2, 1) := by decide +kernel
theorem dX2_sumOf_30 : decode cX2_sumOf 30 = .ok (.aload_n 0, 1) := by decide +kernel
theorem dX2_sumOf_31 : decode cX2_sumOf 31 = .ok (.getfield 15, 3) := by decide +kernel
theorem dX2_sumOf_34 : decode cX2_sumOf 34 = .ok (.iload_n 1, 1) := by decide +kernel
theorem dX2_sumOf_35 : decode cX2_sumOf 35 = .ok (.iaload, 1) := by decide +kernel
theorem dX2_sumOf_36 : decode cX2_sumOf 36 = .ok (.iaload, 1) := by decide +kernel
theorem dX2_sumOf_37 : decode cX2_sumOf 37 = .ok (.iadd, 1) := by decide +kernel
theorem dX2_sumOf_38 : decode cX2_sumOf 38 = .ok (.aload_n 2, 1) := by decide +kernel
theorem dX2_sumOf_39 : decode cX2_sumOf 39 = .ok (.aload_n 0, 1) := by decide +kernel
theorem dX2_sumOf_40 : decode cX2_sumOf 40 = .ok (.getfield 18, 3) := by decide +kernel
theorem dX2_sumOf_43 : decode cX2_sumOf 43 = .ok (.iload_n 1, 1) := by decide +kernel
theorem dX2_sumOf_44 : decode cX2_sumOf 44 = .ok (.iaload, 1) := by decide +kernel
theorem dX2_sumOf_45 : decode cX2_sumOf 45 = .ok (.iaload, 1) := by decide +kernel
theorem dX2_sumOf_46 : decode cX2_sumOf 46 = .ok (.iadd, 1) := by decide +kernel
theorem dX2_sumOf_47 : decode cX2_sumOf 47 = .ok (.ireturn, 1) := by decide +kernel
theorem dX2_widthsIf_0 : decode cX2_widthsIf 0 = .ok (.iconst 0, 1) := by decide +kernel
theorem dX2_widthsIf_1 : decode cX2_widthsIf 1 = .ok (.istore_n 3, 1) := by decide +kernel
theorem dX2_widthsIf_2 : decode cX2_widthsIf 2 = .ok (.iconst 0, 1) := by decide +kernel
theorem dX2_widthsIf_3 : decode cX2_widthsIf 3 = .ok (.istore 4, 2) := by decide +kernel
theorem dX2_widthsIf_5 : decode cX2_widthsIf 5 = .ok (.iload 4, 2) := by decide +kernel
theorem dX2_widthsIf_7 : decode cX2_widthsIf 7 = .ok (.aload_n 0, 1) := by decide +kernel
theorem dX2_widthsIf_8 : decode cX2_widthsIf 8 = .ok (.getfield 29, 3) := by decide +kernel
theorem dX2_widthsIf_11 : decode cX2_widthsIf 11 = .ok (.if_icmp .ge 64, 3) := by decide +kernel
theorem dX2_widthsIf_14 : decode cX2_widthsIf 14 = .ok (.aload_n 0, 1) := by decide +kernel
theorem dX2_widthsIf_15 : decode cX2_widthsIf 15 = .ok (.iload 4, 2) := by decide +kernel
theorem dX2_widthsIf_17 : decode cX2_widthsIf 17 = .ok (.invokevirtual 61, 3) := by decide +kernel
theorem dX2_widthsIf_20 : decode cX2_widthsIf 20 = .ok (.istore 5, 2) := by decide +kernel
theorem dX2_widthsIf_22 : decode cX2_widthsIf 22 = .ok (.aload_n 0, 1) := by decide +kernel
theorem dX2_widthsIf_23 : decode cX2_widthsIf 23 = .ok (.getfield 21, 3) := by decide +kernel
theorem dX2_widthsIf_26 : decode cX2_widthsIf 26 = .ok (.iload_n 1, 1) := by decide +kernel
theorem dX2_widthsIf_27 : decode cX2_widthsIf 27 = .ok (.invokevirtual 65, 3) := by decide +kernel
theorem dX2_widthsIf_30 : decode cX2_widthsIf 30 = .ok (.ifCond .eq 32, 3) := by decide +kernel
theorem dX2_widthsIf_33 : decode cX2_widthsIf 33 = .ok (.aload_n 0, 1) := by decide +kernel
theorem dX2_widthsIf_34 : decode cX2_widthsIf 34 = .ok (.iload 4, 2) := by decide +kernel
theorem dX2_widthsIf_36 : decode cX2_widthsIf 36 = .ok (.invokevirtual 69, 3) := by decide +kernel
theorem dX2_widthsIf_39 : decode cX2_widthsIf 39 = .ok (.iload_n 1, 1) := by decide +kernel
theorem dX2_widthsIf_40 : decode cX2_widthsIf 40 = .ok (.invokestatic 72, 3) := by decide +kernel
theorem dX2_widthsIf_43 : decode cX2_widthsIf 43 = .ok (.ifCond .eq 19, 3) := by decide +kernel
theorem dX2_widthsIf_46 : decode cX2_widthsIf 46 = .ok (.iload 5, 2) := by decide +kernel
theorem dX2_widthsIf_48 : decode cX2_widthsIf 48 = .ok (.iload_n 2, 1) := by decide +kernel
theorem dX2_widthsIf_49 : decode cX2_widthsIf 49 = .ok (.aload_n 0, 1) := by decide +kernel
theorem dX2_widthsIf_50 : decode cX2_widthsIf 50 = .ok (.getfield 25, 3) := by decide +kernel
theorem dX2_widthsIf_53 : decode cX2_widthsIf 53 = .ok (.getfield 49, 3) := by decide +kernel
theorem dX2_widthsIf_56 : decode cX2_widthsIf 56 = .ok (.iload_n 1, 1) := by decide +kernel
theorem dX2_widthsIf_57 : decode cX2_widthsIf 57 = .ok (.iaload, 1) := by decide +kernel
theorem dX2_widthsIf_58 : decode cX2_widthsIf 58 = .ok (.isub, 1) := by decide +kernel
theorem dX2_widthsIf_59 : decode cX2_widthsIf 59 = .ok (.iadd, 1) := by decide +kernel
theorem dX2_widthsIf_60 : decode cX2_widthsIf 60 = .ok (.istore 5, 2) := by decide +kernel
theorem dX2_widthsIf_62 : decode cX2_widthsIf 62 = .ok (.iload_n 3, 1) := by decide +kernel
theorem dX2_widthsIf_63 : decode cX2_widthsIf 63 = .ok (.iconst 1, 1) := by decide +kernel
theorem dX2_widthsIf_64 : decode cX2_widthsIf 64 = .ok (.iload 5, 2) := by decide +kernel
theorem dX2_widthsIf_66 : decode cX2_widthsIf 66 = .ok (.ishl, 1) := by decide +kernel
theorem dX2_widthsIf_67 : decode cX2_widthsIf 67 = .ok (.ior, 1) := by decide +kernel
theorem dX2_widthsIf_68 : decode cX2_widthsIf 68 = .ok (.istore_n 3, 1) := by decide +kernel
theorem dX2_widthsIf_69 : decode cX2_widthsIf 69 = .ok (.iinc 4 1, 3) := by decide +kernel
theorem dX2_widthsIf_72 : decode cX2_widthsIf 72 = .ok (.goto (-67), 3) := by decide +kernel
theorem dX2_widthsIf_75 : decode cX2_widthsIf 75 = .ok (.iload_n 3, 1) := by decide +kernel
theorem dX2_widthsIf_76 : decode cX2_widthsIf 76 = .ok (.ireturn, 1) := by decide +kernel
theorem dX2_isFor_0 : decode cX2_isFor 0 = .ok (.aload_n 0, 1) := by decide +kernel
theorem dX2_isFor_1 : decode cX2_isFor 1 = .ok (.getfield 21, 3) := by decide +kernel
theorem dX2_isFor_4 : decode cX2_isFor 4 = .ok (.iload_n 2, 1) := by decide +kernel
theorem dX2_isFor_5 : decode cX2_isFor 5 = .ok (.invokevirtual 75, 3) := by decide +kernel
theorem dX2_isFor_8 : decode cX2_isFor 8 = .ok (.ifCond .eq 15, 3) := by decide +kernel
theorem dX2_isFor_11 : decode cX2_isFor 11 = .ok (.aload_n 0, 1) := by decide +kernel
theorem dX2_isFor_12 : decode cX2_isFor 12 = .ok (.iload_n 1, 1) := by decide +kernel
theorem dX2_isFor_13 : decode cX2_isFor 13 = .ok (.invokevirtual 69, 3) := by decide +kernel
theorem dX2_isFor_16 : decode cX2_isFor 16 = .ok (.iload_n 3, 1) := by decide +kernel
theorem dX2_isFor_17 : decode cX2_isFor 17 = .ok (.iconst (-1), 1) := by decide +kernel
theorem dX2_isFor_18 : decode cX2_isFor 18 = .ok (.ixor, 1) := by decide +kernel
theorem dX2_isFor_19 : decode cX2_isFor 19 = .ok (.iand, 1) := by decide +kernel
theorem dX2_isFor_20 : decode cX2_isFor 20 = .ok (.ifCond .eq 5, 3) := by decide +kernel
theorem dX2_isFor_23 : decode cX2_isFor 23 = .ok (.iconst 0, 1) := by decide +kernel
theorem dX2_isFor_24 : decode cX2_isFor 24 = .ok (.ireturn, 1) := by decide +kernel
theorem dX2_isFor_25 : decode cX2_isFor 25 = .ok (.aload_n 0, 1) := by decide +kernel
theorem dX2_isFor_26 : decode cX2_isFor 26 = .ok (.iload_n 1, 1) := by decide +kernel
theorem dX2_isFor_27 : decode cX2_isFor 27 = .ok (.aload_n 0, 1) := by decide +kernel
theorem dX2_isFor_28 : decode cX2_isFor 28 = .ok (.getfield 25, 3) := by decide +kernel
theorem dX2_isFor_31 : decode cX2_isFor 31 = .ok (.getfield 49, 3) := by decide +kernel
theorem dX2_isFor_34 : decode cX2_isFor 34 = .ok (.invokevirtual 54, 3) := by decide +kernel
theorem dX2_isFor_37 : decode cX2_isFor 37 = .ok (.istore 4, 2) := by decide +kernel
theorem dX2_isFor_39 : decode cX2_isFor 39 = .ok (.aload_n 0, 1) := by decide +kernel
theorem dX2_isFor_40 : decode cX2_isFor 40 = .ok (.getfield 21, 3) := by decide +kernel
theorem dX2_isFor_43 : decode cX2_isFor 43 = .ok (.getfield 78, 3) := by decide +kernel
theorem dX2_isFor_46 : decode cX2_isFor 46 = .ok (.iload_n 2, 1) := by decide +kernel
theorem dX2_isFor_47 : decode cX2_isFor 47 = .ok (.iaload, 1) := by decide +kernel
theorem dX2_isFor_48 : decode cX2_isFor 48 = .ok (.iload 4, 2) := by decide +kernel
theorem dX2_isFor_50 : decode cX2_isFor 50 = .ok (.if_icmp .gt 21, 3) := by decide +kernel
theorem dX2_isFor_53 : decode cX2_isFor 53 = .ok (.iload 4, 2) := by decide +kernel
theorem dX2_isFor_55 : decode cX2_isFor 55 = .ok (.aload_n 0, 1) := by decide +kernel
theorem dX2_isFor_56 : decode cX2_isFor 56 = .ok (.getfield 21, 3) := by decide +kernel
theorem dX2_isFor_59 : decode cX2_isFor 59 = .ok (.getfield 81, 3) := by decide +kernel
theorem dX2_isFor_62 : decode cX2_isFor 62 = .ok (.iload_n 2, 1) := by decide +kernel
theorem dX2_isFor_63 : decode cX2_isFor 63 = .ok (.iaload, 1) := by decide +kernel
theorem dX2_isFor_64 : decode cX2_isFor 64 = .ok (.if_icmp .gt 7, 3) := by decide +kernel
theorem dX2_isFor_67 : decode cX2_isFor 67 = .ok (.iconst 1, 1) := by decide +kernel
theorem dX2_isFor_68 : decode cX2_isFor 68 = .ok (.goto 4, 3) := by decide +kernel
theorem dX2_isFor_71 : decode cX2_isFor 71 = .ok (.iconst 0, 1) := by decide +kernel
theorem dX2_isFor_72 : decode cX2_isFor 72 = .ok (.ireturn, 1) := by decide +kernel
theorem dX2_cheapestFor_0 : decode cX2_cheapestFor 0 = .ok (.aload_n 0, 1) := by decide +kernel
theorem dX2_cheapestFor_1 : decode cX2_cheapestFor 1 = .ok (.getfield 21, 3) := by decide +kernel
theorem dX2_cheapestFor_4 : decode cX2_cheapestFor 4 = .ok (.iload_n 1, 1) := by decide +kernel
theorem dX2_cheapestFor_5 : decode cX2_cheapestFor 5 = .ok (.invokevirtual 75, 3) := by decide +kernel
theorem dX2_cheapestFor_8 : decode cX2_cheapestFor 8 = .ok (.ifCond .ne 5, 3) := by decide +kernel
theorem dX2_cheapestFor_11 : decode cX2_cheapestFor 11 = .ok (.iconst (-1), 1) := by decide +kernel
theorem dX2_cheapestFor_12 : decode cX2_cheapestFor 12 = .ok (.ireturn, 1) := by decide +kernel
theorem dX2_cheapestFor_13 : decode cX2_cheapestFor 13 = .ok (.aload_n 0, 1) := by decide +kernel
theorem dX2_cheapestFor_14 : decode cX2_cheapestFor 14 = .ok (.getfield 21, 3) := by decide +kernel
theorem dX2_cheapestFor_17 : decode cX2_cheapestFor 17 = .ok (.aload_n 0, 1) := by decide +kernel
theorem dX2_cheapestFor_18 : decode cX2_cheapestFor 18 = .ok (.getfield 21, 3) := by decide +kernel
theorem dX2_cheapestFor_21 : decode cX2_cheapestFor 21 = .ok (.getfield 84, 3) := by decide +kernel
theorem dX2_cheapestFor_24 : decode cX2_cheapestFor 24 = .ok (.iload_n 1, 1) := by decide +kernel
theorem dX2_cheapestFor_25 : decode cX2_cheapestFor 25 = .ok (.iaload, 1) := by decide +kernel
theorem dX2_cheapestFor_26 : decode cX2_cheapestFor 26 = .ok (.invokevirtual 87, 3) := by decide +kernel
theorem dX2_cheapestFor_29 : decode cX2_cheapestFor 29 = .ok (.istore_n 2, 1) := by decide +kernel
theorem dX2_cheapestFor_30 : decode cX2_cheapestFor 30 = .ok (.iconst (-1), 1) := by decide +kernel
theorem dX2_cheapestFor_31 : decode cX2_cheapestFor 31 = .ok (.istore_n 3, 1) := by decide +kernel
theorem dX2_cheapestFor_32 : decode cX2_cheapestFor 32 = .ok (.iconst 0, 1) := by decide +kernel
theorem dX2_cheapestFor_33 : decode cX2_cheapestFor 33 = .ok (.istore 4, 2) := by decide +kernel
theorem dX2_cheapestFor_35 : decode cX2_cheapestFor 35 = .ok (.iload 4, 2) := by decide +kernel
theorem dX2_cheapestFor_37 : decode cX2_cheapestFor 37 = .ok (.aload_n 0, 1) := by decide +kernel
theorem dX2_cheapestFor_38 : decode cX2_cheapestFor 38 = .ok (.getfield 29, 3) := by decide +kernel
theorem dX2_cheapestFor_41 : decode cX2_cheapestFor 41 = .ok (.if_icmp .ge 42, 3) := by decide +kernel
theorem dX2_cheapestFor_44 : decode cX2_cheapestFor 44 = .ok (.aload_n 0, 1) := by decide +kernel
theorem dX2_cheapestFor_45 : decode cX2_cheapestFor 45 = .ok (.iload 4, 2) := by decide +kernel
theorem dX2_cheapestFor_47 : decode cX2_cheapestFor 47 = .ok (.iload_n 1, 1) := by decide +kernel
theorem dX2_cheapestFor_48 : decode cX2_cheapestFor 48 = .ok (.iload_n 2, 1) := by decide +kernel
theorem dX2_cheapestFor_49 : decode cX2_cheapestFor 49 = .ok (.invokevirtual 90, 3) := by decide +kernel
theorem dX2_cheapestFor_52 : decode cX2_cheapestFor 52 = .ok (.ifCond .eq 25, 3) := by decide +kernel
theorem dX2_cheapestFor_55 : decode cX2_cheapestFor 55 = .ok (.iload_n 3, 1) := by decide +kernel
theorem dX2_cheapestFor_56 : decode cX2_cheapestFor 56 = .ok (.iconst (-1), 1) := by decide +kernel
theorem dX2_cheapestFor_57 : decode cX2_cheapestFor 57 = .ok (.if_icmp .eq 17, 3) := by decide +kernel
theorem dX2_cheapestFor_60 : decode cX2_cheapestFor 60 = .ok (.aload_n 0, 1) := by decide +kernel
theorem dX2_cheapestFor_61 : decode cX2_cheapestFor 61 = .ok (.iload 4, 2) := by decide +kernel
theorem dX2_cheapestFor_63 : decode cX2_cheapestFor 63 = .ok (.invokevirtual 93, 3) := by decide +kernel
theorem dX2_cheapestFor_66 : decode cX2_cheapestFor 66 = .ok (.aload_n 0, 1) := by decide +kernel
theorem dX2_cheapestFor_67 : decode cX2_cheapestFor 67 = .ok (.iload_n 3, 1) := by decide +kernel
theorem dX2_cheapestFor_68 : decode cX2_cheapestFor 68 = .ok (.invokevirtual 93, 3) := by decide +kernel
theorem dX2_cheapestFor_71 : decode cX2_cheapestFor 71 = .ok (.if_icmp .ge 6, 3) := by decide +kernel
theorem dX2_cheapestFor_74 : decode cX2_cheapestFor 74 = .ok (.iload 4, 2) := by decide +kernel
theorem dX2_cheapestFor_76 : decode cX2_cheapestFor 76 = .ok (.istore_n 3, 1) := by decide +kernel
theorem dX2_cheapestFor_77 : decode cX2_cheapestFor 77 = .ok (.iinc 4 1, 3) := by decide +kernel
theorem dX2_cheapestFor_80 : decode cX2_cheapestFor 80 = .ok (.goto (-45), 3) := by decide +kernel
theorem dX2_cheapestFor_83 : decode cX2_cheapestFor 83 = .ok (.iload_n 3, 1) := by decide +kernel
theorem dX2_cheapestFor_84 : decode cX2_cheapestFor 84 = .ok (.ireturn, 1) := by decide +kernel
theorem dX2_mayMarry_0 : decode cX2_mayMarry 0 = .ok (.aload_n 0, 1) := by decide +kernel
theorem dX2_mayMarry_1 : decode cX2_mayMarry 1 = .ok (.iload_n 1, 1) := by decide +kernel
theorem dX2_mayMarry_2 : decode cX2_mayMarry 2 = .ok (.invokevirtual 69, 3) := by decide +kernel
theorem dX2_mayMarry_5 : decode cX2_mayMarry 5 = .ok (.istore 4, 2) := by decide +kernel
theorem dX2_mayMarry_7 : decode cX2_mayMarry 7 = .ok (.aload_n 0, 1) := by decide +kernel
theorem dX2_mayMarry_8 : decode cX2_mayMarry 8 = .ok (.iload_n 2, 1) := by decide +kernel
theorem dX2_mayMarry_9 : decode cX2_mayMarry 9 = .ok (.invokevirtual 69, 3) := by decide +kernel
theorem dX2_mayMarry_12 : decode cX2_mayMarry 12 = .ok (.istore 5, 2) := by decide +kernel
theorem dX2_mayMarry_14 : decode cX2_mayMarry 14 = .ok (.iload 4, 2) := by decide +kernel
theorem dX2_mayMarry_16 : decode cX2_mayMarry 16 = .ok (.iload 5, 2) := by decide +kernel
theorem dX2_mayMarry_18 : decode cX2_mayMarry 18 = .ok (.ior, 1) := by decide +kernel
theorem dX2_mayMarry_19 : decode cX2_mayMarry 19 = .ok (.iload_n 3, 1) := by decide +kernel
theorem dX2_mayMarry_20 : decode cX2_mayMarry 20 = .ok (.iconst (-1), 1) := by decide +kernel
theorem dX2_mayMarry_21 : decode cX2_mayMarry 21 = .ok (.ixor, 1) := by decide +kernel
theorem dX2_mayMarry_22 : decode cX2_mayMarry 22 = .ok (.iand, 1) := by decide +kernel
theorem dX2_mayMarry_23 : decode cX2_mayMarry 23 = .ok (.ifCond .ne 28, 3) := by decide +kernel
theorem dX2_mayMarry_26 : decode cX2_mayMarry 26 = .ok (.iload 4, 2) := by decide +kernel
theorem dX2_mayMarry_28 : decode cX2_mayMarry 28 = .ok (.iload 5, 2) := by decide +kernel
theorem dX2_mayMarry_30 : decode cX2_mayMarry 30 = .ok (.iand, 1) := by decide +kernel
theorem dX2_mayMarry_31 : decode cX2_mayMarry 31 = .ok (.ifCond .ne 20, 3) := by decide +kernel
theorem dX2_mayMarry_34 : decode cX2_mayMarry 34 = .ok (.aload_n 0, 1) := by decide +kernel
theorem dX2_mayMarry_35 : decode cX2_mayMarry 35 = .ok (.iload_n 1, 1) := by decide +kernel
theorem dX2_mayMarry_36 : decode cX2_mayMarry 36 = .ok (.invokevirtual 61, 3) := by decide +kernel
theorem dX2_mayMarry_39 : decode cX2_mayMarry 39 = .ok (.aload_n 0, 1) := by decide +kernel
theorem dX2_mayMarry_40 : decode cX2_mayMarry 40 = .ok (.iload_n 2, 1) := by decide +kernel
theorem dX2_mayMarry_41 : decode cX2_mayMarry 41 = .ok (.invokevirtual 61, 3) := by decide +kernel
theorem dX2_mayMarry_44 : decode cX2_mayMarry 44 = .ok (.if_icmp .ne 7, 3) := by decide +kernel
theorem dX2_mayMarry_47 : decode cX2_mayMarry 47 = .ok (.iconst 1, 1) := by decide +kernel
theorem dX2_mayMarry_48 : decode cX2_mayMarry 48 = .ok (.goto 4, 3) := by decide +kernel
theorem dX2_mayMarry_51 : decode cX2_mayMarry 51 = .ok (.iconst 0, 1) := by decide +kernel
theorem dX2_mayMarry_52 : decode cX2_mayMarry 52 = .ok (.ireturn, 1) := by decide +kernel
theorem dX3_init_0 : decode cX3_init 0 = .ok (.aload_n 0, 1) := by decide +kernel
theorem dX3_init_1 : decode cX3_init 1 = .ok (.invokespecial 3, 3) := by decide +kernel
theorem dX3_init_4 : decode cX3_init 4 = .ok (.aload_n 0, 1) := by decide +kernel
theorem dX3_init_5 : decode cX3_init 5 = .ok (.aload_n 1, 1) := by decide +kernel
theorem dX3_init_6 : decode cX3_init 6 = .ok (.putfield 9, 3) := by decide +kernel
theorem dX3_init_9 : decode cX3_init 9 = .ok (.aload_n 0, 1) := by decide +kernel
theorem dX3_init_10 : decode cX3_init 10 = .ok (.aload_n 2, 1) := by decide +kernel
theorem dX3_init_11 : decode cX3_init 11 = .ok (.putfield 15, 3) := by decide +kernel
theorem dX3_init_14 : decode cX3_init 14 = .ok (.aload_n 0, 1) := by decide +kernel
theorem dX3_init_15 : decode cX3_init 15 = .ok (.iconst (-1), 1) := by decide +kernel
theorem dX3_init_16 : decode cX3_init 16 = .ok (.putfield 19, 3) := by decide +kernel
theorem dX3_init_19 : decode cX3_init 19 = .ok (.return_, 1) := by decide +kernel
theorem dX3_readTown_0 : decode cX3_readTown 0 = .ok (.aload_n 0, 1) := by decide +kernel
theorem dX3_readTown_1 : decode cX3_readTown 1 = .ok (.getfield 15, 3) := by decide +kernel
theorem dX3_readTown_4 : decode cX3_readTown 4 = .ok (.invokevirtual 23, 3) := by decide +kernel
theorem dX3_readTown_7 : decode cX3_readTown 7 = .ok (.aload_n 0, 1) := by decide +kernel
theorem dX3_readTown_8 : decode cX3_readTown 8 = .ok (.iconst 0, 1) := by decide +kernel
theorem dX3_readTown_9 : decode cX3_readTown 9 = .ok (.putfield 28, 3) := by decide +kernel
theorem dX3_readTown_12 : decode cX3_readTown 12 = .ok (.aload_n 0, 1) := by decide +kernel
theorem dX3_readTown_13 : decode cX3_readTown 13 = .ok (.iconst 0, 1) := by decide +kernel
theorem dX3_readTown_14 : decode cX3_readTown 14 = .ok (.putfield 31, 3) := by decide +kernel
theorem dX3_readTown_17 : decode cX3_readTown 17 = .ok (.aload_n 0, 1) := by decide +kernel
theorem dX3_readTown_18 : decode cX3_readTown 18 = .ok (.iconst (-1), 1) := by decide +kernel
theorem dX3_readTown_19 : decode cX3_readTown 19 = .ok (.putfield 19, 3) := by decide +kernel
theorem dX3_readTown_22 : decode cX3_readTown 22 = .ok (.aload_n 0, 1) := by decide +kernel
theorem dX3_readTown_23 : decode cX3_readTown 23 = .ok (.invokevirtual 34, 3) := by decide +kernel
theorem dX3_readTown_26 : decode cX3_readTown 26 = .ok (.iconst 0, 1) := by decide +kernel
theorem dX3_readTown_27 : decode cX3_readTown 27 = .ok (.istore_n 1, 1) := by decide +kernel
theorem dX3_readTown_28 : decode cX3_readTown 28 = .ok (.iload_n 1, 1) := by decide +kernel
theorem dX3_readTown_29 : decode cX3_readTown 29 = .ok (.sipush 400, 3) := by decide +kernel
theorem dX3_readTown_32 : decode cX3_readTown 32 = .ok (.if_icmp .ge 128, 3) := by decide +kernel
theorem dX3_readTown_35 : decode cX3_readTown 35 = .ok (.aload_n 0, 1) := by decide +kernel
theorem dX3_readTown_36 : decode cX3_readTown 36 = .ok (.getfield 28, 3) := by decide +kernel
theorem dX3_readTown_39 : decode cX3_readTown 39 = .ok (.aload_n 0, 1) := by decide +kernel
theorem dX3_readTown_40 : decode cX3_readTown 40 = .ok (.getfield 9, 3) := by decide +kernel
theorem dX3_readTown_43 : decode cX3_readTown 43 = .ok (.getfield 37, 3) := by decide +kernel
theorem dX3_readTown_46 : decode cX3_readTown 46 = .ok (.if_icmp .ge 114, 3) := by decide +kernel
theorem dX3_readTown_49 : decode cX3_readTown 49 = .ok (.aload_n 0, 1) := by decide +kernel
theorem dX3_readTown_50 : decode cX3_readTown 50 = .ok (.getfield 31, 3) := by decide +kernel
theorem dX3_readTown_53 : decode cX3_readTown 53 = .ok (.ifCond .ne 107, 3) := by decide +kernel
theorem dX3_readTown_56 : decode cX3_readTown 56 = .ok (.aload_n 0, 1) := by decide +kernel
theorem dX3_readTown_57 : decode cX3_readTown 57 = .ok (.invokevirtual 42, 3) := by decide +kernel
theorem dX3_readTown_60 : decode cX3_readTown 60 = .ok (.aload_n 0, 1) := by decide +kernel
theorem dX3_readTown_61 : decode cX3_readTown 61 = .ok (.getfield 9, 3) := by decide +kernel
theorem dX3_readTown_64 : decode cX3_readTown 64 = .ok (.ldc 45, 2) := by decide +kernel
theorem dX3_readTown_66 : decode cX3_readTown 66 = .ok (.aload_n 0, 1) := by decide +kernel
theorem dX3_readTown_67 : decode cX3_readTown 67 = .ok (.getfield 47, 3) := by decide +kernel
theorem dX3_readTown_70 : decode cX3_readTown 70 = .ok (.aload_n 0, 1) := by decide +kernel
theorem dX3_readTown_71 : decode cX3_readTown 71 = .ok (.getfield 28, 3) := by decide +kernel
theorem dX3_readTown_74 : decode cX3_readTown 74 = .ok (.invokevirtual 50, 3) := by decide +kernel
theorem dX3_readTown_77 : decode cX3_readTown 77 = .ok (.ifCond .eq 10, 3) := by decide +kernel
theorem dX3_readTown_80 : decode cX3_readTown 80 = .ok (.aload_n 0, 1) := by decide +kernel
theorem dX3_readTown_81 : decode cX3_readTown 81 = .ok (.invokevirtual 54, 3) := by decide +kernel
theorem dX3_readTown_84 : decode cX3_readTown 84 = .ok (.goto 66, 3) := by decide +kernel
theorem dX3_readTown_87 : decode cX3_readTown 87 = .ok (.aload_n 0, 1) := by decide +kernel
theorem dX3_readTown_88 : decode cX3_readTown 88 = .ok (.getfield 9, 3) := by decide +kernel
theorem dX3_readTown_91 : decode cX3_readTown 91 = .ok (.ldc 57, 2) := by decide +kernel
theorem dX3_readTown_93 : decode cX3_readTown 93 = .ok (.aload_n 0, 1) := by decide +kernel
theorem dX3_readTown_94 : decode cX3_readTown 94 = .ok (.getfield 47, 3) := by decide +kernel
theorem dX3_readTown_97 : decode cX3_readTown 97 = .ok (.aload_n 0, 1) := by decide +kernel
theorem dX3_readTown_98 : decode cX3_readTown 98 = .ok (.getfield 28, 3) := by decide +kernel
theorem dX3_readTown_101 : decode cX3_readTown 101 = .ok (.invokevirtual 50, 3) := by decide +kernel
theorem dX3_readTown_104 : decode cX3_readTown 104 = .ok (.ifCond .eq 10, 3) := by decide +kernel
theorem dX3_readTown_107 : decode cX3_readTown 107 = .ok (.aload_n 0, 1) := by decide +kernel
theorem dX3_readTown_108 : decode cX3_readTown 108 = .ok (.invokevirtual 59, 3) := by decide +kernel
theorem dX3_readTown_111 : decode cX3_readTown 111 = .ok (.goto 39, 3) := by decide +kernel
theorem dX3_readTown_114 : decode cX3_readTown 114 = .ok (.aload_n 0, 1) := by decide +kernel
theorem dX3_readTown_115 : decode cX3_readTown 115 = .ok (.getfield 9, 3) := by decide +kernel
theorem dX3_readTown_118 : decode cX3_readTown 118 = .ok (.ldc 62, 2) := by decide +kernel
theorem dX3_readTown_120 : decode cX3_readTown 120 = .ok (.aload_n 0, 1) := by decide +kernel
theorem dX3_readTown_121 : decode cX3_readTown 121 = .ok (.getfield 47, 3) := by decide +kernel
theorem dX3_readTown_124 : decode cX3_readTown 124 = .ok (.aload_n 0, 1) := by decide +kernel
theorem dX3_readTown_125 : decode cX3_readTown 125 = .ok (.getfield 28, 3) := by decide +kernel
theorem dX3_readTown_128 : decode cX3_readTown 128 = .ok (.invokevirtual 50, 3) := by decide +kernel
theorem dX3_readTown_131 : decode cX3_readTown 131 = .ok (.ifCond .eq 10, 3) := by decide +kernel
theorem dX3_readTown_134 : decode cX3_readTown 134 = .ok (.aload_n 0, 1) := by decide +kernel
theorem dX3_readTown_135 : decode cX3_readTown 135 = .ok (.invokevirtual 64, 3) := by decide +kernel
theorem dX3_readTown_138 : decode cX3_readTown 138 = .ok (.goto 12, 3) := by decide +kernel
theorem dX3_readTown_141 : decode cX3_readTown 141 = .ok (.aload_n 0, 1) := by decide +kernel
theorem dX3_readTown_142 : decode cX3_readTown 142 = .ok (.iconst 1, 1) := by decide +kernel
theorem dX3_readTown_143 : decode cX3_readTown 143 = .ok (.aload_n 0, 1) := by decide +kernel
theorem dX3_readTown_144 : decode cX3_readTown 144 = .ok (.getfield 47, 3) := by decide +kernel
theorem dX3_readTown_147 : decode cX3_readTown 147 = .ok (.invokevirtual 67, 3) := by decide +kernel
theorem dX3_readTown_150 : decode cX3_readTown 150 = .ok (.aload_n 0, 1) := by decide +kernel
theorem dX3_readTown_151 : decode cX3_readTown 151 = .ok (.invokevirtual 34, 3) := by decide +kernel
theorem dX3_readTown_154 : decode cX3_readTown 154 = .ok (.iinc 1 1, 3) := by decide +kernel
theorem dX3_readTown_157 : decode cX3_readTown 157 = .ok (.goto (-129), 3) := by decide +kernel
theorem dX3_readTown_160 : decode cX3_readTown 160 = .ok (.aload_n 0, 1) := by decide +kernel
theorem dX3_readTown_161 : decode cX3_readTown 161 = .ok (.getfield 31, 3) := by decide +kernel
theorem dX3_readTown_164 : decode cX3_readTown 164 = .ok (.ireturn, 1) := by decide +kernel
theorem dX3_readPart_0 : decode cX3_readPart 0 = .ok (.aload_n 0, 1) := by decide +kernel
theorem dX3_readPart_1 : decode cX3_readPart 1 = .ok (.getfield 15, 3) := by decide +kernel
theorem dX3_readPart_4 : decode cX3_readPart 4 = .ok (.getfield 71, 3) := by decide +kernel
theorem dX3_readPart_7 : decode cX3_readPart 7 = .ok (.bipush 10, 2) := by decide +kernel
theorem dX3_readPart_9 : decode cX3_readPart 9 = .ok (.if_icmp .lt 12, 3) := by decide +kernel
theorem dX3_readPart_12 : decode cX3_readPart 12 = .ok (.aload_n 0, 1) := by decide +kernel
theorem dX3_readPart_13 : decode cX3_readPart 13 = .ok (.iconst 3, 1) := by decide +kernel
theorem dX3_readPart_14 : decode cX3_readPart 14 = .ok (.aload_n 0, 1) := by decide +kernel
theorem dX3_readPart_15 : decode cX3_readPart 15 = .ok (.getfield 47, 3) := by decide +kernel
theorem dX3_readPart_18 : decode cX3_readPart 18 = .ok (.invokevirtual 67, 3) := by decide +kernel
theorem dX3_readPart_21 : decode cX3_readPart 21 = .ok (.aload_n 0, 1) := by decide +kernel
theorem dX3_readPart_22 : decode cX3_readPart 22 = .ok (.invokevirtual 74, 3) := by decide +kernel
theorem dX3_readPart_25 : decode cX3_readPart 25 = .ok (.istore_n 1, 1) := by decide +kernel
theorem dX3_readPart_26 : decode cX3_readPart 26 = .ok (.aload_n 0, 1) := by decide +kernel
theorem dX3_readPart_27 : decode cX3_readPart 27 = .ok (.iconst 3, 1) := by decide +kernel
theorem dX3_readPart_28 : decode cX3_readPart 28 = .ok (.invokevirtual 78, 3) := by decide +kernel
theorem dX3_readPart_31 : decode cX3_readPart 31 = .ok (.istore_n 2, 1) := by decide +kernel
theorem dX3_readPart_32 : decode cX3_readPart 32 = .ok (.aload_n 0, 1) := by decide +kernel
theorem dX3_readPart_33 : decode cX3_readPart 33 = .ok (.bipush 9, 2) := by decide +kernel
theorem dX3_readPart_35 : decode cX3_readPart 35 = .ok (.invokevirtual 78, 3) := by decide +kernel
theorem dX3_readPart_38 : decode cX3_readPart 38 = .ok (.istore_n 3, 1) := by decide +kernel
theorem dX3_readPart_39 : decode cX3_readPart 39 = .ok (.aload_n 0, 1) := by decide +kernel
theorem dX3_readPart_40 : decode cX3_readPart 40 = .ok (.bipush 99, 2) := by decide +kernel
theorem dX3_readPart_42 : decode cX3_readPart 42 = .ok (.invokevirtual 78, 3) := by decide +kernel
theorem dX3_readPart_45 : decode cX3_readPart 45 = .ok (.istore 4, 2) := by decide +kernel
theorem dX3_readPart_47 : decode cX3_readPart 47 = .ok (.aload_n 0, 1) := by decide +kernel
theorem dX3_readPart_48 : decode cX3_readPart 48 = .ok (.bipush 11, 2) := by decide +kernel
theorem dX3_readPart_50 : decode cX3_readPart 50 = .ok (.invokevirtual 78, 3) := by decide +kernel
theorem dX3_readPart_53 : decode cX3_readPart 53 = .ok (.istore 5, 2) := by decide +kernel
theorem dX3_readPart_55 : decode cX3_readPart 55 = .ok (.aload_n 0, 1) := by decide +kernel
theorem dX3_readPart_56 : decode cX3_readPart 56 = .ok (.bipush 11, 2) := by decide +kernel
theorem dX3_readPart_58 : decode cX3_readPart 58 = .ok (.invokevirtual 78, 3) := by decide +kernel
theorem dX3_readPart_61 : decode cX3_readPart 61 = .ok (.istore 6, 2) := by decide +kernel
theorem dX3_readPart_63 : decode cX3_readPart 63 = .ok (.iload 6, 2) := by decide +kernel
theorem dX3_readPart_65 : decode cX3_readPart 65 = .ok (.iload 5, 2) := by decide +kernel
theorem dX3_readPart_67 : decode cX3_readPart 67 = .ok (.if_icmp .ge 12, 3) := by decide +kernel
theorem dX3_readPart_70 : decode cX3_readPart 70 = .ok (.aload_n 0, 1) := by decide +kernel
theorem dX3_readPart_71 : decode cX3_readPart 71 = .ok (.iconst 4, 1) := by decide +kernel
theorem dX3_readPart_72 : decode cX3_readPart 72 = .ok (.aload_n 0, 1) := by decide +kernel
theorem dX3_readPart_73 : decode cX3_readPart 73 = .ok (.getfield 47, 3) := by decide +kernel
theorem dX3_readPart_76 : decode cX3_readPart 76 = .ok (.invokevirtual 67, 3) := by decide +kernel
theorem dX3_readPart_79 : decode cX3_readPart 79 = .ok (.aload_n 0, 1) := by decide +kernel
theorem dX3_readPart_80 : decode cX3_readPart 80 = .ok (.invokevirtual 82, 3) := by decide +kernel
theorem dX3_readPart_83 : decode cX3_readPart 83 = .ok (.aload_n 0, 1) := by decide +kernel
theorem dX3_readPart_84 : decode cX3_readPart 84 = .ok (.getfield 31, 3) := by decide +kernel
theorem dX3_readPart_87 : decode cX3_readPart 87 = .ok (.ifCond .ne 26, 3) := by decide +kernel
theorem dX3_readPart_90 : decode cX3_readPart 90 = .ok (.aload_n 0, 1) := by decide +kernel
theorem dX3_readPart_91 : decode cX3_readPart 91 = .ok (.getfield 15, 3) := by decide +kernel
theorem dX3_readPart_94 : decode cX3_readPart 94 = .ok (.iload_n 1, 1) := by decide +kernel
theorem dX3_readPart_95 : decode cX3_readPart 95 = .ok (.iload_n 2, 1) := by decide +kernel
theorem dX3_readPart_96 : decode cX3_readPart 96 = .ok (.iload_n 3, 1) := by decide +kernel
theorem dX3_readPart_97 : decode cX3_readPart 97 = .ok (.iload 4, 2) := by decide +kernel
theorem dX3_readPart_99 : decode cX3_readPart 99 = .ok (.invokevirtual 85, 3) := by decide +kernel
theorem dX3_readPart_102 : decode cX3_readPart 102 = .ok (.aload_n 0, 1) := by decide +kernel
theorem dX3_readPart_103 : decode cX3_readPart 103 = .ok (.getfield 15, 3) := by decide +kernel
theorem dX3_readPart_106 : decode cX3_readPart 106 = .ok (.iload 5, 2) := by decide +kernel
theorem dX3_readPart_108 : decode cX3_readPart 108 = .ok (.iload 6, 2) := by decide +kernel
theorem dX3_readPart_110 : decode cX3_readPart 110 = .ok (.invokevirtual 89, 3) := by decide +kernel
theorem dX3_readPart_113 : decode cX3_readPart 113 = .ok (.return_, 1) := by decide +kernel
theorem dX3_readClash_0 : decode cX3_readClash 0 = .ok (.aload_n 0, 1) := by decide +kernel
theorem dX3_readClash_1 : decode cX3_readClash 1 = .ok (.getfield 15, 3) := by decide +kernel
theorem dX3_readClash_4 : decode cX3_readClash 4 = .ok (.getfield 92, 3) := by decide +kernel
theorem dX3_readClash_7 : decode cX3_readClash 7 = .ok (.bipush 15, 2) := by decide +kernel
theorem dX3_readClash_9 : decode cX3_readClash 9 = .ok (.if_icmp .lt 12, 3) := by decide +kernel
theorem dX3_readClash_12 : decode cX3_readClash 12 = .ok (.aload_n 0, 1) := by decide +kernel
theorem dX3_readClash_13 : decode cX3_readClash 13 = .ok (.iconst 3, 1) := by decide +kernel
theorem dX3_readClash_14 : decode cX3_readClash 14 = .ok (.aload_n 0, 1) := by decide +kernel
theorem dX3_readClash_15 : decode cX3_readClash 15 = .ok (.getfield 47, 3) := by decide +kernel
theorem dX3_readClash_18 : decode cX3_readClash 18 = .ok (.invokevirtual 67, 3) := by decide +kernel
theorem dX3_readClash_21 : decode cX3_readClash 21 = .ok (.aload_n 0, 1) := by decide +kernel
theorem dX3_readClash_22 : decode cX3_readClash 22 = .ok (.aload_n 0, 1) := by decide +kernel
theorem dX3_readClash_23 : decode cX3_readClash 23 = .ok (.getfield 15, 3) := by decide +kernel
theorem dX3_readClash_26 : decode cX3_readClash 26 = .ok (.getfield 71, 3) := by decide +kernel
theorem dX3_readClash_29 : decode cX3_readClash 29 = .ok (.iconst 1, 1) := by decide +kernel
theorem dX3_readClash_30 : decode cX3_readClash 30 = .ok (.isub, 1) := by decide +kernel
theorem dX3_readClash_31 : decode cX3_readClash 31 = .ok (.invokevirtual 78, 3) := by decide +kernel
theorem dX3_readClash_34 : decode cX3_readClash 34 = .ok (.istore_n 1, 1) := by decide +kernel
theorem dX3_readClash_35 : decode cX3_readClash 35 = .ok (.aload_n 0, 1) := by decide +kernel
theorem dX3_readClash_36 : decode cX3_readClash 36 = .ok (.aload_n 0, 1) := by decide +kernel
theorem dX3_readClash_37 : decode cX3_readClash 37 = .ok (.getfield 15, 3) := by decide +kernel
theorem dX3_readClash_40 : decode cX3_readClash 40 = .ok (.getfield 71, 3) := by decide +kernel
theorem dX3_readClash_43 : decode cX3_readClash 43 = .ok (.iconst 1, 1) := by decide +kernel
theorem dX3_readClash_44 : decode cX3_readClash 44 = .ok (.isub, 1) := by decide +kernel
theorem dX3_readClash_45 : decode cX3_readClash 45 = .ok (.invokevirtual 78, 3) := by decide +kernel
theorem dX3_readClash_48 : decode cX3_readClash 48 = .ok (.istore_n 2, 1) := by decide +kernel
theorem dX3_readClash_49 : decode cX3_readClash 49 = .ok (.iload_n 1, 1) := by decide +kernel
theorem dX3_readClash_50 : decode cX3_readClash 50 = .ok (.iload_n 2, 1) := by decide +kernel
theorem dX3_readClash_51 : decode cX3_readClash 51 = .ok (.if_icmp .eq 15, 3) := by decide +kernel
theorem dX3_readClash_54 : decode cX3_readClash 54 = .ok (.aload_n 0, 1) := by decide +kernel
theorem dX3_readClash_55 : decode cX3_readClash 55 = .ok (.getfield 15, 3) := by decide +kernel
theorem dX3_readClash_58 : decode cX3_readClash 58 = .ok (.iload_n 1, 1) := by decide +kernel
theorem dX3_readClash_59 : decode cX3_readClash 59 = .ok (.iload_n 2, 1) := by decide +kernel
theorem dX3_readClash_60 : decode cX3_readClash 60 = .ok (.invokevirtual 95, 3) := by decide +kernel
theorem dX3_readClash_63 : decode cX3_readClash 63 = .ok (.ifCond .eq 12, 3) := by decide +kernel
theorem dX3_readClash_66 : decode cX3_readClash 66 = .ok (.aload_n 0, 1) := by decide +kernel
theorem dX3_readClash_67 : decode cX3_readClash 67 = .ok (.iconst 4, 1) := by decide +kernel
theorem dX3_readClash_68 : decode cX3_readClash 68 = .ok (.aload_n 0, 1) := by decide +kernel
theorem dX3_readClash_69 : decode cX3_readClash 69 = .ok (.getfield 47, 3) := by decide +kernel
theorem dX3_readClash_72 : decode cX3_readClash 72 = .ok (.invokevirtual 67, 3) := by decide +kernel
theorem dX3_readClash_75 : decode cX3_readClash 75 = .ok (.aload_n 0, 1) := by decide +kernel
theorem dX3_readClash_76 : decode cX3_readClash 76 = .ok (.invokevirtual 82, 3) := by decide +kernel
theorem dX3_readClash_79 : decode cX3_readClash 79 = .ok (.aload_n 0, 1) := by decide +kernel
theorem dX3_readClash_80 : decode cX3_readClash 80 = .ok (.getfield 31, 3) := by decide +kernel
theorem dX3_readClash_83 : decode cX3_readClash 83 = .ok (.ifCond .ne 12, 3) := by decide +kernel
theorem dX3_readClash_86 : decode cX3_readClash 86 = .ok (.aload_n 0, 1) := by decide +kernel
theorem dX3_readClash_87 : decode cX3_readClash 87 = .ok (.getfield 15, 3) := by decide +kernel
theorem dX3_readClash_90 : decode cX3_readClash 90 = .ok (.iload_n 1, 1) := by decide +kernel
theorem dX3_readClash_91 : decode cX3_readClash 91 = .ok (.iload_n 2, 1) := by decide +kernel
theorem dX3_readClash_92 : decode cX3_readClash 92 = .ok (.invokevirtual 99, 3) := by decide +kernel
theorem dX3_readClash_95 : decode cX3_readClash 95 = .ok (.return_, 1) := by decide +kernel
theorem dX3_readScene_0 : decode cX3_readScene 0 = .ok (.aload_n 0, 1) := by decide +kernel
theorem dX3_readScene_1 : decode cX3_readScene 1 = .ok (.getfield 15, 3) := by decide +kernel
theorem dX3_readScene_4 : decode cX3_readScene 4 = .ok (.getfield 102, 3) := by decide +kernel
theorem dX3_readScene_7 : decode cX3_readScene 7 = .ok (.bipush 8, 2) := by decide +kernel
theorem dX3_readScene_9 : decode cX3_readScene 9 = .ok (.if_icmp .lt 12, 3) := by decide +kernel
theorem dX3_readScene_12 : decode cX3_readScene 12 = .ok (.aload_n 0, 1) := by decide +kernel
theorem dX3_readScene_13 : decode cX3_readScene 13 = .ok (.iconst 3, 1) := by decide +kernel
theorem dX3_readScene_14 : decode cX3_readScene 14 = .ok (.aload_n 0, 1) := by decide +kernel
theorem dX3_readScene_15 : decode cX3_readScene 15 = .ok (.getfield 47, 3) := by decide +kernel
theorem dX3_readScene_18 : decode cX3_readScene 18 = .ok (.invokevirtual 67, 3) := by decide +kernel
theorem dX3_readScene_21 : decode cX3_readScene 21 = .ok (.aload_n 0, 1) := by decide +kernel
theorem dX3_readScene_22 : decode cX3_readScene 22 = .ok (.bipush 11, 2) := by decide +kernel
theorem dX3_readScene_24 : decode cX3_readScene 24 = .ok (.invokevirtual 78, 3) := by decide +kernel
theorem dX3_readScene_27 : decode cX3_readScene 27 = .ok (.istore_n 1, 1) := by decide +kernel
theorem dX3_readScene_28 : decode cX3_readScene 28 = .ok (.aload_n 0, 1) := by decide +kernel
theorem dX3_readScene_29 : decode cX3_readScene 29 = .ok (.bipush 27, 2) := by decide +kernel
theorem dX3_readScene_31 : decode cX3_readScene 31 = .ok (.invokevirtual 78, 3) := by decide +kernel
theorem dX3_readScene_34 : decode cX3_readScene 34 = .ok (.istore_n 2, 1) := by decide +kernel
theorem dX3_readScene_35 : decode cX3_readScene 35 = .ok (.aload_n 0, 1) := by decide +kernel
theorem dX3_readScene_36 : decode cX3_readScene 36 = .ok (.bipush 27, 2) := by decide +kernel
theorem dX3_readScene_38 : decode cX3_readScene 38 = .ok (.invokevirtual 78, 3) := by decide +kernel
theorem dX3_readScene_41 : decode cX3_readScene 41 = .ok (.istore_n 3, 1) := by decide +kernel
theorem dX3_readScene_42 : decode cX3_readScene 42 = .ok (.iload_n 3, 1) := by decide +kernel
theorem dX3_readScene_43 : decode cX3_readScene 43 = .ok (.iload_n 2, 1) := by decide +kernel
theorem dX3_readScene_44 : decode cX3_readScene 44 = .ok (.if_icmp .ge 12, 3) := by decide +kernel
theorem dX3_readScene_47 : decode cX3_readScene 47 = .ok (.aload_n 0, 1) := by decide +kernel
theorem dX3_readScene_48 : decode cX3_readScene 48 = .ok (.iconst 4, 1) := by decide +kernel
theorem dX3_readScene_49 : decode cX3_readScene 49 = .ok (.aload_n 0, 1) := by decide +kernel
theorem dX3_readScene_50 : decode cX3_readScene 50 = .ok (.getfield 47, 3) := by decide +kernel
theorem dX3_readScene_53 : decode cX3_readScene 53 = .ok (.invokevirtual 67, 3) := by decide +kernel
theorem dX3_readScene_56 : decode cX3_readScene 56 = .ok (.aload_n 0, 1) := by decide +kernel
theorem dX3_readScene_57 : decode cX3_readScene 57 = .ok (.invokevirtual 82, 3) := by decide +kernel
theorem dX3_readScene_60 : decode cX3_readScene 60 = .ok (.aload_n 0, 1) := by decide +kernel
theorem dX3_readScene_61 : decode cX3_readScene 61 = .ok (.getfield 31, 3) := by decide +kernel
theorem dX3_readScene_64 : decode cX3_readScene 64 = .ok (.ifCond .ne 13, 3) := by decide +kernel
theorem dX3_readScene_67 : decode cX3_readScene 67 = .ok (.aload_n 0, 1) := by decide +kernel
theorem dX3_readScene_68 : decode cX3_readScene 68 = .ok (.getfield 15, 3) := by decide +kernel
theorem dX3_readScene_71 : decode cX3_readScene 71 = .ok (.iload_n 1, 1) := by decide +kernel
theorem dX3_readScene_72 : decode cX3_readScene 72 = .ok (.iload_n 2, 1) := by decide +kernel
theorem dX3_readScene_73 : decode cX3_readScene 73 = .ok (.iload_n 3, 1) := by decide +kernel
theorem dX3_readScene_74 : decode cX3_readScene 74 = .ok (.invokevirtual 105, 3) := by decide +kernel
theorem dX3_readScene_77 : decode cX3_readScene 77 = .ok (.return_, 1) := by decide +kernel
theorem dX3_readWord_0 : decode cX3_readWord 0 = .ok (.aload_n 0, 1) := by decide +kernel
theorem dX3_readWord_1 : decode cX3_readWord 1 = .ok (.invokevirtual 34, 3) := by decide +kernel
theorem dX3_readWord_4 : decode cX3_readWord 4 = .ok (.aload_n 0, 1) := by decide +kernel
theorem dX3_readWord_5 : decode cX3_readWord 5 = .ok (.aload_n 0, 1) := by decide +kernel
theorem dX3_readWord_6 : decode cX3_readWord 6 = .ok (.getfield 28, 3) := by decide +kernel
theorem dX3_readWord_9 : decode cX3_readWord 9 = .ok (.putfield 47, 3) := by decide +kernel
theorem dX3_readWord_12 : decode cX3_readWord 12 = .ok (.aload_n 0, 1) := by decide +kernel
theorem dX3_readWord_13 : decode cX3_readWord 13 = .ok (.getfield 28, 3) := by decide +kernel
theorem dX3_readWord_16 : decode cX3_readWord 16 = .ok (.aload_n 0, 1) := by decide +kernel
theorem dX3_readWord_17 : decode cX3_readWord 17 = .ok (.getfield 9, 3) := by decide +kernel
theorem dX3_readWord_20 : decode cX3_readWord 20 = .ok (.getfield 37, 3) := by decide +kernel
theorem dX3_readWord_23 : decode cX3_readWord 23 = .ok (.if_icmp .ge 30, 3) := by decide +kernel
theorem dX3_readWord_26 : decode cX3_readWord 26 = .ok (.aload_n 0, 1) := by decide +kernel
theorem dX3_readWord_27 : decode cX3_readWord 27 = .ok (.getfield 9, 3) := by decide +kernel
theorem dX3_readWord_30 : decode cX3_readWord 30 = .ok (.aload_n 0, 1) := by decide +kernel
theorem dX3_readWord_31 : decode cX3_readWord 31 = .ok (.getfield 28, 3) := by decide +kernel
theorem dX3_readWord_34 : decode cX3_readWord 34 = .ok (.invokevirtual 109, 3) := by decide +kernel
theorem dX3_readWord_37 : decode cX3_readWord 37 = .ok (.ifCond .eq 16, 3) := by decide +kernel
theorem dX3_readWord_40 : decode cX3_readWord 40 = .ok (.aload_n 0, 1) := by decide +kernel
theorem dX3_readWord_41 : decode cX3_readWord 41 = .ok (.dup, 1) := by decide +kernel
theorem dX3_readWord_42 : decode cX3_readWord 42 = .ok (.getfield 28, 3) := by decide +kernel
theorem dX3_readWord_45 : decode cX3_readWord 45 = .ok (.iconst 1, 1) := by decide +kernel
theorem dX3_readWord_46 : decode cX3_readWord 46 = .ok (.iadd, 1) := by decide +kernel
theorem dX3_readWord_47 : decode cX3_readWord 47 = .ok (.putfield 28, 3) := by decide +kernel
theorem dX3_readWord_50 : decode cX3_readWord 50 = .ok (.goto (-38), 3) := by decide +kernel
theorem dX3_readWord_53 : decode cX3_readWord 53 = .ok (.return_, 1) := by decide +kernel
theorem dX3_readKind_0 : decode cX3_readKind 0 = .ok (.aload_n 0, 1) := by decide +kernel
theorem dX3_readKind_1 : decode cX3_readKind 1 = .ok (.getfield 31, 3) := by decide +kernel
theorem dX3_readKind_4 : decode cX3_readKind 4 = .ok (.ifCond .eq 5, 3) := by decide +kernel
theorem dX3_readKind_7 : decode cX3_readKind 7 = .ok (.iconst 0, 1) := by decide +kernel
theorem dX3_readKind_8 : decode cX3_readKind 8 = .ok (.ireturn, 1) := by decide +kernel
theorem dX3_readKind_9 : decode cX3_readKind 9 = .ok (.aload_n 0, 1) := by decide +kernel
theorem dX3_readKind_10 : decode cX3_readKind 10 = .ok (.invokevirtual 42, 3) := by decide +kernel
theorem dX3_readKind_13 : decode cX3_readKind 13 = .ok (.aload_n 0, 1) := by decide +kernel
theorem dX3_readKind_14 : decode cX3_readKind 14 = .ok (.getfield 9, 3) := by decide +kernel
theorem dX3_readKind_17 : decode cX3_readKind 17 = .ok (.ldc 113, 2) := by decide +kernel
theorem dX3_readKind_19 : decode cX3_readKind 19 = .ok (.aload_n 0, 1) := by decide +kernel
theorem dX3_readKind_20 : decode cX3_readKind 20 = .ok (.getfield 47, 3) := by decide +kernel
theorem dX3_readKind_23 : decode cX3_readKind 23 = .ok (.aload_n 0, 1) := by decide +kernel
theorem dX3_readKind_24 : decode cX3_readKind 24 = .ok (.getfield 28, 3) := by decide +kernel
theorem dX3_readKind_27 : decode cX3_readKind 27 = .ok (.invokevirtual 50, 3) := by decide +kernel
theorem dX3_readKind_30 : decode cX3_readKind 30 = .ok (.ifCond .eq 5, 3) := by decide +kernel
theorem dX3_readKind_33 : decode cX3_readKind 33 = .ok (.iconst 0, 1) := by decide +kernel
theorem dX3_readKind_34 : decode cX3_readKind 34 = .ok (.ireturn, 1) := by decide +kernel
theorem dX3_readKind_35 : decode cX3_readKind 35 = .ok (.aload_n 0, 1) := by decide +kernel
theorem dX3_readKind_36 : decode cX3_readKind 36 = .ok (.getfield 9, 3) := by decide +kernel
theorem dX3_readKind_39 : decode cX3_readKind 39 = .ok (.ldc 115, 2) := by decide +kernel
theorem dX3_readKind_41 : decode cX3_readKind 41 = .ok (.aload_n 0, 1) := by decide +kernel
theorem dX3_readKind_42 : decode cX3_readKind 42 = .ok (.getfield 47, 3) := by decide +kernel
theorem dX3_readKind_45 : decode cX3_readKind 45 = .ok (.aload_n 0, 1) := by decide +kernel
theorem dX3_readKind_46 : decode cX3_readKind 46 = .ok (.getfield 28, 3) := by decide +kernel
theorem dX3_readKind_49 : decode cX3_readKind 49 = .ok (.invokevirtual 50, 3) := by decide +kernel
theorem dX3_readKind_52 : decode cX3_readKind 52 = .ok (.ifCond .eq 5, 3) := by decide +kernel
theorem dX3_readKind_55 : decode cX3_readKind 55 = .ok (.iconst 1, 1) := by decide +kernel
theorem dX3_readKind_56 : decode cX3_readKind 56 = .ok (.ireturn, 1) := by decide +kernel
theorem dX3_readKind_57 : decode cX3_readKind 57 = .ok (.aload_n 0, 1) := by decide +kernel
theorem dX3_readKind_58 : decode cX3_readKind 58 = .ok (.getfield 9, 3) := by decide +kernel
theorem dX3_readKind_61 : decode cX3_readKind 61 = .ok (.ldc 117, 2) := by decide +kernel
theorem dX3_readKind_63 : decode cX3_readKind 63 = .ok (.aload_n 0, 1) := by decide +kernel
theorem dX3_readKind_64 : decode cX3_readKind 64 = .ok (.getfield 47, 3) := by decide +kernel
theorem dX3_readKind_67 : decode cX3_readKind 67 = .ok (.aload_n 0, 1) := by decide +kernel
theorem dX3_readKind_68 : decode cX3_readKind 68 = .ok (.getfield 28, 3) := by decide +kernel
theorem dX3_readKind_71 : decode cX3_readKind 71 = .ok (.invokevirtual 50, 3) := by decide +kernel
theorem dX3_readKind_74 : decode cX3_readKind 74 = .ok (.ifCond .eq 5, 3) := by decide +kernel
theorem dX3_readKind_77 : decode cX3_readKind 77 = .ok (.iconst 2, 1) := by decide +kernel
theorem dX3_readKind_78 : decode cX3_readKind 78 = .ok (.ireturn, 1) := by decide +kernel
theorem dX3_readKind_79 : decode cX3_readKind 79 = .ok (.aload_n 0, 1) := by decide +kernel
theorem dX3_readKind_80 : decode cX3_readKind 80 = .ok (.iconst 1, 1) := by decide +kernel
theorem dX3_readKind_81 : decode cX3_readKind 81 = .ok (.aload_n 0, 1) := by decide +kernel
theorem dX3_readKind_82 : decode cX3_readKind 82 = .ok (.getfield 47, 3) := by decide +kernel
theorem dX3_readKind_85 : decode cX3_readKind 85 = .ok (.invokevirtual 67, 3) := by decide +kernel
theorem dX3_readKind_88 : decode cX3_readKind 88 = .ok (.iconst 0, 1) := by decide +kernel
theorem dX3_readKind_89 : decode cX3_readKind 89 = .ok (.ireturn, 1) := by decide +kernel
theorem dX3_readNumber_0 : decode cX3_readNumber 0 = .ok (.aload_n 0, 1) := by decide +kernel
theorem dX3_readNumber_1 : decode cX3_readNumber 1 = .ok (.getfield 31, 3) := by decide +kernel
theorem dX3_readNumber_4 : decode cX3_readNumber 4 = .ok (.ifCond .eq 5, 3) := by decide +kernel
theorem dX3_readNumber_7 : decode cX3_readNumber 7 = .ok (.iconst 0, 1) := by decide +kernel
theorem dX3_readNumber_8 : decode cX3_readNumber 8 = .ok (.ireturn, 1) := by decide +kernel
theorem dX3_readNumber_9 : decode cX3_readNumber 9 = .ok (.aload_n 0, 1) := by decide +kernel
theorem dX3_readNumber_10 : decode cX3_readNumber 10 = .ok (.invokevirtual 34, 3) := by decide +kernel
theorem dX3_readNumber_13 : decode cX3_readNumber 13 = .ok (.aload_n 0, 1) := by decide +kernel
theorem dX3_readNumber_14 : decode cX3_readNumber 14 = .ok (.aload_n 0, 1) := by decide +kernel
theorem dX3_readNumber_15 : decode cX3_readNumber 15 = .ok (.getfield 28, 3) := by decide +kernel
theorem dX3_readNumber_18 : decode cX3_readNumber 18 = .ok (.putfield 47, 3) := by decide +kernel
theorem dX3_readNumber_21 : decode cX3_readNumber 21 = .ok (.iconst 0, 1) := by decide +kernel
theorem dX3_readNumber_22 : decode cX3_readNumber 22 = .ok (.istore_n 2, 1) := by decide +kernel
theorem dX3_readNumber_23 : decode cX3_readNumber 23 = .ok (.aload_n 0, 1) := by decide +kernel
theorem dX3_readNumber_24 : decode cX3_readNumber 24 = .ok (.getfield 28, 3) := by decide +kernel
theorem dX3_readNumber_27 : decode cX3_readNumber 27 = .ok (.aload_n 0, 1) := by decide +kernel
theorem dX3_readNumber_28 : decode cX3_readNumber 28 = .ok (.getfield 9, 3) := by decide +kernel
theorem dX3_readNumber_31 : decode cX3_readNumber 31 = .ok (.getfield 37, 3) := by decide +kernel
theorem dX3_readNumber_34 : decode cX3_readNumber 34 = .ok (.if_icmp .ge 63, 3) := by decide +kernel
theorem dX3_readNumber_37 : decode cX3_readNumber 37 = .ok (.aload_n 0, 1) := by decide +kernel
theorem dX3_readNumber_38 : decode cX3_readNumber 38 = .ok (.getfield 9, 3) := by decide +kernel
theorem dX3_readNumber_41 : decode cX3_readNumber 41 = .ok (.aload_n 0, 1) := by decide +kernel
theorem dX3_readNumber_42 : decode cX3_readNumber 42 = .ok (.getfield 28, 3) := by decide +kernel
theorem dX3_readNumber_45 : decode cX3_readNumber 45 = .ok (.invokevirtual 119, 3) := by decide +kernel
theorem dX3_readNumber_48 : decode cX3_readNumber 48 = .ok (.ifCond .eq 49, 3) := by decide +kernel
theorem dX3_readNumber_51 : decode cX3_readNumber 51 = .ok (.aload_n 0, 1) := by decide +kernel
theorem dX3_readNumber_52 : decode cX3_readNumber 52 = .ok (.getfield 28, 3) := by decide +kernel
theorem dX3_readNumber_55 : decode cX3_readNumber 55 = .ok (.aload_n 0, 1) := by decide +kernel
theorem dX3_readNumber_56 : decode cX3_readNumber 56 = .ok (.getfield 47, 3) := by decide +kernel
theorem dX3_readNumber_59 : decode cX3_readNumber 59 = .ok (.isub, 1) := by decide +kernel
theorem dX3_readNumber_60 : decode cX3_readNumber 60 = .ok (.iconst 3, 1) := by decide +kernel
theorem dX3_readNumber_61 : decode cX3_readNumber 61 = .ok (.if_icmp .ge 23, 3) := by decide +kernel
theorem dX3_readNumber_64 : decode cX3_readNumber 64 = .ok (.iload_n 2, 1) := by decide +kernel
theorem dX3_readNumber_65 : decode cX3_readNumber 65 = .ok (.bipush 10, 2) := by decide +kernel
theorem dX3_readNumber_67 : decode cX3_readNumber 67 = .ok (.imul, 1) := by decide +kernel
theorem dX3_readNumber_68 : decode cX3_readNumber 68 = .ok (.aload_n 0, 1) := by decide +kernel
theorem dX3_readNumber_69 : decode cX3_readNumber 69 = .ok (.getfield 9, 3) := by decide +kernel
theorem dX3_readNumber_72 : decode cX3_readNumber 72 = .ok (.aload_n 0, 1) := by decide +kernel
theorem dX3_readNumber_73 : decode cX3_readNumber 73 = .ok (.getfield 28, 3) := by decide +kernel
theorem dX3_readNumber_76 : decode cX3_readNumber 76 = .ok (.invokevirtual 122, 3) := by decide +kernel
theorem dX3_readNumber_79 : decode cX3_readNumber 79 = .ok (.iadd, 1) := by decide +kernel
theorem dX3_readNumber_80 : decode cX3_readNumber 80 = .ok (.bipush 48, 2) := by decide +kernel
theorem dX3_readNumber_82 : decode cX3_readNumber 82 = .ok (.isub, 1) := by decide +kernel
theorem dX3_readNumber_83 : decode cX3_readNumber 83 = .ok (.istore_n 2, 1) := by decide +kernel
theorem dX3_readNumber_84 : decode cX3_readNumber 84 = .ok (.aload_n 0, 1) := by decide +kernel
theorem dX3_readNumber_85 : decode cX3_readNumber 85 = .ok (.dup, 1) := by decide +kernel
theorem dX3_readNumber_86 : decode cX3_readNumber 86 = .ok (.getfield 28, 3) := by decide +kernel
theorem dX3_readNumber_89 : decode cX3_readNumber 89 = .ok (.iconst 1, 1) := by decide +kernel
theorem dX3_readNumber_90 : decode cX3_readNumber 90 = .ok (.iadd, 1) := by decide +kernel
theorem dX3_readNumber_91 : decode cX3_readNumber 91 = .ok (.putfield 28, 3) := by decide +kernel
theorem dX3_readNumber_94 : decode cX3_readNumber 94 = .ok (.goto (-71), 3) := by decide +kernel
theorem dX3_readNumber_97 : decode cX3_readNumber 97 = .ok (.aload_n 0, 1) := by decide +kernel
theorem dX3_readNumber_98 : decode cX3_readNumber 98 = .ok (.getfield 28, 3) := by decide +kernel
theorem dX3_readNumber_101 : decode cX3_readNumber 101 = .ok (.aload_n 0, 1) := by decide +kernel
theorem dX3_readNumber_102 : decode cX3_readNumber 102 = .ok (.getfield 47, 3) := by decide +kernel
theorem dX3_readNumber_105 : decode cX3_readNumber 105 = .ok (.if_icmp .ne 15, 3) := by decide +kernel
theorem dX3_readNumber_108 : decode cX3_readNumber 108 = .ok (.aload_n 0, 1) := by decide +kernel
theorem dX3_readNumber_109 : decode cX3_readNumber 109 = .ok (.iconst 1, 1) := by decide +kernel
theorem dX3_readNumber_110 : decode cX3_readNumber 110 = .ok (.aload_n 0, 1) := by decide +kernel
theorem dX3_readNumber_111 : decode cX3_readNumber 111 = .ok (.getfield 47, 3) := by decide +kernel
theorem dX3_readNumber_114 : decode cX3_readNumber 114 = .ok (.invokevirtual 67, 3) := by decide +kernel
theorem dX3_readNumber_117 : decode cX3_readNumber 117 = .ok (.goto 30, 3) := by decide +kernel
theorem dX3_readNumber_120 : decode cX3_readNumber 120 = .ok (.aload_n 0, 1) := by decide +kernel
theorem dX3_readNumber_121 : decode cX3_readNumber 121 = .ok (.getfield 28, 3) := by decide +kernel
theorem dX3_readNumber_124 : decode cX3_readNumber 124 = .ok (.aload_n 0, 1) := by decide +kernel
theorem dX3_readNumber_125 : decode cX3_readNumber 125 = .ok (.getfield 47, 3) := by decide +kernel
theorem dX3_readNumber_128 : decode cX3_readNumber 128 = .ok (.isub, 1) := by decide +kernel
theorem dX3_readNumber_129 : decode cX3_readNumber 129 = .ok (.iconst 3, 1) := by decide +kernel
theorem dX3_readNumber_130 : decode cX3_readNumber 130 = .ok (.if_icmp .gt 8, 3) := by decide +kernel
theorem dX3_readNumber_133 : decode cX3_readNumber 133 = .ok (.iload_n 2, 1) := by decide +kernel
theorem dX3_readNumber_134 : decode cX3_readNumber 134 = .ok (.iload_n 1, 1) := by decide +kernel
theorem dX3_readNumber_135 : decode cX3_readNumber 135 = .ok (.if_icmp .le 12, 3) := by decide +kernel
theorem dX3_readNumber_138 : decode cX3_readNumber 138 = .ok (.aload_n 0, 1) := by decide +kernel
theorem dX3_readNumber_139 : decode cX3_readNumber 139 = .ok (.iconst 2, 1) := by decide +kernel
theorem dX3_readNumber_140 : decode cX3_readNumber 140 = .ok (.aload_n 0, 1) := by decide +kernel
theorem dX3_readNumber_141 : decode cX3_readNumber 141 = .ok (.getfield 47, 3) := by decide +kernel
theorem dX3_readNumber_144 : decode cX3_readNumber 144 = .ok (.invokevirtual 67, 3) := by decide +kernel
theorem dX3_readNumber_147 : decode cX3_readNumber 147 = .ok (.iload_n 2, 1) := by decide +kernel
theorem dX3_readNumber_148 : decode cX3_readNumber 148 = .ok (.ireturn, 1) := by decide +kernel
theorem dX3_readEnd_0 : decode cX3_readEnd 0 = .ok (.aload_n 0, 1) := by decide +kernel
theorem dX3_readEnd_1 : decode cX3_readEnd 1 = .ok (.getfield 31, 3) := by decide +kernel
theorem dX3_readEnd_4 : decode cX3_readEnd 4 = .ok (.ifCond .eq 4, 3) := by decide +kernel
theorem dX3_readEnd_7 : decode cX3_readEnd 7 = .ok (.return_, 1) := by decide +kernel
theorem dX3_readEnd_8 : decode cX3_readEnd 8 = .ok (.aload_n 0, 1) := by decide +kernel
theorem dX3_readEnd_9 : decode cX3_readEnd 9 = .ok (.invokevirtual 34, 3) := by decide +kernel
theorem dX3_readEnd_12 : decode cX3_readEnd 12 = .ok (.aload_n 0, 1) := by decide +kernel
theorem dX3_readEnd_13 : decode cX3_readEnd 13 = .ok (.getfield 9, 3) := by decide +kernel
theorem dX3_readEnd_16 : decode cX3_readEnd 16 = .ok (.aload_n 0, 1) := by decide +kernel
theorem dX3_readEnd_17 : decode cX3_readEnd 17 = .ok (.getfield 28, 3) := by decide +kernel
theorem dX3_readEnd_20 : decode cX3_readEnd 20 = .ok (.invokevirtual 122, 3) := by decide +kernel
theorem dX3_readEnd_23 : decode cX3_readEnd 23 = .ok (.bipush 59, 2) := by decide +kernel
theorem dX3_readEnd_25 : decode cX3_readEnd 25 = .ok (.if_icmp .ne 16, 3) := by decide +kernel
theorem dX3_readEnd_28 : decode cX3_readEnd 28 = .ok (.aload_n 0, 1) := by decide +kernel
theorem dX3_readEnd_29 : decode cX3_readEnd 29 = .ok (.dup, 1) := by decide +kernel
theorem dX3_readEnd_30 : decode cX3_readEnd 30 = .ok (.getfield 28, 3) := by decide +kernel
theorem dX3_readEnd_33 : decode cX3_readEnd 33 = .ok (.iconst 1, 1) := by decide +kernel
theorem dX3_readEnd_34 : decode cX3_readEnd 34 = .ok (.iadd, 1) := by decide +kernel
theorem dX3_readEnd_35 : decode cX3_readEnd 35 = .ok (.putfield 28, 3) := by decide +kernel
theorem dX3_readEnd_38 : decode cX3_readEnd 38 = .ok (.goto 12, 3) := by decide +kernel
theorem dX3_readEnd_41 : decode cX3_readEnd 41 = .ok (.aload_n 0, 1) := by decide +kernel
theorem dX3_readEnd_42 : decode cX3_readEnd 42 = .ok (.iconst 1, 1) := by decide +kernel
theorem dX3_readEnd_43 : decode cX3_readEnd 43 = .ok (.aload_n 0, 1) := by decide +kernel
theorem dX3_readEnd_44 : decode cX3_readEnd 44 = .ok (.getfield 28, 3) := by decide +kernel
theorem dX3_readEnd_47 : decode cX3_readEnd 47 = .ok (.invokevirtual 67, 3) := by decide +kernel
theorem dX3_readEnd_50 : decode cX3_readEnd 50 = .ok (.return_, 1) := by decide +kernel
theorem dX3_skipBlanks_0 : decode cX3_skipBlanks 0 = .ok (.aload_n 0, 1) := by decide +kernel
theorem dX3_skipBlanks_1 : decode cX3_skipBlanks 1 = .ok (.getfield 28, 3) := by decide +kernel
theorem dX3_skipBlanks_4 : decode cX3_skipBlanks 4 = .ok (.aload_n 0, 1) := by decide +kernel
theorem dX3_skipBlanks_5 : decode cX3_skipBlanks 5 = .ok (.getfield 9, 3) := by decide +kernel
theorem dX3_skipBlanks_8 : decode cX3_skipBlanks 8 = .ok (.getfield 37, 3) := by decide +kernel
theorem dX3_skipBlanks_11 : decode cX3_skipBlanks 11 = .ok (.if_icmp .ge 32, 3) := by decide +kernel
theorem dX3_skipBlanks_14 : decode cX3_skipBlanks 14 = .ok (.aload_n 0, 1) := by decide +kernel
theorem dX3_skipBlanks_15 : decode cX3_skipBlanks 15 = .ok (.getfield 9, 3) := by decide +kernel
theorem dX3_skipBlanks_18 : decode cX3_skipBlanks 18 = .ok (.aload_n 0, 1) := by decide +kernel
theorem dX3_skipBlanks_19 : decode cX3_skipBlanks 19 = .ok (.getfield 28, 3) := by decide +kernel
theorem dX3_skipBlanks_22 : decode cX3_skipBlanks 22 = .ok (.invokevirtual 122, 3) := by decide +kernel
theorem dX3_skipBlanks_25 : decode cX3_skipBlanks 25 = .ok (.bipush 32, 2) := by decide +kernel
theorem dX3_skipBlanks_27 : decode cX3_skipBlanks 27 = .ok (.if_icmp .ne 16, 3) := by decide +kernel
theorem dX3_skipBlanks_30 : decode cX3_skipBlanks 30 = .ok (.aload_n 0, 1) := by decide +kernel
theorem dX3_skipBlanks_31 : decode cX3_skipBlanks 31 = .ok (.dup, 1) := by decide +kernel
theorem dX3_skipBlanks_32 : decode cX3_skipBlanks 32 = .ok (.getfield 28, 3) := by decide +kernel
theorem dX3_skipBlanks_35 : decode cX3_skipBlanks 35 = .ok (.iconst 1, 1) := by decide +kernel
theorem dX3_skipBlanks_36 : decode cX3_skipBlanks 36 = .ok (.iadd, 1) := by decide +kernel
theorem dX3_skipBlanks_37 : decode cX3_skipBlanks 37 = .ok (.putfield 28, 3) := by decide +kernel
theorem dX3_skipBlanks_40 : decode cX3_skipBlanks 40 = .ok (.goto (-40), 3) := by decide +kernel
theorem dX3_skipBlanks_43 : decode cX3_skipBlanks 43 = .ok (.return_, 1) := by decide +kernel
theorem dX3_fail_0 : decode cX3_fail 0 = .ok (.aload_n 0, 1) := by decide +kernel
theorem dX3_fail_1 : decode cX3_fail 1 = .ok (.getfield 31, 3) := by decide +kernel
theorem dX3_fail_4 : decode cX3_fail 4 = .ok (.ifCond .ne 13, 3) := by decide +kernel
theorem dX3_fail_7 : decode cX3_fail 7 = .ok (.aload_n 0, 1) := by decide +kernel
theorem dX3_fail_8 : decode cX3_fail 8 = .ok (.iload_n 1, 1) := by decide +kernel
theorem dX3_fail_9 : decode cX3_fail 9 = .ok (.putfield 31, 3) := by decide +kernel
theorem dX3_fail_12 : decode cX3_fail 12 = .ok (.aload_n 0, 1) := by decide +kernel
theorem dX3_fail_13 : decode cX3_fail 13 = .ok (.iload_n 2, 1) := by decide +kernel
theorem dX3_fail_14 : decode cX3_fail 14 = .ok (.putfield 19, 3) := by decide +kernel
theorem dX3_fail_17 : decode cX3_fail 17 = .ok (.return_, 1) := by decide +kernel
theorem dX4_init_0 : decode cX4_init 0 = .ok (.aload_n 0, 1) := by decide +kernel
theorem dX4_init_1 : decode cX4_init 1 = .ok (.invokespecial 3, 3) := by decide +kernel
theorem dX4_init_4 : decode cX4_init 4 = .ok (.aload_n 0, 1) := by decide +kernel
theorem dX4_init_5 : decode cX4_init 5 = .ok (.bipush 20, 2) := by decide +kernel
theorem dX4_init_7 : decode cX4_init 7 = .ok (.newarray .int, 2) := by decide +kernel
theorem dX4_init_9 : decode cX4_init 9 = .ok (.putfield 9, 3) := by decide +kernel
theorem dX4_init_12 : decode cX4_init 12 = .ok (.aload_n 0, 1) := by decide +kernel
theorem dX4_init_13 : decode cX4_init 13 = .ok (.bipush 20, 2) := by decide +kernel
theorem dX4_init_15 : decode cX4_init 15 = .ok (.newarray .int, 2) := by decide +kernel
theorem dX4_init_17 : decode cX4_init 17 = .ok (.putfield 15, 3) := by decide +kernel
theorem dX4_init_20 : decode cX4_init 20 = .ok (.aload_n 0, 1) := by decide +kernel
theorem dX4_init_21 : decode cX4_init 21 = .ok (.aload_n 1, 1) := by decide +kernel
theorem dX4_init_22 : decode cX4_init 22 = .ok (.putfield 18, 3) := by decide +kernel
theorem dX4_init_25 : decode cX4_init 25 = .ok (.aload_n 0, 1) := by decide +kernel
theorem dX4_init_26 : decode cX4_init 26 = .ok (.aload_n 2, 1) := by decide +kernel
theorem dX4_init_27 : decode cX4_init 27 = .ok (.putfield 22, 3) := by decide +kernel
theorem dX4_init_30 : decode cX4_init 30 = .ok (.return_, 1) := by decide +kernel
theorem dX4_add_0 : decode cX4_add 0 = .ok (.aload_n 0, 1) := by decide +kernel
theorem dX4_add_1 : decode cX4_add 1 = .ok (.getfield 26, 3) := by decide +kernel
theorem dX4_add_4 : decode cX4_add 4 = .ok (.bipush 20, 2) := by decide +kernel
theorem dX4_add_6 : decode cX4_add 6 = .ok (.if_icmp .lt 5, 3) := by decide +kernel
theorem dX4_add_9 : decode cX4_add 9 = .ok (.iconst 0, 1) := by decide +kernel
theorem dX4_add_10 : decode cX4_add 10 = .ok (.ireturn, 1) := by decide +kernel
theorem dX4_add_11 : decode cX4_add 11 = .ok (.aload_n 0, 1) := by decide +kernel
theorem dX4_add_12 : decode cX4_add 12 = .ok (.getfield 9, 3) := by decide +kernel
theorem dX4_add_15 : decode cX4_add 15 = .ok (.aload_n 0, 1) := by decide +kernel
theorem dX4_add_16 : decode cX4_add 16 = .ok (.getfield 26, 3) := by decide +kernel
theorem dX4_add_19 : decode cX4_add 19 = .ok (.iload_n 1, 1) := by decide +kernel
theorem dX4_add_20 : decode cX4_add 20 = .ok (.iastore, 1) := by decide +kernel
theorem dX4_add_21 : decode cX4_add 21 = .ok (.aload_n 0, 1) := by decide +kernel
theorem dX4_add_22 : decode cX4_add 22 = .ok (.getfield 15, 3) := by decide +kernel
theorem dX4_add_25 : decode cX4_add 25 = .ok (.aload_n 0, 1) := by decide +kernel
theorem dX4_add_26 : decode cX4_add 26 = .ok (.getfield 26, 3) := by decide +kernel
theorem dX4_add_29 : decode cX4_add 29 = .ok (.iload_n 2, 1) := by decide +kernel
theorem dX4_add_30 : decode cX4_add 30 = .ok (.iastore, 1) := by decide +kernel
theorem dX4_add_31 : decode cX4_add 31 = .ok (.aload_n 0, 1) := by decide +kernel
theorem dX4_add_32 : decode cX4_add 32 = .ok (.dup, 1) := by decide +kernel
theorem dX4_add_33 : decode cX4_add 33 = .ok (.getfield 26, 3) := by decide +kernel
theorem dX4_add_36 : decode cX4_add 36 = .ok (.iconst 1, 1) := by decide +kernel
theorem dX4_add_37 : decode cX4_add 37 = .ok (.iadd, 1) := by decide +kernel
theorem dX4_add_38 : decode cX4_add 38 = .ok (.putfield 26, 3) := by decide +kernel
theorem dX4_add_41 : decode cX4_add 41 = .ok (.iconst 1, 1) := by decide +kernel
theorem dX4_add_42 : decode cX4_add 42 = .ok (.ireturn, 1) := by decide +kernel
theorem dX4_mayBe_0 : decode cX4_mayBe 0 = .ok (.aload_n 0, 1) := by decide +kernel
theorem dX4_mayBe_1 : decode cX4_mayBe 1 = .ok (.getfield 22, 3) := by decide +kernel
theorem dX4_mayBe_4 : decode cX4_mayBe 4 = .ok (.iload_n 1, 1) := by decide +kernel
theorem dX4_mayBe_5 : decode cX4_mayBe 5 = .ok (.invokevirtual 30, 3) := by decide +kernel
theorem dX4_mayBe_8 : decode cX4_mayBe 8 = .ok (.iload_n 3, 1) := by decide +kernel
theorem dX4_mayBe_9 : decode cX4_mayBe 9 = .ok (.iconst (-1), 1) := by decide +kernel
theorem dX4_mayBe_10 : decode cX4_mayBe 10 = .ok (.ixor, 1) := by decide +kernel
theorem dX4_mayBe_11 : decode cX4_mayBe 11 = .ok (.iand, 1) := by decide +kernel
theorem dX4_mayBe_12 : decode cX4_mayBe 12 = .ok (.ifCond .ne 24, 3) := by decide +kernel
theorem dX4_mayBe_15 : decode cX4_mayBe 15 = .ok (.aload_n 0, 1) := by decide +kernel
theorem dX4_mayBe_16 : decode cX4_mayBe 16 = .ok (.getfield 22, 3) := by decide +kernel
theorem dX4_mayBe_19 : decode cX4_mayBe 19 = .ok (.iload_n 1, 1) := by decide +kernel
theorem dX4_mayBe_20 : decode cX4_mayBe 20 = .ok (.invokevirtual 36, 3) := by decide +kernel
theorem dX4_mayBe_23 : decode cX4_mayBe 23 = .ok (.aload_n 0, 1) := by decide +kernel
theorem dX4_mayBe_24 : decode cX4_mayBe 24 = .ok (.getfield 15, 3) := by decide +kernel
theorem dX4_mayBe_27 : decode cX4_mayBe 27 = .ok (.iload_n 2, 1) := by decide +kernel
theorem dX4_mayBe_28 : decode cX4_mayBe 28 = .ok (.iaload, 1) := by decide +kernel
theorem dX4_mayBe_29 : decode cX4_mayBe 29 = .ok (.if_icmp .ne 7, 3) := by decide +kernel
theorem dX4_mayBe_32 : decode cX4_mayBe 32 = .ok (.iconst 1, 1) := by decide +kernel
theorem dX4_mayBe_33 : decode cX4_mayBe 33 = .ok (.goto 4, 3) := by decide +kernel
theorem dX4_mayBe_36 : decode cX4_mayBe 36 = .ok (.iconst 0, 1) := by decide +kernel
theorem dX4_mayBe_37 : decode cX4_mayBe 37 = .ok (.ireturn, 1) := by decide +kernel
theorem dX4_mayBeWorn_0 : decode cX4_mayBeWorn 0 = .ok (.aload_n 0, 1) := by decide +kernel
theorem dX4_mayBeWorn_1 : decode cX4_mayBeWorn 1 = .ok (.getfield 18, 3) := by decide +kernel
theorem dX4_mayBeWorn_4 : decode cX4_mayBeWorn 4 = .ok (.aload_n 0, 1) := by decide +kernel
theorem dX4_mayBeWorn_5 : decode cX4_mayBeWorn 5 = .ok (.getfield 9, 3) := by decide +kernel
theorem dX4_mayBeWorn_8 : decode cX4_mayBeWorn 8 = .ok (.iload_n 1, 1) := by decide +kernel
theorem dX4_mayBeWorn_9 : decode cX4_mayBeWorn 9 = .ok (.iaload, 1) := by decide +kernel
theorem dX4_mayBeWorn_10 : decode cX4_mayBeWorn 10 = .ok (.invokevirtual 39, 3) := by decide +kernel
theorem dX4_mayBeWorn_13 : decode cX4_mayBeWorn 13 = .ok (.istore_n 2, 1) := by decide +kernel
theorem dX4_mayBeWorn_14 : decode cX4_mayBeWorn 14 = .ok (.iconst 0, 1) := by decide +kernel
theorem dX4_mayBeWorn_15 : decode cX4_mayBeWorn 15 = .ok (.istore_n 3, 1) := by decide +kernel
theorem dX4_mayBeWorn_16 : decode cX4_mayBeWorn 16 = .ok (.iconst 0, 1) := by decide +kernel
theorem dX4_mayBeWorn_17 : decode cX4_mayBeWorn 17 = .ok (.istore 4, 2) := by decide +kernel
theorem dX4_mayBeWorn_19 : decode cX4_mayBeWorn 19 = .ok (.iload 4, 2) := by decide +kernel
theorem dX4_mayBeWorn_21 : decode cX4_mayBeWorn 21 = .ok (.aload_n 0, 1) := by decide +kernel
theorem dX4_mayBeWorn_22 : decode cX4_mayBeWorn 22 = .ok (.getfield 22, 3) := by decide +kernel
theorem dX4_mayBeWorn_25 : decode cX4_mayBeWorn 25 = .ok (.getfield 44, 3) := by decide +kernel
theorem dX4_mayBeWorn_28 : decode cX4_mayBeWorn 28 = .ok (.if_icmp .ge 32, 3) := by decide +kernel
theorem dX4_mayBeWorn_31 : decode cX4_mayBeWorn 31 = .ok (.aload_n 0, 1) := by decide +kernel
theorem dX4_mayBeWorn_32 : decode cX4_mayBeWorn 32 = .ok (.iload 4, 2) := by decide +kernel
theorem dX4_mayBeWorn_34 : decode cX4_mayBeWorn 34 = .ok (.iload_n 1, 1) := by decide +kernel
theorem dX4_mayBeWorn_35 : decode cX4_mayBeWorn 35 = .ok (.iload_n 2, 1) := by decide +kernel
theorem dX4_mayBeWorn_36 : decode cX4_mayBeWorn 36 = .ok (.invokevirtual 45, 3) := by decide +kernel
theorem dX4_mayBeWorn_39 : decode cX4_mayBeWorn 39 = .ok (.ifCond .eq 15, 3) := by decide +kernel
theorem dX4_mayBeWorn_42 : decode cX4_mayBeWorn 42 = .ok (.iload_n 3, 1) := by decide +kernel
theorem dX4_mayBeWorn_43 : decode cX4_mayBeWorn 43 = .ok (.aload_n 0, 1) := by decide +kernel
theorem dX4_mayBeWorn_44 : decode cX4_mayBeWorn 44 = .ok (.getfield 22, 3) := by decide +kernel
theorem dX4_mayBeWorn_47 : decode cX4_mayBeWorn 47 = .ok (.iload 4, 2) := by decide +kernel
theorem dX4_mayBeWorn_49 : decode cX4_mayBeWorn 49 = .ok (.invokevirtual 30, 3) := by decide +kernel
theorem dX4_mayBeWorn_52 : decode cX4_mayBeWorn 52 = .ok (.ior, 1) := by decide +kernel
theorem dX4_mayBeWorn_53 : decode cX4_mayBeWorn 53 = .ok (.istore_n 3, 1) := by decide +kernel
theorem dX4_mayBeWorn_54 : decode cX4_mayBeWorn 54 = .ok (.iinc 4 1, 3) := by decide +kernel
theorem dX4_mayBeWorn_57 : decode cX4_mayBeWorn 57 = .ok (.goto (-38), 3) := by decide +kernel
theorem dX4_mayBeWorn_60 : decode cX4_mayBeWorn 60 = .ok (.iload_n 3, 1) := by decide +kernel
theorem dX4_mayBeWorn_61 : decode cX4_mayBeWorn 61 = .ok (.ireturn, 1) := by decide +kernel
theorem dX4_surelyWorn_0 : decode cX4_surelyWorn 0 = .ok (.aload_n 0, 1) := by decide +kernel
theorem dX4_surelyWorn_1 : decode cX4_surelyWorn 1 = .ok (.getfield 18, 3) := by decide +kernel
theorem dX4_surelyWorn_4 : decode cX4_surelyWorn 4 = .ok (.aload_n 0, 1) := by decide +kernel
theorem dX4_surelyWorn_5 : decode cX4_surelyWorn 5 = .ok (.getfield 9, 3) := by decide +kernel
theorem dX4_surelyWorn_8 : decode cX4_surelyWorn 8 = .ok (.iload_n 1, 1) := by decide +kernel
theorem dX4_surelyWorn_9 : decode cX4_surelyWorn 9 = .ok (.iaload, 1) := by decide +kernel
theorem dX4_surelyWorn_10 : decode cX4_surelyWorn 10 = .ok (.invokevirtual 39, 3) := by decide +kernel
theorem dX4_surelyWorn_13 : decode cX4_surelyWorn 13 = .ok (.istore_n 2, 1) := by decide +kernel
theorem dX4_surelyWorn_14 : decode cX4_surelyWorn 14 = .ok (.aload_n 0, 1) := by decide +kernel
theorem dX4_surelyWorn_15 : decode cX4_surelyWorn 15 = .ok (.iload_n 1, 1) := by decide +kernel
theorem dX4_surelyWorn_16 : decode cX4_surelyWorn 16 = .ok (.invokevirtual 49, 3) := by decide +kernel
theorem dX4_surelyWorn_19 : decode cX4_surelyWorn 19 = .ok (.istore_n 3, 1) := by decide +kernel
theorem dX4_surelyWorn_20 : decode cX4_surelyWorn 20 = .ok (.iconst 0, 1) := by decide +kernel
theorem dX4_surelyWorn_21 : decode cX4_surelyWorn 21 = .ok (.istore 4, 2) := by decide +kernel
theorem dX4_surelyWorn_23 : decode cX4_surelyWorn 23 = .ok (.iload 4, 2) := by decide +kernel
theorem dX4_surelyWorn_25 : decode cX4_surelyWorn 25 = .ok (.aload_n 0, 1) := by decide +kernel
theorem dX4_surelyWorn_26 : decode cX4_surelyWorn 26 = .ok (.getfield 22, 3) := by decide +kernel
theorem dX4_surelyWorn_29 : decode cX4_surelyWorn 29 = .ok (.getfield 44, 3) := by decide +kernel
theorem dX4_surelyWorn_32 : decode cX4_surelyWorn 32 = .ok (.if_icmp .ge 32, 3) := by decide +kernel
theorem dX4_surelyWorn_35 : decode cX4_surelyWorn 35 = .ok (.aload_n 0, 1) := by decide +kernel
theorem dX4_surelyWorn_36 : decode cX4_surelyWorn 36 = .ok (.iload 4, 2) := by decide +kernel
theorem dX4_surelyWorn_38 : decode cX4_surelyWorn 38 = .ok (.iload_n 1, 1) := by decide +kernel
theorem dX4_surelyWorn_39 : decode cX4_surelyWorn 39 = .ok (.iload_n 2, 1) := by decide +kernel
theorem dX4_surelyWorn_40 : decode cX4_surelyWorn 40 = .ok (.invokevirtual 45, 3) := by decide +kernel
theorem dX4_surelyWorn_43 : decode cX4_surelyWorn 43 = .ok (.ifCond .eq 15, 3) := by decide +kernel
theorem dX4_surelyWorn_46 : decode cX4_surelyWorn 46 = .ok (.iload_n 3, 1) := by decide +kernel
theorem dX4_surelyWorn_47 : decode cX4_surelyWorn 47 = .ok (.aload_n 0, 1) := by decide +kernel
theorem dX4_surelyWorn_48 : decode cX4_surelyWorn 48 = .ok (.getfield 22, 3) := by decide +kernel
theorem dX4_surelyWorn_51 : decode cX4_surelyWorn 51 = .ok (.iload 4, 2) := by decide +kernel
theorem dX4_surelyWorn_53 : decode cX4_surelyWorn 53 = .ok (.invokevirtual 30, 3) := by decide +kernel
theorem dX4_surelyWorn_56 : decode cX4_surelyWorn 56 = .ok (.iand, 1) := by decide +kernel
theorem dX4_surelyWorn_57 : decode cX4_surelyWorn 57 = .ok (.istore_n 3, 1) := by decide +kernel
theorem dX4_surelyWorn_58 : decode cX4_surelyWorn 58 = .ok (.iinc 4 1, 3) := by decide +kernel
theorem dX4_surelyWorn_61 : decode cX4_surelyWorn 61 = .ok (.goto (-38), 3) := by decide +kernel
theorem dX4_surelyWorn_64 : decode cX4_surelyWorn 64 = .ok (.iload_n 3, 1) := by decide +kernel
theorem dX4_surelyWorn_65 : decode cX4_surelyWorn 65 = .ok (.ireturn, 1) := by decide +kernel
theorem dX4_firstStrange_0 : decode cX4_firstStrange 0 = .ok (.iconst 0, 1) := by decide +kernel
theorem dX4_firstStrange_1 : decode cX4_firstStrange 1 = .ok (.istore_n 1, 1) := by decide +kernel
theorem dX4_firstStrange_2 : decode cX4_firstStrange 2 = .ok (.iload_n 1, 1) := by decide +kernel
theorem dX4_firstStrange_3 : decode cX4_firstStrange 3 = .ok (.aload_n 0, 1) := by decide +kernel
theorem dX4_firstStrange_4 : decode cX4_firstStrange 4 = .ok (.getfield 26, 3) := by decide +kernel
theorem dX4_firstStrange_7 : decode cX4_firstStrange 7 = .ok (.if_icmp .ge 19, 3) := by decide +kernel
theorem dX4_firstStrange_10 : decode cX4_firstStrange 10 = .ok (.aload_n 0, 1) := by decide +kernel
theorem dX4_firstStrange_11 : decode cX4_firstStrange 11 = .ok (.iload_n 1, 1) := by decide +kernel
theorem dX4_firstStrange_12 : decode cX4_firstStrange 12 = .ok (.invokevirtual 49, 3) := by decide +kernel
theorem dX4_firstStrange_15 : decode cX4_firstStrange 15 = .ok (.ifCond .ne 5, 3) := by decide +kernel
theorem dX4_firstStrange_18 : decode cX4_firstStrange 18 = .ok (.iload_n 1, 1) := by decide +kernel
theorem dX4_firstStrange_19 : decode cX4_firstStrange 19 = .ok (.ireturn, 1) := by decide +kernel
theorem dX4_firstStrange_20 : decode cX4_firstStrange 20 = .ok (.iinc 1 1, 3) := by decide +kernel
theorem dX4_firstStrange_23 : decode cX4_firstStrange 23 = .ok (.goto (-21), 3) := by decide +kernel
theorem dX4_firstStrange_26 : decode cX4_firstStrange 26 = .ok (.iconst (-1), 1) := by decide +kernel
theorem dX4_firstStrange_27 : decode cX4_firstStrange 27 = .ok (.ireturn, 1) := by decide +kernel
theorem dX5_init_0 : decode cX5_init 0 = .ok (.aload_n 0, 1) := by decide +kernel
theorem dX5_init_1 : decode cX5_init 1 = .ok (.invokespecial 3, 3) := by decide +kernel
theorem dX5_init_4 : decode cX5_init 4 = .ok (.aload_n 0, 1) := by decide +kernel
theorem dX5_init_5 : decode cX5_init 5 = .ok (.bipush 10, 2) := by decide +kernel
theorem dX5_init_7 : decode cX5_init 7 = .ok (.newarray .int, 2) := by decide +kernel
theorem dX5_init_9 : decode cX5_init 9 = .ok (.putfield 9, 3) := by decide +kernel
theorem dX5_init_12 : decode cX5_init 12 = .ok (.aload_n 0, 1) := by decide +kernel
theorem dX5_init_13 : decode cX5_init 13 = .ok (.bipush 10, 2) := by decide +kernel
theorem dX5_init_15 : decode cX5_init 15 = .ok (.newarray .int, 2) := by decide +kernel
theorem dX5_init_17 : decode cX5_init 17 = .ok (.putfield 15, 3) := by decide +kernel
theorem dX5_init_20 : decode cX5_init 20 = .ok (.aload_n 0, 1) := by decide +kernel
theorem dX5_init_21 : decode cX5_init 21 = .ok (.bipush 10, 2) := by decide +kernel
theorem dX5_init_23 : decode cX5_init 23 = .ok (.newarray .int, 2) := by decide +kernel
theorem dX5_init_25 : decode cX5_init 25 = .ok (.putfield 18, 3) := by decide +kernel
theorem dX5_init_28 : decode cX5_init 28 = .ok (.return_, 1) := by decide +kernel
theorem dX5_beginIn_0 : decode cX5_beginIn 0 = .ok (.aload_n 1, 1) := by decide +kernel
theorem dX5_beginIn_1 : decode cX5_beginIn 1 = .ok (.getfield 21, 3) := by decide +kernel
theorem dX5_beginIn_4 : decode cX5_beginIn 4 = .ok (.aload_n 0, 1) := by decide +kernel
theorem dX5_beginIn_5 : decode cX5_beginIn 5 = .ok (.getfield 9, 3) := by decide +kernel
theorem dX5_beginIn_8 : decode cX5_beginIn 8 = .ok (.invokestatic 26, 3) := by decide +kernel
theorem dX5_beginIn_11 : decode cX5_beginIn 11 = .ok (.aload_n 1, 1) := by decide +kernel
theorem dX5_beginIn_12 : decode cX5_beginIn 12 = .ok (.getfield 30, 3) := by decide +kernel
theorem dX5_beginIn_15 : decode cX5_beginIn 15 = .ok (.aload_n 0, 1) := by decide +kernel
theorem dX5_beginIn_16 : decode cX5_beginIn 16 = .ok (.getfield 15, 3) := by decide +kernel
theorem dX5_beginIn_19 : decode cX5_beginIn 19 = .ok (.invokestatic 26, 3) := by decide +kernel
theorem dX5_beginIn_22 : decode cX5_beginIn 22 = .ok (.iconst 0, 1) := by decide +kernel
theorem dX5_beginIn_23 : decode cX5_beginIn 23 = .ok (.istore_n 2, 1) := by decide +kernel
theorem dX5_beginIn_24 : decode cX5_beginIn 24 = .ok (.iload_n 2, 1) := by decide +kernel
theorem dX5_beginIn_25 : decode cX5_beginIn 25 = .ok (.bipush 10, 2) := by decide +kernel
theorem dX5_beginIn_27 : decode cX5_beginIn 27 = .ok (.if_icmp .ge 16, 3) := by decide +kernel
theorem dX5_beginIn_30 : decode cX5_beginIn 30 = .ok (.aload_n 0, 1) := by decide +kernel
theorem dX5_beginIn_31 : decode cX5_beginIn 31 = .ok (.getfield 18, 3) := by decide +kernel
theorem dX5_beginIn_34 : decode cX5_beginIn 34 = .ok (.iload_n 2, 1) := by decide +kernel
theorem dX5_beginIn_35 : decode cX5_beginIn 35 = .ok (.iconst 0, 1) := by decide +kernel
theorem dX5_beginIn_36 : decode cX5_beginIn 36 = .ok (.iastore, 1) := by decide +kernel
theorem dX5_beginIn_37 : decode cX5_beginIn 37 = .ok (.iinc 2 1, 3) := by decide +kernel
theorem dX5_beginIn_40 : decode cX5_beginIn 40 = .ok (.goto (-16), 3) := by decide +kernel
theorem dX5_beginIn_43 : decode cX5_beginIn 43 = .ok (.aload_n 0, 1) := by decide +kernel
theorem dX5_beginIn_44 : decode cX5_beginIn 44 = .ok (.iconst 0, 1) := by decide +kernel
theorem dX5_beginIn_45 : decode cX5_beginIn 45 = .ok (.putfield 33, 3) := by decide +kernel
theorem dX5_beginIn_48 : decode cX5_beginIn 48 = .ok (.aload_n 0, 1) := by decide +kernel
theorem dX5_beginIn_49 : decode cX5_beginIn 49 = .ok (.iconst 0, 1) := by decide +kernel
theorem dX5_beginIn_50 : decode cX5_beginIn 50 = .ok (.putfield 37, 3) := by decide +kernel
theorem dX5_beginIn_53 : decode cX5_beginIn 53 = .ok (.return_, 1) := by decide +kernel
theorem dX5_copyFrom_0 : decode cX5_copyFrom 0 = .ok (.aload_n 1, 1) := by decide +kernel
theorem dX5_copyFrom_1 : decode cX5_copyFrom 1 = .ok (.getfield 9, 3) := by decide +kernel
theorem dX5_copyFrom_4 : decode cX5_copyFrom 4 = .ok (.aload_n 0, 1) := by decide +kernel
theorem dX5_copyFrom_5 : decode cX5_copyFrom 5 = .ok (.getfield 9, 3) := by decide +kernel
theorem dX5_copyFrom_8 : decode cX5_copyFrom 8 = .ok (.invokestatic 26, 3) := by decide +kernel
theorem dX5_copyFrom_11 : decode cX5_copyFrom 11 = .ok (.aload_n 1, 1) := by decide +kernel
theorem dX5_copyFrom_12 : decode cX5_copyFrom 12 = .ok (.getfield 15, 3) := by decide +kernel
theorem dX5_copyFrom_15 : decode cX5_copyFrom 15 = .ok (.aload_n 0, 1) := by decide +kernel
theorem dX5_copyFrom_16 : decode cX5_copyFrom 16 = .ok (.getfield 15, 3) := by decide +kernel
theorem dX5_copyFrom_19 : decode cX5_copyFrom 19 = .ok (.invokestatic 26, 3) := by decide +kernel
theorem dX5_copyFrom_22 : decode cX5_copyFrom 22 = .ok (.aload_n 1, 1) := by decide +kernel
theorem dX5_copyFrom_23 : decode cX5_copyFrom 23 = .ok (.getfield 18, 3) := by decide +kernel
theorem dX5_copyFrom_26 : decode cX5_copyFrom 26 = .ok (.aload_n 0, 1) := by decide +kernel
theorem dX5_copyFrom_27 : decode cX5_copyFrom 27 = .ok (.getfield 18, 3) := by decide +kernel
theorem dX5_copyFrom_30 : decode cX5_copyFrom 30 = .ok (.invokestatic 26, 3) := by decide +kernel
theorem dX5_copyFrom_33 : decode cX5_copyFrom 33 = .ok (.aload_n 0, 1) := by decide +kernel
theorem dX5_copyFrom_34 : decode cX5_copyFrom 34 = .ok (.aload_n 1, 1) := by decide +kernel
theorem dX5_copyFrom_35 : decode cX5_copyFrom 35 = .ok (.getfield 33, 3) := by decide +kernel
theorem dX5_copyFrom_38 : decode cX5_copyFrom 38 = .ok (.putfield 33, 3) := by decide +kernel
theorem dX5_copyFrom_41 : decode cX5_copyFrom 41 = .ok (.aload_n 0, 1) := by decide +kernel
theorem dX5_copyFrom_42 : decode cX5_copyFrom 42 = .ok (.aload_n 1, 1) := by decide +kernel
theorem dX5_copyFrom_43 : decode cX5_copyFrom 43 = .ok (.getfield 37, 3) := by decide +kernel
theorem dX5_copyFrom_46 : decode cX5_copyFrom 46 = .ok (.putfield 37, 3) := by decide +kernel
theorem dX5_copyFrom_49 : decode cX5_copyFrom 49 = .ok (.aload_n 0, 1) := by decide +kernel
theorem dX5_copyFrom_50 : decode cX5_copyFrom 50 = .ok (.aload_n 1, 1) := by decide +kernel
theorem dX5_copyFrom_51 : decode cX5_copyFrom 51 = .ok (.getfield 40, 3) := by decide +kernel
theorem dX5_copyFrom_54 : decode cX5_copyFrom 54 = .ok (.putfield 40, 3) := by decide +kernel
theorem dX5_copyFrom_57 : decode cX5_copyFrom 57 = .ok (.aload_n 0, 1) := by decide +kernel
theorem dX5_copyFrom_58 : decode cX5_copyFrom 58 = .ok (.aload_n 1, 1) := by decide +kernel
theorem dX5_copyFrom_59 : decode cX5_copyFrom 59 = .ok (.getfield 43, 3) := by decide +kernel
theorem dX5_copyFrom_62 : decode cX5_copyFrom 62 = .ok (.putfield 43, 3) := by decide +kernel
theorem dX5_copyFrom_65 : decode cX5_copyFrom 65 = .ok (.return_, 1) := by decide +kernel
theorem dX5_raisePrices_0 : decode cX5_raisePrices 0 = .ok (.aload_n 3, 1) := by decide +kernel
theorem dX5_raisePrices_1 : decode cX5_raisePrices 1 = .ok (.arraylength, 1) := by decide +kernel
theorem dX5_raisePrices_2 : decode cX5_raisePrices 2 = .ok (.bipush 10, 2) := by decide +kernel
theorem dX5_raisePrices_4 : decode cX5_raisePrices 4 = .ok (.invokestatic 46, 3) := by decide +kernel
theorem dX5_raisePrices_7 : decode cX5_raisePrices 7 = .ok (.istore 4, 2) := by decide +kernel
theorem dX5_raisePrices_9 : decode cX5_raisePrices 9 = .ok (.iconst 0, 1) := by decide +kernel
theorem dX5_raisePrices_10 : decode cX5_raisePrices 10 = .ok (.istore 5, 2) := by decide +kernel
theorem dX5_raisePrices_12 : decode cX5_raisePrices 12 = .ok (.iload 5, 2) := by decide +kernel
theorem dX5_raisePrices_14 : decode cX5_raisePrices 14 = .ok (.iload 4, 2) := by decide +kernel
theorem dX5_raisePrices_16 : decode cX5_raisePrices 16 = .ok (.if_icmp .ge 46, 3) := by decide +kernel
theorem dX5_raisePrices_19 : decode cX5_raisePrices 19 = .ok (.aload_n 3, 1) := by decide +kernel
theorem dX5_raisePrices_20 : decode cX5_raisePrices 20 = .ok (.iload 5, 2) := by decide +kernel
theorem dX5_raisePrices_22 : decode cX5_raisePrices 22 = .ok (.iload_n 1, 1) := by decide +kernel
theorem dX5_raisePrices_23 : decode cX5_raisePrices 23 = .ok (.iload 5, 2) := by decide +kernel
theorem dX5_raisePrices_25 : decode cX5_raisePrices 25 = .ok (.invokestatic 52, 3) := by decide +kernel
theorem dX5_raisePrices_28 : decode cX5_raisePrices 28 = .ok (.ifCond .eq 20, 3) := by decide +kernel
theorem dX5_raisePrices_31 : decode cX5_raisePrices 31 = .ok (.bipush 99, 2) := by decide +kernel
theorem dX5_raisePrices_33 : decode cX5_raisePrices 33 = .ok (.aload_n 0, 1) := by decide +kernel
theorem dX5_raisePrices_34 : decode cX5_raisePrices 34 = .ok (.getfield 15, 3) := by decide +kernel
theorem dX5_raisePrices_37 : decode cX5_raisePrices 37 = .ok (.iload 5, 2) := by decide +kernel
theorem dX5_raisePrices_39 : decode cX5_raisePrices 39 = .ok (.iaload, 1) := by decide +kernel
theorem dX5_raisePrices_40 : decode cX5_raisePrices 40 = .ok (.iload_n 2, 1) := by decide +kernel
theorem dX5_raisePrices_41 : decode cX5_raisePrices 41 = .ok (.iadd, 1) := by decide +kernel
theorem dX5_raisePrices_42 : decode cX5_raisePrices 42 = .ok (.invokestatic 46, 3) := by decide +kernel
theorem dX5_raisePrices_45 : decode cX5_raisePrices 45 = .ok (.goto 10, 3) := by decide +kernel
theorem dX5_raisePrices_48 : decode cX5_raisePrices 48 = .ok (.aload_n 0, 1) := by decide +kernel
theorem dX5_raisePrices_49 : decode cX5_raisePrices 49 = .ok (.getfield 15, 3) := by decide +kernel
theorem dX5_raisePrices_52 : decode cX5_raisePrices 52 = .ok (.iload 5, 2) := by decide +kernel
theorem dX5_raisePrices_54 : decode cX5_raisePrices 54 = .ok (.iaload, 1) := by decide +kernel
theorem dX5_raisePrices_55 : decode cX5_raisePrices 55 = .ok (.iastore, 1) := by decide +kernel
theorem dX5_raisePrices_56 : decode cX5_raisePrices 56 = .ok (.iinc 5 1, 3) := by decide +kernel
theorem dX5_raisePrices_59 : decode cX5_raisePrices 59 = .ok (.goto (-47), 3) := by decide +kernel
theorem dX5_raisePrices_62 : decode cX5_raisePrices 62 = .ok (.return_, 1) := by decide +kernel
theorem dX5_drawOfFour_0 : decode cX5_drawOfFour 0 = .ok (.aload_n 0, 1) := by decide +kernel
theorem dX5_drawOfFour_1 : decode cX5_drawOfFour 1 = .ok (.aload_n 0, 1) := by decide +kernel
theorem dX5_drawOfFour_2 : decode cX5_drawOfFour 2 = .ok (.getfield 43, 3) := by decide +kernel
theorem dX5_drawOfFour_5 : decode cX5_drawOfFour 5 = .ok (.i2l, 1) := by decide +kernel
theorem dX5_drawOfFour_6 : decode cX5_drawOfFour 6 = .ok (.ldc2_w 56, 3) := by decide +kernel
theorem dX5_drawOfFour_9 : decode cX5_drawOfFour 9 = .ok (.lmul, 1) := by decide +kernel
theorem dX5_drawOfFour_10 : decode cX5_drawOfFour 10 = .ok (.ldc2_w 58, 3) := by decide +kernel
theorem dX5_drawOfFour_13 : decode cX5_drawOfFour 13 = .ok (.ladd, 1) := by decide +kernel
theorem dX5_drawOfFour_14 : decode cX5_drawOfFour 14 = .ok (.ldc2_w 60, 3) := by decide +kernel
theorem dX5_drawOfFour_17 : decode cX5_drawOfFour 17 = .ok (.land, 1) := by decide +kernel
theorem dX5_drawOfFour_18 : decode cX5_drawOfFour 18 = .ok (.l2i, 1) := by decide +kernel
theorem dX5_drawOfFour_19 : decode cX5_drawOfFour 19 = .ok (.putfield 43, 3) := by decide +kernel
theorem dX5_drawOfFour_22 : decode cX5_drawOfFour 22 = .ok (.aload_n 0, 1) := by decide +kernel
theorem dX5_drawOfFour_23 : decode cX5_drawOfFour 23 = .ok (.getfield 43, 3) := by decide +kernel
theorem dX5_drawOfFour_26 : decode cX5_drawOfFour 26 = .ok (.ldc 62, 2) := by decide +kernel
theorem dX5_drawOfFour_28 : decode cX5_drawOfFour 28 = .ok (.idiv, 1) := by decide +kernel
theorem dX5_drawOfFour_29 : decode cX5_drawOfFour 29 = .ok (.iconst 4, 1) := by decide +kernel
theorem dX5_drawOfFour_30 : decode cX5_drawOfFour 30 = .ok (.irem, 1) := by decide +kernel
theorem dX5_drawOfFour_31 : decode cX5_drawOfFour 31 = .ok (.ireturn, 1) := by decide +kernel
theorem dX5_drawPrices_0 : decode cX5_drawPrices 0 = .ok (.iload_n 1, 1) := by decide +kernel
theorem dX5_drawPrices_1 : decode cX5_drawPrices 1 = .ok (.bipush 10, 2) := by decide +kernel
theorem dX5_drawPrices_3 : decode cX5_drawPrices 3 = .ok (.invokestatic 46, 3) := by decide +kernel
theorem dX5_drawPrices_6 : decode cX5_drawPrices 6 = .ok (.istore_n 2, 1) := by decide +kernel
theorem dX5_drawPrices_7 : decode cX5_drawPrices 7 = .ok (.iconst 0, 1) := by decide +kernel
theorem dX5_drawPrices_8 : decode cX5_drawPrices 8 = .ok (.istore_n 3, 1) := by decide +kernel
theorem dX5_drawPrices_9 : decode cX5_drawPrices 9 = .ok (.iload_n 3, 1) := by decide +kernel
theorem dX5_drawPrices_10 : decode cX5_drawPrices 10 = .ok (.iload_n 2, 1) := by decide +kernel
theorem dX5_drawPrices_11 : decode cX5_drawPrices 11 = .ok (.if_icmp .ge 66, 3) := by decide +kernel
theorem dX5_drawPrices_14 : decode cX5_drawPrices 14 = .ok (.aload_n 0, 1) := by decide +kernel
theorem dX5_drawPrices_15 : decode cX5_drawPrices 15 = .ok (.invokevirtual 63, 3) := by decide +kernel
theorem dX5_drawPrices_18 : decode cX5_drawPrices 18 = .ok (.istore 4, 2) := by decide +kernel
theorem dX5_drawPrices_20 : decode cX5_drawPrices 20 = .ok (.iload 4, 2) := by decide +kernel
theorem dX5_drawPrices_22 : decode cX5_drawPrices 22 = .ok (.ifCond .ne 25, 3) := by decide +kernel
theorem dX5_drawPrices_25 : decode cX5_drawPrices 25 = .ok (.aload_n 0, 1) := by decide +kernel
theorem dX5_drawPrices_26 : decode cX5_drawPrices 26 = .ok (.getfield 15, 3) := by decide +kernel
theorem dX5_drawPrices_29 : decode cX5_drawPrices 29 = .ok (.iload_n 3, 1) := by decide +kernel
theorem dX5_drawPrices_30 : decode cX5_drawPrices 30 = .ok (.bipush 99, 2) := by decide +kernel
theorem dX5_drawPrices_32 : decode cX5_drawPrices 32 = .ok (.aload_n 0, 1) := by decide +kernel
theorem dX5_drawPrices_33 : decode cX5_drawPrices 33 = .ok (.getfield 15, 3) := by decide +kernel
theorem dX5_drawPrices_36 : decode cX5_drawPrices 36 = .ok (.iload_n 3, 1) := by decide +kernel
theorem dX5_drawPrices_37 : decode cX5_drawPrices 37 = .ok (.iaload, 1) := by decide +kernel
theorem dX5_drawPrices_38 : decode cX5_drawPrices 38 = .ok (.iconst 1, 1) := by decide +kernel
theorem dX5_drawPrices_39 : decode cX5_drawPrices 39 = .ok (.iadd, 1) := by decide +kernel
theorem dX5_drawPrices_40 : decode cX5_drawPrices 40 = .ok (.invokestatic 46, 3) := by decide +kernel
theorem dX5_drawPrices_43 : decode cX5_drawPrices 43 = .ok (.iastore, 1) := by decide +kernel
theorem dX5_drawPrices_44 : decode cX5_drawPrices 44 = .ok (.goto 27, 3) := by decide +kernel
theorem dX5_drawPrices_47 : decode cX5_drawPrices 47 = .ok (.iload 4, 2) := by decide +kernel
theorem dX5_drawPrices_49 : decode cX5_drawPrices 49 = .ok (.iconst 1, 1) := by decide +kernel
theorem dX5_drawPrices_50 : decode cX5_drawPrices 50 = .ok (.if_icmp .ne 21, 3) := by decide +kernel
theorem dX5_drawPrices_53 : decode cX5_drawPrices 53 = .ok (.aload_n 0, 1) := by decide +kernel
theorem dX5_drawPrices_54 : decode cX5_drawPrices 54 = .ok (.getfield 15, 3) := by decide +kernel
theorem dX5_drawPrices_57 : decode cX5_drawPrices 57 = .ok (.iload_n 3, 1) := by decide +kernel
theorem dX5_drawPrices_58 : decode cX5_drawPrices 58 = .ok (.iconst 0, 1) := by decide +kernel
theorem dX5_drawPrices_59 : decode cX5_drawPrices 59 = .ok (.aload_n 0, 1) := by decide +kernel
theorem dX5_drawPrices_60 : decode cX5_drawPrices 60 = .ok (.getfield 15, 3) := by decide +kernel
theorem dX5_drawPrices_63 : decode cX5_drawPrices 63 = .ok (.iload_n 3, 1) := by decide +kernel
theorem dX5_drawPrices_64 : decode cX5_drawPrices 64 = .ok (.iaload, 1) := by decide +kernel
theorem dX5_drawPrices_65 : decode cX5_drawPrices 65 = .ok (.iconst 1, 1) := by decide +kernel
theorem dX5_drawPrices_66 : decode cX5_drawPrices 66 = .ok (.isub, 1) := by decide +kernel
theorem dX5_drawPrices_67 : decode cX5_drawPrices 67 = .ok (.invokestatic 67, 3) := by decide +kernel
theorem dX5_drawPrices_70 : decode cX5_drawPrices 70 = .ok (.iastore, 1) := by decide +kernel
theorem dX5_drawPrices_71 : decode cX5_drawPrices 71 = .ok (.iinc 3 1, 3) := by decide +kernel
theorem dX5_drawPrices_74 : decode cX5_drawPrices 74 = .ok (.goto (-65), 3) := by decide +kernel
theorem dX5_drawPrices_77 : decode cX5_drawPrices 77 = .ok (.return_, 1) := by decide +kernel
theorem dX5_wearHour_0 : decode cX5_wearHour 0 = .ok (.iconst 0, 1) := by decide +kernel
theorem dX5_wearHour_1 : decode cX5_wearHour 1 = .ok (.istore_n 2, 1) := by decide +kernel
theorem dX5_wearHour_2 : decode cX5_wearHour 2 = .ok (.iload_n 2, 1) := by decide +kernel
theorem dX5_wearHour_3 : decode cX5_wearHour 3 = .ok (.bipush 10, 2) := by decide +kernel
theorem dX5_wearHour_5 : decode cX5_wearHour 5 = .ok (.if_icmp .ge 27, 3) := by decide +kernel
theorem dX5_wearHour_8 : decode cX5_wearHour 8 = .ok (.iload_n 1, 1) := by decide +kernel
theorem dX5_wearHour_9 : decode cX5_wearHour 9 = .ok (.iload_n 2, 1) := by decide +kernel
theorem dX5_wearHour_10 : decode cX5_wearHour 10 = .ok (.invokestatic 52, 3) := by decide +kernel
theorem dX5_wearHour_13 : decode cX5_wearHour 13 = .ok (.ifCond .eq 13, 3) := by decide +kernel
theorem dX5_wearHour_16 : decode cX5_wearHour 16 = .ok (.aload_n 0, 1) := by decide +kernel
theorem dX5_wearHour_17 : decode cX5_wearHour 17 = .ok (.getfield 18, 3) := by decide +kernel
theorem dX5_wearHour_20 : decode cX5_wearHour 20 = .ok (.iload_n 2, 1) := by decide +kernel
theorem dX5_wearHour_21 : decode cX5_wearHour 21 = .ok (.dup2, 1) := by decide +kernel
theorem dX5_wearHour_22 : decode cX5_wearHour 22 = .ok (.iaload, 1) := by decide +kernel
theorem dX5_wearHour_23 : decode cX5_wearHour 23 = .ok (.iconst 1, 1) := by decide +kernel
theorem dX5_wearHour_24 : decode cX5_wearHour 24 = .ok (.iadd, 1) := by decide +kernel
theorem dX5_wearHour_25 : decode cX5_wearHour 25 = .ok (.iastore, 1) := by decide +kernel
theorem dX5_wearHour_26 : decode cX5_wearHour 26 = .ok (.iinc 2 1, 3) := by decide +kernel
theorem dX5_wearHour_29 : decode cX5_wearHour 29 = .ok (.goto (-27), 3) := by decide +kernel
theorem dX5_wearHour_32 : decode cX5_wearHour 32 = .ok (.return_, 1) := by decide +kernel
theorem dX5_wearOut_0 : decode cX5_wearOut 0 = .ok (.iconst 0, 1) := by decide +kernel
theorem dX5_wearOut_1 : decode cX5_wearOut 1 = .ok (.istore_n 1, 1) := by decide +kernel
theorem dX5_wearOut_2 : decode cX5_wearOut 2 = .ok (.iload_n 1, 1) := by decide +kernel
theorem dX5_wearOut_3 : decode cX5_wearOut 3 = .ok (.bipush 10, 2) := by decide +kernel
theorem dX5_wearOut_5 : decode cX5_wearOut 5 = .ok (.if_icmp .ge 52, 3) := by decide +kernel
theorem dX5_wearOut_8 : decode cX5_wearOut 8 = .ok (.aload_n 0, 1) := by decide +kernel
theorem dX5_wearOut_9 : decode cX5_wearOut 9 = .ok (.getfield 18, 3) := by decide +kernel
theorem dX5_wearOut_12 : decode cX5_wearOut 12 = .ok (.iload_n 1, 1) := by decide +kernel
theorem dX5_wearOut_13 : decode cX5_wearOut 13 = .ok (.iaload, 1) := by decide +kernel
theorem dX5_wearOut_14 : decode cX5_wearOut 14 = .ok (.bipush 10, 2) := by decide +kernel
theorem dX5_wearOut_16 : decode cX5_wearOut 16 = .ok (.if_icmp .lt 35, 3) := by decide +kernel
theorem dX5_wearOut_19 : decode cX5_wearOut 19 = .ok (.aload_n 0, 1) := by decide +kernel
theorem dX5_wearOut_20 : decode cX5_wearOut 20 = .ok (.getfield 18, 3) := by decide +kernel
theorem dX5_wearOut_23 : decode cX5_wearOut 23 = .ok (.iload_n 1, 1) := by decide +kernel
theorem dX5_wearOut_24 : decode cX5_wearOut 24 = .ok (.dup2, 1) := by decide +kernel
theorem dX5_wearOut_25 : decode cX5_wearOut 25 = .ok (.iaload, 1) := by decide +kernel
theorem dX5_wearOut_26 : decode cX5_wearOut 26 = .ok (.bipush 10, 2) := by decide +kernel
theorem dX5_wearOut_28 : decode cX5_wearOut 28 = .ok (.isub, 1) := by decide +kernel
theorem dX5_wearOut_29 : decode cX5_wearOut 29 = .ok (.iastore, 1) := by decide +kernel
theorem dX5_wearOut_30 : decode cX5_wearOut 30 = .ok (.aload_n 0, 1) := by decide +kernel
theorem dX5_wearOut_31 : decode cX5_wearOut 31 = .ok (.getfield 9, 3) := by decide +kernel
theorem dX5_wearOut_34 : decode cX5_wearOut 34 = .ok (.iload_n 1, 1) := by decide +kernel
theorem dX5_wearOut_35 : decode cX5_wearOut 35 = .ok (.iconst 0, 1) := by decide +kernel
theorem dX5_wearOut_36 : decode cX5_wearOut 36 = .ok (.aload_n 0, 1) := by decide +kernel
theorem dX5_wearOut_37 : decode cX5_wearOut 37 = .ok (.getfield 9, 3) := by decide +kernel
theorem dX5_wearOut_40 : decode cX5_wearOut 40 = .ok (.iload_n 1, 1) := by decide +kernel
theorem dX5_wearOut_41 : decode cX5_wearOut 41 = .ok (.iaload, 1) := by decide +kernel
theorem dX5_wearOut_42 : decode cX5_wearOut 42 = .ok (.iconst 1, 1) := by decide +kernel
theorem dX5_wearOut_43 : decode cX5_wearOut 43 = .ok (.isub, 1) := by decide +kernel
theorem dX5_wearOut_44 : decode cX5_wearOut 44 = .ok (.invokestatic 67, 3) := by decide +kernel
theorem dX5_wearOut_47 : decode cX5_wearOut 47 = .ok (.iastore, 1) := by decide +kernel
theorem dX5_wearOut_48 : decode cX5_wearOut 48 = .ok (.goto (-40), 3) := by decide +kernel
theorem dX5_wearOut_51 : decode cX5_wearOut 51 = .ok (.iinc 1 1, 3) := by decide +kernel
theorem dX5_wearOut_54 : decode cX5_wearOut 54 = .ok (.goto (-52), 3) := by decide +kernel
theorem dX5_wearOut_57 : decode cX5_wearOut 57 = .ok (.return_, 1) := by decide +kernel
theorem dX6_init_0 : decode cX6_init 0 = .ok (.aload_n 0, 1) := by decide +kernel
theorem dX6_init_1 : decode cX6_init 1 = .ok (.invokespecial 3, 3) := by decide +kernel
theorem dX6_init_4 : decode cX6_init 4 = .ok (.aload_n 0, 1) := by decide +kernel
theorem dX6_init_5 : decode cX6_init 5 = .ok (.sipush 400, 3) := by decide +kernel
theorem dX6_init_8 : decode cX6_init 8 = .ok (.newarray .int, 2) := by decide +kernel
theorem dX6_init_10 : decode cX6_init 10 = .ok (.putfield 9, 3) := by decide +kernel
theorem dX6_init_13 : decode cX6_init 13 = .ok (.return_, 1) := by decide +kernel
theorem dX6_add_0 : decode cX6_add 0 = .ok (.aload_n 0, 1) := by decide +kernel
theorem dX6_add_1 : decode cX6_add 1 = .ok (.getfield 15, 3) := by decide +kernel
theorem dX6_add_4 : decode cX6_add 4 = .ok (.sipush 400, 3) := by decide +kernel
theorem dX6_add_7 : decode cX6_add 7 = .ok (.if_icmp .ge 23, 3) := by decide +kernel
theorem dX6_add_10 : decode cX6_add 10 = .ok (.aload_n 0, 1) := by decide +kernel
theorem dX6_add_11 : decode cX6_add 11 = .ok (.getfield 9, 3) := by decide +kernel
theorem dX6_add_14 : decode cX6_add 14 = .ok (.aload_n 0, 1) := by decide +kernel
theorem dX6_add_15 : decode cX6_add 15 = .ok (.getfield 15, 3) := by decide +kernel
theorem dX6_add_18 : decode cX6_add 18 = .ok (.iload_n 1, 1) := by decide +kernel
theorem dX6_add_19 : decode cX6_add 19 = .ok (.iastore, 1) := by decide +kernel
theorem dX6_add_20 : decode cX6_add 20 = .ok (.aload_n 0, 1) := by decide +kernel
theorem dX6_add_21 : decode cX6_add 21 = .ok (.dup, 1) := by decide +kernel
theorem dX6_add_22 : decode cX6_add 22 = .ok (.getfield 15, 3) := by decide +kernel
theorem dX6_add_25 : decode cX6_add 25 = .ok (.iconst 1, 1) := by decide +kernel
theorem dX6_add_26 : decode cX6_add 26 = .ok (.iadd, 1) := by decide +kernel
theorem dX6_add_27 : decode cX6_add 27 = .ok (.putfield 15, 3) := by decide +kernel
theorem dX6_add_30 : decode cX6_add 30 = .ok (.return_, 1) := by decide +kernel
theorem dX6_byteAt_0 : decode cX6_byteAt 0 = .ok (.iload_n 1, 1) := by decide +kernel
theorem dX6_byteAt_1 : decode cX6_byteAt 1 = .ok (.ifCond .lt 20, 3) := by decide +kernel
theorem dX6_byteAt_4 : decode cX6_byteAt 4 = .ok (.iload_n 1, 1) := by decide +kernel
theorem dX6_byteAt_5 : decode cX6_byteAt 5 = .ok (.aload_n 0, 1) := by decide +kernel
theorem dX6_byteAt_6 : decode cX6_byteAt 6 = .ok (.getfield 15, 3) := by decide +kernel
theorem dX6_byteAt_9 : decode cX6_byteAt 9 = .ok (.if_icmp .ge 12, 3) := by decide +kernel
theorem dX6_byteAt_12 : decode cX6_byteAt 12 = .ok (.aload_n 0, 1) := by decide +kernel
theorem dX6_byteAt_13 : decode cX6_byteAt 13 = .ok (.getfield 9, 3) := by decide +kernel
theorem dX6_byteAt_16 : decode cX6_byteAt 16 = .ok (.iload_n 1, 1) := by decide +kernel
theorem dX6_byteAt_17 : decode cX6_byteAt 17 = .ok (.iaload, 1) := by decide +kernel
theorem dX6_byteAt_18 : decode cX6_byteAt 18 = .ok (.goto 4, 3) := by decide +kernel
theorem dX6_byteAt_21 : decode cX6_byteAt 21 = .ok (.iconst (-1), 1) := by decide +kernel
theorem dX6_byteAt_22 : decode cX6_byteAt 22 = .ok (.ireturn, 1) := by decide +kernel
theorem dX6_isLetter_0 : decode cX6_isLetter 0 = .ok (.aload_n 0, 1) := by decide +kernel
theorem dX6_isLetter_1 : decode cX6_isLetter 1 = .ok (.iload_n 1, 1) := by decide +kernel
theorem dX6_isLetter_2 : decode cX6_isLetter 2 = .ok (.invokevirtual 19, 3) := by decide +kernel
theorem dX6_isLetter_5 : decode cX6_isLetter 5 = .ok (.istore_n 2, 1) := by decide +kernel
theorem dX6_isLetter_6 : decode cX6_isLetter 6 = .ok (.iload_n 2, 1) := by decide +kernel
theorem dX6_isLetter_7 : decode cX6_isLetter 7 = .ok (.bipush 97, 2) := by decide +kernel
theorem dX6_isLetter_9 : decode cX6_isLetter 9 = .ok (.if_icmp .lt 13, 3) := by decide +kernel
theorem dX6_isLetter_12 : decode cX6_isLetter 12 = .ok (.iload_n 2, 1) := by decide +kernel
theorem dX6_isLetter_13 : decode cX6_isLetter 13 = .ok (.bipush 122, 2) := by decide +kernel
theorem dX6_isLetter_15 : decode cX6_isLetter 15 = .ok (.if_icmp .gt 7, 3) := by decide +kernel
theorem dX6_isLetter_18 : decode cX6_isLetter 18 = .ok (.iconst 1, 1) := by decide +kernel
theorem dX6_isLetter_19 : decode cX6_isLetter 19 = .ok (.goto 4, 3) := by decide +kernel
theorem dX6_isLetter_22 : decode cX6_isLetter 22 = .ok (.iconst 0, 1) := by decide +kernel
theorem dX6_isLetter_23 : decode cX6_isLetter 23 = .ok (.ireturn, 1) := by decide +kernel
theorem dX6_isFigure_0 : decode cX6_isFigure 0 = .ok (.aload_n 0, 1) := by decide +kernel
theorem dX6_isFigure_1 : decode cX6_isFigure 1 = .ok (.iload_n 1, 1) := by decide +kernel
theorem dX6_isFigure_2 : decode cX6_isFigure 2 = .ok (.invokevirtual 19, 3) := by decide +kernel
theorem dX6_isFigure_5 : decode cX6_isFigure 5 = .ok (.istore_n 2, 1) := by decide +kernel
theorem dX6_isFigure_6 : decode cX6_isFigure 6 = .ok (.iload_n 2, 1) := by decide +kernel
theorem dX6_isFigure_7 : decode cX6_isFigure 7 = .ok (.bipush 48, 2) := by decide +kernel
theorem dX6_isFigure_9 : decode cX6_isFigure 9 = .ok (.if_icmp .lt 13, 3) := by decide +kernel
theorem dX6_isFigure_12 : decode cX6_isFigure 12 = .ok (.iload_n 2, 1) := by decide +kernel
theorem dX6_isFigure_13 : decode cX6_isFigure 13 = .ok (.bipush 57, 2) := by decide +kernel
theorem dX6_isFigure_15 : decode cX6_isFigure 15 = .ok (.if_icmp .gt 7, 3) := by decide +kernel
theorem dX6_isFigure_18 : decode cX6_isFigure 18 = .ok (.iconst 1, 1) := by decide +kernel
theorem dX6_isFigure_19 : decode cX6_isFigure 19 = .ok (.goto 4, 3) := by decide +kernel
theorem dX6_isFigure_22 : decode cX6_isFigure 22 = .ok (.iconst 0, 1) := by decide +kernel
theorem dX6_isFigure_23 : decode cX6_isFigure 23 = .ok (.ireturn, 1) := by decide +kernel
theorem dX6_stands_0 : decode cX6_stands 0 = .ok (.aload_n 1, 1) := by decide +kernel
theorem dX6_stands_1 : decode cX6_stands 1 = .ok (.invokevirtual 23, 3) := by decide +kernel
theorem dX6_stands_4 : decode cX6_stands 4 = .ok (.iload_n 3, 1) := by decide +kernel
theorem dX6_stands_5 : decode cX6_stands 5 = .ok (.iload_n 2, 1) := by decide +kernel
theorem dX6_stands_6 : decode cX6_stands 6 = .ok (.isub, 1) := by decide +kernel
theorem dX6_stands_7 : decode cX6_stands 7 = .ok (.if_icmp .eq 5, 3) := by decide +kernel
theorem dX6_stands_10 : decode cX6_stands 10 = .ok (.iconst 0, 1) := by decide +kernel
theorem dX6_stands_11 : decode cX6_stands 11 = .ok (.ireturn, 1) := by decide +kernel
theorem dX6_stands_12 : decode cX6_stands 12 = .ok (.iconst 0, 1) := by decide +kernel
theorem dX6_stands_13 : decode cX6_stands 13 = .ok (.istore 4, 2) := by decide +kernel
theorem dX6_stands_15 : decode cX6_stands 15 = .ok (.iload 4, 2) := by decide +kernel
theorem dX6_stands_17 : decode cX6_stands 17 = .ok (.aload_n 1, 1) := by decide +kernel
theorem dX6_stands_18 : decode cX6_stands 18 = .ok (.invokevirtual 23, 3) := by decide +kernel
theorem dX6_stands_21 : decode cX6_stands 21 = .ok (.if_icmp .ge 28, 3) := by decide +kernel
theorem dX6_stands_24 : decode cX6_stands 24 = .ok (.aload_n 0, 1) := by decide +kernel
theorem dX6_stands_25 : decode cX6_stands 25 = .ok (.iload_n 2, 1) := by decide +kernel
theorem dX6_stands_26 : decode cX6_stands 26 = .ok (.iload 4, 2) := by decide +kernel
theorem dX6_stands_28 : decode cX6_stands 28 = .ok (.iadd, 1) := by decide +kernel
theorem dX6_stands_29 : decode cX6_stands 29 = .ok (.invokevirtual 19, 3) := by decide +kernel
theorem dX6_stands_32 : decode cX6_stands 32 = .ok (.aload_n 1, 1) := by decide +kernel
theorem dX6_stands_33 : decode cX6_stands 33 = .ok (.iload 4, 2) := by decide +kernel
theorem dX6_stands_35 : decode cX6_stands 35 = .ok (.invokevirtual 28, 3) := by decide +kernel
theorem dX6_stands_38 : decode cX6_stands 38 = .ok (.if_icmp .eq 5, 3) := by decide +kernel
theorem dX6_stands_41 : decode cX6_stands 41 = .ok (.iconst 0, 1) := by decide +kernel
theorem dX6_stands_42 : decode cX6_stands 42 = .ok (.ireturn, 1) := by decide +kernel
theorem dX6_stands_43 : decode cX6_stands 43 = .ok (.iinc 4 1, 3) := by decide +kernel
theorem dX6_stands_46 : decode cX6_stands 46 = .ok (.goto (-31), 3) := by decide +kernel
theorem dX6_stands_49 : decode cX6_stands 49 = .ok (.iconst 1, 1) := by decide +kernel
theorem dX6_stands_50 : decode cX6_stands 50 = .ok (.ireturn, 1) := by decide +kernel
theorem dX7_init_0 : decode cX7_init 0 = .ok (.aload_n 0, 1) := by decide +kernel
theorem dX7_init_1 : decode cX7_init 1 = .ok (.invokespecial 3, 3) := by decide +kernel
theorem dX7_init_4 : decode cX7_init 4 = .ok (.aload_n 0, 1) := by decide +kernel
theorem dX7_init_5 : decode cX7_init 5 = .ok (.bipush 10, 2) := by decide +kernel
theorem dX7_init_7 : decode cX7_init 7 = .ok (.newarray .int, 2) := by decide +kernel
theorem dX7_init_9 : decode cX7_init 9 = .ok (.putfield 9, 3) := by decide +kernel
theorem dX7_init_12 : decode cX7_init 12 = .ok (.aload_n 0, 1) := by decide +kernel
theorem dX7_init_13 : decode cX7_init 13 = .ok (.bipush 10, 2) := by decide +kernel
theorem dX7_init_15 : decode cX7_init 15 = .ok (.newarray .int, 2) := by decide +kernel
theorem dX7_init_17 : decode cX7_init 17 = .ok (.putfield 15, 3) := by decide +kernel
theorem dX7_init_20 : decode cX7_init 20 = .ok (.aload_n 0, 1) := by decide +kernel
theorem dX7_init_21 : decode cX7_init 21 = .ok (.bipush 10, 2) := by decide +kernel
theorem dX7_init_23 : decode cX7_init 23 = .ok (.newarray .int, 2) := by decide +kernel
theorem dX7_init_25 : decode cX7_init 25 = .ok (.putfield 18, 3) := by decide +kernel
theorem dX7_init_28 : decode cX7_init 28 = .ok (.aload_n 0, 1) := by decide +kernel
theorem dX7_init_29 : decode cX7_init 29 = .ok (.bipush 10, 2) := by decide +kernel
theorem dX7_init_31 : decode cX7_init 31 = .ok (.newarray .int, 2) := by decide +kernel
theorem dX7_init_33 : decode cX7_init 33 = .ok (.putfield 21, 3) := by decide +kernel
theorem dX7_init_36 : decode cX7_init 36 = .ok (.aload_n 0, 1) := by decide +kernel
theorem dX7_init_37 : decode cX7_init 37 = .ok (.bipush 10, 2) := by decide +kernel
theorem dX7_init_39 : decode cX7_init 39 = .ok (.newarray .int, 2) := by decide +kernel
theorem dX7_init_41 : decode cX7_init 41 = .ok (.putfield 24, 3) := by decide +kernel
theorem dX7_init_44 : decode cX7_init 44 = .ok (.aload_n 0, 1) := by decide +kernel
theorem dX7_init_45 : decode cX7_init 45 = .ok (.bipush 10, 2) := by decide +kernel
theorem dX7_init_47 : decode cX7_init 47 = .ok (.newarray .int, 2) := by decide +kernel
theorem dX7_init_49 : decode cX7_init 49 = .ok (.putfield 27, 3) := by decide +kernel
theorem dX7_init_52 : decode cX7_init 52 = .ok (.aload_n 0, 1) := by decide +kernel
theorem dX7_init_53 : decode cX7_init 53 = .ok (.bipush 10, 2) := by decide +kernel
theorem dX7_init_55 : decode cX7_init 55 = .ok (.newarray .int, 2) := by decide +kernel
theorem dX7_init_57 : decode cX7_init 57 = .ok (.putfield 30, 3) := by decide +kernel
theorem dX7_init_60 : decode cX7_init 60 = .ok (.aload_n 0, 1) := by decide +kernel
theorem dX7_init_61 : decode cX7_init 61 = .ok (.bipush 8, 2) := by decide +kernel
theorem dX7_init_63 : decode cX7_init 63 = .ok (.newarray .int, 2) := by decide +kernel
theorem dX7_init_65 : decode cX7_init 65 = .ok (.putfield 33, 3) := by decide +kernel
theorem dX7_init_68 : decode cX7_init 68 = .ok (.aload_n 0, 1) := by decide +kernel
theorem dX7_init_69 : decode cX7_init 69 = .ok (.bipush 8, 2) := by decide +kernel
theorem dX7_init_71 : decode cX7_init 71 = .ok (.newarray .int, 2) := by decide +kernel
theorem dX7_init_73 : decode cX7_init 73 = .ok (.putfield 36, 3) := by decide +kernel
theorem dX7_init_76 : decode cX7_init 76 = .ok (.aload_n 0, 1) := by decide +kernel
theorem dX7_init_77 : decode cX7_init 77 = .ok (.bipush 8, 2) := by decide +kernel
theorem dX7_init_79 : decode cX7_init 79 = .ok (.newarray .int, 2) := by decide +kernel
theorem dX7_init_81 : decode cX7_init 81 = .ok (.putfield 39, 3) := by decide +kernel
theorem dX7_init_84 : decode cX7_init 84 = .ok (.return_, 1) := by decide +kernel
theorem dX7_hasPart_0 : decode cX7_hasPart 0 = .ok (.iload_n 1, 1) := by decide +kernel
theorem dX7_hasPart_1 : decode cX7_hasPart 1 = .ok (.ifCond .lt 15, 3) := by decide +kernel
theorem dX7_hasPart_4 : decode cX7_hasPart 4 = .ok (.iload_n 1, 1) := by decide +kernel
theorem dX7_hasPart_5 : decode cX7_hasPart 5 = .ok (.aload_n 0, 1) := by decide +kernel
theorem dX7_hasPart_6 : decode cX7_hasPart 6 = .ok (.getfield 42, 3) := by decide +kernel
theorem dX7_hasPart_9 : decode cX7_hasPart 9 = .ok (.if_icmp .ge 7, 3) := by decide +kernel
theorem dX7_hasPart_12 : decode cX7_hasPart 12 = .ok (.iconst 1, 1) := by decide +kernel
theorem dX7_hasPart_13 : decode cX7_hasPart 13 = .ok (.goto 4, 3) := by decide +kernel
theorem dX7_hasPart_16 : decode cX7_hasPart 16 = .ok (.iconst 0, 1) := by decide +kernel
theorem dX7_hasPart_17 : decode cX7_hasPart 17 = .ok (.ireturn, 1) := by decide +kernel
theorem dX7_isOfKind_0 : decode cX7_isOfKind 0 = .ok (.aload_n 0, 1) := by decide +kernel
theorem dX7_isOfKind_1 : decode cX7_isOfKind 1 = .ok (.iload_n 1, 1) := by decide +kernel
theorem dX7_isOfKind_2 : decode cX7_isOfKind 2 = .ok (.invokevirtual 46, 3) := by decide +kernel
theorem dX7_isOfKind_5 : decode cX7_isOfKind 5 = .ok (.ifCond .eq 17, 3) := by decide +kernel
theorem dX7_isOfKind_8 : decode cX7_isOfKind 8 = .ok (.aload_n 0, 1) := by decide +kernel
theorem dX7_isOfKind_9 : decode cX7_isOfKind 9 = .ok (.getfield 9, 3) := by decide +kernel
theorem dX7_isOfKind_12 : decode cX7_isOfKind 12 = .ok (.iload_n 1, 1) := by decide +kernel
theorem dX7_isOfKind_13 : decode cX7_isOfKind 13 = .ok (.iaload, 1) := by decide +kernel
theorem dX7_isOfKind_14 : decode cX7_isOfKind 14 = .ok (.iload_n 2, 1) := by decide +kernel
theorem dX7_isOfKind_15 : decode cX7_isOfKind 15 = .ok (.if_icmp .ne 7, 3) := by decide +kernel
theorem dX7_isOfKind_18 : decode cX7_isOfKind 18 = .ok (.iconst 1, 1) := by decide +kernel
theorem dX7_isOfKind_19 : decode cX7_isOfKind 19 = .ok (.goto 4, 3) := by decide +kernel
theorem dX7_isOfKind_22 : decode cX7_isOfKind 22 = .ok (.iconst 0, 1) := by decide +kernel
theorem dX7_isOfKind_23 : decode cX7_isOfKind 23 = .ok (.ireturn, 1) := by decide +kernel
theorem dX7_hasScene_0 : decode cX7_hasScene 0 = .ok (.iload_n 1, 1) := by decide +kernel
theorem dX7_hasScene_1 : decode cX7_hasScene 1 = .ok (.ifCond .lt 15, 3) := by decide +kernel
theorem dX7_hasScene_4 : decode cX7_hasScene 4 = .ok (.iload_n 1, 1) := by decide +kernel
theorem dX7_hasScene_5 : decode cX7_hasScene 5 = .ok (.aload_n 0, 1) := by decide +kernel
theorem dX7_hasScene_6 : decode cX7_hasScene 6 = .ok (.getfield 50, 3) := by decide +kernel
theorem dX7_hasScene_9 : decode cX7_hasScene 9 = .ok (.if_icmp .ge 7, 3) := by decide +kernel
theorem dX7_hasScene_12 : decode cX7_hasScene 12 = .ok (.iconst 1, 1) := by decide +kernel
theorem dX7_hasScene_13 : decode cX7_hasScene 13 = .ok (.goto 4, 3) := by decide +kernel
theorem dX7_hasScene_16 : decode cX7_hasScene 16 = .ok (.iconst 0, 1) := by decide +kernel
theorem dX7_hasScene_17 : decode cX7_hasScene 17 = .ok (.ireturn, 1) := by decide +kernel
theorem dX7_clear_0 : decode cX7_clear 0 = .ok (.aload_n 0, 1) := by decide +kernel
theorem dX7_clear_1 : decode cX7_clear 1 = .ok (.iconst 0, 1) := by decide +kernel
theorem dX7_clear_2 : decode cX7_clear 2 = .ok (.putfield 42, 3) := by decide +kernel
theorem dX7_clear_5 : decode cX7_clear 5 = .ok (.aload_n 0, 1) := by decide +kernel
theorem dX7_clear_6 : decode cX7_clear 6 = .ok (.iconst 0, 1) := by decide +kernel
theorem dX7_clear_7 : decode cX7_clear 7 = .ok (.putfield 53, 3) := by decide +kernel
theorem dX7_clear_10 : decode cX7_clear 10 = .ok (.aload_n 0, 1) := by decide +kernel
theorem dX7_clear_11 : decode cX7_clear 11 = .ok (.iconst 0, 1) := by decide +kernel
theorem dX7_clear_12 : decode cX7_clear 12 = .ok (.putfield 50, 3) := by decide +kernel
theorem dX7_clear_15 : decode cX7_clear 15 = .ok (.return_, 1) := by decide +kernel
theorem dX7_addPart_0 : decode cX7_addPart 0 = .ok (.aload_n 0, 1) := by decide +kernel
theorem dX7_addPart_1 : decode cX7_addPart 1 = .ok (.getfield 42, 3) := by decide +kernel
theorem dX7_addPart_4 : decode cX7_addPart 4 = .ok (.bipush 10, 2) := by decide +kernel
theorem dX7_addPart_6 : decode cX7_addPart 6 = .ok (.if_icmp .ge 64, 3) := by decide +kernel
theorem dX7_addPart_9 : decode cX7_addPart 9 = .ok (.aload_n 0, 1) := by decide +kernel
theorem dX7_addPart_10 : decode cX7_addPart 10 = .ok (.getfield 9, 3) := by decide +kernel
theorem dX7_addPart_13 : decode cX7_addPart 13 = .ok (.aload_n 0, 1) := by decide +kernel
theorem dX7_addPart_14 : decode cX7_addPart 14 = .ok (.getfield 42, 3) := by decide +kernel
theorem dX7_addPart_17 : decode cX7_addPart 17 = .ok (.iload_n 1, 1) := by decide +kernel
theorem dX7_addPart_18 : decode cX7_addPart 18 = .ok (.iastore, 1) := by decide +kernel
theorem dX7_addPart_19 : decode cX7_addPart 19 = .ok (.aload_n 0, 1) := by decide +kernel
theorem dX7_addPart_20 : decode cX7_addPart 20 = .ok (.getfield 15, 3) := by decide +kernel
theorem dX7_addPart_23 : decode cX7_addPart 23 = .ok (.aload_n 0, 1) := by decide +kernel
theorem dX7_addPart_24 : decode cX7_addPart 24 = .ok (.getfield 42, 3) := by decide +kernel
theorem dX7_addPart_27 : decode cX7_addPart 27 = .ok (.iload_n 2, 1) := by decide +kernel
theorem dX7_addPart_28 : decode cX7_addPart 28 = .ok (.iastore, 1) := by decide +kernel
theorem dX7_addPart_29 : decode cX7_addPart 29 = .ok (.aload_n 0, 1) := by decide +kernel
theorem dX7_addPart_30 : decode cX7_addPart 30 = .ok (.getfield 18, 3) := by decide +kernel
theorem dX7_addPart_33 : decode cX7_addPart 33 = .ok (.aload_n 0, 1) := by decide +kernel
theorem dX7_addPart_34 : decode cX7_addPart 34 = .ok (.getfield 42, 3) := by decide +kernel
theorem dX7_addPart_37 : decode cX7_addPart 37 = .ok (.iload_n 3, 1) := by decide +kernel
theorem dX7_addPart_38 : decode cX7_addPart 38 = .ok (.iastore, 1) := by decide +kernel
theorem dX7_addPart_39 : decode cX7_addPart 39 = .ok (.aload_n 0, 1) := by decide +kernel
theorem dX7_addPart_40 : decode cX7_addPart 40 = .ok (.getfield 21, 3) := by decide +kernel
theorem dX7_addPart_43 : decode cX7_addPart 43 = .ok (.aload_n 0, 1) := by decide +kernel
theorem dX7_addPart_44 : decode cX7_addPart 44 = .ok (.getfield 42, 3) := by decide +kernel
theorem dX7_addPart_47 : decode cX7_addPart 47 = .ok (.iload 4, 2) := by decide +kernel
theorem dX7_addPart_49 : decode cX7_addPart 49 = .ok (.iastore, 1) := by decide +kernel
theorem dX7_addPart_50 : decode cX7_addPart 50 = .ok (.aload_n 0, 1) := by decide +kernel
theorem dX7_addPart_51 : decode cX7_addPart 51 = .ok (.getfield 30, 3) := by decide +kernel
theorem dX7_addPart_54 : decode cX7_addPart 54 = .ok (.aload_n 0, 1) := by decide +kernel
theorem dX7_addPart_55 : decode cX7_addPart 55 = .ok (.getfield 42, 3) := by decide +kernel
theorem dX7_addPart_58 : decode cX7_addPart 58 = .ok (.iconst 0, 1) := by decide +kernel
theorem dX7_addPart_59 : decode cX7_addPart 59 = .ok (.iastore, 1) := by decide +kernel
theorem dX7_addPart_60 : decode cX7_addPart 60 = .ok (.aload_n 0, 1) := by decide +kernel
theorem dX7_addPart_61 : decode cX7_addPart 61 = .ok (.dup, 1) := by decide +kernel
theorem dX7_addPart_62 : decode cX7_addPart 62 = .ok (.getfield 42, 3) := by decide +kernel
theorem dX7_addPart_65 : decode cX7_addPart 65 = .ok (.iconst 1, 1) := by decide +kernel
theorem dX7_addPart_66 : decode cX7_addPart 66 = .ok (.iadd, 1) := by decide +kernel
theorem dX7_addPart_67 : decode cX7_addPart 67 = .ok (.putfield 42, 3) := by decide +kernel
theorem dX7_addPart_70 : decode cX7_addPart 70 = .ok (.return_, 1) := by decide +kernel
theorem dX7_setHoursOfLatest_0 : decode cX7_setHoursOfLatest 0 = .ok (.aload_n 0, 1) := by decide +kernel
theorem dX7_setHoursOfLatest_1 : decode cX7_setHoursOfLatest 1 = .ok (.aload_n 0, 1) := by decide +kernel
theorem dX7_setHoursOfLatest_2 : decode cX7_setHoursOfLatest 2 = .ok (.getfield 42, 3) := by decide +kernel
theorem dX7_setHoursOfLatest_5 : decode cX7_setHoursOfLatest 5 = .ok (.iconst 1, 1) := by decide +kernel
theorem dX7_setHoursOfLatest_6 : decode cX7_setHoursOfLatest 6 = .ok (.isub, 1) := by decide +kernel
theorem dX7_setHoursOfLatest_7 : decode cX7_setHoursOfLatest 7 = .ok (.invokevirtual 46, 3) := by decide +kernel
theorem dX7_setHoursOfLatest_10 : decode cX7_setHoursOfLatest 10 = .ok (.ifCond .eq 27, 3) := by decide +kernel
theorem dX7_setHoursOfLatest_13 : decode cX7_setHoursOfLatest 13 = .ok (.aload_n 0, 1) := by decide +kernel
theorem dX7_setHoursOfLatest_14 : decode cX7_setHoursOfLatest 14 = .ok (.getfield 24, 3) := by decide +kernel
theorem dX7_setHoursOfLatest_17 : decode cX7_setHoursOfLatest 17 = .ok (.aload_n 0, 1) := by decide +kernel
theorem dX7_setHoursOfLatest_18 : decode cX7_setHoursOfLatest 18 = .ok (.getfield 42, 3) := by decide +kernel
theorem dX7_setHoursOfLatest_21 : decode cX7_setHoursOfLatest 21 = .ok (.iconst 1, 1) := by decide +kernel
theorem dX7_setHoursOfLatest_22 : decode cX7_setHoursOfLatest 22 = .ok (.isub, 1) := by decide +kernel
theorem dX7_setHoursOfLatest_23 : decode cX7_setHoursOfLatest 23 = .ok (.iload_n 1, 1) := by decide +kernel
theorem dX7_setHoursOfLatest_24 : decode cX7_setHoursOfLatest 24 = .ok (.iastore, 1) := by decide +kernel
theorem dX7_setHoursOfLatest_25 : decode cX7_setHoursOfLatest 25 = .ok (.aload_n 0, 1) := by decide +kernel
theorem dX7_setHoursOfLatest_26 : decode cX7_setHoursOfLatest 26 = .ok (.getfield 27, 3) := by decide +kernel
theorem dX7_setHoursOfLatest_29 : decode cX7_setHoursOfLatest 29 = .ok (.aload_n 0, 1) := by decide +kernel
theorem dX7_setHoursOfLatest_30 : decode cX7_setHoursOfLatest 30 = .ok (.getfield 42, 3) := by decide +kernel
theorem dX7_setHoursOfLatest_33 : decode cX7_setHoursOfLatest 33 = .ok (.iconst 1, 1) := by decide +kernel
theorem dX7_setHoursOfLatest_34 : decode cX7_setHoursOfLatest 34 = .ok (.isub, 1) := by decide +kernel
theorem dX7_setHoursOfLatest_35 : decode cX7_setHoursOfLatest 35 = .ok (.iload_n 2, 1) := by decide +kernel
theorem dX7_setHoursOfLatest_36 : decode cX7_setHoursOfLatest 36 = .ok (.iastore, 1) := by decide +kernel
theorem dX7_setHoursOfLatest_37 : decode cX7_setHoursOfLatest 37 = .ok (.return_, 1) := by decide +kernel
theorem dX7_isClash_0 : decode cX7_isClash 0 = .ok (.aload_n 0, 1) := by decide +kernel
theorem dX7_isClash_1 : decode cX7_isClash 1 = .ok (.iload_n 1, 1) := by decide +kernel
theorem dX7_isClash_2 : decode cX7_isClash 2 = .ok (.invokevirtual 46, 3) := by decide +kernel
theorem dX7_isClash_5 : decode cX7_isClash 5 = .ok (.ifCond .eq 20, 3) := by decide +kernel
theorem dX7_isClash_8 : decode cX7_isClash 8 = .ok (.aload_n 0, 1) := by decide +kernel
theorem dX7_isClash_9 : decode cX7_isClash 9 = .ok (.getfield 30, 3) := by decide +kernel
theorem dX7_isClash_12 : decode cX7_isClash 12 = .ok (.iload_n 1, 1) := by decide +kernel
theorem dX7_isClash_13 : decode cX7_isClash 13 = .ok (.iaload, 1) := by decide +kernel
theorem dX7_isClash_14 : decode cX7_isClash 14 = .ok (.iload_n 2, 1) := by decide +kernel
theorem dX7_isClash_15 : decode cX7_isClash 15 = .ok (.invokestatic 56, 3) := by decide +kernel
theorem dX7_isClash_18 : decode cX7_isClash 18 = .ok (.ifCond .eq 7, 3) := by decide +kernel
theorem dX7_isClash_21 : decode cX7_isClash 21 = .ok (.iconst 1, 1) := by decide +kernel
theorem dX7_isClash_22 : decode cX7_isClash 22 = .ok (.goto 4, 3) := by decide +kernel
theorem dX7_isClash_25 : decode cX7_isClash 25 = .ok (.iconst 0, 1) := by decide +kernel
theorem dX7_isClash_26 : decode cX7_isClash 26 = .ok (.ireturn, 1) := by decide +kernel
theorem dX7_addClash_0 : decode cX7_addClash 0 = .ok (.aload_n 0, 1) := by decide +kernel
theorem dX7_addClash_1 : decode cX7_addClash 1 = .ok (.iload_n 1, 1) := by decide +kernel
theorem dX7_addClash_2 : decode cX7_addClash 2 = .ok (.invokevirtual 46, 3) := by decide +kernel
theorem dX7_addClash_5 : decode cX7_addClash 5 = .ok (.ifCond .eq 45, 3) := by decide +kernel
theorem dX7_addClash_8 : decode cX7_addClash 8 = .ok (.aload_n 0, 1) := by decide +kernel
theorem dX7_addClash_9 : decode cX7_addClash 9 = .ok (.iload_n 2, 1) := by decide +kernel
theorem dX7_addClash_10 : decode cX7_addClash 10 = .ok (.invokevirtual 46, 3) := by decide +kernel
theorem dX7_addClash_13 : decode cX7_addClash 13 = .ok (.ifCond .eq 37, 3) := by decide +kernel
theorem dX7_addClash_16 : decode cX7_addClash 16 = .ok (.aload_n 0, 1) := by decide +kernel
theorem dX7_addClash_17 : decode cX7_addClash 17 = .ok (.getfield 30, 3) := by decide +kernel
theorem dX7_addClash_20 : decode cX7_addClash 20 = .ok (.iload_n 1, 1) := by decide +kernel
theorem dX7_addClash_21 : decode cX7_addClash 21 = .ok (.dup2, 1) := by decide +kernel
theorem dX7_addClash_22 : decode cX7_addClash 22 = .ok (.iaload, 1) := by decide +kernel
theorem dX7_addClash_23 : decode cX7_addClash 23 = .ok (.iconst 1, 1) := by decide +kernel
theorem dX7_addClash_24 : decode cX7_addClash 24 = .ok (.iload_n 2, 1) := by decide +kernel
theorem dX7_addClash_25 : decode cX7_addClash 25 = .ok (.ishl, 1) := by decide +kernel
theorem dX7_addClash_26 : decode cX7_addClash 26 = .ok (.ior, 1) := by decide +kernel
theorem dX7_addClash_27 : decode cX7_addClash 27 = .ok (.iastore, 1) := by decide +kernel
theorem dX7_addClash_28 : decode cX7_addClash 28 = .ok (.aload_n 0, 1) := by decide +kernel
theorem dX7_addClash_29 : decode cX7_addClash 29 = .ok (.getfield 30, 3) := by decide +kernel
theorem dX7_addClash_32 : decode cX7_addClash 32 = .ok (.iload_n 2, 1) := by decide +kernel
theorem dX7_addClash_33 : decode cX7_addClash 33 = .ok (.dup2, 1) := by decide +kernel
theorem dX7_addClash_34 : decode cX7_addClash 34 = .ok (.iaload, 1) := by decide +kernel
theorem dX7_addClash_35 : decode cX7_addClash 35 = .ok (.iconst 1, 1) := by decide +kernel
theorem dX7_addClash_36 : decode cX7_addClash 36 = .ok (.iload_n 1, 1) := by decide +kernel
theorem dX7_addClash_37 : decode cX7_addClash 37 = .ok (.ishl, 1) := by decide +kernel
theorem dX7_addClash_38 : decode cX7_addClash 38 = .ok (.ior, 1) := by decide +kernel
theorem dX7_addClash_39 : decode cX7_addClash 39 = .ok (.iastore, 1) := by decide +kernel
theorem dX7_addClash_40 : decode cX7_addClash 40 = .ok (.aload_n 0, 1) := by decide +kernel
theorem dX7_addClash_41 : decode cX7_addClash 41 = .ok (.dup, 1) := by decide +kernel
theorem dX7_addClash_42 : decode cX7_addClash 42 = .ok (.getfield 53, 3) := by decide +kernel
theorem dX7_addClash_45 : decode cX7_addClash 45 = .ok (.iconst 1, 1) := by decide +kernel
theorem dX7_addClash_46 : decode cX7_addClash 46 = .ok (.iadd, 1) := by decide +kernel
theorem dX7_addClash_47 : decode cX7_addClash 47 = .ok (.putfield 53, 3) := by decide +kernel
theorem dX7_addClash_50 : decode cX7_addClash 50 = .ok (.return_, 1) := by decide +kernel
theorem dX7_addScene_0 : decode cX7_addScene 0 = .ok (.aload_n 0, 1) := by decide +kernel
theorem dX7_addScene_1 : decode cX7_addScene 1 = .ok (.getfield 50, 3) := by decide +kernel
theorem dX7_addScene_4 : decode cX7_addScene 4 = .ok (.bipush 8, 2) := by decide +kernel
theorem dX7_addScene_6 : decode cX7_addScene 6 = .ok (.if_icmp .ge 43, 3) := by decide +kernel
theorem dX7_addScene_9 : decode cX7_addScene 9 = .ok (.aload_n 0, 1) := by decide +kernel
theorem dX7_addScene_10 : decode cX7_addScene 10 = .ok (.getfield 33, 3) := by decide +kernel
theorem dX7_addScene_13 : decode cX7_addScene 13 = .ok (.aload_n 0, 1) := by decide +kernel
theorem dX7_addScene_14 : decode cX7_addScene 14 = .ok (.getfield 50, 3) := by decide +kernel
theorem dX7_addScene_17 : decode cX7_addScene 17 = .ok (.iload_n 1, 1) := by decide +kernel
theorem dX7_addScene_18 : decode cX7_addScene 18 = .ok (.iastore, 1) := by decide +kernel
theorem dX7_addScene_19 : decode cX7_addScene 19 = .ok (.aload_n 0, 1) := by decide +kernel
theorem dX7_addScene_20 : decode cX7_addScene 20 = .ok (.getfield 36, 3) := by decide +kernel
theorem dX7_addScene_23 : decode cX7_addScene 23 = .ok (.aload_n 0, 1) := by decide +kernel
theorem dX7_addScene_24 : decode cX7_addScene 24 = .ok (.getfield 50, 3) := by decide +kernel
theorem dX7_addScene_27 : decode cX7_addScene 27 = .ok (.iload_n 2, 1) := by decide +kernel
theorem dX7_addScene_28 : decode cX7_addScene 28 = .ok (.iastore, 1) := by decide +kernel
theorem dX7_addScene_29 : decode cX7_addScene 29 = .ok (.aload_n 0, 1) := by decide +kernel
theorem dX7_addScene_30 : decode cX7_addScene 30 = .ok (.getfield 39, 3) := by decide +kernel
theorem dX7_addScene_33 : decode cX7_addScene 33 = .ok (.aload_n 0, 1) := by decide +kernel
theorem dX7_addScene_34 : decode cX7_addScene 34 = .ok (.getfield 50, 3) := by decide +kernel
theorem dX7_addScene_37 : decode cX7_addScene 37 = .ok (.iload_n 3, 1) := by decide +kernel
theorem dX7_addScene_38 : decode cX7_addScene 38 = .ok (.iastore, 1) := by decide +kernel
theorem dX7_addScene_39 : decode cX7_addScene 39 = .ok (.aload_n 0, 1) := by decide +kernel
theorem dX7_addScene_40 : decode cX7_addScene 40 = .ok (.dup, 1) := by decide +kernel
theorem dX7_addScene_41 : decode cX7_addScene 41 = .ok (.getfield 50, 3) := by decide +kernel
theorem dX7_addScene_44 : decode cX7_addScene 44 = .ok (.iconst 1, 1) := by decide +kernel
theorem dX7_addScene_45 : decode cX7_addScene 45 = .ok (.iadd, 1) := by decide +kernel
theorem dX7_addScene_46 : decode cX7_addScene 46 = .ok (.putfield 50, 3) := by decide +kernel
theorem dX7_addScene_49 : decode cX7_addScene 49 = .ok (.return_, 1) := by decide +kernel
theorem dX7_copyFrom_0 : decode cX7_copyFrom 0 = .ok (.aload_n 1, 1) := by decide +kernel
theorem dX7_copyFrom_1 : decode cX7_copyFrom 1 = .ok (.getfield 9, 3) := by decide +kernel
theorem dX7_copyFrom_4 : decode cX7_copyFrom 4 = .ok (.aload_n 0, 1) := by decide +kernel
theorem dX7_copyFrom_5 : decode cX7_copyFrom 5 = .ok (.getfield 9, 3) := by decide +kernel
theorem dX7_copyFrom_8 : decode cX7_copyFrom 8 = .ok (.invokestatic 60, 3) := by decide +kernel
theorem dX7_copyFrom_11 : decode cX7_copyFrom 11 = .ok (.aload_n 1, 1) := by decide +kernel
theorem dX7_copyFrom_12 : decode cX7_copyFrom 12 = .ok (.getfield 15, 3) := by decide +kernel
theorem dX7_copyFrom_15 : decode cX7_copyFrom 15 = .ok (.aload_n 0, 1) := by decide +kernel
theorem dX7_copyFrom_16 : decode cX7_copyFrom 16 = .ok (.getfield 15, 3) := by decide +kernel
theorem dX7_copyFrom_19 : decode cX7_copyFrom 19 = .ok (.invokestatic 60, 3) := by decide +kernel
theorem dX7_copyFrom_22 : decode cX7_copyFrom 22 = .ok (.aload_n 1, 1) := by decide +kernel
theorem dX7_copyFrom_23 : decode cX7_copyFrom 23 = .ok (.getfield 18, 3) := by decide +kernel
theorem dX7_copyFrom_26 : decode cX7_copyFrom 26 = .ok (.aload_n 0, 1) := by decide +kernel
theorem dX7_copyFrom_27 : decode cX7_copyFrom 27 = .ok (.getfield 18, 3) := by decide +kernel
theorem dX7_copyFrom_30 : decode cX7_copyFrom 30 = .ok (.invokestatic 60, 3) := by decide +kernel
theorem dX7_copyFrom_33 : decode cX7_copyFrom 33 = .ok (.aload_n 1, 1) := by decide +kernel
theorem dX7_copyFrom_34 : decode cX7_copyFrom 34 = .ok (.getfield 21, 3) := by decide +kernel
theorem dX7_copyFrom_37 : decode cX7_copyFrom 37 = .ok (.aload_n 0, 1) := by decide +kernel
theorem dX7_copyFrom_38 : decode cX7_copyFrom 38 = .ok (.getfield 21, 3) := by decide +kernel
theorem dX7_copyFrom_41 : decode cX7_copyFrom 41 = .ok (.invokestatic 60, 3) := by decide +kernel
theorem dX7_copyFrom_44 : decode cX7_copyFrom 44 = .ok (.aload_n 1, 1) := by decide +kernel
theorem dX7_copyFrom_45 : decode cX7_copyFrom 45 = .ok (.getfield 24, 3) := by decide +kernel
theorem dX7_copyFrom_48 : decode cX7_copyFrom 48 = .ok (.aload_n 0, 1) := by decide +kernel
theorem dX7_copyFrom_49 : decode cX7_copyFrom 49 = .ok (.getfield 24, 3) := by decide +kernel
theorem dX7_copyFrom_52 : decode cX7_copyFrom 52 = .ok (.invokestatic 60, 3) := by decide +kernel
theorem dX7_copyFrom_55 : decode cX7_copyFrom 55 = .ok (.aload_n 1, 1) := by decide +kernel
theorem dX7_copyFrom_56 : decode cX7_copyFrom 56 = .ok (.getfield 27, 3) := by decide +kernel
theorem dX7_copyFrom_59 : decode cX7_copyFrom 59 = .ok (.aload_n 0, 1) := by decide +kernel
theorem dX7_copyFrom_60 : decode cX7_copyFrom 60 = .ok (.getfield 27, 3) := by decide +kernel
theorem dX7_copyFrom_63 : decode cX7_copyFrom 63 = .ok (.invokestatic 60, 3) := by decide +kernel
theorem dX7_copyFrom_66 : decode cX7_copyFrom 66 = .ok (.aload_n 1, 1) := by decide +kernel
theorem dX7_copyFrom_67 : decode cX7_copyFrom 67 = .ok (.getfield 30, 3) := by decide +kernel
theorem dX7_copyFrom_70 : decode cX7_copyFrom 70 = .ok (.aload_n 0, 1) := by decide +kernel
theorem dX7_copyFrom_71 : decode cX7_copyFrom 71 = .ok (.getfield 30, 3) := by decide +kernel
theorem dX7_copyFrom_74 : decode cX7_copyFrom 74 = .ok (.invokestatic 60, 3) := by decide +kernel
theorem dX7_copyFrom_77 : decode cX7_copyFrom 77 = .ok (.aload_n 1, 1) := by decide +kernel
theorem dX7_copyFrom_78 : decode cX7_copyFrom 78 = .ok (.getfield 33, 3) := by decide +kernel
theorem dX7_copyFrom_81 : decode cX7_copyFrom 81 = .ok (.aload_n 0, 1) := by decide +kernel
theorem dX7_copyFrom_82 : decode cX7_copyFrom 82 = .ok (.getfield 33, 3) := by decide +kernel
theorem dX7_copyFrom_85 : decode cX7_copyFrom 85 = .ok (.invokestatic 60, 3) := by decide +kernel
theorem dX7_copyFrom_88 : decode cX7_copyFrom 88 = .ok (.aload_n 1, 1) := by decide +kernel
theorem dX7_copyFrom_89 : decode cX7_copyFrom 89 = .ok (.getfield 36, 3) := by decide +kernel
theorem dX7_copyFrom_92 : decode cX7_copyFrom 92 = .ok (.aload_n 0, 1) := by decide +kernel
theorem dX7_copyFrom_93 : decode cX7_copyFrom 93 = .ok (.getfield 36, 3) := by decide +kernel
theorem dX7_copyFrom_96 : decode cX7_copyFrom 96 = .ok (.invokestatic 60, 3) := by decide +kernel
theorem dX7_copyFrom_99 : decode cX7_copyFrom 99 = .ok (.aload_n 1, 1) := by decide +kernel
theorem dX7_copyFrom_100 : decode cX7_copyFrom 100 = .ok (.getfield 39, 3) := by decide +kernel
theorem dX7_copyFrom_103 : decode cX7_copyFrom 103 = .ok (.aload_n 0, 1) := by decide +kernel
theorem dX7_copyFrom_104 : decode cX7_copyFrom 104 = .ok (.getfield 39, 3) := by decide +kernel
theorem dX7_copyFrom_107 : decode cX7_copyFrom 107 = .ok (.invokestatic 60, 3) := by decide +kernel
theorem dX7_copyFrom_110 : decode cX7_copyFrom 110 = .ok (.aload_n 0, 1) := by decide +kernel
theorem dX7_copyFrom_111 : decode cX7_copyFrom 111 = .ok (.aload_n 1, 1) := by decide +kernel
theorem dX7_copyFrom_112 : decode cX7_copyFrom 112 = .ok (.getfield 42, 3) := by decide +kernel
theorem dX7_copyFrom_115 : decode cX7_copyFrom 115 = .ok (.putfield 42, 3) := by decide +kernel
theorem dX7_copyFrom_118 : decode cX7_copyFrom 118 = .ok (.aload_n 0, 1) := by decide +kernel
theorem dX7_copyFrom_119 : decode cX7_copyFrom 119 = .ok (.aload_n 1, 1) := by decide +kernel
theorem dX7_copyFrom_120 : decode cX7_copyFrom 120 = .ok (.getfield 53, 3) := by decide +kernel
theorem dX7_copyFrom_123 : decode cX7_copyFrom 123 = .ok (.putfield 53, 3) := by decide +kernel
theorem dX7_copyFrom_126 : decode cX7_copyFrom 126 = .ok (.aload_n 0, 1) := by decide +kernel
theorem dX7_copyFrom_127 : decode cX7_copyFrom 127 = .ok (.aload_n 1, 1) := by decide +kernel
theorem dX7_copyFrom_128 : decode cX7_copyFrom 128 = .ok (.getfield 50, 3) := by decide +kernel
theorem dX7_copyFrom_131 : decode cX7_copyFrom 131 = .ok (.putfield 50, 3) := by decide +kernel
theorem dX7_copyFrom_134 : decode cX7_copyFrom 134 = .ok (.return_, 1) := by decide +kernel
theorem dX7_isFree_0 : decode cX7_isFree 0 = .ok (.aload_n 0, 1) := by decide +kernel
theorem dX7_isFree_1 : decode cX7_isFree 1 = .ok (.iload_n 1, 1) := by decide +kernel
theorem dX7_isFree_2 : decode cX7_isFree 2 = .ok (.invokevirtual 46, 3) := by decide +kernel
theorem dX7_isFree_5 : decode cX7_isFree 5 = .ok (.ifCond .eq 27, 3) := by decide +kernel
theorem dX7_isFree_8 : decode cX7_isFree 8 = .ok (.aload_n 0, 1) := by decide +kernel
theorem dX7_isFree_9 : decode cX7_isFree 9 = .ok (.getfield 24, 3) := by decide +kernel
theorem dX7_isFree_12 : decode cX7_isFree 12 = .ok (.iload_n 1, 1) := by decide +kernel
theorem dX7_isFree_13 : decode cX7_isFree 13 = .ok (.iaload, 1) := by decide +kernel
theorem dX7_isFree_14 : decode cX7_isFree 14 = .ok (.iload_n 2, 1) := by decide +kernel
theorem dX7_isFree_15 : decode cX7_isFree 15 = .ok (.if_icmp .gt 17, 3) := by decide +kernel
theorem dX7_isFree_18 : decode cX7_isFree 18 = .ok (.iload_n 2, 1) := by decide +kernel
theorem dX7_isFree_19 : decode cX7_isFree 19 = .ok (.aload_n 0, 1) := by decide +kernel
theorem dX7_isFree_20 : decode cX7_isFree 20 = .ok (.getfield 27, 3) := by decide +kernel
theorem dX7_isFree_23 : decode cX7_isFree 23 = .ok (.iload_n 1, 1) := by decide +kernel
theorem dX7_isFree_24 : decode cX7_isFree 24 = .ok (.iaload, 1) := by decide +kernel
theorem dX7_isFree_25 : decode cX7_isFree 25 = .ok (.if_icmp .gt 7, 3) := by decide +kernel
theorem dX7_isFree_28 : decode cX7_isFree 28 = .ok (.iconst 1, 1) := by decide +kernel
theorem dX7_isFree_29 : decode cX7_isFree 29 = .ok (.goto 4, 3) := by decide +kernel
theorem dX7_isFree_32 : decode cX7_isFree 32 = .ok (.iconst 0, 1) := by decide +kernel
theorem dX7_isFree_33 : decode cX7_isFree 33 = .ok (.ireturn, 1) := by decide +kernel
theorem dX7_freeIn_0 : decode cX7_freeIn 0 = .ok (.iconst 0, 1) := by decide +kernel
theorem dX7_freeIn_1 : decode cX7_freeIn 1 = .ok (.istore_n 2, 1) := by decide +kernel
theorem dX7_freeIn_2 : decode cX7_freeIn 2 = .ok (.iconst 0, 1) := by decide +kernel
theorem dX7_freeIn_3 : decode cX7_freeIn 3 = .ok (.istore_n 3, 1) := by decide +kernel
theorem dX7_freeIn_4 : decode cX7_freeIn 4 = .ok (.iload_n 3, 1) := by decide +kernel
end
section
theorem dX7_freeIn_5 : decode cX7_freeIn 5 = .ok (.aload_n 0, 1) := by decide +kernel
theorem dX7_freeIn_6 : decode cX7_freeIn 6 = .ok (.getfield 42, 3) := by decide +kernel
theorem dX7_freeIn_9 : decode cX7_freeIn 9 = .ok (.if_icmp .ge 24, 3) := by decide +kernel
theorem dX7_freeIn_12 : decode cX7_freeIn 12 = .ok (.aload_n 0, 1) := by decide +kernel
theorem dX7_freeIn_13 : decode cX7_freeIn 13 = .ok (.iload_n 3, 1) := by decide +kernel
theorem dX7_freeIn_14 : decode cX7_freeIn 14 = .ok (.iload_n 1, 1) := by decide +kernel
theorem dX7_freeIn_15 : decode cX7_freeIn 15 = .ok (.invokevirtual 64, 3) := by decide +kernel
theorem dX7_freeIn_18 : decode cX7_freeIn 18 = .ok (.ifCond .eq 9, 3) := by decide +kernel
theorem dX7_freeIn_21 : decode cX7_freeIn 21 = .ok (.iload_n 2, 1) := by decide +kernel
theorem dX7_freeIn_22 : decode cX7_freeIn 22 = .ok (.iconst 1, 1) := by decide +kernel
theorem dX7_freeIn_23 : decode cX7_freeIn 23 = .ok (.iload_n 3, 1) := by decide +kernel
theorem dX7_freeIn_24 : decode cX7_freeIn 24 = .ok (.ishl, 1) := by decide +kernel
theorem dX7_freeIn_25 : decode cX7_freeIn 25 = .ok (.ior, 1) := by decide +kernel
theorem dX7_freeIn_26 : decode cX7_freeIn 26 = .ok (.istore_n 2, 1) := by decide +kernel
theorem dX7_freeIn_27 : decode cX7_freeIn 27 = .ok (.iinc 3 1, 3) := by decide +kernel
theorem dX7_freeIn_30 : decode cX7_freeIn 30 = .ok (.goto (-26), 3) := by decide +kernel
theorem dX7_freeIn_33 : decode cX7_freeIn 33 = .ok (.iload_n 2, 1) := by decide +kernel
theorem dX7_freeIn_34 : decode cX7_freeIn 34 = .ok (.ireturn, 1) := by decide +kernel
theorem dX7_ownedBy_0 : decode cX7_ownedBy 0 = .ok (.iconst 0, 1) := by decide +kernel
theorem dX7_ownedBy_1 : decode cX7_ownedBy 1 = .ok (.istore_n 2, 1) := by decide +kernel
theorem dX7_ownedBy_2 : decode cX7_ownedBy 2 = .ok (.iconst 0, 1) := by decide +kernel
theorem dX7_ownedBy_3 : decode cX7_ownedBy 3 = .ok (.istore_n 3, 1) := by decide +kernel
theorem dX7_ownedBy_4 : decode cX7_ownedBy 4 = .ok (.iload_n 3, 1) := by decide +kernel
theorem dX7_ownedBy_5 : decode cX7_ownedBy 5 = .ok (.aload_n 0, 1) := by decide +kernel
theorem dX7_ownedBy_6 : decode cX7_ownedBy 6 = .ok (.getfield 42, 3) := by decide +kernel
theorem dX7_ownedBy_9 : decode cX7_ownedBy 9 = .ok (.if_icmp .ge 25, 3) := by decide +kernel
theorem dX7_ownedBy_12 : decode cX7_ownedBy 12 = .ok (.aload_n 0, 1) := by decide +kernel
theorem dX7_ownedBy_13 : decode cX7_ownedBy 13 = .ok (.getfield 15, 3) := by decide +kernel
theorem dX7_ownedBy_16 : decode cX7_ownedBy 16 = .ok (.iload_n 3, 1) := by decide +kernel
theorem dX7_ownedBy_17 : decode cX7_ownedBy 17 = .ok (.iaload, 1) := by decide +kernel
theorem dX7_ownedBy_18 : decode cX7_ownedBy 18 = .ok (.iload_n 1, 1) := by decide +kernel
theorem dX7_ownedBy_19 : decode cX7_ownedBy 19 = .ok (.if_icmp .ne 9, 3) := by decide +kernel
theorem dX7_ownedBy_22 : decode cX7_ownedBy 22 = .ok (.iload_n 2, 1) := by decide +kernel
theorem dX7_ownedBy_23 : decode cX7_ownedBy 23 = .ok (.iconst 1, 1) := by decide +kernel
theorem dX7_ownedBy_24 : decode cX7_ownedBy 24 = .ok (.iload_n 3, 1) := by decide +kernel
theorem dX7_ownedBy_25 : decode cX7_ownedBy 25 = .ok (.ishl, 1) := by decide +kernel
theorem dX7_ownedBy_26 : decode cX7_ownedBy 26 = .ok (.ior, 1) := by decide +kernel
theorem dX7_ownedBy_27 : decode cX7_ownedBy 27 = .ok (.istore_n 2, 1) := by decide +kernel
theorem dX7_ownedBy_28 : decode cX7_ownedBy 28 = .ok (.iinc 3 1, 3) := by decide +kernel
theorem dX7_ownedBy_31 : decode cX7_ownedBy 31 = .ok (.goto (-27), 3) := by decide +kernel
theorem dX7_ownedBy_34 : decode cX7_ownedBy 34 = .ok (.iload_n 2, 1) := by decide +kernel
theorem dX7_ownedBy_35 : decode cX7_ownedBy 35 = .ok (.ireturn, 1) := by decide +kernel
theorem dX8_init_0 : decode cX8_init 0 = .ok (.aload_n 0, 1) := by decide +kernel
theorem dX8_init_1 : decode cX8_init 1 = .ok (.invokespecial 1, 3) := by decide +kernel
theorem dX8_init_4 : decode cX8_init 4 = .ok (.aload_n 0, 1) := by decide +kernel
theorem dX8_init_5 : decode cX8_init 5 = .ok (.new 7, 3) := by decide +kernel
theorem dX8_init_8 : decode cX8_init 8 = .ok (.dup, 1) := by decide +kernel
theorem dX8_init_9 : decode cX8_init 9 = .ok (.invokespecial 9, 3) := by decide +kernel
theorem dX8_init_12 : decode cX8_init 12 = .ok (.putfield 10, 3) := by decide +kernel
theorem dX8_init_15 : decode cX8_init 15 = .ok (.aload_n 0, 1) := by decide +kernel
theorem dX8_init_16 : decode cX8_init 16 = .ok (.new 16, 3) := by decide +kernel
theorem dX8_init_19 : decode cX8_init 19 = .ok (.dup, 1) := by decide +kernel
theorem dX8_init_20 : decode cX8_init 20 = .ok (.invokespecial 18, 3) := by decide +kernel
theorem dX8_init_23 : decode cX8_init 23 = .ok (.putfield 19, 3) := by decide +kernel
theorem dX8_init_26 : decode cX8_init 26 = .ok (.aload_n 0, 1) := by decide +kernel
theorem dX8_init_27 : decode cX8_init 27 = .ok (.new 16, 3) := by decide +kernel
theorem dX8_init_30 : decode cX8_init 30 = .ok (.dup, 1) := by decide +kernel
theorem dX8_init_31 : decode cX8_init 31 = .ok (.invokespecial 18, 3) := by decide +kernel
theorem dX8_init_34 : decode cX8_init 34 = .ok (.putfield 23, 3) := by decide +kernel
theorem dX8_init_37 : decode cX8_init 37 = .ok (.aload_n 0, 1) := by decide +kernel
theorem dX8_init_38 : decode cX8_init 38 = .ok (.new 26, 3) := by decide +kernel
theorem dX8_init_41 : decode cX8_init 41 = .ok (.dup, 1) := by decide +kernel
theorem dX8_init_42 : decode cX8_init 42 = .ok (.aload_n 0, 1) := by decide +kernel
theorem dX8_init_43 : decode cX8_init 43 = .ok (.getfield 10, 3) := by decide +kernel
theorem dX8_init_46 : decode cX8_init 46 = .ok (.aload_n 0, 1) := by decide +kernel
theorem dX8_init_47 : decode cX8_init 47 = .ok (.getfield 23, 3) := by decide +kernel
theorem dX8_init_50 : decode cX8_init 50 = .ok (.invokespecial 28, 3) := by decide +kernel
theorem dX8_init_53 : decode cX8_init 53 = .ok (.putfield 31, 3) := by decide +kernel
theorem dX8_init_56 : decode cX8_init 56 = .ok (.aload_n 0, 1) := by decide +kernel
theorem dX8_init_57 : decode cX8_init 57 = .ok (.new 35, 3) := by decide +kernel
theorem dX8_init_60 : decode cX8_init 60 = .ok (.dup, 1) := by decide +kernel
theorem dX8_init_61 : decode cX8_init 61 = .ok (.invokespecial 37, 3) := by decide +kernel
theorem dX8_init_64 : decode cX8_init 64 = .ok (.putfield 38, 3) := by decide +kernel
theorem dX8_init_67 : decode cX8_init 67 = .ok (.aload_n 0, 1) := by decide +kernel
theorem dX8_init_68 : decode cX8_init 68 = .ok (.new 35, 3) := by decide +kernel
theorem dX8_init_71 : decode cX8_init 71 = .ok (.dup, 1) := by decide +kernel
theorem dX8_init_72 : decode cX8_init 72 = .ok (.invokespecial 37, 3) := by decide +kernel
theorem dX8_init_75 : decode cX8_init 75 = .ok (.putfield 42, 3) := by decide +kernel
theorem dX8_init_78 : decode cX8_init 78 = .ok (.aload_n 0, 1) := by decide +kernel
theorem dX8_init_79 : decode cX8_init 79 = .ok (.new 35, 3) := by decide +kernel
theorem dX8_init_82 : decode cX8_init 82 = .ok (.dup, 1) := by decide +kernel
theorem dX8_init_83 : decode cX8_init 83 = .ok (.invokespecial 37, 3) := by decide +kernel
theorem dX8_init_86 : decode cX8_init 86 = .ok (.putfield 45, 3) := by decide +kernel
theorem dX8_init_89 : decode cX8_init 89 = .ok (.aload_n 0, 1) := by decide +kernel
theorem dX8_init_90 : decode cX8_init 90 = .ok (.iconst 2, 1) := by decide +kernel
theorem dX8_init_91 : decode cX8_init 91 = .ok (.newarray .boolean, 2) := by decide +kernel
theorem dX8_init_93 : decode cX8_init 93 = .ok (.putfield 48, 3) := by decide +kernel
theorem dX8_init_96 : decode cX8_init 96 = .ok (.aload_n 0, 1) := by decide +kernel
theorem dX8_init_97 : decode cX8_init 97 = .ok (.new 52, 3) := by decide +kernel
theorem dX8_init_100 : decode cX8_init 100 = .ok (.dup, 1) := by decide +kernel
theorem dX8_init_101 : decode cX8_init 101 = .ok (.aload_n 0, 1) := by decide +kernel
theorem dX8_init_102 : decode cX8_init 102 = .ok (.getfield 19, 3) := by decide +kernel
theorem dX8_init_105 : decode cX8_init 105 = .ok (.aload_n 0, 1) := by decide +kernel
theorem dX8_init_106 : decode cX8_init 106 = .ok (.getfield 38, 3) := by decide +kernel
theorem dX8_init_109 : decode cX8_init 109 = .ok (.invokespecial 54, 3) := by decide +kernel
theorem dX8_init_112 : decode cX8_init 112 = .ok (.putfield 57, 3) := by decide +kernel
theorem dX8_init_115 : decode cX8_init 115 = .ok (.aload_n 0, 1) := by decide +kernel
theorem dX8_init_116 : decode cX8_init 116 = .ok (.new 61, 3) := by decide +kernel
theorem dX8_init_119 : decode cX8_init 119 = .ok (.dup, 1) := by decide +kernel
theorem dX8_init_120 : decode cX8_init 120 = .ok (.aload_n 0, 1) := by decide +kernel
theorem dX8_init_121 : decode cX8_init 121 = .ok (.getfield 19, 3) := by decide +kernel
theorem dX8_init_124 : decode cX8_init 124 = .ok (.aload_n 0, 1) := by decide +kernel
theorem dX8_init_125 : decode cX8_init 125 = .ok (.getfield 57, 3) := by decide +kernel
theorem dX8_init_128 : decode cX8_init 128 = .ok (.invokespecial 63, 3) := by decide +kernel
theorem dX8_init_131 : decode cX8_init 131 = .ok (.putfield 66, 3) := by decide +kernel
theorem dX8_init_134 : decode cX8_init 134 = .ok (.aload_n 0, 1) := by decide +kernel
theorem dX8_init_135 : decode cX8_init 135 = .ok (.new 70, 3) := by decide +kernel
theorem dX8_init_138 : decode cX8_init 138 = .ok (.dup, 1) := by decide +kernel
theorem dX8_init_139 : decode cX8_init 139 = .ok (.aload_n 0, 1) := by decide +kernel
theorem dX8_init_140 : decode cX8_init 140 = .ok (.getfield 19, 3) := by decide +kernel
theorem dX8_init_143 : decode cX8_init 143 = .ok (.aload_n 0, 1) := by decide +kernel
theorem dX8_init_144 : decode cX8_init 144 = .ok (.getfield 57, 3) := by decide +kernel
theorem dX8_init_147 : decode cX8_init 147 = .ok (.invokespecial 72, 3) := by decide +kernel
theorem dX8_init_150 : decode cX8_init 150 = .ok (.putfield 73, 3) := by decide +kernel
theorem dX8_init_153 : decode cX8_init 153 = .ok (.aload_n 0, 1) := by decide +kernel
theorem dX8_init_154 : decode cX8_init 154 = .ok (.new 77, 3) := by decide +kernel
theorem dX8_init_157 : decode cX8_init 157 = .ok (.dup, 1) := by decide +kernel
theorem dX8_init_158 : decode cX8_init 158 = .ok (.aload_n 0, 1) := by decide +kernel
theorem dX8_init_159 : decode cX8_init 159 = .ok (.getfield 19, 3) := by decide +kernel
theorem dX8_init_162 : decode cX8_init 162 = .ok (.invokespecial 79, 3) := by decide +kernel
theorem dX8_init_165 : decode cX8_init 165 = .ok (.putfield 82, 3) := by decide +kernel
theorem dX8_init_168 : decode cX8_init 168 = .ok (.aload_n 0, 1) := by decide +kernel
theorem dX8_init_169 : decode cX8_init 169 = .ok (.bipush 10, 2) := by decide +kernel
theorem dX8_init_171 : decode cX8_init 171 = .ok (.newarray .int, 2) := by decide +kernel
theorem dX8_init_173 : decode cX8_init 173 = .ok (.putfield 86, 3) := by decide +kernel
theorem dX8_init_176 : decode cX8_init 176 = .ok (.aload_n 0, 1) := by decide +kernel
theorem dX8_init_177 : decode cX8_init 177 = .ok (.iconst (-1), 1) := by decide +kernel
theorem dX8_init_178 : decode cX8_init 178 = .ok (.putfield 90, 3) := by decide +kernel
theorem dX8_init_181 : decode cX8_init 181 = .ok (.return_, 1) := by decide +kernel
theorem dX8_feed_0 : decode cX8_feed 0 = .ok (.iload_n 1, 1) := by decide +kernel
theorem dX8_feed_1 : decode cX8_feed 1 = .ok (.iconst 1, 1) := by decide +kernel
theorem dX8_feed_2 : decode cX8_feed 2 = .ok (.if_icmp .lt 9, 3) := by decide +kernel
theorem dX8_feed_5 : decode cX8_feed 5 = .ok (.iload_n 1, 1) := by decide +kernel
theorem dX8_feed_6 : decode cX8_feed 6 = .ok (.bipush 8, 2) := by decide +kernel
theorem dX8_feed_8 : decode cX8_feed 8 = .ok (.if_icmp .le 6, 3) := by decide +kernel
theorem dX8_feed_11 : decode cX8_feed 11 = .ok (.ldc 94, 2) := by decide +kernel
theorem dX8_feed_13 : decode cX8_feed 13 = .ok (.ireturn, 1) := by decide +kernel
theorem dX8_feed_14 : decode cX8_feed 14 = .ok (.aload_n 0, 1) := by decide +kernel
theorem dX8_feed_15 : decode cX8_feed 15 = .ok (.getfield 10, 3) := by decide +kernel
theorem dX8_feed_18 : decode cX8_feed 18 = .ok (.getfield 95, 3) := by decide +kernel
theorem dX8_feed_21 : decode cX8_feed 21 = .ok (.iload_n 1, 1) := by decide +kernel
theorem dX8_feed_22 : decode cX8_feed 22 = .ok (.iadd, 1) := by decide +kernel
theorem dX8_feed_23 : decode cX8_feed 23 = .ok (.sipush 400, 3) := by decide +kernel
theorem dX8_feed_26 : decode cX8_feed 26 = .ok (.if_icmp .le 6, 3) := by decide +kernel
theorem dX8_feed_29 : decode cX8_feed 29 = .ok (.ldc 98, 2) := by decide +kernel
theorem dX8_feed_31 : decode cX8_feed 31 = .ok (.ireturn, 1) := by decide +kernel
theorem dX8_feed_32 : decode cX8_feed 32 = .ok (.iload_n 1, 1) := by decide +kernel
theorem dX8_feed_33 : decode cX8_feed 33 = .ok (.iconst 1, 1) := by decide +kernel
theorem dX8_feed_34 : decode cX8_feed 34 = .ok (.isub, 1) := by decide +kernel
theorem dX8_feed_35 : decode cX8_feed 35 = .ok (.istore 4, 2) := by decide +kernel
theorem dX8_feed_37 : decode cX8_feed 37 = .ok (.iload 4, 2) := by decide +kernel
theorem dX8_feed_39 : decode cX8_feed 39 = .ok (.ifCond .lt 28, 3) := by decide +kernel
theorem dX8_feed_42 : decode cX8_feed 42 = .ok (.aload_n 0, 1) := by decide +kernel
theorem dX8_feed_43 : decode cX8_feed 43 = .ok (.getfield 10, 3) := by decide +kernel
theorem dX8_feed_46 : decode cX8_feed 46 = .ok (.lload_n 2, 1) := by decide +kernel
theorem dX8_feed_47 : decode cX8_feed 47 = .ok (.bipush 8, 2) := by decide +kernel
theorem dX8_feed_49 : decode cX8_feed 49 = .ok (.iload 4, 2) := by decide +kernel
theorem dX8_feed_51 : decode cX8_feed 51 = .ok (.imul, 1) := by decide +kernel
theorem dX8_feed_52 : decode cX8_feed 52 = .ok (.lushr, 1) := by decide +kernel
theorem dX8_feed_53 : decode cX8_feed 53 = .ok (.l2i, 1) := by decide +kernel
theorem dX8_feed_54 : decode cX8_feed 54 = .ok (.sipush 255, 3) := by decide +kernel
theorem dX8_feed_57 : decode cX8_feed 57 = .ok (.iand, 1) := by decide +kernel
theorem dX8_feed_58 : decode cX8_feed 58 = .ok (.invokevirtual 99, 3) := by decide +kernel
theorem dX8_feed_61 : decode cX8_feed 61 = .ok (.iinc 4 (-1), 3) := by decide +kernel
theorem dX8_feed_64 : decode cX8_feed 64 = .ok (.goto (-27), 3) := by decide +kernel
theorem dX8_feed_67 : decode cX8_feed 67 = .ok (.aload_n 0, 1) := by decide +kernel
theorem dX8_feed_68 : decode cX8_feed 68 = .ok (.getfield 10, 3) := by decide +kernel
theorem dX8_feed_71 : decode cX8_feed 71 = .ok (.getfield 95, 3) := by decide +kernel
theorem dX8_feed_74 : decode cX8_feed 74 = .ok (.ireturn, 1) := by decide +kernel
theorem dX8_town_0 : decode cX8_town 0 = .ok (.aload_n 0, 1) := by decide +kernel
theorem dX8_town_1 : decode cX8_town 1 = .ok (.getfield 31, 3) := by decide +kernel
theorem dX8_town_4 : decode cX8_town 4 = .ok (.invokevirtual 103, 3) := by decide +kernel
theorem dX8_town_7 : decode cX8_town 7 = .ok (.istore_n 1, 1) := by decide +kernel
theorem dX8_town_8 : decode cX8_town 8 = .ok (.aload_n 0, 1) := by decide +kernel
theorem dX8_town_9 : decode cX8_town 9 = .ok (.aload_n 0, 1) := by decide +kernel
theorem dX8_town_10 : decode cX8_town 10 = .ok (.getfield 31, 3) := by decide +kernel
theorem dX8_town_13 : decode cX8_town 13 = .ok (.getfield 107, 3) := by decide +kernel
theorem dX8_town_16 : decode cX8_town 16 = .ok (.putfield 90, 3) := by decide +kernel
theorem dX8_town_19 : decode cX8_town 19 = .ok (.aload_n 0, 1) := by decide +kernel
theorem dX8_town_20 : decode cX8_town 20 = .ok (.getfield 10, 3) := by decide +kernel
theorem dX8_town_23 : decode cX8_town 23 = .ok (.iconst 0, 1) := by decide +kernel
theorem dX8_town_24 : decode cX8_town 24 = .ok (.putfield 95, 3) := by decide +kernel
theorem dX8_town_27 : decode cX8_town 27 = .ok (.iload_n 1, 1) := by decide +kernel
theorem dX8_town_28 : decode cX8_town 28 = .ok (.ifCond .eq 8, 3) := by decide +kernel
theorem dX8_town_31 : decode cX8_town 31 = .ok (.bipush (-10), 2) := by decide +kernel
theorem dX8_town_33 : decode cX8_town 33 = .ok (.iload_n 1, 1) := by decide +kernel
theorem dX8_town_34 : decode cX8_town 34 = .ok (.isub, 1) := by decide +kernel
theorem dX8_town_35 : decode cX8_town 35 = .ok (.ireturn, 1) := by decide +kernel
theorem dX8_town_36 : decode cX8_town 36 = .ok (.aload_n 0, 1) := by decide +kernel
theorem dX8_town_37 : decode cX8_town 37 = .ok (.getfield 19, 3) := by decide +kernel
theorem dX8_town_40 : decode cX8_town 40 = .ok (.aload_n 0, 1) := by decide +kernel
theorem dX8_town_41 : decode cX8_town 41 = .ok (.getfield 23, 3) := by decide +kernel
theorem dX8_town_44 : decode cX8_town 44 = .ok (.invokevirtual 110, 3) := by decide +kernel
theorem dX8_town_47 : decode cX8_town 47 = .ok (.aload_n 0, 1) := by decide +kernel
theorem dX8_town_48 : decode cX8_town 48 = .ok (.getfield 38, 3) := by decide +kernel
theorem dX8_town_51 : decode cX8_town 51 = .ok (.aload_n 0, 1) := by decide +kernel
theorem dX8_town_52 : decode cX8_town 52 = .ok (.getfield 19, 3) := by decide +kernel
theorem dX8_town_55 : decode cX8_town 55 = .ok (.invokevirtual 113, 3) := by decide +kernel
theorem dX8_town_58 : decode cX8_town 58 = .ok (.aload_n 0, 1) := by decide +kernel
theorem dX8_town_59 : decode cX8_town 59 = .ok (.getfield 57, 3) := by decide +kernel
theorem dX8_town_62 : decode cX8_town 62 = .ok (.invokevirtual 116, 3) := by decide +kernel
theorem dX8_town_65 : decode cX8_town 65 = .ok (.aload_n 0, 1) := by decide +kernel
theorem dX8_town_66 : decode cX8_town 66 = .ok (.getfield 73, 3) := by decide +kernel
theorem dX8_town_69 : decode cX8_town 69 = .ok (.iconst 0, 1) := by decide +kernel
theorem dX8_town_70 : decode cX8_town 70 = .ok (.putfield 119, 3) := by decide +kernel
theorem dX8_town_73 : decode cX8_town 73 = .ok (.aload_n 0, 1) := by decide +kernel
theorem dX8_town_74 : decode cX8_town 74 = .ok (.getfield 82, 3) := by decide +kernel
theorem dX8_town_77 : decode cX8_town 77 = .ok (.iconst 0, 1) := by decide +kernel
theorem dX8_town_78 : decode cX8_town 78 = .ok (.putfield 122, 3) := by decide +kernel
theorem dX8_town_81 : decode cX8_town 81 = .ok (.aload_n 0, 1) := by decide +kernel
theorem dX8_town_82 : decode cX8_town 82 = .ok (.getfield 48, 3) := by decide +kernel
theorem dX8_town_85 : decode cX8_town 85 = .ok (.iconst 0, 1) := by decide +kernel
theorem dX8_town_86 : decode cX8_town 86 = .ok (.iconst 0, 1) := by decide +kernel
theorem dX8_town_87 : decode cX8_town 87 = .ok (.bastore, 1) := by decide +kernel
theorem dX8_town_88 : decode cX8_town 88 = .ok (.aload_n 0, 1) := by decide +kernel
theorem dX8_town_89 : decode cX8_town 89 = .ok (.getfield 48, 3) := by decide +kernel
theorem dX8_town_92 : decode cX8_town 92 = .ok (.iconst 1, 1) := by decide +kernel
theorem dX8_town_93 : decode cX8_town 93 = .ok (.iconst 0, 1) := by decide +kernel
theorem dX8_town_94 : decode cX8_town 94 = .ok (.bastore, 1) := by decide +kernel
theorem dX8_town_95 : decode cX8_town 95 = .ok (.aload_n 0, 1) := by decide +kernel
theorem dX8_town_96 : decode cX8_town 96 = .ok (.getfield 19, 3) := by decide +kernel
theorem dX8_town_99 : decode cX8_town 99 = .ok (.getfield 123, 3) := by decide +kernel
theorem dX8_town_102 : decode cX8_town 102 = .ok (.ireturn, 1) := by decide +kernel
theorem dX8_fault_0 : decode cX8_fault 0 = .ok (.aload_n 0, 1) := by decide +kernel
theorem dX8_fault_1 : decode cX8_fault 1 = .ok (.getfield 90, 3) := by decide +kernel
theorem dX8_fault_4 : decode cX8_fault 4 = .ok (.ireturn, 1) := by decide +kernel
theorem dX8_told_0 : decode cX8_told 0 = .ok (.iload_n 1, 1) := by decide +kernel
theorem dX8_told_1 : decode cX8_told 1 = .ok (.tableswitch 149 0 10 #[59, 67, 75, 83, 91, 99, 107, 115, 123, 131, 139], 59) := by decide +kernel
theorem dX8_told_60 : decode cX8_told 60 = .ok (.aload_n 0, 1) := by decide +kernel
theorem dX8_told_61 : decode cX8_told 61 = .ok (.getfield 19, 3) := by decide +kernel
theorem dX8_told_64 : decode cX8_told 64 = .ok (.getfield 123, 3) := by decide +kernel
theorem dX8_told_67 : decode cX8_told 67 = .ok (.ireturn, 1) := by decide +kernel
theorem dX8_told_68 : decode cX8_told 68 = .ok (.aload_n 0, 1) := by decide +kernel
theorem dX8_told_69 : decode cX8_told 69 = .ok (.getfield 19, 3) := by decide +kernel
theorem dX8_told_72 : decode cX8_told 72 = .ok (.getfield 126, 3) := by decide +kernel
theorem dX8_told_75 : decode cX8_told 75 = .ok (.ireturn, 1) := by decide +kernel
theorem dX8_told_76 : decode cX8_told 76 = .ok (.aload_n 0, 1) := by decide +kernel
theorem dX8_told_77 : decode cX8_told 77 = .ok (.getfield 19, 3) := by decide +kernel
theorem dX8_told_80 : decode cX8_told 80 = .ok (.getfield 129, 3) := by decide +kernel
theorem dX8_told_83 : decode cX8_told 83 = .ok (.ireturn, 1) := by decide +kernel
theorem dX8_told_84 : decode cX8_told 84 = .ok (.aload_n 0, 1) := by decide +kernel
theorem dX8_told_85 : decode cX8_told 85 = .ok (.getfield 10, 3) := by decide +kernel
theorem dX8_told_88 : decode cX8_told 88 = .ok (.getfield 95, 3) := by decide +kernel
theorem dX8_told_91 : decode cX8_told 91 = .ok (.ireturn, 1) := by decide +kernel
theorem dX8_told_92 : decode cX8_told 92 = .ok (.aload_n 0, 1) := by decide +kernel
theorem dX8_told_93 : decode cX8_told 93 = .ok (.getfield 38, 3) := by decide +kernel
theorem dX8_told_96 : decode cX8_told 96 = .ok (.getfield 132, 3) := by decide +kernel
theorem dX8_told_99 : decode cX8_told 99 = .ok (.ireturn, 1) := by decide +kernel
theorem dX8_told_100 : decode cX8_told 100 = .ok (.aload_n 0, 1) := by decide +kernel
theorem dX8_told_101 : decode cX8_told 101 = .ok (.getfield 38, 3) := by decide +kernel
theorem dX8_told_104 : decode cX8_told 104 = .ok (.getfield 135, 3) := by decide +kernel
theorem dX8_told_107 : decode cX8_told 107 = .ok (.ireturn, 1) := by decide +kernel
theorem dX8_told_108 : decode cX8_told 108 = .ok (.aload_n 0, 1) := by decide +kernel
theorem dX8_told_109 : decode cX8_told 109 = .ok (.getfield 38, 3) := by decide +kernel
theorem dX8_told_112 : decode cX8_told 112 = .ok (.getfield 138, 3) := by decide +kernel
theorem dX8_told_115 : decode cX8_told 115 = .ok (.ireturn, 1) := by decide +kernel
theorem dX8_told_116 : decode cX8_told 116 = .ok (.aload_n 0, 1) := by decide +kernel
theorem dX8_told_117 : decode cX8_told 117 = .ok (.getfield 73, 3) := by decide +kernel
theorem dX8_told_120 : decode cX8_told 120 = .ok (.getfield 119, 3) := by decide +kernel
theorem dX8_told_123 : decode cX8_told 123 = .ok (.ireturn, 1) := by decide +kernel
theorem dX8_told_124 : decode cX8_told 124 = .ok (.aload_n 0, 1) := by decide +kernel
theorem dX8_told_125 : decode cX8_told 125 = .ok (.getfield 82, 3) := by decide +kernel
theorem dX8_told_128 : decode cX8_told 128 = .ok (.getfield 122, 3) := by decide +kernel
theorem dX8_told_131 : decode cX8_told 131 = .ok (.ireturn, 1) := by decide +kernel
theorem dX8_told_132 : decode cX8_told 132 = .ok (.aload_n 0, 1) := by decide +kernel
theorem dX8_told_133 : decode cX8_told 133 = .ok (.getfield 57, 3) := by decide +kernel
theorem dX8_told_136 : decode cX8_told 136 = .ok (.getfield 141, 3) := by decide +kernel
theorem dX8_told_139 : decode cX8_told 139 = .ok (.ireturn, 1) := by decide +kernel
theorem dX8_told_140 : decode cX8_told 140 = .ok (.aload_n 0, 1) := by decide +kernel
theorem dX8_told_141 : decode cX8_told 141 = .ok (.getfield 57, 3) := by decide +kernel
theorem dX8_told_144 : decode cX8_told 144 = .ok (.iconst (-1), 1) := by decide +kernel
theorem dX8_told_145 : decode cX8_told 145 = .ok (.iconst 0, 1) := by decide +kernel
theorem dX8_told_146 : decode cX8_told 146 = .ok (.invokevirtual 142, 3) := by decide +kernel
theorem dX8_told_149 : decode cX8_told 149 = .ok (.ireturn, 1) := by decide +kernel
theorem dX8_told_150 : decode cX8_told 150 = .ok (.ldc 94, 2) := by decide +kernel
theorem dX8_told_152 : decode cX8_told 152 = .ok (.ireturn, 1) := by decide +kernel
theorem dX8_part_0 : decode cX8_part 0 = .ok (.aload_n 0, 1) := by decide +kernel
theorem dX8_part_1 : decode cX8_part 1 = .ok (.getfield 19, 3) := by decide +kernel
theorem dX8_part_4 : decode cX8_part 4 = .ok (.iload_n 1, 1) := by decide +kernel
theorem dX8_part_5 : decode cX8_part 5 = .ok (.invokevirtual 146, 3) := by decide +kernel
theorem dX8_part_8 : decode cX8_part 8 = .ok (.ifCond .ne 6, 3) := by decide +kernel
theorem dX8_part_11 : decode cX8_part 11 = .ok (.ldc 150, 2) := by decide +kernel
theorem dX8_part_13 : decode cX8_part 13 = .ok (.ireturn, 1) := by decide +kernel
theorem dX8_part_14 : decode cX8_part 14 = .ok (.iload_n 2, 1) := by decide +kernel
theorem dX8_part_15 : decode cX8_part 15 = .ok (.tableswitch 125 0 7 #[45, 55, 65, 75, 85, 95, 105, 115], 45) := by decide +kernel
theorem dX8_part_60 : decode cX8_part 60 = .ok (.aload_n 0, 1) := by decide +kernel
theorem dX8_part_61 : decode cX8_part 61 = .ok (.getfield 19, 3) := by decide +kernel
theorem dX8_part_64 : decode cX8_part 64 = .ok (.getfield 151, 3) := by decide +kernel
theorem dX8_part_67 : decode cX8_part 67 = .ok (.iload_n 1, 1) := by decide +kernel
theorem dX8_part_68 : decode cX8_part 68 = .ok (.iaload, 1) := by decide +kernel
theorem dX8_part_69 : decode cX8_part 69 = .ok (.ireturn, 1) := by decide +kernel
theorem dX8_part_70 : decode cX8_part 70 = .ok (.aload_n 0, 1) := by decide +kernel
theorem dX8_part_71 : decode cX8_part 71 = .ok (.getfield 19, 3) := by decide +kernel
theorem dX8_part_74 : decode cX8_part 74 = .ok (.getfield 154, 3) := by decide +kernel
theorem dX8_part_77 : decode cX8_part 77 = .ok (.iload_n 1, 1) := by decide +kernel
theorem dX8_part_78 : decode cX8_part 78 = .ok (.iaload, 1) := by decide +kernel
theorem dX8_part_79 : decode cX8_part 79 = .ok (.ireturn, 1) := by decide +kernel
theorem dX8_part_80 : decode cX8_part 80 = .ok (.aload_n 0, 1) := by decide +kernel
theorem dX8_part_81 : decode cX8_part 81 = .ok (.getfield 38, 3) := by decide +kernel
theorem dX8_part_84 : decode cX8_part 84 = .ok (.getfield 157, 3) := by decide +kernel
theorem dX8_part_87 : decode cX8_part 87 = .ok (.iload_n 1, 1) := by decide +kernel
theorem dX8_part_88 : decode cX8_part 88 = .ok (.iaload, 1) := by decide +kernel
theorem dX8_part_89 : decode cX8_part 89 = .ok (.ireturn, 1) := by decide +kernel
theorem dX8_part_90 : decode cX8_part 90 = .ok (.aload_n 0, 1) := by decide +kernel
theorem dX8_part_91 : decode cX8_part 91 = .ok (.getfield 38, 3) := by decide +kernel
theorem dX8_part_94 : decode cX8_part 94 = .ok (.getfield 160, 3) := by decide +kernel
theorem dX8_part_97 : decode cX8_part 97 = .ok (.iload_n 1, 1) := by decide +kernel
theorem dX8_part_98 : decode cX8_part 98 = .ok (.iaload, 1) := by decide +kernel
theorem dX8_part_99 : decode cX8_part 99 = .ok (.ireturn, 1) := by decide +kernel
theorem dX8_part_100 : decode cX8_part 100 = .ok (.aload_n 0, 1) := by decide +kernel
theorem dX8_part_101 : decode cX8_part 101 = .ok (.getfield 19, 3) := by decide +kernel
theorem dX8_part_104 : decode cX8_part 104 = .ok (.getfield 163, 3) := by decide +kernel
theorem dX8_part_107 : decode cX8_part 107 = .ok (.iload_n 1, 1) := by decide +kernel
theorem dX8_part_108 : decode cX8_part 108 = .ok (.iaload, 1) := by decide +kernel
theorem dX8_part_109 : decode cX8_part 109 = .ok (.ireturn, 1) := by decide +kernel
theorem dX8_part_110 : decode cX8_part 110 = .ok (.aload_n 0, 1) := by decide +kernel
theorem dX8_part_111 : decode cX8_part 111 = .ok (.getfield 19, 3) := by decide +kernel
theorem dX8_part_114 : decode cX8_part 114 = .ok (.getfield 166, 3) := by decide +kernel
theorem dX8_part_117 : decode cX8_part 117 = .ok (.iload_n 1, 1) := by decide +kernel
theorem dX8_part_118 : decode cX8_part 118 = .ok (.iaload, 1) := by decide +kernel
theorem dX8_part_119 : decode cX8_part 119 = .ok (.ireturn, 1) := by decide +kernel
theorem dX8_part_120 : decode cX8_part 120 = .ok (.aload_n 0, 1) := by decide +kernel
theorem dX8_part_121 : decode cX8_part 121 = .ok (.getfield 19, 3) := by decide +kernel
theorem dX8_part_124 : decode cX8_part 124 = .ok (.getfield 169, 3) := by decide +kernel
theorem dX8_part_127 : decode cX8_part 127 = .ok (.iload_n 1, 1) := by decide +kernel
theorem dX8_part_128 : decode cX8_part 128 = .ok (.iaload, 1) := by decide +kernel
theorem dX8_part_129 : decode cX8_part 129 = .ok (.ireturn, 1) := by decide +kernel
theorem dX8_part_130 : decode cX8_part 130 = .ok (.aload_n 0, 1) := by decide +kernel
theorem dX8_part_131 : decode cX8_part 131 = .ok (.getfield 38, 3) := by decide +kernel
theorem dX8_part_134 : decode cX8_part 134 = .ok (.getfield 172, 3) := by decide +kernel
theorem dX8_part_137 : decode cX8_part 137 = .ok (.iload_n 1, 1) := by decide +kernel
theorem dX8_part_138 : decode cX8_part 138 = .ok (.iaload, 1) := by decide +kernel
theorem dX8_part_139 : decode cX8_part 139 = .ok (.ireturn, 1) := by decide +kernel
theorem dX8_part_140 : decode cX8_part 140 = .ok (.ldc 94, 2) := by decide +kernel
theorem dX8_part_142 : decode cX8_part 142 = .ok (.ireturn, 1) := by decide +kernel
theorem dX8_scene_0 : decode cX8_scene 0 = .ok (.aload_n 0, 1) := by decide +kernel
theorem dX8_scene_1 : decode cX8_scene 1 = .ok (.getfield 19, 3) := by decide +kernel
theorem dX8_scene_4 : decode cX8_scene 4 = .ok (.iload_n 1, 1) := by decide +kernel
theorem dX8_scene_5 : decode cX8_scene 5 = .ok (.invokevirtual 175, 3) := by decide +kernel
theorem dX8_scene_8 : decode cX8_scene 8 = .ok (.ifCond .ne 6, 3) := by decide +kernel
theorem dX8_scene_11 : decode cX8_scene 11 = .ok (.ldc 150, 2) := by decide +kernel
theorem dX8_scene_13 : decode cX8_scene 13 = .ok (.ireturn, 1) := by decide +kernel
theorem dX8_scene_14 : decode cX8_scene 14 = .ok (.iload_n 2, 1) := by decide +kernel
theorem dX8_scene_15 : decode cX8_scene 15 = .ok (.tableswitch 55 0 2 #[25, 35, 45], 25) := by decide +kernel
theorem dX8_scene_40 : decode cX8_scene 40 = .ok (.aload_n 0, 1) := by decide +kernel
theorem dX8_scene_41 : decode cX8_scene 41 = .ok (.getfield 19, 3) := by decide +kernel
theorem dX8_scene_44 : decode cX8_scene 44 = .ok (.getfield 178, 3) := by decide +kernel
theorem dX8_scene_47 : decode cX8_scene 47 = .ok (.iload_n 1, 1) := by decide +kernel
theorem dX8_scene_48 : decode cX8_scene 48 = .ok (.iaload, 1) := by decide +kernel
theorem dX8_scene_49 : decode cX8_scene 49 = .ok (.ireturn, 1) := by decide +kernel
theorem dX8_scene_50 : decode cX8_scene 50 = .ok (.aload_n 0, 1) := by decide +kernel
theorem dX8_scene_51 : decode cX8_scene 51 = .ok (.getfield 19, 3) := by decide +kernel
theorem dX8_scene_54 : decode cX8_scene 54 = .ok (.getfield 181, 3) := by decide +kernel
theorem dX8_scene_57 : decode cX8_scene 57 = .ok (.iload_n 1, 1) := by decide +kernel
theorem dX8_scene_58 : decode cX8_scene 58 = .ok (.iaload, 1) := by decide +kernel
theorem dX8_scene_59 : decode cX8_scene 59 = .ok (.ireturn, 1) := by decide +kernel
theorem dX8_scene_60 : decode cX8_scene 60 = .ok (.aload_n 0, 1) := by decide +kernel
theorem dX8_scene_61 : decode cX8_scene 61 = .ok (.getfield 19, 3) := by decide +kernel
theorem dX8_scene_64 : decode cX8_scene 64 = .ok (.getfield 184, 3) := by decide +kernel
theorem dX8_scene_67 : decode cX8_scene 67 = .ok (.iload_n 1, 1) := by decide +kernel
theorem dX8_scene_68 : decode cX8_scene 68 = .ok (.iaload, 1) := by decide +kernel
theorem dX8_scene_69 : decode cX8_scene 69 = .ok (.ireturn, 1) := by decide +kernel
theorem dX8_scene_70 : decode cX8_scene 70 = .ok (.ldc 94, 2) := by decide +kernel
theorem dX8_scene_72 : decode cX8_scene 72 = .ok (.ireturn, 1) := by decide +kernel
theorem dX8_look_0 : decode cX8_look 0 = .ok (.iload_n 2, 1) := by decide +kernel
theorem dX8_look_1 : decode cX8_look 1 = .ok (.ifCond .lt 8, 3) := by decide +kernel
theorem dX8_look_4 : decode cX8_look 4 = .ok (.iload_n 2, 1) := by decide +kernel
theorem dX8_look_5 : decode cX8_look 5 = .ok (.iconst 2, 1) := by decide +kernel
theorem dX8_look_6 : decode cX8_look 6 = .ok (.if_icmp .le 6, 3) := by decide +kernel
theorem dX8_look_9 : decode cX8_look 9 = .ok (.ldc 94, 2) := by decide +kernel
theorem dX8_look_11 : decode cX8_look 11 = .ok (.ireturn, 1) := by decide +kernel
theorem dX8_look_12 : decode cX8_look 12 = .ok (.iload_n 1, 1) := by decide +kernel
theorem dX8_look_13 : decode cX8_look 13 = .ok (.ifCond .lt 14, 3) := by decide +kernel
theorem dX8_look_16 : decode cX8_look 16 = .ok (.iload_n 1, 1) := by decide +kernel
theorem dX8_look_17 : decode cX8_look 17 = .ok (.aload_n 0, 1) := by decide +kernel
theorem dX8_look_18 : decode cX8_look 18 = .ok (.getfield 57, 3) := by decide +kernel
theorem dX8_look_21 : decode cX8_look 21 = .ok (.getfield 141, 3) := by decide +kernel
theorem dX8_look_24 : decode cX8_look 24 = .ok (.if_icmp .lt 5, 3) := by decide +kernel
theorem dX8_look_27 : decode cX8_look 27 = .ok (.iconst (-1), 1) := by decide +kernel
theorem dX8_look_28 : decode cX8_look 28 = .ok (.ireturn, 1) := by decide +kernel
theorem dX8_look_29 : decode cX8_look 29 = .ok (.iload_n 2, 1) := by decide +kernel
theorem dX8_look_30 : decode cX8_look 30 = .ok (.ifCond .ne 14, 3) := by decide +kernel
theorem dX8_look_33 : decode cX8_look 33 = .ok (.aload_n 0, 1) := by decide +kernel
theorem dX8_look_34 : decode cX8_look 34 = .ok (.getfield 57, 3) := by decide +kernel
theorem dX8_look_37 : decode cX8_look 37 = .ok (.iload_n 1, 1) := by decide +kernel
theorem dX8_look_38 : decode cX8_look 38 = .ok (.invokevirtual 187, 3) := by decide +kernel
theorem dX8_look_41 : decode cX8_look 41 = .ok (.goto 27, 3) := by decide +kernel
theorem dX8_look_44 : decode cX8_look 44 = .ok (.iload_n 2, 1) := by decide +kernel
theorem dX8_look_45 : decode cX8_look 45 = .ok (.iconst 1, 1) := by decide +kernel
theorem dX8_look_46 : decode cX8_look 46 = .ok (.if_icmp .ne 14, 3) := by decide +kernel
theorem dX8_look_49 : decode cX8_look 49 = .ok (.aload_n 0, 1) := by decide +kernel
theorem dX8_look_50 : decode cX8_look 50 = .ok (.getfield 57, 3) := by decide +kernel
theorem dX8_look_53 : decode cX8_look 53 = .ok (.iload_n 1, 1) := by decide +kernel
theorem dX8_look_54 : decode cX8_look 54 = .ok (.invokevirtual 191, 3) := by decide +kernel
theorem dX8_look_57 : decode cX8_look 57 = .ok (.goto 11, 3) := by decide +kernel
theorem dX8_look_60 : decode cX8_look 60 = .ok (.aload_n 0, 1) := by decide +kernel
theorem dX8_look_61 : decode cX8_look 61 = .ok (.getfield 57, 3) := by decide +kernel
theorem dX8_look_64 : decode cX8_look 64 = .ok (.iload_n 1, 1) := by decide +kernel
theorem dX8_look_65 : decode cX8_look 65 = .ok (.invokevirtual 194, 3) := by decide +kernel
theorem dX8_look_68 : decode cX8_look 68 = .ok (.ireturn, 1) := by decide +kernel
theorem dX8_law_0 : decode cX8_law 0 = .ok (.iload_n 1, 1) := by decide +kernel
theorem dX8_law_1 : decode cX8_law 1 = .ok (.ifCond .lt 8, 3) := by decide +kernel
theorem dX8_law_4 : decode cX8_law 4 = .ok (.iload_n 1, 1) := by decide +kernel
theorem dX8_law_5 : decode cX8_law 5 = .ok (.iconst 1, 1) := by decide +kernel
theorem dX8_law_6 : decode cX8_law 6 = .ok (.if_icmp .le 6, 3) := by decide +kernel
theorem dX8_law_9 : decode cX8_law 9 = .ok (.ldc 94, 2) := by decide +kernel
theorem dX8_law_11 : decode cX8_law 11 = .ok (.ireturn, 1) := by decide +kernel
theorem dX8_law_12 : decode cX8_law 12 = .ok (.aload_n 0, 1) := by decide +kernel
theorem dX8_law_13 : decode cX8_law 13 = .ok (.getfield 38, 3) := by decide +kernel
theorem dX8_law_16 : decode cX8_law 16 = .ok (.getfield 132, 3) := by decide +kernel
theorem dX8_law_19 : decode cX8_law 19 = .ok (.istore_n 2, 1) := by decide +kernel
theorem dX8_law_20 : decode cX8_law 20 = .ok (.aload_n 0, 1) := by decide +kernel
theorem dX8_law_21 : decode cX8_law 21 = .ok (.getfield 38, 3) := by decide +kernel
theorem dX8_law_24 : decode cX8_law 24 = .ok (.iload_n 1, 1) := by decide +kernel
theorem dX8_law_25 : decode cX8_law 25 = .ok (.putfield 132, 3) := by decide +kernel
theorem dX8_law_28 : decode cX8_law 28 = .ok (.iload_n 2, 1) := by decide +kernel
theorem dX8_law_29 : decode cX8_law 29 = .ok (.ireturn, 1) := by decide +kernel
theorem dX8_price_0 : decode cX8_price 0 = .ok (.aload_n 0, 1) := by decide +kernel
theorem dX8_price_1 : decode cX8_price 1 = .ok (.getfield 19, 3) := by decide +kernel
theorem dX8_price_4 : decode cX8_price 4 = .ok (.iload_n 1, 1) := by decide +kernel
theorem dX8_price_5 : decode cX8_price 5 = .ok (.invokevirtual 146, 3) := by decide +kernel
theorem dX8_price_8 : decode cX8_price 8 = .ok (.ifCond .ne 6, 3) := by decide +kernel
theorem dX8_price_11 : decode cX8_price 11 = .ok (.ldc 150, 2) := by decide +kernel
theorem dX8_price_13 : decode cX8_price 13 = .ok (.ireturn, 1) := by decide +kernel
theorem dX8_price_14 : decode cX8_price 14 = .ok (.iload_n 2, 1) := by decide +kernel
theorem dX8_price_15 : decode cX8_price 15 = .ok (.ifCond .lt 9, 3) := by decide +kernel
theorem dX8_price_18 : decode cX8_price 18 = .ok (.iload_n 2, 1) := by decide +kernel
theorem dX8_price_19 : decode cX8_price 19 = .ok (.bipush 99, 2) := by decide +kernel
theorem dX8_price_21 : decode cX8_price 21 = .ok (.if_icmp .le 6, 3) := by decide +kernel
theorem dX8_price_24 : decode cX8_price 24 = .ok (.ldc 94, 2) := by decide +kernel
theorem dX8_price_26 : decode cX8_price 26 = .ok (.ireturn, 1) := by decide +kernel
theorem dX8_price_27 : decode cX8_price 27 = .ok (.aload_n 0, 1) := by decide +kernel
theorem dX8_price_28 : decode cX8_price 28 = .ok (.getfield 38, 3) := by decide +kernel
theorem dX8_price_31 : decode cX8_price 31 = .ok (.getfield 160, 3) := by decide +kernel
theorem dX8_price_34 : decode cX8_price 34 = .ok (.iload_n 1, 1) := by decide +kernel
theorem dX8_price_35 : decode cX8_price 35 = .ok (.iaload, 1) := by decide +kernel
theorem dX8_price_36 : decode cX8_price 36 = .ok (.istore_n 3, 1) := by decide +kernel
theorem dX8_price_37 : decode cX8_price 37 = .ok (.aload_n 0, 1) := by decide +kernel
theorem dX8_price_38 : decode cX8_price 38 = .ok (.getfield 38, 3) := by decide +kernel
theorem dX8_price_41 : decode cX8_price 41 = .ok (.getfield 160, 3) := by decide +kernel
theorem dX8_price_44 : decode cX8_price 44 = .ok (.iload_n 1, 1) := by decide +kernel
theorem dX8_price_45 : decode cX8_price 45 = .ok (.iload_n 2, 1) := by decide +kernel
theorem dX8_price_46 : decode cX8_price 46 = .ok (.iastore, 1) := by decide +kernel
theorem dX8_price_47 : decode cX8_price 47 = .ok (.iload_n 3, 1) := by decide +kernel
theorem dX8_price_48 : decode cX8_price 48 = .ok (.ireturn, 1) := by decide +kernel
theorem dX8_width_0 : decode cX8_width 0 = .ok (.aload_n 0, 1) := by decide +kernel
theorem dX8_width_1 : decode cX8_width 1 = .ok (.getfield 19, 3) := by decide +kernel
theorem dX8_width_4 : decode cX8_width 4 = .ok (.iload_n 1, 1) := by decide +kernel
theorem dX8_width_5 : decode cX8_width 5 = .ok (.invokevirtual 146, 3) := by decide +kernel
theorem dX8_width_8 : decode cX8_width 8 = .ok (.ifCond .ne 6, 3) := by decide +kernel
theorem dX8_width_11 : decode cX8_width 11 = .ok (.ldc 150, 2) := by decide +kernel
theorem dX8_width_13 : decode cX8_width 13 = .ok (.ireturn, 1) := by decide +kernel
theorem dX8_width_14 : decode cX8_width 14 = .ok (.iload_n 2, 1) := by decide +kernel
theorem dX8_width_15 : decode cX8_width 15 = .ok (.ifCond .lt 9, 3) := by decide +kernel
theorem dX8_width_18 : decode cX8_width 18 = .ok (.iload_n 2, 1) := by decide +kernel
theorem dX8_width_19 : decode cX8_width 19 = .ok (.bipush 9, 2) := by decide +kernel
theorem dX8_width_21 : decode cX8_width 21 = .ok (.if_icmp .le 6, 3) := by decide +kernel
theorem dX8_width_24 : decode cX8_width 24 = .ok (.ldc 94, 2) := by decide +kernel
theorem dX8_width_26 : decode cX8_width 26 = .ok (.ireturn, 1) := by decide +kernel
theorem dX8_width_27 : decode cX8_width 27 = .ok (.aload_n 0, 1) := by decide +kernel
theorem dX8_width_28 : decode cX8_width 28 = .ok (.getfield 38, 3) := by decide +kernel
theorem dX8_width_31 : decode cX8_width 31 = .ok (.getfield 157, 3) := by decide +kernel
theorem dX8_width_34 : decode cX8_width 34 = .ok (.iload_n 1, 1) := by decide +kernel
theorem dX8_width_35 : decode cX8_width 35 = .ok (.iaload, 1) := by decide +kernel
theorem dX8_width_36 : decode cX8_width 36 = .ok (.istore_n 3, 1) := by decide +kernel
theorem dX8_width_37 : decode cX8_width 37 = .ok (.aload_n 0, 1) := by decide +kernel
theorem dX8_width_38 : decode cX8_width 38 = .ok (.getfield 38, 3) := by decide +kernel
theorem dX8_width_41 : decode cX8_width 41 = .ok (.getfield 157, 3) := by decide +kernel
theorem dX8_width_44 : decode cX8_width 44 = .ok (.iload_n 1, 1) := by decide +kernel
theorem dX8_width_45 : decode cX8_width 45 = .ok (.iload_n 2, 1) := by decide +kernel
theorem dX8_width_46 : decode cX8_width 46 = .ok (.iastore, 1) := by decide +kernel
theorem dX8_width_47 : decode cX8_width 47 = .ok (.iload_n 3, 1) := by decide +kernel
theorem dX8_width_48 : decode cX8_width 48 = .ok (.ireturn, 1) := by decide +kernel
theorem dX8_cheapest_0 : decode cX8_cheapest 0 = .ok (.aload_n 0, 1) := by decide +kernel
theorem dX8_cheapest_1 : decode cX8_cheapest 1 = .ok (.getfield 19, 3) := by decide +kernel
theorem dX8_cheapest_4 : decode cX8_cheapest 4 = .ok (.iload_n 1, 1) := by decide +kernel
theorem dX8_cheapest_5 : decode cX8_cheapest 5 = .ok (.invokevirtual 175, 3) := by decide +kernel
theorem dX8_cheapest_8 : decode cX8_cheapest 8 = .ok (.ifCond .ne 6, 3) := by decide +kernel
theorem dX8_cheapest_11 : decode cX8_cheapest 11 = .ok (.ldc 150, 2) := by decide +kernel
theorem dX8_cheapest_13 : decode cX8_cheapest 13 = .ok (.ireturn, 1) := by decide +kernel
theorem dX8_cheapest_14 : decode cX8_cheapest 14 = .ok (.iload_n 2, 1) := by decide +kernel
theorem dX8_cheapest_15 : decode cX8_cheapest 15 = .ok (.ifCond .lt 8, 3) := by decide +kernel
theorem dX8_cheapest_18 : decode cX8_cheapest 18 = .ok (.iload_n 2, 1) := by decide +kernel
theorem dX8_cheapest_19 : decode cX8_cheapest 19 = .ok (.iconst 1, 1) := by decide +kernel
theorem dX8_cheapest_20 : decode cX8_cheapest 20 = .ok (.if_icmp .le 6, 3) := by decide +kernel
theorem dX8_cheapest_23 : decode cX8_cheapest 23 = .ok (.ldc 94, 2) := by decide +kernel
theorem dX8_cheapest_25 : decode cX8_cheapest 25 = .ok (.ireturn, 1) := by decide +kernel
theorem dX8_cheapest_26 : decode cX8_cheapest 26 = .ok (.aload_n 0, 1) := by decide +kernel
theorem dX8_cheapest_27 : decode cX8_cheapest 27 = .ok (.getfield 57, 3) := by decide +kernel
theorem dX8_cheapest_30 : decode cX8_cheapest 30 = .ok (.iload_n 1, 1) := by decide +kernel
theorem dX8_cheapest_31 : decode cX8_cheapest 31 = .ok (.invokevirtual 197, 3) := by decide +kernel
theorem dX8_cheapest_34 : decode cX8_cheapest 34 = .ok (.istore_n 3, 1) := by decide +kernel
theorem dX8_cheapest_35 : decode cX8_cheapest 35 = .ok (.iload_n 3, 1) := by decide +kernel
theorem dX8_cheapest_36 : decode cX8_cheapest 36 = .ok (.iconst (-1), 1) := by decide +kernel
theorem dX8_cheapest_37 : decode cX8_cheapest 37 = .ok (.if_icmp .ne 5, 3) := by decide +kernel
theorem dX8_cheapest_40 : decode cX8_cheapest 40 = .ok (.iconst (-1), 1) := by decide +kernel
theorem dX8_cheapest_41 : decode cX8_cheapest 41 = .ok (.ireturn, 1) := by decide +kernel
theorem dX8_cheapest_42 : decode cX8_cheapest 42 = .ok (.iload_n 2, 1) := by decide +kernel
theorem dX8_cheapest_43 : decode cX8_cheapest 43 = .ok (.ifCond .ne 14, 3) := by decide +kernel
theorem dX8_cheapest_46 : decode cX8_cheapest 46 = .ok (.aload_n 0, 1) := by decide +kernel
theorem dX8_cheapest_47 : decode cX8_cheapest 47 = .ok (.getfield 57, 3) := by decide +kernel
theorem dX8_cheapest_50 : decode cX8_cheapest 50 = .ok (.iload_n 3, 1) := by decide +kernel
theorem dX8_cheapest_51 : decode cX8_cheapest 51 = .ok (.invokevirtual 187, 3) := by decide +kernel
theorem dX8_cheapest_54 : decode cX8_cheapest 54 = .ok (.goto 11, 3) := by decide +kernel
theorem dX8_cheapest_57 : decode cX8_cheapest 57 = .ok (.aload_n 0, 1) := by decide +kernel
theorem dX8_cheapest_58 : decode cX8_cheapest 58 = .ok (.getfield 57, 3) := by decide +kernel
theorem dX8_cheapest_61 : decode cX8_cheapest 61 = .ok (.iload_n 3, 1) := by decide +kernel
theorem dX8_cheapest_62 : decode cX8_cheapest 62 = .ok (.invokevirtual 194, 3) := by decide +kernel
theorem dX8_cheapest_65 : decode cX8_cheapest 65 = .ok (.ireturn, 1) := by decide +kernel
theorem dX8_dressing_0 : decode cX8_dressing 0 = .ok (.iload_n 1, 1) := by decide +kernel
theorem dX8_dressing_1 : decode cX8_dressing 1 = .ok (.iconst (-1), 1) := by decide +kernel
theorem dX8_dressing_2 : decode cX8_dressing 2 = .ok (.if_icmp .eq 17, 3) := by decide +kernel
theorem dX8_dressing_5 : decode cX8_dressing 5 = .ok (.aload_n 0, 1) := by decide +kernel
theorem dX8_dressing_6 : decode cX8_dressing 6 = .ok (.getfield 19, 3) := by decide +kernel
theorem dX8_dressing_9 : decode cX8_dressing 9 = .ok (.iload_n 1, 1) := by decide +kernel
theorem dX8_dressing_10 : decode cX8_dressing 10 = .ok (.invokevirtual 175, 3) := by decide +kernel
theorem dX8_dressing_13 : decode cX8_dressing 13 = .ok (.ifCond .ne 6, 3) := by decide +kernel
theorem dX8_dressing_16 : decode cX8_dressing 16 = .ok (.ldc 150, 2) := by decide +kernel
theorem dX8_dressing_18 : decode cX8_dressing 18 = .ok (.ireturn, 1) := by decide +kernel
theorem dX8_dressing_19 : decode cX8_dressing 19 = .ok (.aload_n 0, 1) := by decide +kernel
theorem dX8_dressing_20 : decode cX8_dressing 20 = .ok (.iconst 0, 1) := by decide +kernel
theorem dX8_dressing_21 : decode cX8_dressing 21 = .ok (.invokevirtual 200, 3) := by decide +kernel
theorem dX8_dressing_24 : decode cX8_dressing 24 = .ok (.iload_n 1, 1) := by decide +kernel
theorem dX8_dressing_25 : decode cX8_dressing 25 = .ok (.iconst (-1), 1) := by decide +kernel
theorem dX8_dressing_26 : decode cX8_dressing 26 = .ok (.if_icmp .eq 14, 3) := by decide +kernel
theorem dX8_dressing_29 : decode cX8_dressing 29 = .ok (.aload_n 0, 1) := by decide +kernel
theorem dX8_dressing_30 : decode cX8_dressing 30 = .ok (.getfield 66, 3) := by decide +kernel
theorem dX8_dressing_33 : decode cX8_dressing 33 = .ok (.getfield 203, 3) := by decide +kernel
theorem dX8_dressing_36 : decode cX8_dressing 36 = .ok (.iconst (-1), 1) := by decide +kernel
theorem dX8_dressing_37 : decode cX8_dressing 37 = .ok (.if_icmp .ne 11, 3) := by decide +kernel
theorem dX8_dressing_40 : decode cX8_dressing 40 = .ok (.aload_n 0, 1) := by decide +kernel
theorem dX8_dressing_41 : decode cX8_dressing 41 = .ok (.getfield 66, 3) := by decide +kernel
theorem dX8_dressing_44 : decode cX8_dressing 44 = .ok (.getfield 203, 3) := by decide +kernel
theorem dX8_dressing_47 : decode cX8_dressing 47 = .ok (.ireturn, 1) := by decide +kernel
theorem dX8_dressing_48 : decode cX8_dressing 48 = .ok (.aload_n 0, 1) := by decide +kernel
theorem dX8_dressing_49 : decode cX8_dressing 49 = .ok (.getfield 57, 3) := by decide +kernel
theorem dX8_dressing_52 : decode cX8_dressing 52 = .ok (.aload_n 0, 1) := by decide +kernel
theorem dX8_dressing_53 : decode cX8_dressing 53 = .ok (.getfield 66, 3) := by decide +kernel
theorem dX8_dressing_56 : decode cX8_dressing 56 = .ok (.getfield 206, 3) := by decide +kernel
theorem dX8_dressing_59 : decode cX8_dressing 59 = .ok (.iload_n 1, 1) := by decide +kernel
theorem dX8_dressing_60 : decode cX8_dressing 60 = .ok (.iaload, 1) := by decide +kernel
theorem dX8_dressing_61 : decode cX8_dressing 61 = .ok (.invokevirtual 187, 3) := by decide +kernel
theorem dX8_dressing_64 : decode cX8_dressing 64 = .ok (.ireturn, 1) := by decide +kernel
theorem dX8_rent_0 : decode cX8_rent 0 = .ok (.iload_n 1, 1) := by decide +kernel
theorem dX8_rent_1 : decode cX8_rent 1 = .ok (.invokestatic 209, 3) := by decide +kernel
theorem dX8_rent_4 : decode cX8_rent 4 = .ok (.ifCond .ne 6, 3) := by decide +kernel
theorem dX8_rent_7 : decode cX8_rent 7 = .ok (.ldc 94, 2) := by decide +kernel
theorem dX8_rent_9 : decode cX8_rent 9 = .ok (.ireturn, 1) := by decide +kernel
theorem dX8_rent_10 : decode cX8_rent 10 = .ok (.aload_n 0, 1) := by decide +kernel
theorem dX8_rent_11 : decode cX8_rent 11 = .ok (.iconst 0, 1) := by decide +kernel
theorem dX8_rent_12 : decode cX8_rent 12 = .ok (.invokevirtual 200, 3) := by decide +kernel
theorem dX8_rent_15 : decode cX8_rent 15 = .ok (.aload_n 0, 1) := by decide +kernel
theorem dX8_rent_16 : decode cX8_rent 16 = .ok (.getfield 66, 3) := by decide +kernel
theorem dX8_rent_19 : decode cX8_rent 19 = .ok (.aload_n 0, 1) := by decide +kernel
theorem dX8_rent_20 : decode cX8_rent 20 = .ok (.getfield 19, 3) := by decide +kernel
theorem dX8_rent_23 : decode cX8_rent 23 = .ok (.iload_n 1, 1) := by decide +kernel
theorem dX8_rent_24 : decode cX8_rent 24 = .ok (.invokevirtual 212, 3) := by decide +kernel
theorem dX8_rent_27 : decode cX8_rent 27 = .ok (.aload_n 0, 1) := by decide +kernel
theorem dX8_rent_28 : decode cX8_rent 28 = .ok (.getfield 38, 3) := by decide +kernel
theorem dX8_rent_31 : decode cX8_rent 31 = .ok (.getfield 160, 3) := by decide +kernel
theorem dX8_rent_34 : decode cX8_rent 34 = .ok (.invokevirtual 215, 3) := by decide +kernel
theorem dX8_rent_37 : decode cX8_rent 37 = .ok (.ireturn, 1) := by decide +kernel
theorem dX8_without_0 : decode cX8_without 0 = .ok (.iload_n 1, 1) := by decide +kernel
theorem dX8_without_1 : decode cX8_without 1 = .ok (.invokestatic 209, 3) := by decide +kernel
theorem dX8_without_4 : decode cX8_without 4 = .ok (.ifCond .ne 6, 3) := by decide +kernel
theorem dX8_without_7 : decode cX8_without 7 = .ok (.ldc 94, 2) := by decide +kernel
theorem dX8_without_9 : decode cX8_without 9 = .ok (.ireturn, 1) := by decide +kernel
theorem dX8_without_10 : decode cX8_without 10 = .ok (.aload_n 0, 1) := by decide +kernel
theorem dX8_without_11 : decode cX8_without 11 = .ok (.iconst 0, 1) := by decide +kernel
theorem dX8_without_12 : decode cX8_without 12 = .ok (.invokevirtual 200, 3) := by decide +kernel
theorem dX8_without_15 : decode cX8_without 15 = .ok (.aload_n 0, 1) := by decide +kernel
theorem dX8_without_16 : decode cX8_without 16 = .ok (.getfield 66, 3) := by decide +kernel
theorem dX8_without_19 : decode cX8_without 19 = .ok (.getfield 203, 3) := by decide +kernel
theorem dX8_without_22 : decode cX8_without 22 = .ok (.istore_n 2, 1) := by decide +kernel
theorem dX8_without_23 : decode cX8_without 23 = .ok (.aload_n 0, 1) := by decide +kernel
theorem dX8_without_24 : decode cX8_without 24 = .ok (.aload_n 0, 1) := by decide +kernel
theorem dX8_without_25 : decode cX8_without 25 = .ok (.getfield 19, 3) := by decide +kernel
theorem dX8_without_28 : decode cX8_without 28 = .ok (.iload_n 1, 1) := by decide +kernel
theorem dX8_without_29 : decode cX8_without 29 = .ok (.invokevirtual 212, 3) := by decide +kernel
theorem dX8_without_32 : decode cX8_without 32 = .ok (.invokevirtual 200, 3) := by decide +kernel
theorem dX8_without_35 : decode cX8_without 35 = .ok (.aload_n 0, 1) := by decide +kernel
theorem dX8_without_36 : decode cX8_without 36 = .ok (.getfield 66, 3) := by decide +kernel
theorem dX8_without_39 : decode cX8_without 39 = .ok (.getfield 203, 3) := by decide +kernel
theorem dX8_without_42 : decode cX8_without 42 = .ok (.istore_n 3, 1) := by decide +kernel
theorem dX8_without_43 : decode cX8_without 43 = .ok (.iload_n 2, 1) := by decide +kernel
theorem dX8_without_44 : decode cX8_without 44 = .ok (.iconst (-1), 1) := by decide +kernel
theorem dX8_without_45 : decode cX8_without 45 = .ok (.if_icmp .eq 8, 3) := by decide +kernel
theorem dX8_without_48 : decode cX8_without 48 = .ok (.iload_n 3, 1) := by decide +kernel
theorem dX8_without_49 : decode cX8_without 49 = .ok (.iconst (-1), 1) := by decide +kernel
theorem dX8_without_50 : decode cX8_without 50 = .ok (.if_icmp .ne 7, 3) := by decide +kernel
theorem dX8_without_53 : decode cX8_without 53 = .ok (.iconst (-1), 1) := by decide +kernel
theorem dX8_without_54 : decode cX8_without 54 = .ok (.goto 6, 3) := by decide +kernel
theorem dX8_without_57 : decode cX8_without 57 = .ok (.iload_n 3, 1) := by decide +kernel
theorem dX8_without_58 : decode cX8_without 58 = .ok (.iload_n 2, 1) := by decide +kernel
theorem dX8_without_59 : decode cX8_without 59 = .ok (.isub, 1) := by decide +kernel
theorem dX8_without_60 : decode cX8_without 60 = .ok (.ireturn, 1) := by decide +kernel
theorem dX8_raise_0 : decode cX8_raise 0 = .ok (.iload_n 1, 1) := by decide +kernel
theorem dX8_raise_1 : decode cX8_raise 1 = .ok (.invokestatic 209, 3) := by decide +kernel
theorem dX8_raise_4 : decode cX8_raise 4 = .ok (.ifCond .eq 12, 3) := by decide +kernel
theorem dX8_raise_7 : decode cX8_raise 7 = .ok (.iload_n 2, 1) := by decide +kernel
theorem dX8_raise_8 : decode cX8_raise 8 = .ok (.ifCond .lt 8, 3) := by decide +kernel
theorem dX8_raise_11 : decode cX8_raise 11 = .ok (.iload_n 2, 1) := by decide +kernel
theorem dX8_raise_12 : decode cX8_raise 12 = .ok (.iconst 1, 1) := by decide +kernel
theorem dX8_raise_13 : decode cX8_raise 13 = .ok (.if_icmp .le 6, 3) := by decide +kernel
theorem dX8_raise_16 : decode cX8_raise 16 = .ok (.ldc 94, 2) := by decide +kernel
theorem dX8_raise_18 : decode cX8_raise 18 = .ok (.ireturn, 1) := by decide +kernel
theorem dX8_raise_19 : decode cX8_raise 19 = .ok (.aload_n 0, 1) := by decide +kernel
theorem dX8_raise_20 : decode cX8_raise 20 = .ok (.getfield 19, 3) := by decide +kernel
theorem dX8_raise_23 : decode cX8_raise 23 = .ok (.iload_n 1, 1) := by decide +kernel
theorem dX8_raise_24 : decode cX8_raise 24 = .ok (.invokevirtual 212, 3) := by decide +kernel
theorem dX8_raise_27 : decode cX8_raise 27 = .ok (.istore_n 3, 1) := by decide +kernel
theorem dX8_raise_28 : decode cX8_raise 28 = .ok (.iconst 0, 1) := by decide +kernel
theorem dX8_raise_29 : decode cX8_raise 29 = .ok (.istore 4, 2) := by decide +kernel
theorem dX8_raise_31 : decode cX8_raise 31 = .ok (.iconst (-1), 1) := by decide +kernel
theorem dX8_raise_32 : decode cX8_raise 32 = .ok (.istore 5, 2) := by decide +kernel
theorem dX8_raise_34 : decode cX8_raise 34 = .ok (.aload_n 0, 1) := by decide +kernel
theorem dX8_raise_35 : decode cX8_raise 35 = .ok (.getfield 66, 3) := by decide +kernel
theorem dX8_raise_38 : decode cX8_raise 38 = .ok (.iconst 0, 1) := by decide +kernel
theorem dX8_raise_39 : decode cX8_raise 39 = .ok (.invokevirtual 219, 3) := by decide +kernel
theorem dX8_raise_42 : decode cX8_raise 42 = .ok (.iconst 0, 1) := by decide +kernel
theorem dX8_raise_43 : decode cX8_raise 43 = .ok (.istore 6, 2) := by decide +kernel
theorem dX8_raise_45 : decode cX8_raise 45 = .ok (.iload 6, 2) := by decide +kernel
theorem dX8_raise_47 : decode cX8_raise 47 = .ok (.bipush 20, 2) := by decide +kernel
theorem dX8_raise_49 : decode cX8_raise 49 = .ok (.if_icmp .gt 70, 3) := by decide +kernel
theorem dX8_raise_52 : decode cX8_raise 52 = .ok (.aload_n 0, 1) := by decide +kernel
theorem dX8_raise_53 : decode cX8_raise 53 = .ok (.getfield 38, 3) := by decide +kernel
theorem dX8_raise_56 : decode cX8_raise 56 = .ok (.iload_n 3, 1) := by decide +kernel
theorem dX8_raise_57 : decode cX8_raise 57 = .ok (.iload 6, 2) := by decide +kernel
theorem dX8_raise_59 : decode cX8_raise 59 = .ok (.aload_n 0, 1) := by decide +kernel
theorem dX8_raise_60 : decode cX8_raise 60 = .ok (.getfield 86, 3) := by decide +kernel
theorem dX8_raise_63 : decode cX8_raise 63 = .ok (.invokevirtual 222, 3) := by decide +kernel
theorem dX8_raise_66 : decode cX8_raise 66 = .ok (.aload_n 0, 1) := by decide +kernel
theorem dX8_raise_67 : decode cX8_raise 67 = .ok (.getfield 66, 3) := by decide +kernel
theorem dX8_raise_70 : decode cX8_raise 70 = .ok (.aload_n 0, 1) := by decide +kernel
theorem dX8_raise_71 : decode cX8_raise 71 = .ok (.getfield 86, 3) := by decide +kernel
theorem dX8_raise_74 : decode cX8_raise 74 = .ok (.aload_n 0, 1) := by decide +kernel
theorem dX8_raise_75 : decode cX8_raise 75 = .ok (.getfield 38, 3) := by decide +kernel
theorem dX8_raise_78 : decode cX8_raise 78 = .ok (.getfield 132, 3) := by decide +kernel
theorem dX8_raise_81 : decode cX8_raise 81 = .ok (.invokevirtual 226, 3) := by decide +kernel
theorem dX8_raise_84 : decode cX8_raise 84 = .ok (.aload_n 0, 1) := by decide +kernel
theorem dX8_raise_85 : decode cX8_raise 85 = .ok (.getfield 66, 3) := by decide +kernel
theorem dX8_raise_88 : decode cX8_raise 88 = .ok (.iload_n 3, 1) := by decide +kernel
theorem dX8_raise_89 : decode cX8_raise 89 = .ok (.aload_n 0, 1) := by decide +kernel
theorem dX8_raise_90 : decode cX8_raise 90 = .ok (.getfield 86, 3) := by decide +kernel
theorem dX8_raise_93 : decode cX8_raise 93 = .ok (.invokevirtual 215, 3) := by decide +kernel
theorem dX8_raise_96 : decode cX8_raise 96 = .ok (.istore 7, 2) := by decide +kernel
theorem dX8_raise_98 : decode cX8_raise 98 = .ok (.iload 7, 2) := by decide +kernel
theorem dX8_raise_100 : decode cX8_raise 100 = .ok (.iload 5, 2) := by decide +kernel
theorem dX8_raise_102 : decode cX8_raise 102 = .ok (.if_icmp .le 11, 3) := by decide +kernel
theorem dX8_raise_105 : decode cX8_raise 105 = .ok (.iload 7, 2) := by decide +kernel
theorem dX8_raise_107 : decode cX8_raise 107 = .ok (.istore 5, 2) := by decide +kernel
theorem dX8_raise_109 : decode cX8_raise 109 = .ok (.iload 6, 2) := by decide +kernel
theorem dX8_raise_111 : decode cX8_raise 111 = .ok (.istore 4, 2) := by decide +kernel
theorem dX8_raise_113 : decode cX8_raise 113 = .ok (.iinc 6 1, 3) := by decide +kernel
theorem dX8_raise_116 : decode cX8_raise 116 = .ok (.goto (-71), 3) := by decide +kernel
theorem dX8_raise_119 : decode cX8_raise 119 = .ok (.iload_n 2, 1) := by decide +kernel
theorem dX8_raise_120 : decode cX8_raise 120 = .ok (.ifCond .ne 8, 3) := by decide +kernel
theorem dX8_raise_123 : decode cX8_raise 123 = .ok (.iload 4, 2) := by decide +kernel
theorem dX8_raise_125 : decode cX8_raise 125 = .ok (.goto 5, 3) := by decide +kernel
theorem dX8_raise_128 : decode cX8_raise 128 = .ok (.iload 5, 2) := by decide +kernel
theorem dX8_raise_130 : decode cX8_raise 130 = .ok (.ireturn, 1) := by decide +kernel
theorem dX8_dressBest_0 : decode cX8_dressBest 0 = .ok (.aload_n 0, 1) := by decide +kernel
theorem dX8_dressBest_1 : decode cX8_dressBest 1 = .ok (.getfield 66, 3) := by decide +kernel
theorem dX8_dressBest_4 : decode cX8_dressBest 4 = .ok (.iload_n 1, 1) := by decide +kernel
theorem dX8_dressBest_5 : decode cX8_dressBest 5 = .ok (.invokevirtual 219, 3) := by decide +kernel
theorem dX8_dressBest_8 : decode cX8_dressBest 8 = .ok (.aload_n 0, 1) := by decide +kernel
theorem dX8_dressBest_9 : decode cX8_dressBest 9 = .ok (.getfield 66, 3) := by decide +kernel
theorem dX8_dressBest_12 : decode cX8_dressBest 12 = .ok (.aload_n 0, 1) := by decide +kernel
theorem dX8_dressBest_13 : decode cX8_dressBest 13 = .ok (.getfield 38, 3) := by decide +kernel
theorem dX8_dressBest_16 : decode cX8_dressBest 16 = .ok (.getfield 160, 3) := by decide +kernel
theorem dX8_dressBest_19 : decode cX8_dressBest 19 = .ok (.aload_n 0, 1) := by decide +kernel
theorem dX8_dressBest_20 : decode cX8_dressBest 20 = .ok (.getfield 38, 3) := by decide +kernel
theorem dX8_dressBest_23 : decode cX8_dressBest 23 = .ok (.getfield 132, 3) := by decide +kernel
theorem dX8_dressBest_26 : decode cX8_dressBest 26 = .ok (.invokevirtual 226, 3) := by decide +kernel
theorem dX8_dressBest_29 : decode cX8_dressBest 29 = .ok (.return_, 1) := by decide +kernel
theorem dX8_grow_0 : decode cX8_grow 0 = .ok (.iload_n 1, 1) := by decide +kernel
theorem dX8_grow_1 : decode cX8_grow 1 = .ok (.ifCond .lt 8, 3) := by decide +kernel
theorem dX8_grow_4 : decode cX8_grow 4 = .ok (.iload_n 1, 1) := by decide +kernel
theorem dX8_grow_5 : decode cX8_grow 5 = .ok (.iconst 2, 1) := by decide +kernel
theorem dX8_grow_6 : decode cX8_grow 6 = .ok (.if_icmp .le 6, 3) := by decide +kernel
theorem dX8_grow_9 : decode cX8_grow 9 = .ok (.ldc 94, 2) := by decide +kernel
theorem dX8_grow_11 : decode cX8_grow 11 = .ok (.ireturn, 1) := by decide +kernel
theorem dX8_grow_12 : decode cX8_grow 12 = .ok (.iconst (-1), 1) := by decide +kernel
theorem dX8_grow_13 : decode cX8_grow 13 = .ok (.istore_n 2, 1) := by decide +kernel
theorem dX8_grow_14 : decode cX8_grow 14 = .ok (.iconst (-1), 1) := by decide +kernel
theorem dX8_grow_15 : decode cX8_grow 15 = .ok (.istore_n 3, 1) := by decide +kernel
theorem dX8_grow_16 : decode cX8_grow 16 = .ok (.iconst (-1), 1) := by decide +kernel
theorem dX8_grow_17 : decode cX8_grow 17 = .ok (.istore 4, 2) := by decide +kernel
theorem dX8_grow_19 : decode cX8_grow 19 = .ok (.iconst 0, 1) := by decide +kernel
theorem dX8_grow_20 : decode cX8_grow 20 = .ok (.istore 5, 2) := by decide +kernel
theorem dX8_grow_22 : decode cX8_grow 22 = .ok (.iload 5, 2) := by decide +kernel
theorem dX8_grow_24 : decode cX8_grow 24 = .ok (.aload_n 0, 1) := by decide +kernel
theorem dX8_grow_25 : decode cX8_grow 25 = .ok (.getfield 19, 3) := by decide +kernel
theorem dX8_grow_28 : decode cX8_grow 28 = .ok (.getfield 123, 3) := by decide +kernel
theorem dX8_grow_31 : decode cX8_grow 31 = .ok (.if_icmp .ge 58, 3) := by decide +kernel
theorem dX8_grow_34 : decode cX8_grow 34 = .ok (.iconst 0, 1) := by decide +kernel
theorem dX8_grow_35 : decode cX8_grow 35 = .ok (.istore 6, 2) := by decide +kernel
theorem dX8_grow_37 : decode cX8_grow 37 = .ok (.iload 6, 2) := by decide +kernel
theorem dX8_grow_39 : decode cX8_grow 39 = .ok (.bipush 9, 2) := by decide +kernel
theorem dX8_grow_41 : decode cX8_grow 41 = .ok (.if_icmp .gt 42, 3) := by decide +kernel
theorem dX8_grow_44 : decode cX8_grow 44 = .ok (.aload_n 0, 1) := by decide +kernel
theorem dX8_grow_45 : decode cX8_grow 45 = .ok (.getfield 57, 3) := by decide +kernel
theorem dX8_grow_48 : decode cX8_grow 48 = .ok (.iload 5, 2) := by decide +kernel
theorem dX8_grow_50 : decode cX8_grow 50 = .ok (.iload 6, 2) := by decide +kernel
theorem dX8_grow_52 : decode cX8_grow 52 = .ok (.invokevirtual 142, 3) := by decide +kernel
theorem dX8_grow_55 : decode cX8_grow 55 = .ok (.invokestatic 230, 3) := by decide +kernel
theorem dX8_grow_58 : decode cX8_grow 58 = .ok (.istore 7, 2) := by decide +kernel
theorem dX8_grow_60 : decode cX8_grow 60 = .ok (.iload 7, 2) := by decide +kernel
theorem dX8_grow_62 : decode cX8_grow 62 = .ok (.iload 4, 2) := by decide +kernel
theorem dX8_grow_64 : decode cX8_grow 64 = .ok (.if_icmp .le 13, 3) := by decide +kernel
theorem dX8_grow_67 : decode cX8_grow 67 = .ok (.iload 7, 2) := by decide +kernel
theorem dX8_grow_69 : decode cX8_grow 69 = .ok (.istore 4, 2) := by decide +kernel
theorem dX8_grow_71 : decode cX8_grow 71 = .ok (.iload 5, 2) := by decide +kernel
theorem dX8_grow_73 : decode cX8_grow 73 = .ok (.istore_n 2, 1) := by decide +kernel
theorem dX8_grow_74 : decode cX8_grow 74 = .ok (.iload 6, 2) := by decide +kernel
theorem dX8_grow_76 : decode cX8_grow 76 = .ok (.istore_n 3, 1) := by decide +kernel
theorem dX8_grow_77 : decode cX8_grow 77 = .ok (.iinc 6 1, 3) := by decide +kernel
theorem dX8_grow_80 : decode cX8_grow 80 = .ok (.goto (-43), 3) := by decide +kernel
theorem dX8_grow_83 : decode cX8_grow 83 = .ok (.iinc 5 1, 3) := by decide +kernel
theorem dX8_grow_86 : decode cX8_grow 86 = .ok (.goto (-64), 3) := by decide +kernel
theorem dX8_grow_89 : decode cX8_grow 89 = .ok (.iload_n 1, 1) := by decide +kernel
theorem dX8_grow_90 : decode cX8_grow 90 = .ok (.ifCond .ne 7, 3) := by decide +kernel
theorem dX8_grow_93 : decode cX8_grow 93 = .ok (.iload_n 2, 1) := by decide +kernel
theorem dX8_grow_94 : decode cX8_grow 94 = .ok (.goto 14, 3) := by decide +kernel
theorem dX8_grow_97 : decode cX8_grow 97 = .ok (.iload_n 1, 1) := by decide +kernel
theorem dX8_grow_98 : decode cX8_grow 98 = .ok (.iconst 1, 1) := by decide +kernel
theorem dX8_grow_99 : decode cX8_grow 99 = .ok (.if_icmp .ne 7, 3) := by decide +kernel
theorem dX8_grow_102 : decode cX8_grow 102 = .ok (.iload_n 3, 1) := by decide +kernel
theorem dX8_grow_103 : decode cX8_grow 103 = .ok (.goto 5, 3) := by decide +kernel
theorem dX8_grow_106 : decode cX8_grow 106 = .ok (.iload 4, 2) := by decide +kernel
theorem dX8_grow_108 : decode cX8_grow 108 = .ok (.ireturn, 1) := by decide +kernel
theorem dX8_wedding_0 : decode cX8_wedding 0 = .ok (.iload_n 1, 1) := by decide +kernel
theorem dX8_wedding_1 : decode cX8_wedding 1 = .ok (.invokestatic 235, 3) := by decide +kernel
theorem dX8_wedding_4 : decode cX8_wedding 4 = .ok (.ifCond .eq 12, 3) := by decide +kernel
theorem dX8_wedding_7 : decode cX8_wedding 7 = .ok (.iload_n 2, 1) := by decide +kernel
theorem dX8_wedding_8 : decode cX8_wedding 8 = .ok (.ifCond .lt 8, 3) := by decide +kernel
theorem dX8_wedding_11 : decode cX8_wedding 11 = .ok (.iload_n 2, 1) := by decide +kernel
theorem dX8_wedding_12 : decode cX8_wedding 12 = .ok (.iconst 1, 1) := by decide +kernel
theorem dX8_wedding_13 : decode cX8_wedding 13 = .ok (.if_icmp .le 6, 3) := by decide +kernel
theorem dX8_wedding_16 : decode cX8_wedding 16 = .ok (.ldc 94, 2) := by decide +kernel
theorem dX8_wedding_18 : decode cX8_wedding 18 = .ok (.ireturn, 1) := by decide +kernel
theorem dX8_wedding_19 : decode cX8_wedding 19 = .ok (.iconst (-1), 1) := by decide +kernel
theorem dX8_wedding_20 : decode cX8_wedding 20 = .ok (.istore_n 3, 1) := by decide +kernel
theorem dX8_wedding_21 : decode cX8_wedding 21 = .ok (.iconst (-1), 1) := by decide +kernel
theorem dX8_wedding_22 : decode cX8_wedding 22 = .ok (.istore 4, 2) := by decide +kernel
theorem dX8_wedding_24 : decode cX8_wedding 24 = .ok (.aload_n 0, 1) := by decide +kernel
theorem dX8_wedding_25 : decode cX8_wedding 25 = .ok (.getfield 19, 3) := by decide +kernel
theorem dX8_wedding_28 : decode cX8_wedding 28 = .ok (.iload_n 1, 1) := by decide +kernel
theorem dX8_wedding_29 : decode cX8_wedding 29 = .ok (.invokevirtual 238, 3) := by decide +kernel
theorem dX8_wedding_32 : decode cX8_wedding 32 = .ok (.istore 5, 2) := by decide +kernel
theorem dX8_wedding_34 : decode cX8_wedding 34 = .ok (.iconst 0, 1) := by decide +kernel
theorem dX8_wedding_35 : decode cX8_wedding 35 = .ok (.istore 6, 2) := by decide +kernel
theorem dX8_wedding_37 : decode cX8_wedding 37 = .ok (.iload 6, 2) := by decide +kernel
theorem dX8_wedding_39 : decode cX8_wedding 39 = .ok (.aload_n 0, 1) := by decide +kernel
theorem dX8_wedding_40 : decode cX8_wedding 40 = .ok (.getfield 57, 3) := by decide +kernel
theorem dX8_wedding_43 : decode cX8_wedding 43 = .ok (.getfield 141, 3) := by decide +kernel
theorem dX8_wedding_46 : decode cX8_wedding 46 = .ok (.if_icmp .ge 105, 3) := by decide +kernel
theorem dX8_wedding_49 : decode cX8_wedding 49 = .ok (.iload 6, 2) := by decide +kernel
theorem dX8_wedding_51 : decode cX8_wedding 51 = .ok (.iconst 1, 1) := by decide +kernel
theorem dX8_wedding_52 : decode cX8_wedding 52 = .ok (.iadd, 1) := by decide +kernel
theorem dX8_wedding_53 : decode cX8_wedding 53 = .ok (.istore 7, 2) := by decide +kernel
theorem dX8_wedding_55 : decode cX8_wedding 55 = .ok (.iload 7, 2) := by decide +kernel
theorem dX8_wedding_57 : decode cX8_wedding 57 = .ok (.aload_n 0, 1) := by decide +kernel
theorem dX8_wedding_58 : decode cX8_wedding 58 = .ok (.getfield 57, 3) := by decide +kernel
theorem dX8_wedding_61 : decode cX8_wedding 61 = .ok (.getfield 141, 3) := by decide +kernel
theorem dX8_wedding_64 : decode cX8_wedding 64 = .ok (.if_icmp .ge 81, 3) := by decide +kernel
theorem dX8_wedding_67 : decode cX8_wedding 67 = .ok (.aload_n 0, 1) := by decide +kernel
theorem dX8_wedding_68 : decode cX8_wedding 68 = .ok (.getfield 57, 3) := by decide +kernel
theorem dX8_wedding_71 : decode cX8_wedding 71 = .ok (.iload 6, 2) := by decide +kernel
theorem dX8_wedding_73 : decode cX8_wedding 73 = .ok (.iload 7, 2) := by decide +kernel
theorem dX8_wedding_75 : decode cX8_wedding 75 = .ok (.iload 5, 2) := by decide +kernel
theorem dX8_wedding_77 : decode cX8_wedding 77 = .ok (.invokevirtual 241, 3) := by decide +kernel
theorem dX8_wedding_80 : decode cX8_wedding 80 = .ok (.ifCond .eq 59, 3) := by decide +kernel
theorem dX8_wedding_83 : decode cX8_wedding 83 = .ok (.aload_n 0, 1) := by decide +kernel
theorem dX8_wedding_84 : decode cX8_wedding 84 = .ok (.getfield 57, 3) := by decide +kernel
theorem dX8_wedding_87 : decode cX8_wedding 87 = .ok (.iload 6, 2) := by decide +kernel
theorem dX8_wedding_89 : decode cX8_wedding 89 = .ok (.invokevirtual 194, 3) := by decide +kernel
theorem dX8_wedding_92 : decode cX8_wedding 92 = .ok (.aload_n 0, 1) := by decide +kernel
theorem dX8_wedding_93 : decode cX8_wedding 93 = .ok (.getfield 57, 3) := by decide +kernel
theorem dX8_wedding_96 : decode cX8_wedding 96 = .ok (.iload 7, 2) := by decide +kernel
theorem dX8_wedding_98 : decode cX8_wedding 98 = .ok (.invokevirtual 194, 3) := by decide +kernel
theorem dX8_wedding_101 : decode cX8_wedding 101 = .ok (.iadd, 1) := by decide +kernel
theorem dX8_wedding_102 : decode cX8_wedding 102 = .ok (.istore 8, 2) := by decide +kernel
theorem dX8_wedding_104 : decode cX8_wedding 104 = .ok (.iload_n 3, 1) := by decide +kernel
theorem dX8_wedding_105 : decode cX8_wedding 105 = .ok (.iconst (-1), 1) := by decide +kernel
theorem dX8_wedding_106 : decode cX8_wedding 106 = .ok (.if_icmp .eq 9, 3) := by decide +kernel
theorem dX8_wedding_109 : decode cX8_wedding 109 = .ok (.iload 8, 2) := by decide +kernel
theorem dX8_wedding_111 : decode cX8_wedding 111 = .ok (.iload_n 3, 1) := by decide +kernel
theorem dX8_wedding_112 : decode cX8_wedding 112 = .ok (.if_icmp .ge 27, 3) := by decide +kernel
theorem dX8_wedding_115 : decode cX8_wedding 115 = .ok (.iload 8, 2) := by decide +kernel
theorem dX8_wedding_117 : decode cX8_wedding 117 = .ok (.istore_n 3, 1) := by decide +kernel
theorem dX8_wedding_118 : decode cX8_wedding 118 = .ok (.aload_n 0, 1) := by decide +kernel
theorem dX8_wedding_119 : decode cX8_wedding 119 = .ok (.getfield 57, 3) := by decide +kernel
theorem dX8_wedding_122 : decode cX8_wedding 122 = .ok (.iload 6, 2) := by decide +kernel
theorem dX8_wedding_124 : decode cX8_wedding 124 = .ok (.invokevirtual 187, 3) := by decide +kernel
theorem dX8_wedding_127 : decode cX8_wedding 127 = .ok (.aload_n 0, 1) := by decide +kernel
theorem dX8_wedding_128 : decode cX8_wedding 128 = .ok (.getfield 57, 3) := by decide +kernel
theorem dX8_wedding_131 : decode cX8_wedding 131 = .ok (.iload 7, 2) := by decide +kernel
theorem dX8_wedding_133 : decode cX8_wedding 133 = .ok (.invokevirtual 187, 3) := by decide +kernel
theorem dX8_wedding_136 : decode cX8_wedding 136 = .ok (.ior, 1) := by decide +kernel
theorem dX8_wedding_137 : decode cX8_wedding 137 = .ok (.istore 4, 2) := by decide +kernel
theorem dX8_wedding_139 : decode cX8_wedding 139 = .ok (.iinc 7 1, 3) := by decide +kernel
theorem dX8_wedding_142 : decode cX8_wedding 142 = .ok (.goto (-87), 3) := by decide +kernel
theorem dX8_wedding_145 : decode cX8_wedding 145 = .ok (.iinc 6 1, 3) := by decide +kernel
theorem dX8_wedding_148 : decode cX8_wedding 148 = .ok (.goto (-111), 3) := by decide +kernel
theorem dX8_wedding_151 : decode cX8_wedding 151 = .ok (.iload_n 2, 1) := by decide +kernel
theorem dX8_wedding_152 : decode cX8_wedding 152 = .ok (.ifCond .ne 7, 3) := by decide +kernel
theorem dX8_wedding_155 : decode cX8_wedding 155 = .ok (.iload_n 3, 1) := by decide +kernel
theorem dX8_wedding_156 : decode cX8_wedding 156 = .ok (.goto 5, 3) := by decide +kernel
theorem dX8_wedding_159 : decode cX8_wedding 159 = .ok (.iload 4, 2) := by decide +kernel
theorem dX8_wedding_161 : decode cX8_wedding 161 = .ok (.ireturn, 1) := by decide +kernel
theorem dX8_see_0 : decode cX8_see 0 = .ok (.iload_n 1, 1) := by decide +kernel
theorem dX8_see_1 : decode cX8_see 1 = .ok (.invokestatic 235, 3) := by decide +kernel
theorem dX8_see_4 : decode cX8_see 4 = .ok (.ifCond .eq 13, 3) := by decide +kernel
theorem dX8_see_7 : decode cX8_see 7 = .ok (.iload_n 2, 1) := by decide +kernel
theorem dX8_see_8 : decode cX8_see 8 = .ok (.ifCond .lt 9, 3) := by decide +kernel
theorem dX8_see_11 : decode cX8_see 11 = .ok (.iload_n 2, 1) := by decide +kernel
theorem dX8_see_12 : decode cX8_see 12 = .ok (.bipush 27, 2) := by decide +kernel
theorem dX8_see_14 : decode cX8_see 14 = .ok (.if_icmp .le 6, 3) := by decide +kernel
theorem dX8_see_17 : decode cX8_see 17 = .ok (.ldc 94, 2) := by decide +kernel
theorem dX8_see_19 : decode cX8_see 19 = .ok (.ireturn, 1) := by decide +kernel
theorem dX8_see_20 : decode cX8_see 20 = .ok (.aload_n 0, 1) := by decide +kernel
theorem dX8_see_21 : decode cX8_see 21 = .ok (.getfield 73, 3) := by decide +kernel
theorem dX8_see_24 : decode cX8_see 24 = .ok (.iload_n 1, 1) := by decide +kernel
theorem dX8_see_25 : decode cX8_see 25 = .ok (.iload_n 2, 1) := by decide +kernel
theorem dX8_see_26 : decode cX8_see 26 = .ok (.invokevirtual 245, 3) := by decide +kernel
theorem dX8_see_29 : decode cX8_see 29 = .ok (.ifCond .eq 13, 3) := by decide +kernel
theorem dX8_see_32 : decode cX8_see 32 = .ok (.aload_n 0, 1) := by decide +kernel
theorem dX8_see_33 : decode cX8_see 33 = .ok (.getfield 73, 3) := by decide +kernel
theorem dX8_see_36 : decode cX8_see 36 = .ok (.getfield 119, 3) := by decide +kernel
theorem dX8_see_39 : decode cX8_see 39 = .ok (.goto 5, 3) := by decide +kernel
theorem dX8_see_42 : decode cX8_see 42 = .ok (.ldc 98, 2) := by decide +kernel
theorem dX8_see_44 : decode cX8_see 44 = .ok (.ireturn, 1) := by decide +kernel
theorem dX8_seen_0 : decode cX8_seen 0 = .ok (.iload_n 2, 1) := by decide +kernel
theorem dX8_seen_1 : decode cX8_seen 1 = .ok (.ifCond .lt 8, 3) := by decide +kernel
theorem dX8_seen_4 : decode cX8_seen 4 = .ok (.iload_n 2, 1) := by decide +kernel
theorem dX8_seen_5 : decode cX8_seen 5 = .ok (.iconst 1, 1) := by decide +kernel
theorem dX8_seen_6 : decode cX8_seen 6 = .ok (.if_icmp .le 6, 3) := by decide +kernel
theorem dX8_seen_9 : decode cX8_seen 9 = .ok (.ldc 94, 2) := by decide +kernel
theorem dX8_seen_11 : decode cX8_seen 11 = .ok (.ireturn, 1) := by decide +kernel
theorem dX8_seen_12 : decode cX8_seen 12 = .ok (.iload_n 1, 1) := by decide +kernel
theorem dX8_seen_13 : decode cX8_seen 13 = .ok (.ifCond .lt 14, 3) := by decide +kernel
theorem dX8_seen_16 : decode cX8_seen 16 = .ok (.iload_n 1, 1) := by decide +kernel
theorem dX8_seen_17 : decode cX8_seen 17 = .ok (.aload_n 0, 1) := by decide +kernel
theorem dX8_seen_18 : decode cX8_seen 18 = .ok (.getfield 73, 3) := by decide +kernel
theorem dX8_seen_21 : decode cX8_seen 21 = .ok (.getfield 119, 3) := by decide +kernel
theorem dX8_seen_24 : decode cX8_seen 24 = .ok (.if_icmp .lt 5, 3) := by decide +kernel
theorem dX8_seen_27 : decode cX8_seen 27 = .ok (.iconst (-1), 1) := by decide +kernel
theorem dX8_seen_28 : decode cX8_seen 28 = .ok (.ireturn, 1) := by decide +kernel
theorem dX8_seen_29 : decode cX8_seen 29 = .ok (.iload_n 2, 1) := by decide +kernel
theorem dX8_seen_30 : decode cX8_seen 30 = .ok (.ifCond .ne 14, 3) := by decide +kernel
theorem dX8_seen_33 : decode cX8_seen 33 = .ok (.aload_n 0, 1) := by decide +kernel
theorem dX8_seen_34 : decode cX8_seen 34 = .ok (.getfield 73, 3) := by decide +kernel
theorem dX8_seen_37 : decode cX8_seen 37 = .ok (.iload_n 1, 1) := by decide +kernel
theorem dX8_seen_38 : decode cX8_seen 38 = .ok (.invokevirtual 248, 3) := by decide +kernel
theorem dX8_seen_41 : decode cX8_seen 41 = .ok (.goto 11, 3) := by decide +kernel
theorem dX8_seen_44 : decode cX8_seen 44 = .ok (.aload_n 0, 1) := by decide +kernel
theorem dX8_seen_45 : decode cX8_seen 45 = .ok (.getfield 73, 3) := by decide +kernel
theorem dX8_seen_48 : decode cX8_seen 48 = .ok (.iload_n 1, 1) := by decide +kernel
theorem dX8_seen_49 : decode cX8_seen 49 = .ok (.invokevirtual 251, 3) := by decide +kernel
theorem dX8_seen_52 : decode cX8_seen 52 = .ok (.ireturn, 1) := by decide +kernel
theorem dX8_strange_0 : decode cX8_strange 0 = .ok (.aload_n 0, 1) := by decide +kernel
theorem dX8_strange_1 : decode cX8_strange 1 = .ok (.getfield 73, 3) := by decide +kernel
theorem dX8_strange_4 : decode cX8_strange 4 = .ok (.invokevirtual 254, 3) := by decide +kernel
theorem dX8_strange_7 : decode cX8_strange 7 = .ok (.ireturn, 1) := by decide +kernel
theorem dX8_day_0 : decode cX8_day 0 = .ok (.iload_n 1, 1) := by decide +kernel
theorem dX8_day_1 : decode cX8_day 1 = .ok (.iconst 1, 1) := by decide +kernel
theorem dX8_day_2 : decode cX8_day 2 = .ok (.if_icmp .lt 9, 3) := by decide +kernel
theorem dX8_day_5 : decode cX8_day 5 = .ok (.iload_n 1, 1) := by decide +kernel
theorem dX8_day_6 : decode cX8_day 6 = .ok (.bipush 9, 2) := by decide +kernel
theorem dX8_day_8 : decode cX8_day 8 = .ok (.if_icmp .le 6, 3) := by decide +kernel
theorem dX8_day_11 : decode cX8_day 11 = .ok (.ldc 94, 2) := by decide +kernel
theorem dX8_day_13 : decode cX8_day 13 = .ok (.ireturn, 1) := by decide +kernel
theorem dX8_day_14 : decode cX8_day 14 = .ok (.iconst 0, 1) := by decide +kernel
theorem dX8_day_15 : decode cX8_day 15 = .ok (.istore_n 2, 1) := by decide +kernel
theorem dX8_day_16 : decode cX8_day 16 = .ok (.iconst 0, 1) := by decide +kernel
theorem dX8_day_17 : decode cX8_day 17 = .ok (.istore_n 3, 1) := by decide +kernel
theorem dX8_day_18 : decode cX8_day 18 = .ok (.iload_n 3, 1) := by decide +kernel
theorem dX8_day_19 : decode cX8_day 19 = .ok (.iload_n 1, 1) := by decide +kernel
theorem dX8_day_20 : decode cX8_day 20 = .ok (.if_icmp .ge 16, 3) := by decide +kernel
theorem dX8_day_23 : decode cX8_day 23 = .ok (.iload_n 2, 1) := by decide +kernel
theorem dX8_day_24 : decode cX8_day 24 = .ok (.aload_n 0, 1) := by decide +kernel
theorem dX8_day_25 : decode cX8_day 25 = .ok (.invokevirtual 257, 3) := by decide +kernel
theorem dX8_day_28 : decode cX8_day 28 = .ok (.iadd, 1) := by decide +kernel
theorem dX8_day_29 : decode cX8_day 29 = .ok (.istore_n 2, 1) := by decide +kernel
theorem dX8_day_30 : decode cX8_day 30 = .ok (.iinc 3 1, 3) := by decide +kernel
theorem dX8_day_33 : decode cX8_day 33 = .ok (.goto (-15), 3) := by decide +kernel
theorem dX8_day_36 : decode cX8_day 36 = .ok (.iload_n 2, 1) := by decide +kernel
theorem dX8_day_37 : decode cX8_day 37 = .ok (.ireturn, 1) := by decide +kernel
theorem dX8_drift_0 : decode cX8_drift 0 = .ok (.iload_n 1, 1) := by decide +kernel
theorem dX8_drift_1 : decode cX8_drift 1 = .ok (.iconst 1, 1) := by decide +kernel
theorem dX8_drift_2 : decode cX8_drift 2 = .ok (.if_icmp .lt 9, 3) := by decide +kernel
theorem dX8_drift_5 : decode cX8_drift 5 = .ok (.iload_n 1, 1) := by decide +kernel
theorem dX8_drift_6 : decode cX8_drift 6 = .ok (.bipush 9, 2) := by decide +kernel
theorem dX8_drift_8 : decode cX8_drift 8 = .ok (.if_icmp .le 6, 3) := by decide +kernel
theorem dX8_drift_11 : decode cX8_drift 11 = .ok (.ldc 94, 2) := by decide +kernel
theorem dX8_drift_13 : decode cX8_drift 13 = .ok (.ireturn, 1) := by decide +kernel
theorem dX8_drift_14 : decode cX8_drift 14 = .ok (.iconst 0, 1) := by decide +kernel
theorem dX8_drift_15 : decode cX8_drift 15 = .ok (.istore_n 2, 1) := by decide +kernel
theorem dX8_drift_16 : decode cX8_drift 16 = .ok (.iconst 0, 1) := by decide +kernel
theorem dX8_drift_17 : decode cX8_drift 17 = .ok (.istore_n 3, 1) := by decide +kernel
theorem dX8_drift_18 : decode cX8_drift 18 = .ok (.iload_n 3, 1) := by decide +kernel
theorem dX8_drift_19 : decode cX8_drift 19 = .ok (.iload_n 1, 1) := by decide +kernel
theorem dX8_drift_20 : decode cX8_drift 20 = .ok (.if_icmp .ge 30, 3) := by decide +kernel
theorem dX8_drift_23 : decode cX8_drift 23 = .ok (.aload_n 0, 1) := by decide +kernel
theorem dX8_drift_24 : decode cX8_drift 24 = .ok (.getfield 38, 3) := by decide +kernel
theorem dX8_drift_27 : decode cX8_drift 27 = .ok (.aload_n 0, 1) := by decide +kernel
theorem dX8_drift_28 : decode cX8_drift 28 = .ok (.getfield 19, 3) := by decide +kernel
theorem dX8_drift_31 : decode cX8_drift 31 = .ok (.getfield 123, 3) := by decide +kernel
theorem dX8_drift_34 : decode cX8_drift 34 = .ok (.invokevirtual 260, 3) := by decide +kernel
theorem dX8_drift_37 : decode cX8_drift 37 = .ok (.iload_n 2, 1) := by decide +kernel
theorem dX8_drift_38 : decode cX8_drift 38 = .ok (.aload_n 0, 1) := by decide +kernel
theorem dX8_drift_39 : decode cX8_drift 39 = .ok (.invokevirtual 257, 3) := by decide +kernel
theorem dX8_drift_42 : decode cX8_drift 42 = .ok (.iadd, 1) := by decide +kernel
theorem dX8_drift_43 : decode cX8_drift 43 = .ok (.istore_n 2, 1) := by decide +kernel
theorem dX8_drift_44 : decode cX8_drift 44 = .ok (.iinc 3 1, 3) := by decide +kernel
theorem dX8_drift_47 : decode cX8_drift 47 = .ok (.goto (-29), 3) := by decide +kernel
theorem dX8_drift_50 : decode cX8_drift 50 = .ok (.iload_n 2, 1) := by decide +kernel
theorem dX8_drift_51 : decode cX8_drift 51 = .ok (.ireturn, 1) := by decide +kernel
theorem dX8_passDay_0 : decode cX8_passDay 0 = .ok (.aload_n 0, 1) := by decide +kernel
theorem dX8_passDay_1 : decode cX8_passDay 1 = .ok (.iconst 0, 1) := by decide +kernel
theorem dX8_passDay_2 : decode cX8_passDay 2 = .ok (.invokevirtual 200, 3) := by decide +kernel
theorem dX8_passDay_5 : decode cX8_passDay 5 = .ok (.aload_n 0, 1) := by decide +kernel
theorem dX8_passDay_6 : decode cX8_passDay 6 = .ok (.getfield 38, 3) := by decide +kernel
theorem dX8_passDay_9 : decode cX8_passDay 9 = .ok (.dup, 1) := by decide +kernel
theorem dX8_passDay_10 : decode cX8_passDay 10 = .ok (.getfield 138, 3) := by decide +kernel
theorem dX8_passDay_13 : decode cX8_passDay 13 = .ok (.iconst 1, 1) := by decide +kernel
theorem dX8_passDay_14 : decode cX8_passDay 14 = .ok (.iadd, 1) := by decide +kernel
theorem dX8_passDay_15 : decode cX8_passDay 15 = .ok (.putfield 138, 3) := by decide +kernel
theorem dX8_passDay_18 : decode cX8_passDay 18 = .ok (.aload_n 0, 1) := by decide +kernel
theorem dX8_passDay_19 : decode cX8_passDay 19 = .ok (.getfield 66, 3) := by decide +kernel
theorem dX8_passDay_22 : decode cX8_passDay 22 = .ok (.getfield 203, 3) := by decide +kernel
theorem dX8_passDay_25 : decode cX8_passDay 25 = .ok (.iconst (-1), 1) := by decide +kernel
theorem dX8_passDay_26 : decode cX8_passDay 26 = .ok (.if_icmp .ne 5, 3) := by decide +kernel
theorem dX8_passDay_29 : decode cX8_passDay 29 = .ok (.iconst 0, 1) := by decide +kernel
theorem dX8_passDay_30 : decode cX8_passDay 30 = .ok (.ireturn, 1) := by decide +kernel
theorem dX8_passDay_31 : decode cX8_passDay 31 = .ok (.iconst 0, 1) := by decide +kernel
theorem dX8_passDay_32 : decode cX8_passDay 32 = .ok (.istore_n 1, 1) := by decide +kernel
theorem dX8_passDay_33 : decode cX8_passDay 33 = .ok (.iload_n 1, 1) := by decide +kernel
theorem dX8_passDay_34 : decode cX8_passDay 34 = .ok (.bipush 12, 2) := by decide +kernel
theorem dX8_passDay_36 : decode cX8_passDay 36 = .ok (.if_icmp .ge 25, 3) := by decide +kernel
theorem dX8_passDay_39 : decode cX8_passDay 39 = .ok (.aload_n 0, 1) := by decide +kernel
theorem dX8_passDay_40 : decode cX8_passDay 40 = .ok (.getfield 38, 3) := by decide +kernel
theorem dX8_passDay_43 : decode cX8_passDay 43 = .ok (.aload_n 0, 1) := by decide +kernel
theorem dX8_passDay_44 : decode cX8_passDay 44 = .ok (.getfield 66, 3) := by decide +kernel
theorem dX8_passDay_47 : decode cX8_passDay 47 = .ok (.getfield 263, 3) := by decide +kernel
theorem dX8_passDay_50 : decode cX8_passDay 50 = .ok (.iload_n 1, 1) := by decide +kernel
theorem dX8_passDay_51 : decode cX8_passDay 51 = .ok (.iaload, 1) := by decide +kernel
theorem dX8_passDay_52 : decode cX8_passDay 52 = .ok (.invokevirtual 264, 3) := by decide +kernel
theorem dX8_passDay_55 : decode cX8_passDay 55 = .ok (.iinc 1 1, 3) := by decide +kernel
theorem dX8_passDay_58 : decode cX8_passDay 58 = .ok (.goto (-25), 3) := by decide +kernel
theorem dX8_passDay_61 : decode cX8_passDay 61 = .ok (.aload_n 0, 1) := by decide +kernel
theorem dX8_passDay_62 : decode cX8_passDay 62 = .ok (.getfield 38, 3) := by decide +kernel
theorem dX8_passDay_65 : decode cX8_passDay 65 = .ok (.invokevirtual 267, 3) := by decide +kernel
theorem dX8_passDay_68 : decode cX8_passDay 68 = .ok (.aload_n 0, 1) := by decide +kernel
theorem dX8_passDay_69 : decode cX8_passDay 69 = .ok (.getfield 38, 3) := by decide +kernel
theorem dX8_passDay_72 : decode cX8_passDay 72 = .ok (.ldc_w 270, 3) := by decide +kernel
theorem dX8_passDay_75 : decode cX8_passDay 75 = .ok (.aload_n 0, 1) := by decide +kernel
theorem dX8_passDay_76 : decode cX8_passDay 76 = .ok (.getfield 38, 3) := by decide +kernel
theorem dX8_passDay_79 : decode cX8_passDay 79 = .ok (.getfield 135, 3) := by decide +kernel
theorem dX8_passDay_82 : decode cX8_passDay 82 = .ok (.aload_n 0, 1) := by decide +kernel
theorem dX8_passDay_83 : decode cX8_passDay 83 = .ok (.getfield 66, 3) := by decide +kernel
theorem dX8_passDay_86 : decode cX8_passDay 86 = .ok (.getfield 203, 3) := by decide +kernel
theorem dX8_passDay_89 : decode cX8_passDay 89 = .ok (.iadd, 1) := by decide +kernel
theorem dX8_passDay_90 : decode cX8_passDay 90 = .ok (.invokestatic 271, 3) := by decide +kernel
theorem dX8_passDay_93 : decode cX8_passDay 93 = .ok (.putfield 135, 3) := by decide +kernel
theorem dX8_passDay_96 : decode cX8_passDay 96 = .ok (.aload_n 0, 1) := by decide +kernel
theorem dX8_passDay_97 : decode cX8_passDay 97 = .ok (.getfield 66, 3) := by decide +kernel
theorem dX8_passDay_100 : decode cX8_passDay 100 = .ok (.getfield 203, 3) := by decide +kernel
theorem dX8_passDay_103 : decode cX8_passDay 103 = .ok (.ireturn, 1) := by decide +kernel
theorem dX8_write_0 : decode cX8_write 0 = .ok (.aload_n 0, 1) := by decide +kernel
theorem dX8_write_1 : decode cX8_write 1 = .ok (.getfield 19, 3) := by decide +kernel
theorem dX8_write_4 : decode cX8_write 4 = .ok (.iload_n 2, 1) := by decide +kernel
theorem dX8_write_5 : decode cX8_write 5 = .ok (.invokevirtual 146, 3) := by decide +kernel
theorem dX8_write_8 : decode cX8_write 8 = .ok (.ifCond .ne 6, 3) := by decide +kernel
theorem dX8_write_11 : decode cX8_write 11 = .ok (.ldc 150, 2) := by decide +kernel
theorem dX8_write_13 : decode cX8_write 13 = .ok (.ireturn, 1) := by decide +kernel
theorem dX8_write_14 : decode cX8_write 14 = .ok (.iload_n 1, 1) := by decide +kernel
theorem dX8_write_15 : decode cX8_write 15 = .ok (.invokestatic 235, 3) := by decide +kernel
theorem dX8_write_18 : decode cX8_write 18 = .ok (.ifCond .ne 6, 3) := by decide +kernel
theorem dX8_write_21 : decode cX8_write 21 = .ok (.ldc 94, 2) := by decide +kernel
theorem dX8_write_23 : decode cX8_write 23 = .ok (.ireturn, 1) := by decide +kernel
theorem dX8_write_24 : decode cX8_write 24 = .ok (.aload_n 0, 1) := by decide +kernel
theorem dX8_write_25 : decode cX8_write 25 = .ok (.getfield 82, 3) := by decide +kernel
theorem dX8_write_28 : decode cX8_write 28 = .ok (.iload_n 1, 1) := by decide +kernel
theorem dX8_write_29 : decode cX8_write 29 = .ok (.iload_n 2, 1) := by decide +kernel
theorem dX8_write_30 : decode cX8_write 30 = .ok (.invokevirtual 276, 3) := by decide +kernel
theorem dX8_write_33 : decode cX8_write 33 = .ok (.ifCond .eq 13, 3) := by decide +kernel
theorem dX8_write_36 : decode cX8_write 36 = .ok (.aload_n 0, 1) := by decide +kernel
theorem dX8_write_37 : decode cX8_write 37 = .ok (.getfield 82, 3) := by decide +kernel
theorem dX8_write_40 : decode cX8_write 40 = .ok (.getfield 122, 3) := by decide +kernel
theorem dX8_write_43 : decode cX8_write 43 = .ok (.goto 5, 3) := by decide +kernel
theorem dX8_write_46 : decode cX8_write 46 = .ok (.ldc 98, 2) := by decide +kernel
theorem dX8_write_48 : decode cX8_write 48 = .ok (.ireturn, 1) := by decide +kernel
theorem dX8_tear_0 : decode cX8_tear 0 = .ok (.aload_n 0, 1) := by decide +kernel
theorem dX8_tear_1 : decode cX8_tear 1 = .ok (.getfield 82, 3) := by decide +kernel
theorem dX8_tear_4 : decode cX8_tear 4 = .ok (.getfield 122, 3) := by decide +kernel
theorem dX8_tear_7 : decode cX8_tear 7 = .ok (.aload_n 0, 1) := by decide +kernel
theorem dX8_tear_8 : decode cX8_tear 8 = .ok (.getfield 73, 3) := by decide +kernel
theorem dX8_tear_11 : decode cX8_tear 11 = .ok (.getfield 119, 3) := by decide +kernel
theorem dX8_tear_14 : decode cX8_tear 14 = .ok (.iadd, 1) := by decide +kernel
theorem dX8_tear_15 : decode cX8_tear 15 = .ok (.istore_n 1, 1) := by decide +kernel
theorem dX8_tear_16 : decode cX8_tear 16 = .ok (.aload_n 0, 1) := by decide +kernel
theorem dX8_tear_17 : decode cX8_tear 17 = .ok (.getfield 82, 3) := by decide +kernel
theorem dX8_tear_20 : decode cX8_tear 20 = .ok (.iconst 0, 1) := by decide +kernel
theorem dX8_tear_21 : decode cX8_tear 21 = .ok (.putfield 122, 3) := by decide +kernel
theorem dX8_tear_24 : decode cX8_tear 24 = .ok (.aload_n 0, 1) := by decide +kernel
theorem dX8_tear_25 : decode cX8_tear 25 = .ok (.getfield 73, 3) := by decide +kernel
theorem dX8_tear_28 : decode cX8_tear 28 = .ok (.iconst 0, 1) := by decide +kernel
theorem dX8_tear_29 : decode cX8_tear 29 = .ok (.putfield 119, 3) := by decide +kernel
theorem dX8_tear_32 : decode cX8_tear 32 = .ok (.iload_n 1, 1) := by decide +kernel
theorem dX8_tear_33 : decode cX8_tear 33 = .ok (.ireturn, 1) := by decide +kernel
theorem dX8_judge_0 : decode cX8_judge 0 = .ok (.aload_n 0, 1) := by decide +kernel
theorem dX8_judge_1 : decode cX8_judge 1 = .ok (.getfield 82, 3) := by decide +kernel
theorem dX8_judge_4 : decode cX8_judge 4 = .ok (.aload_n 0, 1) := by decide +kernel
theorem dX8_judge_5 : decode cX8_judge 5 = .ok (.getfield 38, 3) := by decide +kernel
theorem dX8_judge_8 : decode cX8_judge 8 = .ok (.getfield 132, 3) := by decide +kernel
theorem dX8_judge_11 : decode cX8_judge 11 = .ok (.invokevirtual 277, 3) := by decide +kernel
theorem dX8_judge_14 : decode cX8_judge 14 = .ok (.ireturn, 1) := by decide +kernel
theorem dX8_seed_0 : decode cX8_seed 0 = .ok (.iload_n 1, 1) := by decide +kernel
theorem dX8_seed_1 : decode cX8_seed 1 = .ok (.ifCond .ge 6, 3) := by decide +kernel
theorem dX8_seed_4 : decode cX8_seed 4 = .ok (.ldc 94, 2) := by decide +kernel
theorem dX8_seed_6 : decode cX8_seed 6 = .ok (.ireturn, 1) := by decide +kernel
theorem dX8_seed_7 : decode cX8_seed 7 = .ok (.aload_n 0, 1) := by decide +kernel
theorem dX8_seed_8 : decode cX8_seed 8 = .ok (.getfield 38, 3) := by decide +kernel
theorem dX8_seed_11 : decode cX8_seed 11 = .ok (.getfield 280, 3) := by decide +kernel
theorem dX8_seed_14 : decode cX8_seed 14 = .ok (.istore_n 2, 1) := by decide +kernel
theorem dX8_seed_15 : decode cX8_seed 15 = .ok (.aload_n 0, 1) := by decide +kernel
theorem dX8_seed_16 : decode cX8_seed 16 = .ok (.getfield 38, 3) := by decide +kernel
theorem dX8_seed_19 : decode cX8_seed 19 = .ok (.iload_n 1, 1) := by decide +kernel
theorem dX8_seed_20 : decode cX8_seed 20 = .ok (.putfield 280, 3) := by decide +kernel
theorem dX8_seed_23 : decode cX8_seed 23 = .ok (.iload_n 2, 1) := by decide +kernel
theorem dX8_seed_24 : decode cX8_seed 24 = .ok (.ireturn, 1) := by decide +kernel
theorem dX8_keep_0 : decode cX8_keep 0 = .ok (.iload_n 1, 1) := by decide +kernel
theorem dX8_keep_1 : decode cX8_keep 1 = .ok (.ifCond .lt 8, 3) := by decide +kernel
theorem dX8_keep_4 : decode cX8_keep 4 = .ok (.iload_n 1, 1) := by decide +kernel
theorem dX8_keep_5 : decode cX8_keep 5 = .ok (.iconst 2, 1) := by decide +kernel
theorem dX8_keep_6 : decode cX8_keep 6 = .ok (.if_icmp .lt 6, 3) := by decide +kernel
theorem dX8_keep_9 : decode cX8_keep 9 = .ok (.ldc 150, 2) := by decide +kernel
theorem dX8_keep_11 : decode cX8_keep 11 = .ok (.ireturn, 1) := by decide +kernel
theorem dX8_keep_12 : decode cX8_keep 12 = .ok (.aload_n 0, 1) := by decide +kernel
theorem dX8_keep_13 : decode cX8_keep 13 = .ok (.iload_n 1, 1) := by decide +kernel
theorem dX8_keep_14 : decode cX8_keep 14 = .ok (.invokevirtual 283, 3) := by decide +kernel
theorem dX8_keep_17 : decode cX8_keep 17 = .ok (.aload_n 0, 1) := by decide +kernel
theorem dX8_keep_18 : decode cX8_keep 18 = .ok (.getfield 38, 3) := by decide +kernel
theorem dX8_keep_21 : decode cX8_keep 21 = .ok (.invokevirtual 287, 3) := by decide +kernel
theorem dX8_keep_24 : decode cX8_keep 24 = .ok (.aload_n 0, 1) := by decide +kernel
theorem dX8_keep_25 : decode cX8_keep 25 = .ok (.getfield 48, 3) := by decide +kernel
theorem dX8_keep_28 : decode cX8_keep 28 = .ok (.iload_n 1, 1) := by decide +kernel
theorem dX8_keep_29 : decode cX8_keep 29 = .ok (.iconst 1, 1) := by decide +kernel
theorem dX8_keep_30 : decode cX8_keep 30 = .ok (.bastore, 1) := by decide +kernel
theorem dX8_keep_31 : decode cX8_keep 31 = .ok (.iconst 1, 1) := by decide +kernel
theorem dX8_keep_32 : decode cX8_keep 32 = .ok (.ireturn, 1) := by decide +kernel
theorem dX8_goBack_0 : decode cX8_goBack 0 = .ok (.iload_n 1, 1) := by decide +kernel
theorem dX8_goBack_1 : decode cX8_goBack 1 = .ok (.ifCond .lt 8, 3) := by decide +kernel
theorem dX8_goBack_4 : decode cX8_goBack 4 = .ok (.iload_n 1, 1) := by decide +kernel
theorem dX8_goBack_5 : decode cX8_goBack 5 = .ok (.iconst 2, 1) := by decide +kernel
theorem dX8_goBack_6 : decode cX8_goBack 6 = .ok (.if_icmp .lt 6, 3) := by decide +kernel
theorem dX8_goBack_9 : decode cX8_goBack 9 = .ok (.ldc 150, 2) := by decide +kernel
theorem dX8_goBack_11 : decode cX8_goBack 11 = .ok (.ireturn, 1) := by decide +kernel
theorem dX8_goBack_12 : decode cX8_goBack 12 = .ok (.aload_n 0, 1) := by decide +kernel
theorem dX8_goBack_13 : decode cX8_goBack 13 = .ok (.getfield 48, 3) := by decide +kernel
theorem dX8_goBack_16 : decode cX8_goBack 16 = .ok (.iload_n 1, 1) := by decide +kernel
theorem dX8_goBack_17 : decode cX8_goBack 17 = .ok (.baload, 1) := by decide +kernel
theorem dX8_goBack_18 : decode cX8_goBack 18 = .ok (.ifCond .ne 7, 3) := by decide +kernel
theorem dX8_goBack_21 : decode cX8_goBack 21 = .ok (.ldc_w 290, 3) := by decide +kernel
theorem dX8_goBack_24 : decode cX8_goBack 24 = .ok (.ireturn, 1) := by decide +kernel
theorem dX8_goBack_25 : decode cX8_goBack 25 = .ok (.aload_n 0, 1) := by decide +kernel
theorem dX8_goBack_26 : decode cX8_goBack 26 = .ok (.getfield 38, 3) := by decide +kernel
theorem dX8_goBack_29 : decode cX8_goBack 29 = .ok (.aload_n 0, 1) := by decide +kernel
theorem dX8_goBack_30 : decode cX8_goBack 30 = .ok (.iload_n 1, 1) := by decide +kernel
theorem dX8_goBack_31 : decode cX8_goBack 31 = .ok (.invokevirtual 283, 3) := by decide +kernel
theorem dX8_goBack_34 : decode cX8_goBack 34 = .ok (.invokevirtual 287, 3) := by decide +kernel
theorem dX8_goBack_37 : decode cX8_goBack 37 = .ok (.iconst 1, 1) := by decide +kernel
theorem dX8_goBack_38 : decode cX8_goBack 38 = .ok (.ireturn, 1) := by decide +kernel
theorem dX8_imageAt_0 : decode cX8_imageAt 0 = .ok (.iload_n 1, 1) := by decide +kernel
theorem dX8_imageAt_1 : decode cX8_imageAt 1 = .ok (.ifCond .ne 10, 3) := by decide +kernel
theorem dX8_imageAt_4 : decode cX8_imageAt 4 = .ok (.aload_n 0, 1) := by decide +kernel
theorem dX8_imageAt_5 : decode cX8_imageAt 5 = .ok (.getfield 42, 3) := by decide +kernel
theorem dX8_imageAt_8 : decode cX8_imageAt 8 = .ok (.goto 7, 3) := by decide +kernel
theorem dX8_imageAt_11 : decode cX8_imageAt 11 = .ok (.aload_n 0, 1) := by decide +kernel
theorem dX8_imageAt_12 : decode cX8_imageAt 12 = .ok (.getfield 45, 3) := by decide +kernel
theorem dX8_imageAt_15 : decode cX8_imageAt 15 = .ok (.areturn, 1) := by decide +kernel
theorem dX8_isLandlord_0 : decode cX8_isLandlord 0 = .ok (.iload_n 0, 1) := by decide +kernel
theorem dX8_isLandlord_1 : decode cX8_isLandlord 1 = .ok (.ifCond .lt 12, 3) := by decide +kernel
theorem dX8_isLandlord_4 : decode cX8_isLandlord 4 = .ok (.iload_n 0, 1) := by decide +kernel
theorem dX8_isLandlord_5 : decode cX8_isLandlord 5 = .ok (.iconst 4, 1) := by decide +kernel
theorem dX8_isLandlord_6 : decode cX8_isLandlord 6 = .ok (.if_icmp .ge 7, 3) := by decide +kernel
theorem dX8_isLandlord_9 : decode cX8_isLandlord 9 = .ok (.iconst 1, 1) := by decide +kernel
theorem dX8_isLandlord_10 : decode cX8_isLandlord 10 = .ok (.goto 4, 3) := by decide +kernel
theorem dX8_isLandlord_13 : decode cX8_isLandlord 13 = .ok (.iconst 0, 1) := by decide +kernel
theorem dX8_isLandlord_14 : decode cX8_isLandlord 14 = .ok (.ireturn, 1) := by decide +kernel
theorem dX8_isHour_0 : decode cX8_isHour 0 = .ok (.iload_n 0, 1) := by decide +kernel
theorem dX8_isHour_1 : decode cX8_isHour 1 = .ok (.ifCond .lt 13, 3) := by decide +kernel
theorem dX8_isHour_4 : decode cX8_isHour 4 = .ok (.iload_n 0, 1) := by decide +kernel
theorem dX8_isHour_5 : decode cX8_isHour 5 = .ok (.bipush 12, 2) := by decide +kernel
theorem dX8_isHour_7 : decode cX8_isHour 7 = .ok (.if_icmp .ge 7, 3) := by decide +kernel
theorem dX8_isHour_10 : decode cX8_isHour 10 = .ok (.iconst 1, 1) := by decide +kernel
theorem dX8_isHour_11 : decode cX8_isHour 11 = .ok (.goto 4, 3) := by decide +kernel
theorem dX8_isHour_14 : decode cX8_isHour 14 = .ok (.iconst 0, 1) := by decide +kernel
theorem dX8_isHour_15 : decode cX8_isHour 15 = .ok (.ireturn, 1) := by decide +kernel
theorem dX8_has_0 : decode cX8_has 0 = .ok (.iload_n 0, 1) := by decide +kernel
theorem dX8_has_1 : decode cX8_has 1 = .ok (.iload_n 1, 1) := by decide +kernel
theorem dX8_has_2 : decode cX8_has 2 = .ok (.ishr, 1) := by decide +kernel
theorem dX8_has_3 : decode cX8_has 3 = .ok (.iconst 1, 1) := by decide +kernel
theorem dX8_has_4 : decode cX8_has 4 = .ok (.iand, 1) := by decide +kernel
theorem dX8_has_5 : decode cX8_has 5 = .ok (.ifCond .eq 7, 3) := by decide +kernel
theorem dX8_has_8 : decode cX8_has 8 = .ok (.iconst 1, 1) := by decide +kernel
theorem dX8_has_9 : decode cX8_has 9 = .ok (.goto 4, 3) := by decide +kernel
theorem dX8_has_12 : decode cX8_has 12 = .ok (.iconst 0, 1) := by decide +kernel
theorem dX8_has_13 : decode cX8_has 13 = .ok (.ireturn, 1) := by decide +kernel
theorem dX8_sumOver_0 : decode cX8_sumOver 0 = .ok (.iconst 0, 1) := by decide +kernel
theorem dX8_sumOver_1 : decode cX8_sumOver 1 = .ok (.istore_n 2, 1) := by decide +kernel
theorem dX8_sumOver_2 : decode cX8_sumOver 2 = .ok (.iconst 0, 1) := by decide +kernel
theorem dX8_sumOver_3 : decode cX8_sumOver 3 = .ok (.istore_n 3, 1) := by decide +kernel
theorem dX8_sumOver_4 : decode cX8_sumOver 4 = .ok (.iload_n 3, 1) := by decide +kernel
theorem dX8_sumOver_5 : decode cX8_sumOver 5 = .ok (.aload_n 1, 1) := by decide +kernel
theorem dX8_sumOver_6 : decode cX8_sumOver 6 = .ok (.arraylength, 1) := by decide +kernel
theorem dX8_sumOver_7 : decode cX8_sumOver 7 = .ok (.if_icmp .ge 23, 3) := by decide +kernel
theorem dX8_sumOver_10 : decode cX8_sumOver 10 = .ok (.iload_n 0, 1) := by decide +kernel
theorem dX8_sumOver_11 : decode cX8_sumOver 11 = .ok (.iload_n 3, 1) := by decide +kernel
theorem dX8_sumOver_12 : decode cX8_sumOver 12 = .ok (.invokestatic 291, 3) := by decide +kernel
theorem dX8_sumOver_15 : decode cX8_sumOver 15 = .ok (.ifCond .eq 9, 3) := by decide +kernel
theorem dX8_sumOver_18 : decode cX8_sumOver 18 = .ok (.iload_n 2, 1) := by decide +kernel
theorem dX8_sumOver_19 : decode cX8_sumOver 19 = .ok (.aload_n 1, 1) := by decide +kernel
theorem dX8_sumOver_20 : decode cX8_sumOver 20 = .ok (.iload_n 3, 1) := by decide +kernel
theorem dX8_sumOver_21 : decode cX8_sumOver 21 = .ok (.iaload, 1) := by decide +kernel
theorem dX8_sumOver_22 : decode cX8_sumOver 22 = .ok (.iadd, 1) := by decide +kernel
theorem dX8_sumOver_23 : decode cX8_sumOver 23 = .ok (.istore_n 2, 1) := by decide +kernel
theorem dX8_sumOver_24 : decode cX8_sumOver 24 = .ok (.iinc 3 1, 3) := by decide +kernel
theorem dX8_sumOver_27 : decode cX8_sumOver 27 = .ok (.goto (-23), 3) := by decide +kernel
theorem dX8_sumOver_30 : decode cX8_sumOver 30 = .ok (.iload_n 2, 1) := by decide +kernel
theorem dX8_sumOver_31 : decode cX8_sumOver 31 = .ok (.ireturn, 1) := by decide +kernel
theorem dX8_copyRow_0 : decode cX8_copyRow 0 = .ok (.aload_n 0, 1) := by decide +kernel
theorem dX8_copyRow_1 : decode cX8_copyRow 1 = .ok (.arraylength, 1) := by decide +kernel
theorem dX8_copyRow_2 : decode cX8_copyRow 2 = .ok (.aload_n 1, 1) := by decide +kernel
theorem dX8_copyRow_3 : decode cX8_copyRow 3 = .ok (.arraylength, 1) := by decide +kernel
theorem dX8_copyRow_4 : decode cX8_copyRow 4 = .ok (.invokestatic 271, 3) := by decide +kernel
theorem dX8_copyRow_7 : decode cX8_copyRow 7 = .ok (.istore_n 2, 1) := by decide +kernel
theorem dX8_copyRow_8 : decode cX8_copyRow 8 = .ok (.iconst 0, 1) := by decide +kernel
theorem dX8_copyRow_9 : decode cX8_copyRow 9 = .ok (.istore_n 3, 1) := by decide +kernel
theorem dX8_copyRow_10 : decode cX8_copyRow 10 = .ok (.iload_n 3, 1) := by decide +kernel
theorem dX8_copyRow_11 : decode cX8_copyRow 11 = .ok (.iload_n 2, 1) := by decide +kernel
theorem dX8_copyRow_12 : decode cX8_copyRow 12 = .ok (.if_icmp .ge 15, 3) := by decide +kernel
theorem dX8_copyRow_15 : decode cX8_copyRow 15 = .ok (.aload_n 1, 1) := by decide +kernel
theorem dX8_copyRow_16 : decode cX8_copyRow 16 = .ok (.iload_n 3, 1) := by decide +kernel
theorem dX8_copyRow_17 : decode cX8_copyRow 17 = .ok (.aload_n 0, 1) := by decide +kernel
theorem dX8_copyRow_18 : decode cX8_copyRow 18 = .ok (.iload_n 3, 1) := by decide +kernel
theorem dX8_copyRow_19 : decode cX8_copyRow 19 = .ok (.iaload, 1) := by decide +kernel
theorem dX8_copyRow_20 : decode cX8_copyRow 20 = .ok (.iastore, 1) := by decide +kernel
theorem dX8_copyRow_21 : decode cX8_copyRow 21 = .ok (.iinc 3 1, 3) := by decide +kernel
theorem dX8_copyRow_24 : decode cX8_copyRow 24 = .ok (.goto (-14), 3) := by decide +kernel
theorem dX8_copyRow_27 : decode cX8_copyRow 27 = .ok (.return_, 1) := by decide +kernel
theorem dX9_init_0 : decode cX9_init 0 = .ok (.aload_n 0, 1) := by decide +kernel
theorem dX9_init_1 : decode cX9_init 1 = .ok (.invokespecial 1, 3) := by decide +kernel
theorem dX9_init_4 : decode cX9_init 4 = .ok (.aload_n 0, 1) := by decide +kernel
theorem dX9_init_5 : decode cX9_init 5 = .ok (.sipush 160, 3) := by decide +kernel
theorem dX9_init_8 : decode cX9_init 8 = .ok (.newarray .int, 2) := by decide +kernel
theorem dX9_init_10 : decode cX9_init 10 = .ok (.putfield 7, 3) := by decide +kernel
theorem dX9_init_13 : decode cX9_init 13 = .ok (.aload_n 0, 1) := by decide +kernel
theorem dX9_init_14 : decode cX9_init 14 = .ok (.iconst 2, 1) := by decide +kernel
theorem dX9_init_15 : decode cX9_init 15 = .ok (.newarray .boolean, 2) := by decide +kernel
theorem dX9_init_17 : decode cX9_init 17 = .ok (.putfield 13, 3) := by decide +kernel
theorem dX9_init_20 : decode cX9_init 20 = .ok (.aload_n 0, 1) := by decide +kernel
theorem dX9_init_21 : decode cX9_init 21 = .ok (.bipush 20, 2) := by decide +kernel
theorem dX9_init_23 : decode cX9_init 23 = .ok (.newarray .int, 2) := by decide +kernel
theorem dX9_init_25 : decode cX9_init 25 = .ok (.putfield 17, 3) := by decide +kernel
theorem dX9_init_28 : decode cX9_init 28 = .ok (.aload_n 0, 1) := by decide +kernel
theorem dX9_init_29 : decode cX9_init 29 = .ok (.bipush 20, 2) := by decide +kernel
theorem dX9_init_31 : decode cX9_init 31 = .ok (.newarray .int, 2) := by decide +kernel
theorem dX9_init_33 : decode cX9_init 33 = .ok (.putfield 20, 3) := by decide +kernel
theorem dX9_init_36 : decode cX9_init 36 = .ok (.aload_n 0, 1) := by decide +kernel
theorem dX9_init_37 : decode cX9_init 37 = .ok (.bipush 20, 2) := by decide +kernel
theorem dX9_init_39 : decode cX9_init 39 = .ok (.newarray .int, 2) := by decide +kernel
theorem dX9_init_41 : decode cX9_init 41 = .ok (.putfield 23, 3) := by decide +kernel
theorem dX9_init_44 : decode cX9_init 44 = .ok (.aload_n 0, 1) := by decide +kernel
theorem dX9_init_45 : decode cX9_init 45 = .ok (.bipush 20, 2) := by decide +kernel
theorem dX9_init_47 : decode cX9_init 47 = .ok (.newarray .int, 2) := by decide +kernel
theorem dX9_init_49 : decode cX9_init 49 = .ok (.putfield 26, 3) := by decide +kernel
theorem dX9_init_52 : decode cX9_init 52 = .ok (.aload_n 0, 1) := by decide +kernel
theorem dX9_init_53 : decode cX9_init 53 = .ok (.bipush 20, 2) := by decide +kernel
theorem dX9_init_55 : decode cX9_init 55 = .ok (.newarray .int, 2) := by decide +kernel
theorem dX9_init_57 : decode cX9_init 57 = .ok (.putfield 29, 3) := by decide +kernel
theorem dX9_init_60 : decode cX9_init 60 = .ok (.aload_n 0, 1) := by decide +kernel
theorem dX9_init_61 : decode cX9_init 61 = .ok (.bipush 20, 2) := by decide +kernel
theorem dX9_init_63 : decode cX9_init 63 = .ok (.newarray .int, 2) := by decide +kernel
theorem dX9_init_65 : decode cX9_init 65 = .ok (.putfield 32, 3) := by decide +kernel
theorem dX9_init_68 : decode cX9_init 68 = .ok (.aload_n 0, 1) := by decide +kernel
theorem dX9_init_69 : decode cX9_init 69 = .ok (.bipush 20, 2) := by decide +kernel
theorem dX9_init_71 : decode cX9_init 71 = .ok (.newarray .int, 2) := by decide +kernel
theorem dX9_init_73 : decode cX9_init 73 = .ok (.putfield 35, 3) := by decide +kernel
theorem dX9_init_76 : decode cX9_init 76 = .ok (.aload_n 0, 1) := by decide +kernel
theorem dX9_init_77 : decode cX9_init 77 = .ok (.bipush 16, 2) := by decide +kernel
theorem dX9_init_79 : decode cX9_init 79 = .ok (.newarray .int, 2) := by decide +kernel
theorem dX9_init_81 : decode cX9_init 81 = .ok (.putfield 38, 3) := by decide +kernel
theorem dX9_init_84 : decode cX9_init 84 = .ok (.aload_n 0, 1) := by decide +kernel
theorem dX9_init_85 : decode cX9_init 85 = .ok (.bipush 16, 2) := by decide +kernel
theorem dX9_init_87 : decode cX9_init 87 = .ok (.newarray .int, 2) := by decide +kernel
theorem dX9_init_89 : decode cX9_init 89 = .ok (.putfield 41, 3) := by decide +kernel
theorem dX9_init_92 : decode cX9_init 92 = .ok (.aload_n 0, 1) := by decide +kernel
theorem dX9_init_93 : decode cX9_init 93 = .ok (.bipush 16, 2) := by decide +kernel
theorem dX9_init_95 : decode cX9_init 95 = .ok (.newarray .int, 2) := by decide +kernel
theorem dX9_init_97 : decode cX9_init 97 = .ok (.putfield 44, 3) := by decide +kernel
theorem dX9_init_100 : decode cX9_init 100 = .ok (.aload_n 0, 1) := by decide +kernel
theorem dX9_init_101 : decode cX9_init 101 = .ok (.bipush 8, 2) := by decide +kernel
theorem dX9_init_103 : decode cX9_init 103 = .ok (.newarray .int, 2) := by decide +kernel
theorem dX9_init_105 : decode cX9_init 105 = .ok (.putfield 47, 3) := by decide +kernel
theorem dX9_init_108 : decode cX9_init 108 = .ok (.aload_n 0, 1) := by decide +kernel
theorem dX9_init_109 : decode cX9_init 109 = .ok (.sipush 400, 3) := by decide +kernel
theorem dX9_init_112 : decode cX9_init 112 = .ok (.newarray .int, 2) := by decide +kernel
theorem dX9_init_114 : decode cX9_init 114 = .ok (.putfield 50, 3) := by decide +kernel
theorem dX9_init_117 : decode cX9_init 117 = .ok (.aload_n 0, 1) := by decide +kernel
theorem dX9_init_118 : decode cX9_init 118 = .ok (.iconst (-1), 1) := by decide +kernel
theorem dX9_init_119 : decode cX9_init 119 = .ok (.putfield 53, 3) := by decide +kernel
theorem dX9_init_122 : decode cX9_init 122 = .ok (.aload_n 0, 1) := by decide +kernel
theorem dX9_init_123 : decode cX9_init 123 = .ok (.bipush 64, 2) := by decide +kernel
theorem dX9_init_125 : decode cX9_init 125 = .ok (.newarray .int, 2) := by decide +kernel
theorem dX9_init_127 : decode cX9_init 127 = .ok (.putfield 57, 3) := by decide +kernel
theorem dX9_init_130 : decode cX9_init 130 = .ok (.aload_n 0, 1) := by decide +kernel
theorem dX9_init_131 : decode cX9_init 131 = .ok (.sipush 12288, 3) := by decide +kernel
theorem dX9_init_134 : decode cX9_init 134 = .ok (.newarray .boolean, 2) := by decide +kernel
theorem dX9_init_136 : decode cX9_init 136 = .ok (.putfield 60, 3) := by decide +kernel
theorem dX9_init_139 : decode cX9_init 139 = .ok (.aload_n 0, 1) := by decide +kernel
theorem dX9_init_140 : decode cX9_init 140 = .ok (.sipush 13312, 3) := by decide +kernel
theorem dX9_init_143 : decode cX9_init 143 = .ok (.newarray .int, 2) := by decide +kernel
theorem dX9_init_145 : decode cX9_init 145 = .ok (.putfield 63, 3) := by decide +kernel
theorem dX9_init_148 : decode cX9_init 148 = .ok (.aload_n 0, 1) := by decide +kernel
theorem dX9_init_149 : decode cX9_init 149 = .ok (.sipush 1024, 3) := by decide +kernel
theorem dX9_init_152 : decode cX9_init 152 = .ok (.newarray .boolean, 2) := by decide +kernel
theorem dX9_init_154 : decode cX9_init 154 = .ok (.putfield 66, 3) := by decide +kernel
theorem dX9_init_157 : decode cX9_init 157 = .ok (.aload_n 0, 1) := by decide +kernel
theorem dX9_init_158 : decode cX9_init 158 = .ok (.sipush 1024, 3) := by decide +kernel
theorem dX9_init_161 : decode cX9_init 161 = .ok (.newarray .boolean, 2) := by decide +kernel
theorem dX9_init_163 : decode cX9_init 163 = .ok (.putfield 69, 3) := by decide +kernel
theorem dX9_init_166 : decode cX9_init 166 = .ok (.aload_n 0, 1) := by decide +kernel
theorem dX9_init_167 : decode cX9_init 167 = .ok (.bipush 12, 2) := by decide +kernel
theorem dX9_init_169 : decode cX9_init 169 = .ok (.newarray .int, 2) := by decide +kernel
theorem dX9_init_171 : decode cX9_init 171 = .ok (.putfield 72, 3) := by decide +kernel
theorem dX9_init_174 : decode cX9_init 174 = .ok (.aload_n 0, 1) := by decide +kernel
theorem dX9_init_175 : decode cX9_init 175 = .ok (.bipush 20, 2) := by decide +kernel
theorem dX9_init_177 : decode cX9_init 177 = .ok (.newarray .int, 2) := by decide +kernel
theorem dX9_init_179 : decode cX9_init 179 = .ok (.putfield 75, 3) := by decide +kernel
theorem dX9_init_182 : decode cX9_init 182 = .ok (.aload_n 0, 1) := by decide +kernel
theorem dX9_init_183 : decode cX9_init 183 = .ok (.bipush 20, 2) := by decide +kernel
theorem dX9_init_185 : decode cX9_init 185 = .ok (.newarray .int, 2) := by decide +kernel
theorem dX9_init_187 : decode cX9_init 187 = .ok (.putfield 78, 3) := by decide +kernel
theorem dX9_init_190 : decode cX9_init 190 = .ok (.aload_n 0, 1) := by decide +kernel
theorem dX9_init_191 : decode cX9_init 191 = .ok (.bipush 40, 2) := by decide +kernel
theorem dX9_init_193 : decode cX9_init 193 = .ok (.newarray .int, 2) := by decide +kernel
theorem dX9_init_195 : decode cX9_init 195 = .ok (.putfield 81, 3) := by decide +kernel
theorem dX9_init_198 : decode cX9_init 198 = .ok (.aload_n 0, 1) := by decide +kernel
theorem dX9_init_199 : decode cX9_init 199 = .ok (.bipush 40, 2) := by decide +kernel
theorem dX9_init_201 : decode cX9_init 201 = .ok (.newarray .int, 2) := by decide +kernel
theorem dX9_init_203 : decode cX9_init 203 = .ok (.putfield 84, 3) := by decide +kernel
theorem dX9_init_206 : decode cX9_init 206 = .ok (.return_, 1) := by decide +kernel
theorem dX9_in_0 : decode cX9_in 0 = .ok (.lload_n 0, 1) := by decide +kernel
theorem dX9_in_1 : decode cX9_in 1 = .ok (.lload_n 2, 1) := by decide +kernel
theorem dX9_in_2 : decode cX9_in 2 = .ok (.lcmp, 1) := by decide +kernel
theorem dX9_in_3 : decode cX9_in 3 = .ok (.ifCond .lt 14, 3) := by decide +kernel
theorem dX9_in_6 : decode cX9_in 6 = .ok (.lload_n 0, 1) := by decide +kernel
theorem dX9_in_7 : decode cX9_in 7 = .ok (.lload 4, 2) := by decide +kernel
theorem dX9_in_9 : decode cX9_in 9 = .ok (.lcmp, 1) := by decide +kernel
theorem dX9_in_10 : decode cX9_in 10 = .ok (.ifCond .gt 7, 3) := by decide +kernel
theorem dX9_in_13 : decode cX9_in 13 = .ok (.iconst 1, 1) := by decide +kernel
theorem dX9_in_14 : decode cX9_in 14 = .ok (.goto 4, 3) := by decide +kernel
theorem dX9_in_17 : decode cX9_in 17 = .ok (.iconst 0, 1) := by decide +kernel
theorem dX9_in_18 : decode cX9_in 18 = .ok (.ireturn, 1) := by decide +kernel
theorem dX9_one_0 : decode cX9_one 0 = .ok (.iload_n 0, 1) := by decide +kernel
theorem dX9_one_1 : decode cX9_one 1 = .ok (.ifCond .eq 7, 3) := by decide +kernel
theorem dX9_one_4 : decode cX9_one 4 = .ok (.iconst 1, 1) := by decide +kernel
theorem dX9_one_5 : decode cX9_one 5 = .ok (.goto 4, 3) := by decide +kernel
theorem dX9_one_8 : decode cX9_one 8 = .ok (.iconst 0, 1) := by decide +kernel
theorem dX9_one_9 : decode cX9_one 9 = .ok (.ireturn, 1) := by decide +kernel
theorem dX9_has_0 : decode cX9_has 0 = .ok (.iload_n 0, 1) := by decide +kernel
theorem dX9_has_1 : decode cX9_has 1 = .ok (.iload_n 1, 1) := by decide +kernel
theorem dX9_has_2 : decode cX9_has 2 = .ok (.ishr, 1) := by decide +kernel
theorem dX9_has_3 : decode cX9_has 3 = .ok (.iconst 1, 1) := by decide +kernel
theorem dX9_has_4 : decode cX9_has 4 = .ok (.iand, 1) := by decide +kernel
theorem dX9_has_5 : decode cX9_has 5 = .ok (.iconst 1, 1) := by decide +kernel
theorem dX9_has_6 : decode cX9_has 6 = .ok (.if_icmp .ne 7, 3) := by decide +kernel
theorem dX9_has_9 : decode cX9_has 9 = .ok (.iconst 1, 1) := by decide +kernel
theorem dX9_has_10 : decode cX9_has 10 = .ok (.goto 4, 3) := by decide +kernel
theorem dX9_has_13 : decode cX9_has 13 = .ok (.iconst 0, 1) := by decide +kernel
theorem dX9_has_14 : decode cX9_has 14 = .ok (.ireturn, 1) := by decide +kernel
theorem dX9_ones_0 : decode cX9_ones 0 = .ok (.iconst 0, 1) := by decide +kernel
theorem dX9_ones_1 : decode cX9_ones 1 = .ok (.istore_n 1, 1) := by decide +kernel
theorem dX9_ones_2 : decode cX9_ones 2 = .ok (.iconst 0, 1) := by decide +kernel
theorem dX9_ones_3 : decode cX9_ones 3 = .ok (.istore_n 2, 1) := by decide +kernel
theorem dX9_ones_4 : decode cX9_ones 4 = .ok (.iload_n 2, 1) := by decide +kernel
theorem dX9_ones_5 : decode cX9_ones 5 = .ok (.bipush 28, 2) := by decide +kernel
theorem dX9_ones_7 : decode cX9_ones 7 = .ok (.if_icmp .ge 17, 3) := by decide +kernel
theorem dX9_ones_10 : decode cX9_ones 10 = .ok (.iload_n 1, 1) := by decide +kernel
theorem dX9_ones_11 : decode cX9_ones 11 = .ok (.iload_n 0, 1) := by decide +kernel
theorem dX9_ones_12 : decode cX9_ones 12 = .ok (.iload_n 2, 1) := by decide +kernel
theorem dX9_ones_13 : decode cX9_ones 13 = .ok (.ishr, 1) := by decide +kernel
theorem dX9_ones_14 : decode cX9_ones 14 = .ok (.iconst 1, 1) := by decide +kernel
theorem dX9_ones_15 : decode cX9_ones 15 = .ok (.iand, 1) := by decide +kernel
theorem dX9_ones_16 : decode cX9_ones 16 = .ok (.iadd, 1) := by decide +kernel
theorem dX9_ones_17 : decode cX9_ones 17 = .ok (.istore_n 1, 1) := by decide +kernel
theorem dX9_ones_18 : decode cX9_ones 18 = .ok (.iinc 2 1, 3) := by decide +kernel
theorem dX9_ones_21 : decode cX9_ones 21 = .ok (.goto (-17), 3) := by decide +kernel
theorem dX9_ones_24 : decode cX9_ones 24 = .ok (.iload_n 1, 1) := by decide +kernel
theorem dX9_ones_25 : decode cX9_ones 25 = .ok (.ireturn, 1) := by decide +kernel
theorem dX9_feed_0 : decode cX9_feed 0 = .ok (.iload_n 1, 1) := by decide +kernel
theorem dX9_feed_1 : decode cX9_feed 1 = .ok (.i2l, 1) := by decide +kernel
theorem dX9_feed_2 : decode cX9_feed 2 = .ok (.lconst 1, 1) := by decide +kernel
theorem dX9_feed_3 : decode cX9_feed 3 = .ok (.ldc2_w 87, 3) := by decide +kernel
theorem dX9_feed_6 : decode cX9_feed 6 = .ok (.invokestatic 89, 3) := by decide +kernel
theorem dX9_feed_9 : decode cX9_feed 9 = .ok (.ifCond .ne 6, 3) := by decide +kernel
theorem dX9_feed_12 : decode cX9_feed 12 = .ok (.ldc 93, 2) := by decide +kernel
theorem dX9_feed_14 : decode cX9_feed 14 = .ok (.ireturn, 1) := by decide +kernel
theorem dX9_feed_15 : decode cX9_feed 15 = .ok (.aload_n 0, 1) := by decide +kernel
theorem dX9_feed_16 : decode cX9_feed 16 = .ok (.getfield 94, 3) := by decide +kernel
theorem dX9_feed_19 : decode cX9_feed 19 = .ok (.iload_n 1, 1) := by decide +kernel
theorem dX9_feed_20 : decode cX9_feed 20 = .ok (.iadd, 1) := by decide +kernel
theorem dX9_feed_21 : decode cX9_feed 21 = .ok (.sipush 400, 3) := by decide +kernel
theorem dX9_feed_24 : decode cX9_feed 24 = .ok (.if_icmp .le 6, 3) := by decide +kernel
theorem dX9_feed_27 : decode cX9_feed 27 = .ok (.ldc 97, 2) := by decide +kernel
theorem dX9_feed_29 : decode cX9_feed 29 = .ok (.ireturn, 1) := by decide +kernel
theorem dX9_feed_30 : decode cX9_feed 30 = .ok (.iload_n 1, 1) := by decide +kernel
theorem dX9_feed_31 : decode cX9_feed 31 = .ok (.iconst 1, 1) := by decide +kernel
theorem dX9_feed_32 : decode cX9_feed 32 = .ok (.isub, 1) := by decide +kernel
theorem dX9_feed_33 : decode cX9_feed 33 = .ok (.istore 4, 2) := by decide +kernel
theorem dX9_feed_35 : decode cX9_feed 35 = .ok (.iload 4, 2) := by decide +kernel
theorem dX9_feed_37 : decode cX9_feed 37 = .ok (.ifCond .lt 40, 3) := by decide +kernel
theorem dX9_feed_40 : decode cX9_feed 40 = .ok (.aload_n 0, 1) := by decide +kernel
theorem dX9_feed_41 : decode cX9_feed 41 = .ok (.getfield 50, 3) := by decide +kernel
theorem dX9_feed_44 : decode cX9_feed 44 = .ok (.aload_n 0, 1) := by decide +kernel
theorem dX9_feed_45 : decode cX9_feed 45 = .ok (.getfield 94, 3) := by decide +kernel
theorem dX9_feed_48 : decode cX9_feed 48 = .ok (.lload_n 2, 1) := by decide +kernel
theorem dX9_feed_49 : decode cX9_feed 49 = .ok (.bipush 8, 2) := by decide +kernel
theorem dX9_feed_51 : decode cX9_feed 51 = .ok (.iload 4, 2) := by decide +kernel
theorem dX9_feed_53 : decode cX9_feed 53 = .ok (.imul, 1) := by decide +kernel
theorem dX9_feed_54 : decode cX9_feed 54 = .ok (.lshr, 1) := by decide +kernel
theorem dX9_feed_55 : decode cX9_feed 55 = .ok (.ldc2_w 98, 3) := by decide +kernel
theorem dX9_feed_58 : decode cX9_feed 58 = .ok (.land, 1) := by decide +kernel
theorem dX9_feed_59 : decode cX9_feed 59 = .ok (.l2i, 1) := by decide +kernel
theorem dX9_feed_60 : decode cX9_feed 60 = .ok (.iastore, 1) := by decide +kernel
theorem dX9_feed_61 : decode cX9_feed 61 = .ok (.aload_n 0, 1) := by decide +kernel
theorem dX9_feed_62 : decode cX9_feed 62 = .ok (.dup, 1) := by decide +kernel
theorem dX9_feed_63 : decode cX9_feed 63 = .ok (.getfield 94, 3) := by decide +kernel
theorem dX9_feed_66 : decode cX9_feed 66 = .ok (.iconst 1, 1) := by decide +kernel
theorem dX9_feed_67 : decode cX9_feed 67 = .ok (.iadd, 1) := by decide +kernel
theorem dX9_feed_68 : decode cX9_feed 68 = .ok (.putfield 94, 3) := by decide +kernel
theorem dX9_feed_71 : decode cX9_feed 71 = .ok (.iinc 4 (-1), 3) := by decide +kernel
theorem dX9_feed_74 : decode cX9_feed 74 = .ok (.goto (-39), 3) := by decide +kernel
theorem dX9_feed_77 : decode cX9_feed 77 = .ok (.aload_n 0, 1) := by decide +kernel
theorem dX9_feed_78 : decode cX9_feed 78 = .ok (.getfield 94, 3) := by decide +kernel
theorem dX9_feed_81 : decode cX9_feed 81 = .ok (.ireturn, 1) := by decide +kernel
theorem dX9_here_0 : decode cX9_here 0 = .ok (.aload_n 0, 1) := by decide +kernel
theorem dX9_here_1 : decode cX9_here 1 = .ok (.getfield 100, 3) := by decide +kernel
theorem dX9_here_4 : decode cX9_here 4 = .ok (.aload_n 0, 1) := by decide +kernel
theorem dX9_here_5 : decode cX9_here 5 = .ok (.getfield 94, 3) := by decide +kernel
theorem dX9_here_8 : decode cX9_here 8 = .ok (.if_icmp .ge 30, 3) := by decide +kernel
theorem dX9_here_11 : decode cX9_here 11 = .ok (.aload_n 0, 1) := by decide +kernel
theorem dX9_here_12 : decode cX9_here 12 = .ok (.getfield 50, 3) := by decide +kernel
theorem dX9_here_15 : decode cX9_here 15 = .ok (.aload_n 0, 1) := by decide +kernel
theorem dX9_here_16 : decode cX9_here 16 = .ok (.getfield 100, 3) := by decide +kernel
theorem dX9_here_19 : decode cX9_here 19 = .ok (.iaload, 1) := by decide +kernel
theorem dX9_here_20 : decode cX9_here 20 = .ok (.bipush 32, 2) := by decide +kernel
theorem dX9_here_22 : decode cX9_here 22 = .ok (.if_icmp .ne 16, 3) := by decide +kernel
theorem dX9_here_25 : decode cX9_here 25 = .ok (.aload_n 0, 1) := by decide +kernel
theorem dX9_here_26 : decode cX9_here 26 = .ok (.dup, 1) := by decide +kernel
theorem dX9_here_27 : decode cX9_here 27 = .ok (.getfield 100, 3) := by decide +kernel
theorem dX9_here_30 : decode cX9_here 30 = .ok (.iconst 1, 1) := by decide +kernel
theorem dX9_here_31 : decode cX9_here 31 = .ok (.iadd, 1) := by decide +kernel
theorem dX9_here_32 : decode cX9_here 32 = .ok (.putfield 100, 3) := by decide +kernel
theorem dX9_here_35 : decode cX9_here 35 = .ok (.goto (-35), 3) := by decide +kernel
theorem dX9_here_38 : decode cX9_here 38 = .ok (.aload_n 0, 1) := by decide +kernel
theorem dX9_here_39 : decode cX9_here 39 = .ok (.getfield 100, 3) := by decide +kernel
theorem dX9_here_42 : decode cX9_here 42 = .ok (.aload_n 0, 1) := by decide +kernel
theorem dX9_here_43 : decode cX9_here 43 = .ok (.getfield 94, 3) := by decide +kernel
theorem dX9_here_46 : decode cX9_here 46 = .ok (.if_icmp .ge 15, 3) := by decide +kernel
theorem dX9_here_49 : decode cX9_here 49 = .ok (.aload_n 0, 1) := by decide +kernel
theorem dX9_here_50 : decode cX9_here 50 = .ok (.getfield 50, 3) := by decide +kernel
theorem dX9_here_53 : decode cX9_here 53 = .ok (.aload_n 0, 1) := by decide +kernel
theorem dX9_here_54 : decode cX9_here 54 = .ok (.getfield 100, 3) := by decide +kernel
theorem dX9_here_57 : decode cX9_here 57 = .ok (.iaload, 1) := by decide +kernel
theorem dX9_here_58 : decode cX9_here 58 = .ok (.goto 4, 3) := by decide +kernel
theorem dX9_here_61 : decode cX9_here 61 = .ok (.iconst (-1), 1) := by decide +kernel
theorem dX9_here_62 : decode cX9_here 62 = .ok (.ireturn, 1) := by decide +kernel
theorem dX9_want_0 : decode cX9_want 0 = .ok (.iload_n 1, 1) := by decide +kernel
theorem dX9_want_1 : decode cX9_want 1 = .ok (.ifCond .ne 20, 3) := by decide +kernel
theorem dX9_want_4 : decode cX9_want 4 = .ok (.aload_n 0, 1) := by decide +kernel
theorem dX9_want_5 : decode cX9_want 5 = .ok (.getfield 103, 3) := by decide +kernel
theorem dX9_want_8 : decode cX9_want 8 = .ok (.ifCond .ne 13, 3) := by decide +kernel
theorem dX9_want_11 : decode cX9_want 11 = .ok (.aload_n 0, 1) := by decide +kernel
theorem dX9_want_12 : decode cX9_want 12 = .ok (.iload_n 2, 1) := by decide +kernel
theorem dX9_want_13 : decode cX9_want 13 = .ok (.putfield 103, 3) := by decide +kernel
theorem dX9_want_16 : decode cX9_want 16 = .ok (.aload_n 0, 1) := by decide +kernel
theorem dX9_want_17 : decode cX9_want 17 = .ok (.iload_n 3, 1) := by decide +kernel
theorem dX9_want_18 : decode cX9_want 18 = .ok (.putfield 53, 3) := by decide +kernel
theorem dX9_want_21 : decode cX9_want 21 = .ok (.aload_n 0, 1) := by decide +kernel
theorem dX9_want_22 : decode cX9_want 22 = .ok (.getfield 103, 3) := by decide +kernel
theorem dX9_want_25 : decode cX9_want 25 = .ok (.ifCond .ne 7, 3) := by decide +kernel
theorem dX9_want_28 : decode cX9_want 28 = .ok (.iconst 1, 1) := by decide +kernel
theorem dX9_want_29 : decode cX9_want 29 = .ok (.goto 4, 3) := by decide +kernel
theorem dX9_want_32 : decode cX9_want 32 = .ok (.iconst 0, 1) := by decide +kernel
theorem dX9_want_33 : decode cX9_want 33 = .ok (.ireturn, 1) := by decide +kernel
theorem dX9_takeWord_0 : decode cX9_takeWord 0 = .ok (.aload_n 0, 1) := by decide +kernel
theorem dX9_takeWord_1 : decode cX9_takeWord 1 = .ok (.invokevirtual 106, 3) := by decide +kernel
theorem dX9_takeWord_4 : decode cX9_takeWord 4 = .ok (.istore_n 1, 1) := by decide +kernel
theorem dX9_takeWord_5 : decode cX9_takeWord 5 = .ok (.aload_n 0, 1) := by decide +kernel
theorem dX9_takeWord_6 : decode cX9_takeWord 6 = .ok (.aload_n 0, 1) := by decide +kernel
theorem dX9_takeWord_7 : decode cX9_takeWord 7 = .ok (.getfield 100, 3) := by decide +kernel
theorem dX9_takeWord_10 : decode cX9_takeWord 10 = .ok (.putfield 110, 3) := by decide +kernel
theorem dX9_takeWord_13 : decode cX9_takeWord 13 = .ok (.aload_n 0, 1) := by decide +kernel
theorem dX9_takeWord_14 : decode cX9_takeWord 14 = .ok (.getfield 100, 3) := by decide +kernel
theorem dX9_takeWord_17 : decode cX9_takeWord 17 = .ok (.aload_n 0, 1) := by decide +kernel
theorem dX9_takeWord_18 : decode cX9_takeWord 18 = .ok (.getfield 94, 3) := by decide +kernel
theorem dX9_takeWord_21 : decode cX9_takeWord 21 = .ok (.if_icmp .ge 38, 3) := by decide +kernel
theorem dX9_takeWord_24 : decode cX9_takeWord 24 = .ok (.aload_n 0, 1) := by decide +kernel
theorem dX9_takeWord_25 : decode cX9_takeWord 25 = .ok (.getfield 50, 3) := by decide +kernel
theorem dX9_takeWord_28 : decode cX9_takeWord 28 = .ok (.aload_n 0, 1) := by decide +kernel
theorem dX9_takeWord_29 : decode cX9_takeWord 29 = .ok (.getfield 100, 3) := by decide +kernel
theorem dX9_takeWord_32 : decode cX9_takeWord 32 = .ok (.iaload, 1) := by decide +kernel
theorem dX9_takeWord_33 : decode cX9_takeWord 33 = .ok (.i2l, 1) := by decide +kernel
theorem dX9_takeWord_34 : decode cX9_takeWord 34 = .ok (.ldc2_w 113, 3) := by decide +kernel
theorem dX9_takeWord_37 : decode cX9_takeWord 37 = .ok (.ldc2_w 115, 3) := by decide +kernel
theorem dX9_takeWord_40 : decode cX9_takeWord 40 = .ok (.invokestatic 89, 3) := by decide +kernel
theorem dX9_takeWord_43 : decode cX9_takeWord 43 = .ok (.ifCond .eq 16, 3) := by decide +kernel
theorem dX9_takeWord_46 : decode cX9_takeWord 46 = .ok (.aload_n 0, 1) := by decide +kernel
theorem dX9_takeWord_47 : decode cX9_takeWord 47 = .ok (.dup, 1) := by decide +kernel
theorem dX9_takeWord_48 : decode cX9_takeWord 48 = .ok (.getfield 100, 3) := by decide +kernel
theorem dX9_takeWord_51 : decode cX9_takeWord 51 = .ok (.iconst 1, 1) := by decide +kernel
theorem dX9_takeWord_52 : decode cX9_takeWord 52 = .ok (.iadd, 1) := by decide +kernel
theorem dX9_takeWord_53 : decode cX9_takeWord 53 = .ok (.putfield 100, 3) := by decide +kernel
theorem dX9_takeWord_56 : decode cX9_takeWord 56 = .ok (.goto (-43), 3) := by decide +kernel
theorem dX9_takeWord_59 : decode cX9_takeWord 59 = .ok (.aload_n 0, 1) := by decide +kernel
theorem dX9_takeWord_60 : decode cX9_takeWord 60 = .ok (.aload_n 0, 1) := by decide +kernel
theorem dX9_takeWord_61 : decode cX9_takeWord 61 = .ok (.getfield 100, 3) := by decide +kernel
theorem dX9_takeWord_64 : decode cX9_takeWord 64 = .ok (.aload_n 0, 1) := by decide +kernel
theorem dX9_takeWord_65 : decode cX9_takeWord 65 = .ok (.getfield 110, 3) := by decide +kernel
theorem dX9_takeWord_68 : decode cX9_takeWord 68 = .ok (.isub, 1) := by decide +kernel
theorem dX9_takeWord_69 : decode cX9_takeWord 69 = .ok (.putfield 117, 3) := by decide +kernel
theorem dX9_takeWord_72 : decode cX9_takeWord 72 = .ok (.return_, 1) := by decide +kernel
theorem dX9_isWord_0 : decode cX9_isWord 0 = .ok (.aload_n 0, 1) := by decide +kernel
theorem dX9_isWord_1 : decode cX9_isWord 1 = .ok (.getfield 117, 3) := by decide +kernel
theorem dX9_isWord_4 : decode cX9_isWord 4 = .ok (.iload_n 1, 1) := by decide +kernel
theorem dX9_isWord_5 : decode cX9_isWord 5 = .ok (.if_icmp .ne 7, 3) := by decide +kernel
theorem dX9_isWord_8 : decode cX9_isWord 8 = .ok (.iconst 1, 1) := by decide +kernel
theorem dX9_isWord_9 : decode cX9_isWord 9 = .ok (.goto 4, 3) := by decide +kernel
theorem dX9_isWord_12 : decode cX9_isWord 12 = .ok (.iconst 0, 1) := by decide +kernel
theorem dX9_isWord_13 : decode cX9_isWord 13 = .ok (.istore 7, 2) := by decide +kernel
theorem dX9_isWord_15 : decode cX9_isWord 15 = .ok (.iconst 0, 1) := by decide +kernel
theorem dX9_isWord_16 : decode cX9_isWord 16 = .ok (.istore 8, 2) := by decide +kernel
theorem dX9_isWord_18 : decode cX9_isWord 18 = .ok (.iload 8, 2) := by decide +kernel
theorem dX9_isWord_20 : decode cX9_isWord 20 = .ok (.iload_n 1, 1) := by decide +kernel
theorem dX9_isWord_21 : decode cX9_isWord 21 = .ok (.if_icmp .ge 79, 3) := by decide +kernel
theorem dX9_isWord_24 : decode cX9_isWord 24 = .ok (.iload 7, 2) := by decide +kernel
theorem dX9_isWord_26 : decode cX9_isWord 26 = .ok (.ifCond .eq 74, 3) := by decide +kernel
theorem dX9_isWord_29 : decode cX9_isWord 29 = .ok (.aload_n 0, 1) := by decide +kernel
theorem dX9_isWord_30 : decode cX9_isWord 30 = .ok (.getfield 50, 3) := by decide +kernel
theorem dX9_isWord_33 : decode cX9_isWord 33 = .ok (.aload_n 0, 1) := by decide +kernel
theorem dX9_isWord_34 : decode cX9_isWord 34 = .ok (.getfield 110, 3) := by decide +kernel
theorem dX9_isWord_37 : decode cX9_isWord 37 = .ok (.iload 8, 2) := by decide +kernel
theorem dX9_isWord_39 : decode cX9_isWord 39 = .ok (.iadd, 1) := by decide +kernel
theorem dX9_isWord_40 : decode cX9_isWord 40 = .ok (.iaload, 1) := by decide +kernel
theorem dX9_isWord_41 : decode cX9_isWord 41 = .ok (.iload 8, 2) := by decide +kernel
theorem dX9_isWord_43 : decode cX9_isWord 43 = .ok (.ifCond .ne 7, 3) := by decide +kernel
theorem dX9_isWord_46 : decode cX9_isWord 46 = .ok (.iload_n 2, 1) := by decide +kernel
theorem dX9_isWord_47 : decode cX9_isWord 47 = .ok (.goto 37, 3) := by decide +kernel
theorem dX9_isWord_50 : decode cX9_isWord 50 = .ok (.iload 8, 2) := by decide +kernel
theorem dX9_isWord_52 : decode cX9_isWord 52 = .ok (.iconst 1, 1) := by decide +kernel
theorem dX9_isWord_53 : decode cX9_isWord 53 = .ok (.if_icmp .ne 7, 3) := by decide +kernel
theorem dX9_isWord_56 : decode cX9_isWord 56 = .ok (.iload_n 3, 1) := by decide +kernel
theorem dX9_isWord_57 : decode cX9_isWord 57 = .ok (.goto 27, 3) := by decide +kernel
theorem dX9_isWord_60 : decode cX9_isWord 60 = .ok (.iload 8, 2) := by decide +kernel
theorem dX9_isWord_62 : decode cX9_isWord 62 = .ok (.iconst 2, 1) := by decide +kernel
theorem dX9_isWord_63 : decode cX9_isWord 63 = .ok (.if_icmp .ne 8, 3) := by decide +kernel
theorem dX9_isWord_66 : decode cX9_isWord 66 = .ok (.iload 4, 2) := by decide +kernel
theorem dX9_isWord_68 : decode cX9_isWord 68 = .ok (.goto 16, 3) := by decide +kernel
theorem dX9_isWord_71 : decode cX9_isWord 71 = .ok (.iload 8, 2) := by decide +kernel
theorem dX9_isWord_73 : decode cX9_isWord 73 = .ok (.iconst 3, 1) := by decide +kernel
theorem dX9_isWord_74 : decode cX9_isWord 74 = .ok (.if_icmp .ne 8, 3) := by decide +kernel
theorem dX9_isWord_77 : decode cX9_isWord 77 = .ok (.iload 5, 2) := by decide +kernel
theorem dX9_isWord_79 : decode cX9_isWord 79 = .ok (.goto 5, 3) := by decide +kernel
theorem dX9_isWord_82 : decode cX9_isWord 82 = .ok (.iload 6, 2) := by decide +kernel
theorem dX9_isWord_84 : decode cX9_isWord 84 = .ok (.if_icmp .ne 7, 3) := by decide +kernel
theorem dX9_isWord_87 : decode cX9_isWord 87 = .ok (.iconst 1, 1) := by decide +kernel
theorem dX9_isWord_88 : decode cX9_isWord 88 = .ok (.goto 4, 3) := by decide +kernel
theorem dX9_isWord_91 : decode cX9_isWord 91 = .ok (.iconst 0, 1) := by decide +kernel
theorem dX9_isWord_92 : decode cX9_isWord 92 = .ok (.istore 7, 2) := by decide +kernel
theorem dX9_isWord_94 : decode cX9_isWord 94 = .ok (.iinc 8 1, 3) := by decide +kernel
theorem dX9_isWord_97 : decode cX9_isWord 97 = .ok (.goto (-79), 3) := by decide +kernel
theorem dX9_isWord_100 : decode cX9_isWord 100 = .ok (.iload 7, 2) := by decide +kernel
theorem dX9_isWord_102 : decode cX9_isWord 102 = .ok (.ireturn, 1) := by decide +kernel
theorem dX9_takeNumber_0 : decode cX9_takeNumber 0 = .ok (.aload_n 0, 1) := by decide +kernel
theorem dX9_takeNumber_1 : decode cX9_takeNumber 1 = .ok (.getfield 103, 3) := by decide +kernel
theorem dX9_takeNumber_4 : decode cX9_takeNumber 4 = .ok (.ifCond .le 5, 3) := by decide +kernel
theorem dX9_takeNumber_7 : decode cX9_takeNumber 7 = .ok (.iconst 0, 1) := by decide +kernel
theorem dX9_takeNumber_8 : decode cX9_takeNumber 8 = .ok (.ireturn, 1) := by decide +kernel
theorem dX9_takeNumber_9 : decode cX9_takeNumber 9 = .ok (.aload_n 0, 1) := by decide +kernel
theorem dX9_takeNumber_10 : decode cX9_takeNumber 10 = .ok (.invokevirtual 106, 3) := by decide +kernel
theorem dX9_takeNumber_13 : decode cX9_takeNumber 13 = .ok (.istore_n 3, 1) := by decide +kernel
theorem dX9_takeNumber_14 : decode cX9_takeNumber 14 = .ok (.aload_n 0, 1) := by decide +kernel
theorem dX9_takeNumber_15 : decode cX9_takeNumber 15 = .ok (.aload_n 0, 1) := by decide +kernel
theorem dX9_takeNumber_16 : decode cX9_takeNumber 16 = .ok (.getfield 100, 3) := by decide +kernel
theorem dX9_takeNumber_19 : decode cX9_takeNumber 19 = .ok (.putfield 110, 3) := by decide +kernel
theorem dX9_takeNumber_22 : decode cX9_takeNumber 22 = .ok (.aload_n 0, 1) := by decide +kernel
end
section
theorem dX9_takeNumber_23 : decode cX9_takeNumber 23 = .ok (.iload_n 3, 1) := by decide +kernel
theorem dX9_takeNumber_24 : decode cX9_takeNumber 24 = .ok (.i2l, 1) := by decide +kernel
theorem dX9_takeNumber_25 : decode cX9_takeNumber 25 = .ok (.ldc2_w 120, 3) := by decide +kernel
theorem dX9_takeNumber_28 : decode cX9_takeNumber 28 = .ok (.ldc2_w 122, 3) := by decide +kernel
theorem dX9_takeNumber_31 : decode cX9_takeNumber 31 = .ok (.invokestatic 89, 3) := by decide +kernel
theorem dX9_takeNumber_34 : decode cX9_takeNumber 34 = .ok (.iconst 1, 1) := by decide +kernel
theorem dX9_takeNumber_35 : decode cX9_takeNumber 35 = .ok (.aload_n 0, 1) := by decide +kernel
theorem dX9_takeNumber_36 : decode cX9_takeNumber 36 = .ok (.getfield 100, 3) := by decide +kernel
theorem dX9_takeNumber_39 : decode cX9_takeNumber 39 = .ok (.invokevirtual 124, 3) := by decide +kernel
theorem dX9_takeNumber_42 : decode cX9_takeNumber 42 = .ok (.ifCond .ne 5, 3) := by decide +kernel
theorem dX9_takeNumber_45 : decode cX9_takeNumber 45 = .ok (.iconst 0, 1) := by decide +kernel
theorem dX9_takeNumber_46 : decode cX9_takeNumber 46 = .ok (.ireturn, 1) := by decide +kernel
theorem dX9_takeNumber_47 : decode cX9_takeNumber 47 = .ok (.iconst 0, 1) := by decide +kernel
theorem dX9_takeNumber_48 : decode cX9_takeNumber 48 = .ok (.istore 4, 2) := by decide +kernel
theorem dX9_takeNumber_50 : decode cX9_takeNumber 50 = .ok (.aload_n 0, 1) := by decide +kernel
theorem dX9_takeNumber_51 : decode cX9_takeNumber 51 = .ok (.getfield 100, 3) := by decide +kernel
theorem dX9_takeNumber_54 : decode cX9_takeNumber 54 = .ok (.aload_n 0, 1) := by decide +kernel
theorem dX9_takeNumber_55 : decode cX9_takeNumber 55 = .ok (.getfield 94, 3) := by decide +kernel
theorem dX9_takeNumber_58 : decode cX9_takeNumber 58 = .ok (.if_icmp .ge 70, 3) := by decide +kernel
theorem dX9_takeNumber_61 : decode cX9_takeNumber 61 = .ok (.aload_n 0, 1) := by decide +kernel
theorem dX9_takeNumber_62 : decode cX9_takeNumber 62 = .ok (.getfield 50, 3) := by decide +kernel
theorem dX9_takeNumber_65 : decode cX9_takeNumber 65 = .ok (.aload_n 0, 1) := by decide +kernel
theorem dX9_takeNumber_66 : decode cX9_takeNumber 66 = .ok (.getfield 100, 3) := by decide +kernel
theorem dX9_takeNumber_69 : decode cX9_takeNumber 69 = .ok (.iaload, 1) := by decide +kernel
theorem dX9_takeNumber_70 : decode cX9_takeNumber 70 = .ok (.i2l, 1) := by decide +kernel
theorem dX9_takeNumber_71 : decode cX9_takeNumber 71 = .ok (.ldc2_w 120, 3) := by decide +kernel
theorem dX9_takeNumber_74 : decode cX9_takeNumber 74 = .ok (.ldc2_w 122, 3) := by decide +kernel
theorem dX9_takeNumber_77 : decode cX9_takeNumber 77 = .ok (.invokestatic 89, 3) := by decide +kernel
theorem dX9_takeNumber_80 : decode cX9_takeNumber 80 = .ok (.ifCond .eq 48, 3) := by decide +kernel
theorem dX9_takeNumber_83 : decode cX9_takeNumber 83 = .ok (.iload 4, 2) := by decide +kernel
theorem dX9_takeNumber_85 : decode cX9_takeNumber 85 = .ok (.ldc 128, 2) := by decide +kernel
theorem dX9_takeNumber_87 : decode cX9_takeNumber 87 = .ok (.if_icmp .le 8, 3) := by decide +kernel
theorem dX9_takeNumber_90 : decode cX9_takeNumber 90 = .ok (.iload 4, 2) := by decide +kernel
theorem dX9_takeNumber_92 : decode cX9_takeNumber 92 = .ok (.goto 21, 3) := by decide +kernel
theorem dX9_takeNumber_95 : decode cX9_takeNumber 95 = .ok (.bipush 10, 2) := by decide +kernel
theorem dX9_takeNumber_97 : decode cX9_takeNumber 97 = .ok (.iload 4, 2) := by decide +kernel
theorem dX9_takeNumber_99 : decode cX9_takeNumber 99 = .ok (.imul, 1) := by decide +kernel
theorem dX9_takeNumber_100 : decode cX9_takeNumber 100 = .ok (.aload_n 0, 1) := by decide +kernel
theorem dX9_takeNumber_101 : decode cX9_takeNumber 101 = .ok (.getfield 50, 3) := by decide +kernel
theorem dX9_takeNumber_104 : decode cX9_takeNumber 104 = .ok (.aload_n 0, 1) := by decide +kernel
theorem dX9_takeNumber_105 : decode cX9_takeNumber 105 = .ok (.getfield 100, 3) := by decide +kernel
theorem dX9_takeNumber_108 : decode cX9_takeNumber 108 = .ok (.iaload, 1) := by decide +kernel
theorem dX9_takeNumber_109 : decode cX9_takeNumber 109 = .ok (.iadd, 1) := by decide +kernel
theorem dX9_takeNumber_110 : decode cX9_takeNumber 110 = .ok (.bipush 48, 2) := by decide +kernel
theorem dX9_takeNumber_112 : decode cX9_takeNumber 112 = .ok (.isub, 1) := by decide +kernel
theorem dX9_takeNumber_113 : decode cX9_takeNumber 113 = .ok (.istore 4, 2) := by decide +kernel
theorem dX9_takeNumber_115 : decode cX9_takeNumber 115 = .ok (.aload_n 0, 1) := by decide +kernel
theorem dX9_takeNumber_116 : decode cX9_takeNumber 116 = .ok (.dup, 1) := by decide +kernel
theorem dX9_takeNumber_117 : decode cX9_takeNumber 117 = .ok (.getfield 100, 3) := by decide +kernel
theorem dX9_takeNumber_120 : decode cX9_takeNumber 120 = .ok (.iconst 1, 1) := by decide +kernel
theorem dX9_takeNumber_121 : decode cX9_takeNumber 121 = .ok (.iadd, 1) := by decide +kernel
theorem dX9_takeNumber_122 : decode cX9_takeNumber 122 = .ok (.putfield 100, 3) := by decide +kernel
theorem dX9_takeNumber_125 : decode cX9_takeNumber 125 = .ok (.goto (-75), 3) := by decide +kernel
theorem dX9_takeNumber_128 : decode cX9_takeNumber 128 = .ok (.aload_n 0, 1) := by decide +kernel
theorem dX9_takeNumber_129 : decode cX9_takeNumber 129 = .ok (.aload_n 0, 1) := by decide +kernel
theorem dX9_takeNumber_130 : decode cX9_takeNumber 130 = .ok (.getfield 100, 3) := by decide +kernel
theorem dX9_takeNumber_133 : decode cX9_takeNumber 133 = .ok (.aload_n 0, 1) := by decide +kernel
theorem dX9_takeNumber_134 : decode cX9_takeNumber 134 = .ok (.getfield 110, 3) := by decide +kernel
theorem dX9_takeNumber_137 : decode cX9_takeNumber 137 = .ok (.isub, 1) := by decide +kernel
theorem dX9_takeNumber_138 : decode cX9_takeNumber 138 = .ok (.iconst 4, 1) := by decide +kernel
theorem dX9_takeNumber_139 : decode cX9_takeNumber 139 = .ok (.if_icmp .ge 20, 3) := by decide +kernel
theorem dX9_takeNumber_142 : decode cX9_takeNumber 142 = .ok (.iload 4, 2) := by decide +kernel
theorem dX9_takeNumber_144 : decode cX9_takeNumber 144 = .ok (.i2l, 1) := by decide +kernel
theorem dX9_takeNumber_145 : decode cX9_takeNumber 145 = .ok (.iload_n 1, 1) := by decide +kernel
theorem dX9_takeNumber_146 : decode cX9_takeNumber 146 = .ok (.i2l, 1) := by decide +kernel
theorem dX9_takeNumber_147 : decode cX9_takeNumber 147 = .ok (.iload_n 2, 1) := by decide +kernel
theorem dX9_takeNumber_148 : decode cX9_takeNumber 148 = .ok (.i2l, 1) := by decide +kernel
theorem dX9_takeNumber_149 : decode cX9_takeNumber 149 = .ok (.invokestatic 89, 3) := by decide +kernel
theorem dX9_takeNumber_152 : decode cX9_takeNumber 152 = .ok (.ifCond .eq 7, 3) := by decide +kernel
theorem dX9_takeNumber_155 : decode cX9_takeNumber 155 = .ok (.iconst 1, 1) := by decide +kernel
theorem dX9_takeNumber_156 : decode cX9_takeNumber 156 = .ok (.goto 4, 3) := by decide +kernel
theorem dX9_takeNumber_159 : decode cX9_takeNumber 159 = .ok (.iconst 0, 1) := by decide +kernel
theorem dX9_takeNumber_160 : decode cX9_takeNumber 160 = .ok (.iconst 2, 1) := by decide +kernel
theorem dX9_takeNumber_161 : decode cX9_takeNumber 161 = .ok (.aload_n 0, 1) := by decide +kernel
theorem dX9_takeNumber_162 : decode cX9_takeNumber 162 = .ok (.getfield 110, 3) := by decide +kernel
theorem dX9_takeNumber_165 : decode cX9_takeNumber 165 = .ok (.invokevirtual 124, 3) := by decide +kernel
theorem dX9_takeNumber_168 : decode cX9_takeNumber 168 = .ok (.istore 5, 2) := by decide +kernel
theorem dX9_takeNumber_170 : decode cX9_takeNumber 170 = .ok (.iload 4, 2) := by decide +kernel
theorem dX9_takeNumber_172 : decode cX9_takeNumber 172 = .ok (.ireturn, 1) := by decide +kernel
theorem dX9_takePart_0 : decode cX9_takePart 0 = .ok (.aload_n 0, 1) := by decide +kernel
theorem dX9_takePart_1 : decode cX9_takePart 1 = .ok (.invokevirtual 129, 3) := by decide +kernel
theorem dX9_takePart_4 : decode cX9_takePart 4 = .ok (.bipush 10, 2) := by decide +kernel
theorem dX9_takePart_6 : decode cX9_takePart 6 = .ok (.aload_n 0, 1) := by decide +kernel
theorem dX9_takePart_7 : decode cX9_takePart 7 = .ok (.getfield 47, 3) := by decide +kernel
theorem dX9_takePart_10 : decode cX9_takePart 10 = .ok (.iconst 4, 1) := by decide +kernel
theorem dX9_takePart_11 : decode cX9_takePart 11 = .ok (.iaload, 1) := by decide +kernel
theorem dX9_takePart_12 : decode cX9_takePart 12 = .ok (.iadd, 1) := by decide +kernel
theorem dX9_takePart_13 : decode cX9_takePart 13 = .ok (.istore_n 1, 1) := by decide +kernel
theorem dX9_takePart_14 : decode cX9_takePart 14 = .ok (.aload_n 0, 1) := by decide +kernel
theorem dX9_takePart_15 : decode cX9_takePart 15 = .ok (.getfield 17, 3) := by decide +kernel
theorem dX9_takePart_18 : decode cX9_takePart 18 = .ok (.iload_n 1, 1) := by decide +kernel
theorem dX9_takePart_19 : decode cX9_takePart 19 = .ok (.aload_n 0, 1) := by decide +kernel
theorem dX9_takePart_20 : decode cX9_takePart 20 = .ok (.iconst 4, 1) := by decide +kernel
theorem dX9_takePart_21 : decode cX9_takePart 21 = .ok (.bipush 98, 2) := by decide +kernel
theorem dX9_takePart_23 : decode cX9_takePart 23 = .ok (.bipush 114, 2) := by decide +kernel
theorem dX9_takePart_25 : decode cX9_takePart 25 = .ok (.bipush 111, 2) := by decide +kernel
theorem dX9_takePart_27 : decode cX9_takePart 27 = .ok (.bipush 119, 2) := by decide +kernel
theorem dX9_takePart_29 : decode cX9_takePart 29 = .ok (.iconst 0, 1) := by decide +kernel
theorem dX9_takePart_30 : decode cX9_takePart 30 = .ok (.invokevirtual 132, 3) := by decide +kernel
theorem dX9_takePart_33 : decode cX9_takePart 33 = .ok (.ifCond .eq 7, 3) := by decide +kernel
theorem dX9_takePart_36 : decode cX9_takePart 36 = .ok (.iconst 0, 1) := by decide +kernel
theorem dX9_takePart_37 : decode cX9_takePart 37 = .ok (.goto 47, 3) := by decide +kernel
theorem dX9_takePart_40 : decode cX9_takePart 40 = .ok (.aload_n 0, 1) := by decide +kernel
theorem dX9_takePart_41 : decode cX9_takePart 41 = .ok (.iconst 4, 1) := by decide +kernel
theorem dX9_takePart_42 : decode cX9_takePart 42 = .ok (.bipush 101, 2) := by decide +kernel
theorem dX9_takePart_44 : decode cX9_takePart 44 = .ok (.bipush 121, 2) := by decide +kernel
theorem dX9_takePart_46 : decode cX9_takePart 46 = .ok (.bipush 101, 2) := by decide +kernel
theorem dX9_takePart_48 : decode cX9_takePart 48 = .ok (.bipush 115, 2) := by decide +kernel
theorem dX9_takePart_50 : decode cX9_takePart 50 = .ok (.iconst 0, 1) := by decide +kernel
theorem dX9_takePart_51 : decode cX9_takePart 51 = .ok (.invokevirtual 132, 3) := by decide +kernel
theorem dX9_takePart_54 : decode cX9_takePart 54 = .ok (.ifCond .eq 7, 3) := by decide +kernel
theorem dX9_takePart_57 : decode cX9_takePart 57 = .ok (.iconst 1, 1) := by decide +kernel
theorem dX9_takePart_58 : decode cX9_takePart 58 = .ok (.goto 26, 3) := by decide +kernel
theorem dX9_takePart_61 : decode cX9_takePart 61 = .ok (.aload_n 0, 1) := by decide +kernel
theorem dX9_takePart_62 : decode cX9_takePart 62 = .ok (.iconst 5, 1) := by decide +kernel
theorem dX9_takePart_63 : decode cX9_takePart 63 = .ok (.bipush 109, 2) := by decide +kernel
theorem dX9_takePart_65 : decode cX9_takePart 65 = .ok (.bipush 111, 2) := by decide +kernel
theorem dX9_takePart_67 : decode cX9_takePart 67 = .ok (.bipush 117, 2) := by decide +kernel
theorem dX9_takePart_69 : decode cX9_takePart 69 = .ok (.bipush 116, 2) := by decide +kernel
theorem dX9_takePart_71 : decode cX9_takePart 71 = .ok (.bipush 104, 2) := by decide +kernel
theorem dX9_takePart_73 : decode cX9_takePart 73 = .ok (.invokevirtual 132, 3) := by decide +kernel
theorem dX9_takePart_76 : decode cX9_takePart 76 = .ok (.ifCond .eq 7, 3) := by decide +kernel
theorem dX9_takePart_79 : decode cX9_takePart 79 = .ok (.iconst 2, 1) := by decide +kernel
theorem dX9_takePart_80 : decode cX9_takePart 80 = .ok (.goto 4, 3) := by decide +kernel
theorem dX9_takePart_83 : decode cX9_takePart 83 = .ok (.iconst (-1), 1) := by decide +kernel
theorem dX9_takePart_84 : decode cX9_takePart 84 = .ok (.iastore, 1) := by decide +kernel
theorem dX9_takePart_85 : decode cX9_takePart 85 = .ok (.aload_n 0, 1) := by decide +kernel
theorem dX9_takePart_86 : decode cX9_takePart 86 = .ok (.aload_n 0, 1) := by decide +kernel
theorem dX9_takePart_87 : decode cX9_takePart 87 = .ok (.getfield 17, 3) := by decide +kernel
theorem dX9_takePart_90 : decode cX9_takePart 90 = .ok (.iload_n 1, 1) := by decide +kernel
theorem dX9_takePart_91 : decode cX9_takePart 91 = .ok (.iaload, 1) := by decide +kernel
theorem dX9_takePart_92 : decode cX9_takePart 92 = .ok (.ifCond .lt 7, 3) := by decide +kernel
theorem dX9_takePart_95 : decode cX9_takePart 95 = .ok (.iconst 1, 1) := by decide +kernel
theorem dX9_takePart_96 : decode cX9_takePart 96 = .ok (.goto 4, 3) := by decide +kernel
theorem dX9_takePart_99 : decode cX9_takePart 99 = .ok (.iconst 0, 1) := by decide +kernel
theorem dX9_takePart_100 : decode cX9_takePart 100 = .ok (.iconst 1, 1) := by decide +kernel
theorem dX9_takePart_101 : decode cX9_takePart 101 = .ok (.aload_n 0, 1) := by decide +kernel
theorem dX9_takePart_102 : decode cX9_takePart 102 = .ok (.getfield 110, 3) := by decide +kernel
theorem dX9_takePart_105 : decode cX9_takePart 105 = .ok (.invokevirtual 124, 3) := by decide +kernel
theorem dX9_takePart_108 : decode cX9_takePart 108 = .ok (.istore_n 2, 1) := by decide +kernel
theorem dX9_takePart_109 : decode cX9_takePart 109 = .ok (.aload_n 0, 1) := by decide +kernel
theorem dX9_takePart_110 : decode cX9_takePart 110 = .ok (.getfield 20, 3) := by decide +kernel
theorem dX9_takePart_113 : decode cX9_takePart 113 = .ok (.iload_n 1, 1) := by decide +kernel
theorem dX9_takePart_114 : decode cX9_takePart 114 = .ok (.aload_n 0, 1) := by decide +kernel
theorem dX9_takePart_115 : decode cX9_takePart 115 = .ok (.iconst 0, 1) := by decide +kernel
theorem dX9_takePart_116 : decode cX9_takePart 116 = .ok (.iconst 3, 1) := by decide +kernel
theorem dX9_takePart_117 : decode cX9_takePart 117 = .ok (.invokevirtual 136, 3) := by decide +kernel
theorem dX9_takePart_120 : decode cX9_takePart 120 = .ok (.iastore, 1) := by decide +kernel
theorem dX9_takePart_121 : decode cX9_takePart 121 = .ok (.aload_n 0, 1) := by decide +kernel
theorem dX9_takePart_122 : decode cX9_takePart 122 = .ok (.getfield 23, 3) := by decide +kernel
theorem dX9_takePart_125 : decode cX9_takePart 125 = .ok (.iload_n 1, 1) := by decide +kernel
theorem dX9_takePart_126 : decode cX9_takePart 126 = .ok (.aload_n 0, 1) := by decide +kernel
theorem dX9_takePart_127 : decode cX9_takePart 127 = .ok (.iconst 0, 1) := by decide +kernel
theorem dX9_takePart_128 : decode cX9_takePart 128 = .ok (.bipush 9, 2) := by decide +kernel
theorem dX9_takePart_130 : decode cX9_takePart 130 = .ok (.invokevirtual 136, 3) := by decide +kernel
theorem dX9_takePart_133 : decode cX9_takePart 133 = .ok (.iastore, 1) := by decide +kernel
theorem dX9_takePart_134 : decode cX9_takePart 134 = .ok (.aload_n 0, 1) := by decide +kernel
theorem dX9_takePart_135 : decode cX9_takePart 135 = .ok (.getfield 26, 3) := by decide +kernel
theorem dX9_takePart_138 : decode cX9_takePart 138 = .ok (.iload_n 1, 1) := by decide +kernel
theorem dX9_takePart_139 : decode cX9_takePart 139 = .ok (.aload_n 0, 1) := by decide +kernel
theorem dX9_takePart_140 : decode cX9_takePart 140 = .ok (.iconst 0, 1) := by decide +kernel
theorem dX9_takePart_141 : decode cX9_takePart 141 = .ok (.bipush 99, 2) := by decide +kernel
theorem dX9_takePart_143 : decode cX9_takePart 143 = .ok (.invokevirtual 136, 3) := by decide +kernel
theorem dX9_takePart_146 : decode cX9_takePart 146 = .ok (.iastore, 1) := by decide +kernel
theorem dX9_takePart_147 : decode cX9_takePart 147 = .ok (.aload_n 0, 1) := by decide +kernel
theorem dX9_takePart_148 : decode cX9_takePart 148 = .ok (.getfield 29, 3) := by decide +kernel
theorem dX9_takePart_151 : decode cX9_takePart 151 = .ok (.iload_n 1, 1) := by decide +kernel
theorem dX9_takePart_152 : decode cX9_takePart 152 = .ok (.aload_n 0, 1) := by decide +kernel
theorem dX9_takePart_153 : decode cX9_takePart 153 = .ok (.iconst 0, 1) := by decide +kernel
theorem dX9_takePart_154 : decode cX9_takePart 154 = .ok (.bipush 11, 2) := by decide +kernel
theorem dX9_takePart_156 : decode cX9_takePart 156 = .ok (.invokevirtual 136, 3) := by decide +kernel
theorem dX9_takePart_159 : decode cX9_takePart 159 = .ok (.iastore, 1) := by decide +kernel
theorem dX9_takePart_160 : decode cX9_takePart 160 = .ok (.aload_n 0, 1) := by decide +kernel
theorem dX9_takePart_161 : decode cX9_takePart 161 = .ok (.getfield 32, 3) := by decide +kernel
theorem dX9_takePart_164 : decode cX9_takePart 164 = .ok (.iload_n 1, 1) := by decide +kernel
theorem dX9_takePart_165 : decode cX9_takePart 165 = .ok (.aload_n 0, 1) := by decide +kernel
theorem dX9_takePart_166 : decode cX9_takePart 166 = .ok (.iconst 0, 1) := by decide +kernel
theorem dX9_takePart_167 : decode cX9_takePart 167 = .ok (.bipush 11, 2) := by decide +kernel
theorem dX9_takePart_169 : decode cX9_takePart 169 = .ok (.invokevirtual 136, 3) := by decide +kernel
theorem dX9_takePart_172 : decode cX9_takePart 172 = .ok (.iastore, 1) := by decide +kernel
theorem dX9_takePart_173 : decode cX9_takePart 173 = .ok (.aload_n 0, 1) := by decide +kernel
theorem dX9_takePart_174 : decode cX9_takePart 174 = .ok (.aload_n 0, 1) := by decide +kernel
theorem dX9_takePart_175 : decode cX9_takePart 175 = .ok (.getfield 32, 3) := by decide +kernel
theorem dX9_takePart_178 : decode cX9_takePart 178 = .ok (.iload_n 1, 1) := by decide +kernel
theorem dX9_takePart_179 : decode cX9_takePart 179 = .ok (.iaload, 1) := by decide +kernel
theorem dX9_takePart_180 : decode cX9_takePart 180 = .ok (.aload_n 0, 1) := by decide +kernel
theorem dX9_takePart_181 : decode cX9_takePart 181 = .ok (.getfield 29, 3) := by decide +kernel
theorem dX9_takePart_184 : decode cX9_takePart 184 = .ok (.iload_n 1, 1) := by decide +kernel
theorem dX9_takePart_185 : decode cX9_takePart 185 = .ok (.iaload, 1) := by decide +kernel
theorem dX9_takePart_186 : decode cX9_takePart 186 = .ok (.if_icmp .lt 7, 3) := by decide +kernel
theorem dX9_takePart_189 : decode cX9_takePart 189 = .ok (.iconst 1, 1) := by decide +kernel
theorem dX9_takePart_190 : decode cX9_takePart 190 = .ok (.goto 4, 3) := by decide +kernel
theorem dX9_takePart_193 : decode cX9_takePart 193 = .ok (.iconst 0, 1) := by decide +kernel
theorem dX9_takePart_194 : decode cX9_takePart 194 = .ok (.iconst 4, 1) := by decide +kernel
theorem dX9_takePart_195 : decode cX9_takePart 195 = .ok (.aload_n 0, 1) := by decide +kernel
theorem dX9_takePart_196 : decode cX9_takePart 196 = .ok (.getfield 110, 3) := by decide +kernel
theorem dX9_takePart_199 : decode cX9_takePart 199 = .ok (.invokevirtual 124, 3) := by decide +kernel
theorem dX9_takePart_202 : decode cX9_takePart 202 = .ok (.istore_n 2, 1) := by decide +kernel
theorem dX9_takePart_203 : decode cX9_takePart 203 = .ok (.aload_n 0, 1) := by decide +kernel
theorem dX9_takePart_204 : decode cX9_takePart 204 = .ok (.getfield 35, 3) := by decide +kernel
theorem dX9_takePart_207 : decode cX9_takePart 207 = .ok (.iload_n 1, 1) := by decide +kernel
theorem dX9_takePart_208 : decode cX9_takePart 208 = .ok (.iconst 0, 1) := by decide +kernel
theorem dX9_takePart_209 : decode cX9_takePart 209 = .ok (.iastore, 1) := by decide +kernel
theorem dX9_takePart_210 : decode cX9_takePart 210 = .ok (.aload_n 0, 1) := by decide +kernel
theorem dX9_takePart_211 : decode cX9_takePart 211 = .ok (.getfield 47, 3) := by decide +kernel
theorem dX9_takePart_214 : decode cX9_takePart 214 = .ok (.iconst 4, 1) := by decide +kernel
theorem dX9_takePart_215 : decode cX9_takePart 215 = .ok (.dup2, 1) := by decide +kernel
theorem dX9_takePart_216 : decode cX9_takePart 216 = .ok (.iaload, 1) := by decide +kernel
theorem dX9_takePart_217 : decode cX9_takePart 217 = .ok (.iconst 1, 1) := by decide +kernel
theorem dX9_takePart_218 : decode cX9_takePart 218 = .ok (.iadd, 1) := by decide +kernel
theorem dX9_takePart_219 : decode cX9_takePart 219 = .ok (.iastore, 1) := by decide +kernel
theorem dX9_takePart_220 : decode cX9_takePart 220 = .ok (.return_, 1) := by decide +kernel
theorem dX9_takeClash_0 : decode cX9_takeClash 0 = .ok (.aload_n 0, 1) := by decide +kernel
theorem dX9_takeClash_1 : decode cX9_takeClash 1 = .ok (.iconst 0, 1) := by decide +kernel
theorem dX9_takeClash_2 : decode cX9_takeClash 2 = .ok (.aload_n 0, 1) := by decide +kernel
theorem dX9_takeClash_3 : decode cX9_takeClash 3 = .ok (.getfield 47, 3) := by decide +kernel
theorem dX9_takeClash_6 : decode cX9_takeClash 6 = .ok (.iconst 4, 1) := by decide +kernel
theorem dX9_takeClash_7 : decode cX9_takeClash 7 = .ok (.iaload, 1) := by decide +kernel
theorem dX9_takeClash_8 : decode cX9_takeClash 8 = .ok (.iconst 1, 1) := by decide +kernel
theorem dX9_takeClash_9 : decode cX9_takeClash 9 = .ok (.isub, 1) := by decide +kernel
theorem dX9_takeClash_10 : decode cX9_takeClash 10 = .ok (.invokevirtual 136, 3) := by decide +kernel
theorem dX9_takeClash_13 : decode cX9_takeClash 13 = .ok (.istore_n 1, 1) := by decide +kernel
theorem dX9_takeClash_14 : decode cX9_takeClash 14 = .ok (.aload_n 0, 1) := by decide +kernel
theorem dX9_takeClash_15 : decode cX9_takeClash 15 = .ok (.iconst 0, 1) := by decide +kernel
theorem dX9_takeClash_16 : decode cX9_takeClash 16 = .ok (.aload_n 0, 1) := by decide +kernel
theorem dX9_takeClash_17 : decode cX9_takeClash 17 = .ok (.getfield 47, 3) := by decide +kernel
theorem dX9_takeClash_20 : decode cX9_takeClash 20 = .ok (.iconst 4, 1) := by decide +kernel
theorem dX9_takeClash_21 : decode cX9_takeClash 21 = .ok (.iaload, 1) := by decide +kernel
theorem dX9_takeClash_22 : decode cX9_takeClash 22 = .ok (.iconst 1, 1) := by decide +kernel
theorem dX9_takeClash_23 : decode cX9_takeClash 23 = .ok (.isub, 1) := by decide +kernel
theorem dX9_takeClash_24 : decode cX9_takeClash 24 = .ok (.invokevirtual 136, 3) := by decide +kernel
theorem dX9_takeClash_27 : decode cX9_takeClash 27 = .ok (.istore_n 2, 1) := by decide +kernel
theorem dX9_takeClash_28 : decode cX9_takeClash 28 = .ok (.aload_n 0, 1) := by decide +kernel
theorem dX9_takeClash_29 : decode cX9_takeClash 29 = .ok (.getfield 103, 3) := by decide +kernel
theorem dX9_takeClash_32 : decode cX9_takeClash 32 = .ok (.ifCond .ne 81, 3) := by decide +kernel
theorem dX9_takeClash_35 : decode cX9_takeClash 35 = .ok (.aload_n 0, 1) := by decide +kernel
theorem dX9_takeClash_36 : decode cX9_takeClash 36 = .ok (.iload_n 1, 1) := by decide +kernel
theorem dX9_takeClash_37 : decode cX9_takeClash 37 = .ok (.iload_n 2, 1) := by decide +kernel
theorem dX9_takeClash_38 : decode cX9_takeClash 38 = .ok (.if_icmp .eq 23, 3) := by decide +kernel
theorem dX9_takeClash_41 : decode cX9_takeClash 41 = .ok (.aload_n 0, 1) := by decide +kernel
theorem dX9_takeClash_42 : decode cX9_takeClash 42 = .ok (.getfield 35, 3) := by decide +kernel
theorem dX9_takeClash_45 : decode cX9_takeClash 45 = .ok (.bipush 10, 2) := by decide +kernel
theorem dX9_takeClash_47 : decode cX9_takeClash 47 = .ok (.iload_n 1, 1) := by decide +kernel
theorem dX9_takeClash_48 : decode cX9_takeClash 48 = .ok (.iadd, 1) := by decide +kernel
theorem dX9_takeClash_49 : decode cX9_takeClash 49 = .ok (.iaload, 1) := by decide +kernel
theorem dX9_takeClash_50 : decode cX9_takeClash 50 = .ok (.iload_n 2, 1) := by decide +kernel
theorem dX9_takeClash_51 : decode cX9_takeClash 51 = .ok (.invokestatic 140, 3) := by decide +kernel
theorem dX9_takeClash_54 : decode cX9_takeClash 54 = .ok (.ifCond .ne 7, 3) := by decide +kernel
theorem dX9_takeClash_57 : decode cX9_takeClash 57 = .ok (.iconst 1, 1) := by decide +kernel
theorem dX9_takeClash_58 : decode cX9_takeClash 58 = .ok (.goto 4, 3) := by decide +kernel
theorem dX9_takeClash_61 : decode cX9_takeClash 61 = .ok (.iconst 0, 1) := by decide +kernel
theorem dX9_takeClash_62 : decode cX9_takeClash 62 = .ok (.iconst 4, 1) := by decide +kernel
theorem dX9_takeClash_63 : decode cX9_takeClash 63 = .ok (.aload_n 0, 1) := by decide +kernel
theorem dX9_takeClash_64 : decode cX9_takeClash 64 = .ok (.getfield 110, 3) := by decide +kernel
theorem dX9_takeClash_67 : decode cX9_takeClash 67 = .ok (.invokevirtual 124, 3) := by decide +kernel
theorem dX9_takeClash_70 : decode cX9_takeClash 70 = .ok (.ifCond .eq 43, 3) := by decide +kernel
theorem dX9_takeClash_73 : decode cX9_takeClash 73 = .ok (.aload_n 0, 1) := by decide +kernel
theorem dX9_takeClash_74 : decode cX9_takeClash 74 = .ok (.getfield 35, 3) := by decide +kernel
theorem dX9_takeClash_77 : decode cX9_takeClash 77 = .ok (.bipush 10, 2) := by decide +kernel
theorem dX9_takeClash_79 : decode cX9_takeClash 79 = .ok (.iload_n 1, 1) := by decide +kernel
theorem dX9_takeClash_80 : decode cX9_takeClash 80 = .ok (.iadd, 1) := by decide +kernel
theorem dX9_takeClash_81 : decode cX9_takeClash 81 = .ok (.dup2, 1) := by decide +kernel
theorem dX9_takeClash_82 : decode cX9_takeClash 82 = .ok (.iaload, 1) := by decide +kernel
theorem dX9_takeClash_83 : decode cX9_takeClash 83 = .ok (.iconst 1, 1) := by decide +kernel
theorem dX9_takeClash_84 : decode cX9_takeClash 84 = .ok (.iload_n 2, 1) := by decide +kernel
theorem dX9_takeClash_85 : decode cX9_takeClash 85 = .ok (.ishl, 1) := by decide +kernel
theorem dX9_takeClash_86 : decode cX9_takeClash 86 = .ok (.ior, 1) := by decide +kernel
theorem dX9_takeClash_87 : decode cX9_takeClash 87 = .ok (.iastore, 1) := by decide +kernel
theorem dX9_takeClash_88 : decode cX9_takeClash 88 = .ok (.aload_n 0, 1) := by decide +kernel
theorem dX9_takeClash_89 : decode cX9_takeClash 89 = .ok (.getfield 35, 3) := by decide +kernel
theorem dX9_takeClash_92 : decode cX9_takeClash 92 = .ok (.bipush 10, 2) := by decide +kernel
theorem dX9_takeClash_94 : decode cX9_takeClash 94 = .ok (.iload_n 2, 1) := by decide +kernel
theorem dX9_takeClash_95 : decode cX9_takeClash 95 = .ok (.iadd, 1) := by decide +kernel
theorem dX9_takeClash_96 : decode cX9_takeClash 96 = .ok (.dup2, 1) := by decide +kernel
theorem dX9_takeClash_97 : decode cX9_takeClash 97 = .ok (.iaload, 1) := by decide +kernel
theorem dX9_takeClash_98 : decode cX9_takeClash 98 = .ok (.iconst 1, 1) := by decide +kernel
theorem dX9_takeClash_99 : decode cX9_takeClash 99 = .ok (.iload_n 1, 1) := by decide +kernel
theorem dX9_takeClash_100 : decode cX9_takeClash 100 = .ok (.ishl, 1) := by decide +kernel
theorem dX9_takeClash_101 : decode cX9_takeClash 101 = .ok (.ior, 1) := by decide +kernel
theorem dX9_takeClash_102 : decode cX9_takeClash 102 = .ok (.iastore, 1) := by decide +kernel
theorem dX9_takeClash_103 : decode cX9_takeClash 103 = .ok (.aload_n 0, 1) := by decide +kernel
theorem dX9_takeClash_104 : decode cX9_takeClash 104 = .ok (.getfield 47, 3) := by decide +kernel
theorem dX9_takeClash_107 : decode cX9_takeClash 107 = .ok (.iconst 5, 1) := by decide +kernel
theorem dX9_takeClash_108 : decode cX9_takeClash 108 = .ok (.dup2, 1) := by decide +kernel
theorem dX9_takeClash_109 : decode cX9_takeClash 109 = .ok (.iaload, 1) := by decide +kernel
theorem dX9_takeClash_110 : decode cX9_takeClash 110 = .ok (.iconst 1, 1) := by decide +kernel
theorem dX9_takeClash_111 : decode cX9_takeClash 111 = .ok (.iadd, 1) := by decide +kernel
theorem dX9_takeClash_112 : decode cX9_takeClash 112 = .ok (.iastore, 1) := by decide +kernel
theorem dX9_takeClash_113 : decode cX9_takeClash 113 = .ok (.return_, 1) := by decide +kernel
theorem dX9_takeScene_0 : decode cX9_takeScene 0 = .ok (.bipush 8, 2) := by decide +kernel
theorem dX9_takeScene_2 : decode cX9_takeScene 2 = .ok (.aload_n 0, 1) := by decide +kernel
theorem dX9_takeScene_3 : decode cX9_takeScene 3 = .ok (.getfield 47, 3) := by decide +kernel
theorem dX9_takeScene_6 : decode cX9_takeScene 6 = .ok (.bipush 6, 2) := by decide +kernel
theorem dX9_takeScene_8 : decode cX9_takeScene 8 = .ok (.iaload, 1) := by decide +kernel
theorem dX9_takeScene_9 : decode cX9_takeScene 9 = .ok (.iadd, 1) := by decide +kernel
theorem dX9_takeScene_10 : decode cX9_takeScene 10 = .ok (.istore_n 1, 1) := by decide +kernel
theorem dX9_takeScene_11 : decode cX9_takeScene 11 = .ok (.aload_n 0, 1) := by decide +kernel
theorem dX9_takeScene_12 : decode cX9_takeScene 12 = .ok (.getfield 38, 3) := by decide +kernel
theorem dX9_takeScene_15 : decode cX9_takeScene 15 = .ok (.iload_n 1, 1) := by decide +kernel
theorem dX9_takeScene_16 : decode cX9_takeScene 16 = .ok (.aload_n 0, 1) := by decide +kernel
theorem dX9_takeScene_17 : decode cX9_takeScene 17 = .ok (.iconst 0, 1) := by decide +kernel
theorem dX9_takeScene_18 : decode cX9_takeScene 18 = .ok (.bipush 11, 2) := by decide +kernel
theorem dX9_takeScene_20 : decode cX9_takeScene 20 = .ok (.invokevirtual 136, 3) := by decide +kernel
theorem dX9_takeScene_23 : decode cX9_takeScene 23 = .ok (.iastore, 1) := by decide +kernel
theorem dX9_takeScene_24 : decode cX9_takeScene 24 = .ok (.aload_n 0, 1) := by decide +kernel
theorem dX9_takeScene_25 : decode cX9_takeScene 25 = .ok (.getfield 41, 3) := by decide +kernel
theorem dX9_takeScene_28 : decode cX9_takeScene 28 = .ok (.iload_n 1, 1) := by decide +kernel
theorem dX9_takeScene_29 : decode cX9_takeScene 29 = .ok (.aload_n 0, 1) := by decide +kernel
theorem dX9_takeScene_30 : decode cX9_takeScene 30 = .ok (.iconst 0, 1) := by decide +kernel
theorem dX9_takeScene_31 : decode cX9_takeScene 31 = .ok (.bipush 27, 2) := by decide +kernel
theorem dX9_takeScene_33 : decode cX9_takeScene 33 = .ok (.invokevirtual 136, 3) := by decide +kernel
theorem dX9_takeScene_36 : decode cX9_takeScene 36 = .ok (.iastore, 1) := by decide +kernel
theorem dX9_takeScene_37 : decode cX9_takeScene 37 = .ok (.aload_n 0, 1) := by decide +kernel
theorem dX9_takeScene_38 : decode cX9_takeScene 38 = .ok (.getfield 44, 3) := by decide +kernel
theorem dX9_takeScene_41 : decode cX9_takeScene 41 = .ok (.iload_n 1, 1) := by decide +kernel
theorem dX9_takeScene_42 : decode cX9_takeScene 42 = .ok (.aload_n 0, 1) := by decide +kernel
theorem dX9_takeScene_43 : decode cX9_takeScene 43 = .ok (.iconst 0, 1) := by decide +kernel
theorem dX9_takeScene_44 : decode cX9_takeScene 44 = .ok (.bipush 27, 2) := by decide +kernel
theorem dX9_takeScene_46 : decode cX9_takeScene 46 = .ok (.invokevirtual 136, 3) := by decide +kernel
theorem dX9_takeScene_49 : decode cX9_takeScene 49 = .ok (.iastore, 1) := by decide +kernel
theorem dX9_takeScene_50 : decode cX9_takeScene 50 = .ok (.aload_n 0, 1) := by decide +kernel
theorem dX9_takeScene_51 : decode cX9_takeScene 51 = .ok (.aload_n 0, 1) := by decide +kernel
theorem dX9_takeScene_52 : decode cX9_takeScene 52 = .ok (.getfield 44, 3) := by decide +kernel
theorem dX9_takeScene_55 : decode cX9_takeScene 55 = .ok (.iload_n 1, 1) := by decide +kernel
theorem dX9_takeScene_56 : decode cX9_takeScene 56 = .ok (.iaload, 1) := by decide +kernel
theorem dX9_takeScene_57 : decode cX9_takeScene 57 = .ok (.aload_n 0, 1) := by decide +kernel
theorem dX9_takeScene_58 : decode cX9_takeScene 58 = .ok (.getfield 41, 3) := by decide +kernel
theorem dX9_takeScene_61 : decode cX9_takeScene 61 = .ok (.iload_n 1, 1) := by decide +kernel
theorem dX9_takeScene_62 : decode cX9_takeScene 62 = .ok (.iaload, 1) := by decide +kernel
theorem dX9_takeScene_63 : decode cX9_takeScene 63 = .ok (.if_icmp .lt 7, 3) := by decide +kernel
theorem dX9_takeScene_66 : decode cX9_takeScene 66 = .ok (.iconst 1, 1) := by decide +kernel
theorem dX9_takeScene_67 : decode cX9_takeScene 67 = .ok (.goto 4, 3) := by decide +kernel
theorem dX9_takeScene_70 : decode cX9_takeScene 70 = .ok (.iconst 0, 1) := by decide +kernel
theorem dX9_takeScene_71 : decode cX9_takeScene 71 = .ok (.iconst 4, 1) := by decide +kernel
theorem dX9_takeScene_72 : decode cX9_takeScene 72 = .ok (.aload_n 0, 1) := by decide +kernel
theorem dX9_takeScene_73 : decode cX9_takeScene 73 = .ok (.getfield 110, 3) := by decide +kernel
theorem dX9_takeScene_76 : decode cX9_takeScene 76 = .ok (.invokevirtual 124, 3) := by decide +kernel
theorem dX9_takeScene_79 : decode cX9_takeScene 79 = .ok (.istore_n 2, 1) := by decide +kernel
theorem dX9_takeScene_80 : decode cX9_takeScene 80 = .ok (.aload_n 0, 1) := by decide +kernel
theorem dX9_takeScene_81 : decode cX9_takeScene 81 = .ok (.getfield 47, 3) := by decide +kernel
theorem dX9_takeScene_84 : decode cX9_takeScene 84 = .ok (.bipush 6, 2) := by decide +kernel
theorem dX9_takeScene_86 : decode cX9_takeScene 86 = .ok (.dup2, 1) := by decide +kernel
theorem dX9_takeScene_87 : decode cX9_takeScene 87 = .ok (.iaload, 1) := by decide +kernel
theorem dX9_takeScene_88 : decode cX9_takeScene 88 = .ok (.iconst 1, 1) := by decide +kernel
theorem dX9_takeScene_89 : decode cX9_takeScene 89 = .ok (.iadd, 1) := by decide +kernel
theorem dX9_takeScene_90 : decode cX9_takeScene 90 = .ok (.iastore, 1) := by decide +kernel
theorem dX9_takeScene_91 : decode cX9_takeScene 91 = .ok (.return_, 1) := by decide +kernel
theorem dX9_takeClause_0 : decode cX9_takeClause 0 = .ok (.aload_n 0, 1) := by decide +kernel
theorem dX9_takeClause_1 : decode cX9_takeClause 1 = .ok (.invokevirtual 129, 3) := by decide +kernel
theorem dX9_takeClause_4 : decode cX9_takeClause 4 = .ok (.aload_n 0, 1) := by decide +kernel
theorem dX9_takeClause_5 : decode cX9_takeClause 5 = .ok (.getfield 110, 3) := by decide +kernel
theorem dX9_takeClause_8 : decode cX9_takeClause 8 = .ok (.istore_n 1, 1) := by decide +kernel
theorem dX9_takeClause_9 : decode cX9_takeClause 9 = .ok (.aload_n 0, 1) := by decide +kernel
theorem dX9_takeClause_10 : decode cX9_takeClause 10 = .ok (.iconst 4, 1) := by decide +kernel
theorem dX9_takeClause_11 : decode cX9_takeClause 11 = .ok (.bipush 112, 2) := by decide +kernel
theorem dX9_takeClause_13 : decode cX9_takeClause 13 = .ok (.bipush 97, 2) := by decide +kernel
theorem dX9_takeClause_15 : decode cX9_takeClause 15 = .ok (.bipush 114, 2) := by decide +kernel
theorem dX9_takeClause_17 : decode cX9_takeClause 17 = .ok (.bipush 116, 2) := by decide +kernel
theorem dX9_takeClause_19 : decode cX9_takeClause 19 = .ok (.iconst 0, 1) := by decide +kernel
theorem dX9_takeClause_20 : decode cX9_takeClause 20 = .ok (.invokevirtual 132, 3) := by decide +kernel
theorem dX9_takeClause_23 : decode cX9_takeClause 23 = .ok (.ifCond .eq 35, 3) := by decide +kernel
theorem dX9_takeClause_26 : decode cX9_takeClause 26 = .ok (.aload_n 0, 1) := by decide +kernel
theorem dX9_takeClause_27 : decode cX9_takeClause 27 = .ok (.aload_n 0, 1) := by decide +kernel
theorem dX9_takeClause_28 : decode cX9_takeClause 28 = .ok (.getfield 47, 3) := by decide +kernel
theorem dX9_takeClause_31 : decode cX9_takeClause 31 = .ok (.iconst 4, 1) := by decide +kernel
theorem dX9_takeClause_32 : decode cX9_takeClause 32 = .ok (.iaload, 1) := by decide +kernel
theorem dX9_takeClause_33 : decode cX9_takeClause 33 = .ok (.bipush 10, 2) := by decide +kernel
theorem dX9_takeClause_35 : decode cX9_takeClause 35 = .ok (.if_icmp .ge 7, 3) := by decide +kernel
theorem dX9_takeClause_38 : decode cX9_takeClause 38 = .ok (.iconst 1, 1) := by decide +kernel
theorem dX9_takeClause_39 : decode cX9_takeClause 39 = .ok (.goto 4, 3) := by decide +kernel
theorem dX9_takeClause_42 : decode cX9_takeClause 42 = .ok (.iconst 0, 1) := by decide +kernel
theorem dX9_takeClause_43 : decode cX9_takeClause 43 = .ok (.iconst 3, 1) := by decide +kernel
theorem dX9_takeClause_44 : decode cX9_takeClause 44 = .ok (.iload_n 1, 1) := by decide +kernel
theorem dX9_takeClause_45 : decode cX9_takeClause 45 = .ok (.invokevirtual 124, 3) := by decide +kernel
theorem dX9_takeClause_48 : decode cX9_takeClause 48 = .ok (.ifCond .eq 114, 3) := by decide +kernel
theorem dX9_takeClause_51 : decode cX9_takeClause 51 = .ok (.aload_n 0, 1) := by decide +kernel
theorem dX9_takeClause_52 : decode cX9_takeClause 52 = .ok (.invokevirtual 144, 3) := by decide +kernel
theorem dX9_takeClause_55 : decode cX9_takeClause 55 = .ok (.goto 107, 3) := by decide +kernel
theorem dX9_takeClause_58 : decode cX9_takeClause 58 = .ok (.aload_n 0, 1) := by decide +kernel
theorem dX9_takeClause_59 : decode cX9_takeClause 59 = .ok (.iconst 5, 1) := by decide +kernel
theorem dX9_takeClause_60 : decode cX9_takeClause 60 = .ok (.bipush 99, 2) := by decide +kernel
theorem dX9_takeClause_62 : decode cX9_takeClause 62 = .ok (.bipush 108, 2) := by decide +kernel
theorem dX9_takeClause_64 : decode cX9_takeClause 64 = .ok (.bipush 97, 2) := by decide +kernel
theorem dX9_takeClause_66 : decode cX9_takeClause 66 = .ok (.bipush 115, 2) := by decide +kernel
theorem dX9_takeClause_68 : decode cX9_takeClause 68 = .ok (.bipush 104, 2) := by decide +kernel
theorem dX9_takeClause_70 : decode cX9_takeClause 70 = .ok (.invokevirtual 132, 3) := by decide +kernel
theorem dX9_takeClause_73 : decode cX9_takeClause 73 = .ok (.ifCond .eq 35, 3) := by decide +kernel
theorem dX9_takeClause_76 : decode cX9_takeClause 76 = .ok (.aload_n 0, 1) := by decide +kernel
theorem dX9_takeClause_77 : decode cX9_takeClause 77 = .ok (.aload_n 0, 1) := by decide +kernel
theorem dX9_takeClause_78 : decode cX9_takeClause 78 = .ok (.getfield 47, 3) := by decide +kernel
theorem dX9_takeClause_81 : decode cX9_takeClause 81 = .ok (.iconst 5, 1) := by decide +kernel
theorem dX9_takeClause_82 : decode cX9_takeClause 82 = .ok (.iaload, 1) := by decide +kernel
theorem dX9_takeClause_83 : decode cX9_takeClause 83 = .ok (.bipush 15, 2) := by decide +kernel
theorem dX9_takeClause_85 : decode cX9_takeClause 85 = .ok (.if_icmp .ge 7, 3) := by decide +kernel
theorem dX9_takeClause_88 : decode cX9_takeClause 88 = .ok (.iconst 1, 1) := by decide +kernel
theorem dX9_takeClause_89 : decode cX9_takeClause 89 = .ok (.goto 4, 3) := by decide +kernel
theorem dX9_takeClause_92 : decode cX9_takeClause 92 = .ok (.iconst 0, 1) := by decide +kernel
theorem dX9_takeClause_93 : decode cX9_takeClause 93 = .ok (.iconst 3, 1) := by decide +kernel
theorem dX9_takeClause_94 : decode cX9_takeClause 94 = .ok (.iload_n 1, 1) := by decide +kernel
theorem dX9_takeClause_95 : decode cX9_takeClause 95 = .ok (.invokevirtual 124, 3) := by decide +kernel
theorem dX9_takeClause_98 : decode cX9_takeClause 98 = .ok (.ifCond .eq 64, 3) := by decide +kernel
theorem dX9_takeClause_101 : decode cX9_takeClause 101 = .ok (.aload_n 0, 1) := by decide +kernel
theorem dX9_takeClause_102 : decode cX9_takeClause 102 = .ok (.invokevirtual 147, 3) := by decide +kernel
theorem dX9_takeClause_105 : decode cX9_takeClause 105 = .ok (.goto 57, 3) := by decide +kernel
theorem dX9_takeClause_108 : decode cX9_takeClause 108 = .ok (.aload_n 0, 1) := by decide +kernel
theorem dX9_takeClause_109 : decode cX9_takeClause 109 = .ok (.aload_n 0, 1) := by decide +kernel
theorem dX9_takeClause_110 : decode cX9_takeClause 110 = .ok (.iconst 5, 1) := by decide +kernel
theorem dX9_takeClause_111 : decode cX9_takeClause 111 = .ok (.bipush 115, 2) := by decide +kernel
theorem dX9_takeClause_113 : decode cX9_takeClause 113 = .ok (.bipush 99, 2) := by decide +kernel
theorem dX9_takeClause_115 : decode cX9_takeClause 115 = .ok (.bipush 101, 2) := by decide +kernel
theorem dX9_takeClause_117 : decode cX9_takeClause 117 = .ok (.bipush 110, 2) := by decide +kernel
theorem dX9_takeClause_119 : decode cX9_takeClause 119 = .ok (.bipush 101, 2) := by decide +kernel
theorem dX9_takeClause_121 : decode cX9_takeClause 121 = .ok (.invokevirtual 132, 3) := by decide +kernel
theorem dX9_takeClause_124 : decode cX9_takeClause 124 = .ok (.iconst 1, 1) := by decide +kernel
theorem dX9_takeClause_125 : decode cX9_takeClause 125 = .ok (.iload_n 1, 1) := by decide +kernel
theorem dX9_takeClause_126 : decode cX9_takeClause 126 = .ok (.invokevirtual 124, 3) := by decide +kernel
theorem dX9_takeClause_129 : decode cX9_takeClause 129 = .ok (.ifCond .eq 33, 3) := by decide +kernel
theorem dX9_takeClause_132 : decode cX9_takeClause 132 = .ok (.aload_n 0, 1) := by decide +kernel
theorem dX9_takeClause_133 : decode cX9_takeClause 133 = .ok (.aload_n 0, 1) := by decide +kernel
theorem dX9_takeClause_134 : decode cX9_takeClause 134 = .ok (.getfield 47, 3) := by decide +kernel
theorem dX9_takeClause_137 : decode cX9_takeClause 137 = .ok (.bipush 6, 2) := by decide +kernel
theorem dX9_takeClause_139 : decode cX9_takeClause 139 = .ok (.iaload, 1) := by decide +kernel
theorem dX9_takeClause_140 : decode cX9_takeClause 140 = .ok (.bipush 8, 2) := by decide +kernel
theorem dX9_takeClause_142 : decode cX9_takeClause 142 = .ok (.if_icmp .ge 7, 3) := by decide +kernel
theorem dX9_takeClause_145 : decode cX9_takeClause 145 = .ok (.iconst 1, 1) := by decide +kernel
theorem dX9_takeClause_146 : decode cX9_takeClause 146 = .ok (.goto 4, 3) := by decide +kernel
theorem dX9_takeClause_149 : decode cX9_takeClause 149 = .ok (.iconst 0, 1) := by decide +kernel
theorem dX9_takeClause_150 : decode cX9_takeClause 150 = .ok (.iconst 3, 1) := by decide +kernel
theorem dX9_takeClause_151 : decode cX9_takeClause 151 = .ok (.iload_n 1, 1) := by decide +kernel
theorem dX9_takeClause_152 : decode cX9_takeClause 152 = .ok (.invokevirtual 124, 3) := by decide +kernel
theorem dX9_takeClause_155 : decode cX9_takeClause 155 = .ok (.ifCond .eq 7, 3) := by decide +kernel
theorem dX9_takeClause_158 : decode cX9_takeClause 158 = .ok (.aload_n 0, 1) := by decide +kernel
theorem dX9_takeClause_159 : decode cX9_takeClause 159 = .ok (.invokevirtual 150, 3) := by decide +kernel
theorem dX9_takeClause_162 : decode cX9_takeClause 162 = .ok (.return_, 1) := by decide +kernel
theorem dX9_town_0 : decode cX9_town 0 = .ok (.aload_n 0, 1) := by decide +kernel
theorem dX9_town_1 : decode cX9_town 1 = .ok (.iconst 0, 1) := by decide +kernel
theorem dX9_town_2 : decode cX9_town 2 = .ok (.putfield 100, 3) := by decide +kernel
theorem dX9_town_5 : decode cX9_town 5 = .ok (.aload_n 0, 1) := by decide +kernel
theorem dX9_town_6 : decode cX9_town 6 = .ok (.iconst 0, 1) := by decide +kernel
theorem dX9_town_7 : decode cX9_town 7 = .ok (.putfield 103, 3) := by decide +kernel
theorem dX9_town_10 : decode cX9_town 10 = .ok (.aload_n 0, 1) := by decide +kernel
theorem dX9_town_11 : decode cX9_town 11 = .ok (.iconst (-1), 1) := by decide +kernel
theorem dX9_town_12 : decode cX9_town 12 = .ok (.putfield 53, 3) := by decide +kernel
theorem dX9_town_15 : decode cX9_town 15 = .ok (.aload_n 0, 1) := by decide +kernel
theorem dX9_town_16 : decode cX9_town 16 = .ok (.getfield 47, 3) := by decide +kernel
theorem dX9_town_19 : decode cX9_town 19 = .ok (.iconst 4, 1) := by decide +kernel
theorem dX9_town_20 : decode cX9_town 20 = .ok (.iconst 0, 1) := by decide +kernel
theorem dX9_town_21 : decode cX9_town 21 = .ok (.iastore, 1) := by decide +kernel
theorem dX9_town_22 : decode cX9_town 22 = .ok (.aload_n 0, 1) := by decide +kernel
theorem dX9_town_23 : decode cX9_town 23 = .ok (.getfield 47, 3) := by decide +kernel
theorem dX9_town_26 : decode cX9_town 26 = .ok (.iconst 5, 1) := by decide +kernel
theorem dX9_town_27 : decode cX9_town 27 = .ok (.iconst 0, 1) := by decide +kernel
theorem dX9_town_28 : decode cX9_town 28 = .ok (.iastore, 1) := by decide +kernel
theorem dX9_town_29 : decode cX9_town 29 = .ok (.aload_n 0, 1) := by decide +kernel
theorem dX9_town_30 : decode cX9_town 30 = .ok (.getfield 47, 3) := by decide +kernel
theorem dX9_town_33 : decode cX9_town 33 = .ok (.bipush 6, 2) := by decide +kernel
theorem dX9_town_35 : decode cX9_town 35 = .ok (.iconst 0, 1) := by decide +kernel
theorem dX9_town_36 : decode cX9_town 36 = .ok (.iastore, 1) := by decide +kernel
theorem dX9_town_37 : decode cX9_town 37 = .ok (.aload_n 0, 1) := by decide +kernel
theorem dX9_town_38 : decode cX9_town 38 = .ok (.getfield 103, 3) := by decide +kernel
theorem dX9_town_41 : decode cX9_town 41 = .ok (.ifCond .ne 60, 3) := by decide +kernel
theorem dX9_town_44 : decode cX9_town 44 = .ok (.aload_n 0, 1) := by decide +kernel
theorem dX9_town_45 : decode cX9_town 45 = .ok (.invokevirtual 106, 3) := by decide +kernel
theorem dX9_town_48 : decode cX9_town 48 = .ok (.ifCond .lt 53, 3) := by decide +kernel
theorem dX9_town_51 : decode cX9_town 51 = .ok (.aload_n 0, 1) := by decide +kernel
theorem dX9_town_52 : decode cX9_town 52 = .ok (.invokevirtual 153, 3) := by decide +kernel
theorem dX9_town_55 : decode cX9_town 55 = .ok (.aload_n 0, 1) := by decide +kernel
theorem dX9_town_56 : decode cX9_town 56 = .ok (.getfield 103, 3) := by decide +kernel
theorem dX9_town_59 : decode cX9_town 59 = .ok (.ifCond .ne (-22), 3) := by decide +kernel
theorem dX9_town_62 : decode cX9_town 62 = .ok (.aload_n 0, 1) := by decide +kernel
theorem dX9_town_63 : decode cX9_town 63 = .ok (.aload_n 0, 1) := by decide +kernel
theorem dX9_town_64 : decode cX9_town 64 = .ok (.invokevirtual 106, 3) := by decide +kernel
theorem dX9_town_67 : decode cX9_town 67 = .ok (.bipush 59, 2) := by decide +kernel
theorem dX9_town_69 : decode cX9_town 69 = .ok (.if_icmp .ne 7, 3) := by decide +kernel
theorem dX9_town_72 : decode cX9_town 72 = .ok (.iconst 1, 1) := by decide +kernel
theorem dX9_town_73 : decode cX9_town 73 = .ok (.goto 4, 3) := by decide +kernel
theorem dX9_town_76 : decode cX9_town 76 = .ok (.iconst 0, 1) := by decide +kernel
theorem dX9_town_77 : decode cX9_town 77 = .ok (.iconst 1, 1) := by decide +kernel
theorem dX9_town_78 : decode cX9_town 78 = .ok (.aload_n 0, 1) := by decide +kernel
theorem dX9_town_79 : decode cX9_town 79 = .ok (.getfield 100, 3) := by decide +kernel
theorem dX9_town_82 : decode cX9_town 82 = .ok (.invokevirtual 124, 3) := by decide +kernel
theorem dX9_town_85 : decode cX9_town 85 = .ok (.ifCond .eq (-48), 3) := by decide +kernel
theorem dX9_town_88 : decode cX9_town 88 = .ok (.aload_n 0, 1) := by decide +kernel
theorem dX9_town_89 : decode cX9_town 89 = .ok (.dup, 1) := by decide +kernel
theorem dX9_town_90 : decode cX9_town 90 = .ok (.getfield 100, 3) := by decide +kernel
theorem dX9_town_93 : decode cX9_town 93 = .ok (.iconst 1, 1) := by decide +kernel
theorem dX9_town_94 : decode cX9_town 94 = .ok (.iadd, 1) := by decide +kernel
theorem dX9_town_95 : decode cX9_town 95 = .ok (.putfield 100, 3) := by decide +kernel
theorem dX9_town_98 : decode cX9_town 98 = .ok (.goto (-61), 3) := by decide +kernel
theorem dX9_town_101 : decode cX9_town 101 = .ok (.aload_n 0, 1) := by decide +kernel
theorem dX9_town_102 : decode cX9_town 102 = .ok (.iconst 0, 1) := by decide +kernel
theorem dX9_town_103 : decode cX9_town 103 = .ok (.putfield 94, 3) := by decide +kernel
theorem dX9_town_106 : decode cX9_town 106 = .ok (.aload_n 0, 1) := by decide +kernel
theorem dX9_town_107 : decode cX9_town 107 = .ok (.getfield 103, 3) := by decide +kernel
theorem dX9_town_110 : decode cX9_town 110 = .ok (.ifCond .le 11, 3) := by decide +kernel
theorem dX9_town_113 : decode cX9_town 113 = .ok (.bipush (-10), 2) := by decide +kernel
theorem dX9_town_115 : decode cX9_town 115 = .ok (.aload_n 0, 1) := by decide +kernel
theorem dX9_town_116 : decode cX9_town 116 = .ok (.getfield 103, 3) := by decide +kernel
theorem dX9_town_119 : decode cX9_town 119 = .ok (.isub, 1) := by decide +kernel
theorem dX9_town_120 : decode cX9_town 120 = .ok (.ireturn, 1) := by decide +kernel
theorem dX9_town_121 : decode cX9_town 121 = .ok (.aload_n 0, 1) := by decide +kernel
theorem dX9_town_122 : decode cX9_town 122 = .ok (.getfield 47, 3) := by decide +kernel
theorem dX9_town_125 : decode cX9_town 125 = .ok (.iconst 0, 1) := by decide +kernel
theorem dX9_town_126 : decode cX9_town 126 = .ok (.aload_n 0, 1) := by decide +kernel
theorem dX9_town_127 : decode cX9_town 127 = .ok (.getfield 47, 3) := by decide +kernel
theorem dX9_town_130 : decode cX9_town 130 = .ok (.iconst 4, 1) := by decide +kernel
theorem dX9_town_131 : decode cX9_town 131 = .ok (.iaload, 1) := by decide +kernel
theorem dX9_town_132 : decode cX9_town 132 = .ok (.iastore, 1) := by decide +kernel
theorem dX9_town_133 : decode cX9_town 133 = .ok (.aload_n 0, 1) := by decide +kernel
theorem dX9_town_134 : decode cX9_town 134 = .ok (.getfield 47, 3) := by decide +kernel
theorem dX9_town_137 : decode cX9_town 137 = .ok (.iconst 1, 1) := by decide +kernel
theorem dX9_town_138 : decode cX9_town 138 = .ok (.aload_n 0, 1) := by decide +kernel
theorem dX9_town_139 : decode cX9_town 139 = .ok (.getfield 47, 3) := by decide +kernel
theorem dX9_town_142 : decode cX9_town 142 = .ok (.bipush 6, 2) := by decide +kernel
theorem dX9_town_144 : decode cX9_town 144 = .ok (.iaload, 1) := by decide +kernel
theorem dX9_town_145 : decode cX9_town 145 = .ok (.iastore, 1) := by decide +kernel
theorem dX9_town_146 : decode cX9_town 146 = .ok (.iconst 0, 1) := by decide +kernel
theorem dX9_town_147 : decode cX9_town 147 = .ok (.istore_n 1, 1) := by decide +kernel
theorem dX9_town_148 : decode cX9_town 148 = .ok (.iload_n 1, 1) := by decide +kernel
theorem dX9_town_149 : decode cX9_town 149 = .ok (.bipush 10, 2) := by decide +kernel
theorem dX9_town_151 : decode cX9_town 151 = .ok (.if_icmp .ge 127, 3) := by decide +kernel
theorem dX9_town_154 : decode cX9_town 154 = .ok (.aload_n 0, 1) := by decide +kernel
theorem dX9_town_155 : decode cX9_town 155 = .ok (.getfield 17, 3) := by decide +kernel
theorem dX9_town_158 : decode cX9_town 158 = .ok (.iload_n 1, 1) := by decide +kernel
theorem dX9_town_159 : decode cX9_town 159 = .ok (.aload_n 0, 1) := by decide +kernel
theorem dX9_town_160 : decode cX9_town 160 = .ok (.getfield 17, 3) := by decide +kernel
theorem dX9_town_163 : decode cX9_town 163 = .ok (.bipush 10, 2) := by decide +kernel
theorem dX9_town_165 : decode cX9_town 165 = .ok (.iload_n 1, 1) := by decide +kernel
theorem dX9_town_166 : decode cX9_town 166 = .ok (.iadd, 1) := by decide +kernel
theorem dX9_town_167 : decode cX9_town 167 = .ok (.iaload, 1) := by decide +kernel
theorem dX9_town_168 : decode cX9_town 168 = .ok (.iastore, 1) := by decide +kernel
theorem dX9_town_169 : decode cX9_town 169 = .ok (.aload_n 0, 1) := by decide +kernel
theorem dX9_town_170 : decode cX9_town 170 = .ok (.getfield 20, 3) := by decide +kernel
theorem dX9_town_173 : decode cX9_town 173 = .ok (.iload_n 1, 1) := by decide +kernel
theorem dX9_town_174 : decode cX9_town 174 = .ok (.aload_n 0, 1) := by decide +kernel
theorem dX9_town_175 : decode cX9_town 175 = .ok (.getfield 20, 3) := by decide +kernel
theorem dX9_town_178 : decode cX9_town 178 = .ok (.bipush 10, 2) := by decide +kernel
theorem dX9_town_180 : decode cX9_town 180 = .ok (.iload_n 1, 1) := by decide +kernel
theorem dX9_town_181 : decode cX9_town 181 = .ok (.iadd, 1) := by decide +kernel
theorem dX9_town_182 : decode cX9_town 182 = .ok (.iaload, 1) := by decide +kernel
theorem dX9_town_183 : decode cX9_town 183 = .ok (.iastore, 1) := by decide +kernel
theorem dX9_town_184 : decode cX9_town 184 = .ok (.aload_n 0, 1) := by decide +kernel
theorem dX9_town_185 : decode cX9_town 185 = .ok (.getfield 29, 3) := by decide +kernel
theorem dX9_town_188 : decode cX9_town 188 = .ok (.iload_n 1, 1) := by decide +kernel
theorem dX9_town_189 : decode cX9_town 189 = .ok (.aload_n 0, 1) := by decide +kernel
theorem dX9_town_190 : decode cX9_town 190 = .ok (.getfield 29, 3) := by decide +kernel
theorem dX9_town_193 : decode cX9_town 193 = .ok (.bipush 10, 2) := by decide +kernel
theorem dX9_town_195 : decode cX9_town 195 = .ok (.iload_n 1, 1) := by decide +kernel
theorem dX9_town_196 : decode cX9_town 196 = .ok (.iadd, 1) := by decide +kernel
theorem dX9_town_197 : decode cX9_town 197 = .ok (.iaload, 1) := by decide +kernel
theorem dX9_town_198 : decode cX9_town 198 = .ok (.iastore, 1) := by decide +kernel
theorem dX9_town_199 : decode cX9_town 199 = .ok (.aload_n 0, 1) := by decide +kernel
theorem dX9_town_200 : decode cX9_town 200 = .ok (.getfield 32, 3) := by decide +kernel
theorem dX9_town_203 : decode cX9_town 203 = .ok (.iload_n 1, 1) := by decide +kernel
theorem dX9_town_204 : decode cX9_town 204 = .ok (.aload_n 0, 1) := by decide +kernel
theorem dX9_town_205 : decode cX9_town 205 = .ok (.getfield 32, 3) := by decide +kernel
theorem dX9_town_208 : decode cX9_town 208 = .ok (.bipush 10, 2) := by decide +kernel
theorem dX9_town_210 : decode cX9_town 210 = .ok (.iload_n 1, 1) := by decide +kernel
theorem dX9_town_211 : decode cX9_town 211 = .ok (.iadd, 1) := by decide +kernel
theorem dX9_town_212 : decode cX9_town 212 = .ok (.iaload, 1) := by decide +kernel
theorem dX9_town_213 : decode cX9_town 213 = .ok (.iastore, 1) := by decide +kernel
theorem dX9_town_214 : decode cX9_town 214 = .ok (.aload_n 0, 1) := by decide +kernel
theorem dX9_town_215 : decode cX9_town 215 = .ok (.getfield 35, 3) := by decide +kernel
theorem dX9_town_218 : decode cX9_town 218 = .ok (.iload_n 1, 1) := by decide +kernel
theorem dX9_town_219 : decode cX9_town 219 = .ok (.aload_n 0, 1) := by decide +kernel
theorem dX9_town_220 : decode cX9_town 220 = .ok (.getfield 35, 3) := by decide +kernel
theorem dX9_town_223 : decode cX9_town 223 = .ok (.bipush 10, 2) := by decide +kernel
theorem dX9_town_225 : decode cX9_town 225 = .ok (.iload_n 1, 1) := by decide +kernel
theorem dX9_town_226 : decode cX9_town 226 = .ok (.iadd, 1) := by decide +kernel
theorem dX9_town_227 : decode cX9_town 227 = .ok (.iaload, 1) := by decide +kernel
theorem dX9_town_228 : decode cX9_town 228 = .ok (.iastore, 1) := by decide +kernel
theorem dX9_town_229 : decode cX9_town 229 = .ok (.aload_n 0, 1) := by decide +kernel
theorem dX9_town_230 : decode cX9_town 230 = .ok (.getfield 7, 3) := by decide +kernel
theorem dX9_town_233 : decode cX9_town 233 = .ok (.iload_n 1, 1) := by decide +kernel
theorem dX9_town_234 : decode cX9_town 234 = .ok (.aload_n 0, 1) := by decide +kernel
theorem dX9_town_235 : decode cX9_town 235 = .ok (.getfield 23, 3) := by decide +kernel
theorem dX9_town_238 : decode cX9_town 238 = .ok (.bipush 10, 2) := by decide +kernel
theorem dX9_town_240 : decode cX9_town 240 = .ok (.iload_n 1, 1) := by decide +kernel
theorem dX9_town_241 : decode cX9_town 241 = .ok (.iadd, 1) := by decide +kernel
theorem dX9_town_242 : decode cX9_town 242 = .ok (.iaload, 1) := by decide +kernel
theorem dX9_town_243 : decode cX9_town 243 = .ok (.iastore, 1) := by decide +kernel
theorem dX9_town_244 : decode cX9_town 244 = .ok (.aload_n 0, 1) := by decide +kernel
theorem dX9_town_245 : decode cX9_town 245 = .ok (.getfield 7, 3) := by decide +kernel
theorem dX9_town_248 : decode cX9_town 248 = .ok (.bipush 10, 2) := by decide +kernel
theorem dX9_town_250 : decode cX9_town 250 = .ok (.iload_n 1, 1) := by decide +kernel
theorem dX9_town_251 : decode cX9_town 251 = .ok (.iadd, 1) := by decide +kernel
theorem dX9_town_252 : decode cX9_town 252 = .ok (.aload_n 0, 1) := by decide +kernel
theorem dX9_town_253 : decode cX9_town 253 = .ok (.getfield 26, 3) := by decide +kernel
theorem dX9_town_256 : decode cX9_town 256 = .ok (.bipush 10, 2) := by decide +kernel
theorem dX9_town_258 : decode cX9_town 258 = .ok (.iload_n 1, 1) := by decide +kernel
theorem dX9_town_259 : decode cX9_town 259 = .ok (.iadd, 1) := by decide +kernel
theorem dX9_town_260 : decode cX9_town 260 = .ok (.iaload, 1) := by decide +kernel
theorem dX9_town_261 : decode cX9_town 261 = .ok (.iastore, 1) := by decide +kernel
theorem dX9_town_262 : decode cX9_town 262 = .ok (.aload_n 0, 1) := by decide +kernel
theorem dX9_town_263 : decode cX9_town 263 = .ok (.getfield 7, 3) := by decide +kernel
theorem dX9_town_266 : decode cX9_town 266 = .ok (.bipush 20, 2) := by decide +kernel
theorem dX9_town_268 : decode cX9_town 268 = .ok (.iload_n 1, 1) := by decide +kernel
theorem dX9_town_269 : decode cX9_town 269 = .ok (.iadd, 1) := by decide +kernel
theorem dX9_town_270 : decode cX9_town 270 = .ok (.iconst 0, 1) := by decide +kernel
theorem dX9_town_271 : decode cX9_town 271 = .ok (.iastore, 1) := by decide +kernel
theorem dX9_town_272 : decode cX9_town 272 = .ok (.iinc 1 1, 3) := by decide +kernel
theorem dX9_town_275 : decode cX9_town 275 = .ok (.goto (-127), 3) := by decide +kernel
theorem dX9_town_278 : decode cX9_town 278 = .ok (.iconst 0, 1) := by decide +kernel
theorem dX9_town_279 : decode cX9_town 279 = .ok (.istore_n 1, 1) := by decide +kernel
theorem dX9_town_280 : decode cX9_town 280 = .ok (.iload_n 1, 1) := by decide +kernel
theorem dX9_town_281 : decode cX9_town 281 = .ok (.bipush 8, 2) := by decide +kernel
theorem dX9_town_283 : decode cX9_town 283 = .ok (.if_icmp .ge 54, 3) := by decide +kernel
theorem dX9_town_286 : decode cX9_town 286 = .ok (.aload_n 0, 1) := by decide +kernel
theorem dX9_town_287 : decode cX9_town 287 = .ok (.getfield 38, 3) := by decide +kernel
theorem dX9_town_290 : decode cX9_town 290 = .ok (.iload_n 1, 1) := by decide +kernel
theorem dX9_town_291 : decode cX9_town 291 = .ok (.aload_n 0, 1) := by decide +kernel
theorem dX9_town_292 : decode cX9_town 292 = .ok (.getfield 38, 3) := by decide +kernel
theorem dX9_town_295 : decode cX9_town 295 = .ok (.bipush 8, 2) := by decide +kernel
theorem dX9_town_297 : decode cX9_town 297 = .ok (.iload_n 1, 1) := by decide +kernel
theorem dX9_town_298 : decode cX9_town 298 = .ok (.iadd, 1) := by decide +kernel
theorem dX9_town_299 : decode cX9_town 299 = .ok (.iaload, 1) := by decide +kernel
theorem dX9_town_300 : decode cX9_town 300 = .ok (.iastore, 1) := by decide +kernel
theorem dX9_town_301 : decode cX9_town 301 = .ok (.aload_n 0, 1) := by decide +kernel
theorem dX9_town_302 : decode cX9_town 302 = .ok (.getfield 41, 3) := by decide +kernel
theorem dX9_town_305 : decode cX9_town 305 = .ok (.iload_n 1, 1) := by decide +kernel
theorem dX9_town_306 : decode cX9_town 306 = .ok (.aload_n 0, 1) := by decide +kernel
theorem dX9_town_307 : decode cX9_town 307 = .ok (.getfield 41, 3) := by decide +kernel
theorem dX9_town_310 : decode cX9_town 310 = .ok (.bipush 8, 2) := by decide +kernel
theorem dX9_town_312 : decode cX9_town 312 = .ok (.iload_n 1, 1) := by decide +kernel
theorem dX9_town_313 : decode cX9_town 313 = .ok (.iadd, 1) := by decide +kernel
theorem dX9_town_314 : decode cX9_town 314 = .ok (.iaload, 1) := by decide +kernel
theorem dX9_town_315 : decode cX9_town 315 = .ok (.iastore, 1) := by decide +kernel
theorem dX9_town_316 : decode cX9_town 316 = .ok (.aload_n 0, 1) := by decide +kernel
theorem dX9_town_317 : decode cX9_town 317 = .ok (.getfield 44, 3) := by decide +kernel
theorem dX9_town_320 : decode cX9_town 320 = .ok (.iload_n 1, 1) := by decide +kernel
theorem dX9_town_321 : decode cX9_town 321 = .ok (.aload_n 0, 1) := by decide +kernel
theorem dX9_town_322 : decode cX9_town 322 = .ok (.getfield 44, 3) := by decide +kernel
theorem dX9_town_325 : decode cX9_town 325 = .ok (.bipush 8, 2) := by decide +kernel
theorem dX9_town_327 : decode cX9_town 327 = .ok (.iload_n 1, 1) := by decide +kernel
theorem dX9_town_328 : decode cX9_town 328 = .ok (.iadd, 1) := by decide +kernel
theorem dX9_town_329 : decode cX9_town 329 = .ok (.iaload, 1) := by decide +kernel
theorem dX9_town_330 : decode cX9_town 330 = .ok (.iastore, 1) := by decide +kernel
theorem dX9_town_331 : decode cX9_town 331 = .ok (.iinc 1 1, 3) := by decide +kernel
theorem dX9_town_334 : decode cX9_town 334 = .ok (.goto (-54), 3) := by decide +kernel
theorem dX9_town_337 : decode cX9_town 337 = .ok (.aload_n 0, 1) := by decide +kernel
theorem dX9_town_338 : decode cX9_town 338 = .ok (.getfield 7, 3) := by decide +kernel
theorem dX9_town_341 : decode cX9_town 341 = .ok (.bipush 30, 2) := by decide +kernel
theorem dX9_town_343 : decode cX9_town 343 = .ok (.iconst 0, 1) := by decide +kernel
theorem dX9_town_344 : decode cX9_town 344 = .ok (.iastore, 1) := by decide +kernel
theorem dX9_town_345 : decode cX9_town 345 = .ok (.aload_n 0, 1) := by decide +kernel
theorem dX9_town_346 : decode cX9_town 346 = .ok (.getfield 7, 3) := by decide +kernel
theorem dX9_town_349 : decode cX9_town 349 = .ok (.bipush 32, 2) := by decide +kernel
theorem dX9_town_351 : decode cX9_town 351 = .ok (.iconst 0, 1) := by decide +kernel
theorem dX9_town_352 : decode cX9_town 352 = .ok (.iastore, 1) := by decide +kernel
theorem dX9_town_353 : decode cX9_town 353 = .ok (.aload_n 0, 1) := by decide +kernel
theorem dX9_town_354 : decode cX9_town 354 = .ok (.iconst 0, 1) := by decide +kernel
theorem dX9_town_355 : decode cX9_town 355 = .ok (.putfield 156, 3) := by decide +kernel
theorem dX9_town_358 : decode cX9_town 358 = .ok (.aload_n 0, 1) := by decide +kernel
theorem dX9_town_359 : decode cX9_town 359 = .ok (.iconst 0, 1) := by decide +kernel
theorem dX9_town_360 : decode cX9_town 360 = .ok (.putfield 159, 3) := by decide +kernel
theorem dX9_town_363 : decode cX9_town 363 = .ok (.aload_n 0, 1) := by decide +kernel
theorem dX9_town_364 : decode cX9_town 364 = .ok (.getfield 13, 3) := by decide +kernel
theorem dX9_town_367 : decode cX9_town 367 = .ok (.iconst 0, 1) := by decide +kernel
theorem dX9_town_368 : decode cX9_town 368 = .ok (.iconst 0, 1) := by decide +kernel
theorem dX9_town_369 : decode cX9_town 369 = .ok (.bastore, 1) := by decide +kernel
theorem dX9_town_370 : decode cX9_town 370 = .ok (.aload_n 0, 1) := by decide +kernel
theorem dX9_town_371 : decode cX9_town 371 = .ok (.getfield 13, 3) := by decide +kernel
theorem dX9_town_374 : decode cX9_town 374 = .ok (.iconst 1, 1) := by decide +kernel
theorem dX9_town_375 : decode cX9_town 375 = .ok (.iconst 0, 1) := by decide +kernel
theorem dX9_town_376 : decode cX9_town 376 = .ok (.bastore, 1) := by decide +kernel
theorem dX9_town_377 : decode cX9_town 377 = .ok (.aload_n 0, 1) := by decide +kernel
theorem dX9_town_378 : decode cX9_town 378 = .ok (.invokevirtual 162, 3) := by decide +kernel
theorem dX9_town_381 : decode cX9_town 381 = .ok (.aload_n 0, 1) := by decide +kernel
theorem dX9_town_382 : decode cX9_town 382 = .ok (.getfield 47, 3) := by decide +kernel
theorem dX9_town_385 : decode cX9_town 385 = .ok (.iconst 0, 1) := by decide +kernel
theorem dX9_town_386 : decode cX9_town 386 = .ok (.iaload, 1) := by decide +kernel
theorem dX9_town_387 : decode cX9_town 387 = .ok (.ireturn, 1) := by decide +kernel
theorem dX9_fault_0 : decode cX9_fault 0 = .ok (.aload_n 0, 1) := by decide +kernel
theorem dX9_fault_1 : decode cX9_fault 1 = .ok (.getfield 53, 3) := by decide +kernel
theorem dX9_fault_4 : decode cX9_fault 4 = .ok (.ireturn, 1) := by decide +kernel
theorem dX9_findLooks_0 : decode cX9_findLooks 0 = .ok (.aload_n 0, 1) := by decide +kernel
theorem dX9_findLooks_1 : decode cX9_findLooks 1 = .ok (.iconst 0, 1) := by decide +kernel
theorem dX9_findLooks_2 : decode cX9_findLooks 2 = .ok (.putfield 165, 3) := by decide +kernel
theorem dX9_findLooks_5 : decode cX9_findLooks 5 = .ok (.iconst 0, 1) := by decide +kernel
theorem dX9_findLooks_6 : decode cX9_findLooks 6 = .ok (.istore_n 1, 1) := by decide +kernel
theorem dX9_findLooks_7 : decode cX9_findLooks 7 = .ok (.iload_n 1, 1) := by decide +kernel
theorem dX9_findLooks_8 : decode cX9_findLooks 8 = .ok (.aload_n 0, 1) := by decide +kernel
theorem dX9_findLooks_9 : decode cX9_findLooks 9 = .ok (.getfield 47, 3) := by decide +kernel
theorem dX9_findLooks_12 : decode cX9_findLooks 12 = .ok (.iconst 0, 1) := by decide +kernel
theorem dX9_findLooks_13 : decode cX9_findLooks 13 = .ok (.iaload, 1) := by decide +kernel
theorem dX9_findLooks_14 : decode cX9_findLooks 14 = .ok (.if_icmp .ge 155, 3) := by decide +kernel
theorem dX9_findLooks_17 : decode cX9_findLooks 17 = .ok (.iconst 0, 1) := by decide +kernel
theorem dX9_findLooks_18 : decode cX9_findLooks 18 = .ok (.istore_n 2, 1) := by decide +kernel
theorem dX9_findLooks_19 : decode cX9_findLooks 19 = .ok (.iload_n 2, 1) := by decide +kernel
theorem dX9_findLooks_20 : decode cX9_findLooks 20 = .ok (.aload_n 0, 1) := by decide +kernel
theorem dX9_findLooks_21 : decode cX9_findLooks 21 = .ok (.getfield 47, 3) := by decide +kernel
theorem dX9_findLooks_24 : decode cX9_findLooks 24 = .ok (.iconst 0, 1) := by decide +kernel
theorem dX9_findLooks_25 : decode cX9_findLooks 25 = .ok (.iaload, 1) := by decide +kernel
theorem dX9_findLooks_26 : decode cX9_findLooks 26 = .ok (.if_icmp .ge 137, 3) := by decide +kernel
theorem dX9_findLooks_29 : decode cX9_findLooks 29 = .ok (.iconst 0, 1) := by decide +kernel
theorem dX9_findLooks_30 : decode cX9_findLooks 30 = .ok (.istore_n 3, 1) := by decide +kernel
theorem dX9_findLooks_31 : decode cX9_findLooks 31 = .ok (.iload_n 3, 1) := by decide +kernel
theorem dX9_findLooks_32 : decode cX9_findLooks 32 = .ok (.aload_n 0, 1) := by decide +kernel
theorem dX9_findLooks_33 : decode cX9_findLooks 33 = .ok (.getfield 47, 3) := by decide +kernel
theorem dX9_findLooks_36 : decode cX9_findLooks 36 = .ok (.iconst 0, 1) := by decide +kernel
theorem dX9_findLooks_37 : decode cX9_findLooks 37 = .ok (.iaload, 1) := by decide +kernel
theorem dX9_findLooks_38 : decode cX9_findLooks 38 = .ok (.if_icmp .ge 119, 3) := by decide +kernel
theorem dX9_findLooks_41 : decode cX9_findLooks 41 = .ok (.aload_n 0, 1) := by decide +kernel
theorem dX9_findLooks_42 : decode cX9_findLooks 42 = .ok (.getfield 17, 3) := by decide +kernel
theorem dX9_findLooks_45 : decode cX9_findLooks 45 = .ok (.iload_n 1, 1) := by decide +kernel
theorem dX9_findLooks_46 : decode cX9_findLooks 46 = .ok (.iaload, 1) := by decide +kernel
theorem dX9_findLooks_47 : decode cX9_findLooks 47 = .ok (.ifCond .ne 27, 3) := by decide +kernel
theorem dX9_findLooks_50 : decode cX9_findLooks 50 = .ok (.aload_n 0, 1) := by decide +kernel
theorem dX9_findLooks_51 : decode cX9_findLooks 51 = .ok (.getfield 17, 3) := by decide +kernel
theorem dX9_findLooks_54 : decode cX9_findLooks 54 = .ok (.iload_n 2, 1) := by decide +kernel
theorem dX9_findLooks_55 : decode cX9_findLooks 55 = .ok (.iaload, 1) := by decide +kernel
theorem dX9_findLooks_56 : decode cX9_findLooks 56 = .ok (.iconst 1, 1) := by decide +kernel
theorem dX9_findLooks_57 : decode cX9_findLooks 57 = .ok (.if_icmp .ne 17, 3) := by decide +kernel
theorem dX9_findLooks_60 : decode cX9_findLooks 60 = .ok (.aload_n 0, 1) := by decide +kernel
theorem dX9_findLooks_61 : decode cX9_findLooks 61 = .ok (.getfield 17, 3) := by decide +kernel
theorem dX9_findLooks_64 : decode cX9_findLooks 64 = .ok (.iload_n 3, 1) := by decide +kernel
theorem dX9_findLooks_65 : decode cX9_findLooks 65 = .ok (.iaload, 1) := by decide +kernel
theorem dX9_findLooks_66 : decode cX9_findLooks 66 = .ok (.iconst 2, 1) := by decide +kernel
theorem dX9_findLooks_67 : decode cX9_findLooks 67 = .ok (.if_icmp .ne 7, 3) := by decide +kernel
theorem dX9_findLooks_70 : decode cX9_findLooks 70 = .ok (.iconst 1, 1) := by decide +kernel
theorem dX9_findLooks_71 : decode cX9_findLooks 71 = .ok (.goto 4, 3) := by decide +kernel
theorem dX9_findLooks_74 : decode cX9_findLooks 74 = .ok (.iconst 0, 1) := by decide +kernel
theorem dX9_findLooks_75 : decode cX9_findLooks 75 = .ok (.istore 4, 2) := by decide +kernel
theorem dX9_findLooks_77 : decode cX9_findLooks 77 = .ok (.iload 4, 2) := by decide +kernel
theorem dX9_findLooks_79 : decode cX9_findLooks 79 = .ok (.ifCond .eq 72, 3) := by decide +kernel
theorem dX9_findLooks_82 : decode cX9_findLooks 82 = .ok (.aload_n 0, 1) := by decide +kernel
theorem dX9_findLooks_83 : decode cX9_findLooks 83 = .ok (.getfield 35, 3) := by decide +kernel
theorem dX9_findLooks_86 : decode cX9_findLooks 86 = .ok (.iload_n 1, 1) := by decide +kernel
theorem dX9_findLooks_87 : decode cX9_findLooks 87 = .ok (.iaload, 1) := by decide +kernel
theorem dX9_findLooks_88 : decode cX9_findLooks 88 = .ok (.iload_n 2, 1) := by decide +kernel
theorem dX9_findLooks_89 : decode cX9_findLooks 89 = .ok (.invokestatic 140, 3) := by decide +kernel
theorem dX9_findLooks_92 : decode cX9_findLooks 92 = .ok (.ifCond .ne 59, 3) := by decide +kernel
theorem dX9_findLooks_95 : decode cX9_findLooks 95 = .ok (.aload_n 0, 1) := by decide +kernel
theorem dX9_findLooks_96 : decode cX9_findLooks 96 = .ok (.getfield 35, 3) := by decide +kernel
theorem dX9_findLooks_99 : decode cX9_findLooks 99 = .ok (.iload_n 1, 1) := by decide +kernel
theorem dX9_findLooks_100 : decode cX9_findLooks 100 = .ok (.iaload, 1) := by decide +kernel
theorem dX9_findLooks_101 : decode cX9_findLooks 101 = .ok (.iload_n 3, 1) := by decide +kernel
theorem dX9_findLooks_102 : decode cX9_findLooks 102 = .ok (.invokestatic 140, 3) := by decide +kernel
theorem dX9_findLooks_105 : decode cX9_findLooks 105 = .ok (.ifCond .ne 46, 3) := by decide +kernel
theorem dX9_findLooks_108 : decode cX9_findLooks 108 = .ok (.aload_n 0, 1) := by decide +kernel
theorem dX9_findLooks_109 : decode cX9_findLooks 109 = .ok (.getfield 35, 3) := by decide +kernel
theorem dX9_findLooks_112 : decode cX9_findLooks 112 = .ok (.iload_n 2, 1) := by decide +kernel
theorem dX9_findLooks_113 : decode cX9_findLooks 113 = .ok (.iaload, 1) := by decide +kernel
theorem dX9_findLooks_114 : decode cX9_findLooks 114 = .ok (.iload_n 3, 1) := by decide +kernel
theorem dX9_findLooks_115 : decode cX9_findLooks 115 = .ok (.invokestatic 140, 3) := by decide +kernel
theorem dX9_findLooks_118 : decode cX9_findLooks 118 = .ok (.ifCond .ne 33, 3) := by decide +kernel
theorem dX9_findLooks_121 : decode cX9_findLooks 121 = .ok (.aload_n 0, 1) := by decide +kernel
theorem dX9_findLooks_122 : decode cX9_findLooks 122 = .ok (.getfield 57, 3) := by decide +kernel
theorem dX9_findLooks_125 : decode cX9_findLooks 125 = .ok (.aload_n 0, 1) := by decide +kernel
theorem dX9_findLooks_126 : decode cX9_findLooks 126 = .ok (.getfield 165, 3) := by decide +kernel
theorem dX9_findLooks_129 : decode cX9_findLooks 129 = .ok (.iconst 1, 1) := by decide +kernel
theorem dX9_findLooks_130 : decode cX9_findLooks 130 = .ok (.iload_n 1, 1) := by decide +kernel
theorem dX9_findLooks_131 : decode cX9_findLooks 131 = .ok (.ishl, 1) := by decide +kernel
theorem dX9_findLooks_132 : decode cX9_findLooks 132 = .ok (.iconst 1, 1) := by decide +kernel
theorem dX9_findLooks_133 : decode cX9_findLooks 133 = .ok (.iload_n 2, 1) := by decide +kernel
theorem dX9_findLooks_134 : decode cX9_findLooks 134 = .ok (.ishl, 1) := by decide +kernel
theorem dX9_findLooks_135 : decode cX9_findLooks 135 = .ok (.ior, 1) := by decide +kernel
theorem dX9_findLooks_136 : decode cX9_findLooks 136 = .ok (.iconst 1, 1) := by decide +kernel
theorem dX9_findLooks_137 : decode cX9_findLooks 137 = .ok (.iload_n 3, 1) := by decide +kernel
theorem dX9_findLooks_138 : decode cX9_findLooks 138 = .ok (.ishl, 1) := by decide +kernel
theorem dX9_findLooks_139 : decode cX9_findLooks 139 = .ok (.ior, 1) := by decide +kernel
theorem dX9_findLooks_140 : decode cX9_findLooks 140 = .ok (.iastore, 1) := by decide +kernel
theorem dX9_findLooks_141 : decode cX9_findLooks 141 = .ok (.aload_n 0, 1) := by decide +kernel
theorem dX9_findLooks_142 : decode cX9_findLooks 142 = .ok (.dup, 1) := by decide +kernel
theorem dX9_findLooks_143 : decode cX9_findLooks 143 = .ok (.getfield 165, 3) := by decide +kernel
theorem dX9_findLooks_146 : decode cX9_findLooks 146 = .ok (.iconst 1, 1) := by decide +kernel
theorem dX9_findLooks_147 : decode cX9_findLooks 147 = .ok (.iadd, 1) := by decide +kernel
theorem dX9_findLooks_148 : decode cX9_findLooks 148 = .ok (.putfield 165, 3) := by decide +kernel
theorem dX9_findLooks_151 : decode cX9_findLooks 151 = .ok (.iinc 3 1, 3) := by decide +kernel
theorem dX9_findLooks_154 : decode cX9_findLooks 154 = .ok (.goto (-123), 3) := by decide +kernel
theorem dX9_findLooks_157 : decode cX9_findLooks 157 = .ok (.iinc 2 1, 3) := by decide +kernel
theorem dX9_findLooks_160 : decode cX9_findLooks 160 = .ok (.goto (-141), 3) := by decide +kernel
theorem dX9_findLooks_163 : decode cX9_findLooks 163 = .ok (.iinc 1 1, 3) := by decide +kernel
theorem dX9_findLooks_166 : decode cX9_findLooks 166 = .ok (.goto (-159), 3) := by decide +kernel
theorem dX9_findLooks_169 : decode cX9_findLooks 169 = .ok (.return_, 1) := by decide +kernel
theorem dX9_isPart_0 : decode cX9_isPart 0 = .ok (.iload_n 1, 1) := by decide +kernel
theorem dX9_isPart_1 : decode cX9_isPart 1 = .ok (.i2l, 1) := by decide +kernel
theorem dX9_isPart_2 : decode cX9_isPart 2 = .ok (.lconst 0, 1) := by decide +kernel
theorem dX9_isPart_3 : decode cX9_isPart 3 = .ok (.aload_n 0, 1) := by decide +kernel
theorem dX9_isPart_4 : decode cX9_isPart 4 = .ok (.getfield 47, 3) := by decide +kernel
theorem dX9_isPart_7 : decode cX9_isPart 7 = .ok (.iconst 0, 1) := by decide +kernel
theorem dX9_isPart_8 : decode cX9_isPart 8 = .ok (.iaload, 1) := by decide +kernel
theorem dX9_isPart_9 : decode cX9_isPart 9 = .ok (.iconst 1, 1) := by decide +kernel
theorem dX9_isPart_10 : decode cX9_isPart 10 = .ok (.isub, 1) := by decide +kernel
theorem dX9_isPart_11 : decode cX9_isPart 11 = .ok (.i2l, 1) := by decide +kernel
theorem dX9_isPart_12 : decode cX9_isPart 12 = .ok (.invokestatic 89, 3) := by decide +kernel
theorem dX9_isPart_15 : decode cX9_isPart 15 = .ok (.ireturn, 1) := by decide +kernel
theorem dX9_isScene_0 : decode cX9_isScene 0 = .ok (.iload_n 1, 1) := by decide +kernel
theorem dX9_isScene_1 : decode cX9_isScene 1 = .ok (.i2l, 1) := by decide +kernel
theorem dX9_isScene_2 : decode cX9_isScene 2 = .ok (.lconst 0, 1) := by decide +kernel
theorem dX9_isScene_3 : decode cX9_isScene 3 = .ok (.aload_n 0, 1) := by decide +kernel
theorem dX9_isScene_4 : decode cX9_isScene 4 = .ok (.getfield 47, 3) := by decide +kernel
theorem dX9_isScene_7 : decode cX9_isScene 7 = .ok (.iconst 1, 1) := by decide +kernel
theorem dX9_isScene_8 : decode cX9_isScene 8 = .ok (.iaload, 1) := by decide +kernel
theorem dX9_isScene_9 : decode cX9_isScene 9 = .ok (.iconst 1, 1) := by decide +kernel
theorem dX9_isScene_10 : decode cX9_isScene 10 = .ok (.isub, 1) := by decide +kernel
theorem dX9_isScene_11 : decode cX9_isScene 11 = .ok (.i2l, 1) := by decide +kernel
theorem dX9_isScene_12 : decode cX9_isScene 12 = .ok (.invokestatic 89, 3) := by decide +kernel
theorem dX9_isScene_15 : decode cX9_isScene 15 = .ok (.ireturn, 1) := by decide +kernel
theorem dX9_sumOf_0 : decode cX9_sumOf 0 = .ok (.iconst 0, 1) := by decide +kernel
theorem dX9_sumOf_1 : decode cX9_sumOf 1 = .ok (.istore_n 3, 1) := by decide +kernel
theorem dX9_sumOf_2 : decode cX9_sumOf 2 = .ok (.iconst 0, 1) := by decide +kernel
theorem dX9_sumOf_3 : decode cX9_sumOf 3 = .ok (.istore 4, 2) := by decide +kernel
theorem dX9_sumOf_5 : decode cX9_sumOf 5 = .ok (.iload 4, 2) := by decide +kernel
theorem dX9_sumOf_7 : decode cX9_sumOf 7 = .ok (.aload_n 0, 1) := by decide +kernel
theorem dX9_sumOf_8 : decode cX9_sumOf 8 = .ok (.getfield 47, 3) := by decide +kernel
theorem dX9_sumOf_11 : decode cX9_sumOf 11 = .ok (.iconst 0, 1) := by decide +kernel
theorem dX9_sumOf_12 : decode cX9_sumOf 12 = .ok (.iaload, 1) := by decide +kernel
theorem dX9_sumOf_13 : decode cX9_sumOf 13 = .ok (.if_icmp .ge 34, 3) := by decide +kernel
theorem dX9_sumOf_16 : decode cX9_sumOf 16 = .ok (.iload_n 3, 1) := by decide +kernel
theorem dX9_sumOf_17 : decode cX9_sumOf 17 = .ok (.iload_n 2, 1) := by decide +kernel
theorem dX9_sumOf_18 : decode cX9_sumOf 18 = .ok (.iload 4, 2) := by decide +kernel
theorem dX9_sumOf_20 : decode cX9_sumOf 20 = .ok (.invokestatic 140, 3) := by decide +kernel
theorem dX9_sumOf_23 : decode cX9_sumOf 23 = .ok (.ifCond .eq 15, 3) := by decide +kernel
theorem dX9_sumOf_26 : decode cX9_sumOf 26 = .ok (.aload_n 0, 1) := by decide +kernel
theorem dX9_sumOf_27 : decode cX9_sumOf 27 = .ok (.getfield 7, 3) := by decide +kernel
theorem dX9_sumOf_30 : decode cX9_sumOf 30 = .ok (.iload_n 1, 1) := by decide +kernel
theorem dX9_sumOf_31 : decode cX9_sumOf 31 = .ok (.iload 4, 2) := by decide +kernel
theorem dX9_sumOf_33 : decode cX9_sumOf 33 = .ok (.iadd, 1) := by decide +kernel
theorem dX9_sumOf_34 : decode cX9_sumOf 34 = .ok (.iaload, 1) := by decide +kernel
theorem dX9_sumOf_35 : decode cX9_sumOf 35 = .ok (.goto 4, 3) := by decide +kernel
theorem dX9_sumOf_38 : decode cX9_sumOf 38 = .ok (.iconst 0, 1) := by decide +kernel
theorem dX9_sumOf_39 : decode cX9_sumOf 39 = .ok (.iadd, 1) := by decide +kernel
theorem dX9_sumOf_40 : decode cX9_sumOf 40 = .ok (.istore_n 3, 1) := by decide +kernel
theorem dX9_sumOf_41 : decode cX9_sumOf 41 = .ok (.iinc 4 1, 3) := by decide +kernel
theorem dX9_sumOf_44 : decode cX9_sumOf 44 = .ok (.goto (-39), 3) := by decide +kernel
theorem dX9_sumOf_47 : decode cX9_sumOf 47 = .ok (.iload_n 3, 1) := by decide +kernel
theorem dX9_sumOf_48 : decode cX9_sumOf 48 = .ok (.ireturn, 1) := by decide +kernel
theorem dX9_isFree_0 : decode cX9_isFree 0 = .ok (.iconst 1, 1) := by decide +kernel
theorem dX9_isFree_1 : decode cX9_isFree 1 = .ok (.istore_n 3, 1) := by decide +kernel
theorem dX9_isFree_2 : decode cX9_isFree 2 = .ok (.iconst 0, 1) := by decide +kernel
theorem dX9_isFree_3 : decode cX9_isFree 3 = .ok (.istore 4, 2) := by decide +kernel
theorem dX9_isFree_5 : decode cX9_isFree 5 = .ok (.iload 4, 2) := by decide +kernel
theorem dX9_isFree_7 : decode cX9_isFree 7 = .ok (.aload_n 0, 1) := by decide +kernel
theorem dX9_isFree_8 : decode cX9_isFree 8 = .ok (.getfield 47, 3) := by decide +kernel
theorem dX9_isFree_11 : decode cX9_isFree 11 = .ok (.iconst 0, 1) := by decide +kernel
theorem dX9_isFree_12 : decode cX9_isFree 12 = .ok (.iaload, 1) := by decide +kernel
theorem dX9_isFree_13 : decode cX9_isFree 13 = .ok (.if_icmp .ge 64, 3) := by decide +kernel
theorem dX9_isFree_16 : decode cX9_isFree 16 = .ok (.iload_n 3, 1) := by decide +kernel
theorem dX9_isFree_17 : decode cX9_isFree 17 = .ok (.ifCond .eq 52, 3) := by decide +kernel
theorem dX9_isFree_20 : decode cX9_isFree 20 = .ok (.iload_n 1, 1) := by decide +kernel
theorem dX9_isFree_21 : decode cX9_isFree 21 = .ok (.iload 4, 2) := by decide +kernel
theorem dX9_isFree_23 : decode cX9_isFree 23 = .ok (.invokestatic 140, 3) := by decide +kernel
theorem dX9_isFree_26 : decode cX9_isFree 26 = .ok (.ifCond .eq 39, 3) := by decide +kernel
theorem dX9_isFree_29 : decode cX9_isFree 29 = .ok (.iload_n 2, 1) := by decide +kernel
theorem dX9_isFree_30 : decode cX9_isFree 30 = .ok (.i2l, 1) := by decide +kernel
theorem dX9_isFree_31 : decode cX9_isFree 31 = .ok (.aload_n 0, 1) := by decide +kernel
theorem dX9_isFree_32 : decode cX9_isFree 32 = .ok (.getfield 29, 3) := by decide +kernel
theorem dX9_isFree_35 : decode cX9_isFree 35 = .ok (.iload 4, 2) := by decide +kernel
theorem dX9_isFree_37 : decode cX9_isFree 37 = .ok (.iaload, 1) := by decide +kernel
theorem dX9_isFree_38 : decode cX9_isFree 38 = .ok (.i2l, 1) := by decide +kernel
theorem dX9_isFree_39 : decode cX9_isFree 39 = .ok (.aload_n 0, 1) := by decide +kernel
theorem dX9_isFree_40 : decode cX9_isFree 40 = .ok (.getfield 32, 3) := by decide +kernel
theorem dX9_isFree_43 : decode cX9_isFree 43 = .ok (.iload 4, 2) := by decide +kernel
theorem dX9_isFree_45 : decode cX9_isFree 45 = .ok (.iaload, 1) := by decide +kernel
theorem dX9_isFree_46 : decode cX9_isFree 46 = .ok (.i2l, 1) := by decide +kernel
theorem dX9_isFree_47 : decode cX9_isFree 47 = .ok (.invokestatic 89, 3) := by decide +kernel
theorem dX9_isFree_50 : decode cX9_isFree 50 = .ok (.ifCond .eq 19, 3) := by decide +kernel
theorem dX9_isFree_53 : decode cX9_isFree 53 = .ok (.aload_n 0, 1) := by decide +kernel
theorem dX9_isFree_54 : decode cX9_isFree 54 = .ok (.getfield 168, 3) := by decide +kernel
theorem dX9_isFree_57 : decode cX9_isFree 57 = .ok (.iload 4, 2) := by decide +kernel
theorem dX9_isFree_59 : decode cX9_isFree 59 = .ok (.invokestatic 140, 3) := by decide +kernel
theorem dX9_isFree_62 : decode cX9_isFree 62 = .ok (.ifCond .ne 7, 3) := by decide +kernel
theorem dX9_isFree_65 : decode cX9_isFree 65 = .ok (.iconst 1, 1) := by decide +kernel
theorem dX9_isFree_66 : decode cX9_isFree 66 = .ok (.goto 4, 3) := by decide +kernel
theorem dX9_isFree_69 : decode cX9_isFree 69 = .ok (.iconst 0, 1) := by decide +kernel
theorem dX9_isFree_70 : decode cX9_isFree 70 = .ok (.istore_n 3, 1) := by decide +kernel
theorem dX9_isFree_71 : decode cX9_isFree 71 = .ok (.iinc 4 1, 3) := by decide +kernel
theorem dX9_isFree_74 : decode cX9_isFree 74 = .ok (.goto (-69), 3) := by decide +kernel
theorem dX9_isFree_77 : decode cX9_isFree 77 = .ok (.iload_n 3, 1) := by decide +kernel
theorem dX9_isFree_78 : decode cX9_isFree 78 = .ok (.ireturn, 1) := by decide +kernel
theorem dX9_widthsIn_0 : decode cX9_widthsIn 0 = .ok (.iconst 0, 1) := by decide +kernel
theorem dX9_widthsIn_1 : decode cX9_widthsIn 1 = .ok (.istore_n 2, 1) := by decide +kernel
theorem dX9_widthsIn_2 : decode cX9_widthsIn 2 = .ok (.iconst 0, 1) := by decide +kernel
theorem dX9_widthsIn_3 : decode cX9_widthsIn 3 = .ok (.istore_n 3, 1) := by decide +kernel
theorem dX9_widthsIn_4 : decode cX9_widthsIn 4 = .ok (.iload_n 3, 1) := by decide +kernel
theorem dX9_widthsIn_5 : decode cX9_widthsIn 5 = .ok (.aload_n 0, 1) := by decide +kernel
theorem dX9_widthsIn_6 : decode cX9_widthsIn 6 = .ok (.getfield 165, 3) := by decide +kernel
theorem dX9_widthsIn_9 : decode cX9_widthsIn 9 = .ok (.if_icmp .ge 25, 3) := by decide +kernel
theorem dX9_widthsIn_12 : decode cX9_widthsIn 12 = .ok (.iload_n 2, 1) := by decide +kernel
theorem dX9_widthsIn_13 : decode cX9_widthsIn 13 = .ok (.iconst 1, 1) := by decide +kernel
theorem dX9_widthsIn_14 : decode cX9_widthsIn 14 = .ok (.aload_n 0, 1) := by decide +kernel
theorem dX9_widthsIn_15 : decode cX9_widthsIn 15 = .ok (.iload_n 1, 1) := by decide +kernel
theorem dX9_widthsIn_16 : decode cX9_widthsIn 16 = .ok (.aload_n 0, 1) := by decide +kernel
theorem dX9_widthsIn_17 : decode cX9_widthsIn 17 = .ok (.getfield 57, 3) := by decide +kernel
theorem dX9_widthsIn_20 : decode cX9_widthsIn 20 = .ok (.iload_n 3, 1) := by decide +kernel
theorem dX9_widthsIn_21 : decode cX9_widthsIn 21 = .ok (.iaload, 1) := by decide +kernel
theorem dX9_widthsIn_22 : decode cX9_widthsIn 22 = .ok (.invokevirtual 171, 3) := by decide +kernel
theorem dX9_widthsIn_25 : decode cX9_widthsIn 25 = .ok (.ishl, 1) := by decide +kernel
theorem dX9_widthsIn_26 : decode cX9_widthsIn 26 = .ok (.ior, 1) := by decide +kernel
theorem dX9_widthsIn_27 : decode cX9_widthsIn 27 = .ok (.istore_n 2, 1) := by decide +kernel
theorem dX9_widthsIn_28 : decode cX9_widthsIn 28 = .ok (.iinc 3 1, 3) := by decide +kernel
theorem dX9_widthsIn_31 : decode cX9_widthsIn 31 = .ok (.goto (-27), 3) := by decide +kernel
theorem dX9_widthsIn_34 : decode cX9_widthsIn 34 = .ok (.iload_n 2, 1) := by decide +kernel
theorem dX9_widthsIn_35 : decode cX9_widthsIn 35 = .ok (.ireturn, 1) := by decide +kernel
theorem dX9_told_0 : decode cX9_told 0 = .ok (.iload_n 1, 1) := by decide +kernel
theorem dX9_told_1 : decode cX9_told 1 = .ok (.tableswitch 128 0 10 #[59, 66, 73, 78, 83, 91, 99, 107, 112, 117, 122], 59) := by decide +kernel
theorem dX9_told_60 : decode cX9_told 60 = .ok (.aload_n 0, 1) := by decide +kernel
theorem dX9_told_61 : decode cX9_told 61 = .ok (.getfield 47, 3) := by decide +kernel
theorem dX9_told_64 : decode cX9_told 64 = .ok (.iconst 0, 1) := by decide +kernel
theorem dX9_told_65 : decode cX9_told 65 = .ok (.iaload, 1) := by decide +kernel
theorem dX9_told_66 : decode cX9_told 66 = .ok (.ireturn, 1) := by decide +kernel
theorem dX9_told_67 : decode cX9_told 67 = .ok (.aload_n 0, 1) := by decide +kernel
theorem dX9_told_68 : decode cX9_told 68 = .ok (.getfield 47, 3) := by decide +kernel
theorem dX9_told_71 : decode cX9_told 71 = .ok (.iconst 1, 1) := by decide +kernel
theorem dX9_told_72 : decode cX9_told 72 = .ok (.iaload, 1) := by decide +kernel
theorem dX9_told_73 : decode cX9_told 73 = .ok (.ireturn, 1) := by decide +kernel
theorem dX9_told_74 : decode cX9_told 74 = .ok (.aload_n 0, 1) := by decide +kernel
theorem dX9_told_75 : decode cX9_told 75 = .ok (.invokevirtual 174, 3) := by decide +kernel
theorem dX9_told_78 : decode cX9_told 78 = .ok (.ireturn, 1) := by decide +kernel
theorem dX9_told_79 : decode cX9_told 79 = .ok (.aload_n 0, 1) := by decide +kernel
theorem dX9_told_80 : decode cX9_told 80 = .ok (.getfield 94, 3) := by decide +kernel
theorem dX9_told_83 : decode cX9_told 83 = .ok (.ireturn, 1) := by decide +kernel
theorem dX9_told_84 : decode cX9_told 84 = .ok (.aload_n 0, 1) := by decide +kernel
theorem dX9_told_85 : decode cX9_told 85 = .ok (.getfield 7, 3) := by decide +kernel
theorem dX9_told_88 : decode cX9_told 88 = .ok (.bipush 31, 2) := by decide +kernel
theorem dX9_told_90 : decode cX9_told 90 = .ok (.iaload, 1) := by decide +kernel
theorem dX9_told_91 : decode cX9_told 91 = .ok (.ireturn, 1) := by decide +kernel
theorem dX9_told_92 : decode cX9_told 92 = .ok (.aload_n 0, 1) := by decide +kernel
theorem dX9_told_93 : decode cX9_told 93 = .ok (.getfield 7, 3) := by decide +kernel
theorem dX9_told_96 : decode cX9_told 96 = .ok (.bipush 30, 2) := by decide +kernel
theorem dX9_told_98 : decode cX9_told 98 = .ok (.iaload, 1) := by decide +kernel
theorem dX9_told_99 : decode cX9_told 99 = .ok (.ireturn, 1) := by decide +kernel
theorem dX9_told_100 : decode cX9_told 100 = .ok (.aload_n 0, 1) := by decide +kernel
theorem dX9_told_101 : decode cX9_told 101 = .ok (.getfield 7, 3) := by decide +kernel
theorem dX9_told_104 : decode cX9_told 104 = .ok (.bipush 32, 2) := by decide +kernel
theorem dX9_told_106 : decode cX9_told 106 = .ok (.iaload, 1) := by decide +kernel
theorem dX9_told_107 : decode cX9_told 107 = .ok (.ireturn, 1) := by decide +kernel
theorem dX9_told_108 : decode cX9_told 108 = .ok (.aload_n 0, 1) := by decide +kernel
theorem dX9_told_109 : decode cX9_told 109 = .ok (.getfield 156, 3) := by decide +kernel
theorem dX9_told_112 : decode cX9_told 112 = .ok (.ireturn, 1) := by decide +kernel
theorem dX9_told_113 : decode cX9_told 113 = .ok (.aload_n 0, 1) := by decide +kernel
theorem dX9_told_114 : decode cX9_told 114 = .ok (.getfield 159, 3) := by decide +kernel
theorem dX9_told_117 : decode cX9_told 117 = .ok (.ireturn, 1) := by decide +kernel
theorem dX9_told_118 : decode cX9_told 118 = .ok (.aload_n 0, 1) := by decide +kernel
theorem dX9_told_119 : decode cX9_told 119 = .ok (.getfield 165, 3) := by decide +kernel
theorem dX9_told_122 : decode cX9_told 122 = .ok (.ireturn, 1) := by decide +kernel
theorem dX9_told_123 : decode cX9_told 123 = .ok (.aload_n 0, 1) := by decide +kernel
theorem dX9_told_124 : decode cX9_told 124 = .ok (.iconst 0, 1) := by decide +kernel
theorem dX9_told_125 : decode cX9_told 125 = .ok (.invokevirtual 177, 3) := by decide +kernel
theorem dX9_told_128 : decode cX9_told 128 = .ok (.ireturn, 1) := by decide +kernel
theorem dX9_told_129 : decode cX9_told 129 = .ok (.ldc 93, 2) := by decide +kernel
theorem dX9_told_131 : decode cX9_told 131 = .ok (.ireturn, 1) := by decide +kernel
theorem dX9_clashMany_0 : decode cX9_clashMany 0 = .ok (.iconst 0, 1) := by decide +kernel
theorem dX9_clashMany_1 : decode cX9_clashMany 1 = .ok (.istore_n 1, 1) := by decide +kernel
theorem dX9_clashMany_2 : decode cX9_clashMany 2 = .ok (.iconst 0, 1) := by decide +kernel
theorem dX9_clashMany_3 : decode cX9_clashMany 3 = .ok (.istore_n 2, 1) := by decide +kernel
theorem dX9_clashMany_4 : decode cX9_clashMany 4 = .ok (.iload_n 2, 1) := by decide +kernel
theorem dX9_clashMany_5 : decode cX9_clashMany 5 = .ok (.aload_n 0, 1) := by decide +kernel
theorem dX9_clashMany_6 : decode cX9_clashMany 6 = .ok (.getfield 47, 3) := by decide +kernel
theorem dX9_clashMany_9 : decode cX9_clashMany 9 = .ok (.iconst 0, 1) := by decide +kernel
theorem dX9_clashMany_10 : decode cX9_clashMany 10 = .ok (.iaload, 1) := by decide +kernel
theorem dX9_clashMany_11 : decode cX9_clashMany 11 = .ok (.if_icmp .ge 21, 3) := by decide +kernel
theorem dX9_clashMany_14 : decode cX9_clashMany 14 = .ok (.iload_n 1, 1) := by decide +kernel
theorem dX9_clashMany_15 : decode cX9_clashMany 15 = .ok (.aload_n 0, 1) := by decide +kernel
theorem dX9_clashMany_16 : decode cX9_clashMany 16 = .ok (.getfield 35, 3) := by decide +kernel
theorem dX9_clashMany_19 : decode cX9_clashMany 19 = .ok (.iload_n 2, 1) := by decide +kernel
theorem dX9_clashMany_20 : decode cX9_clashMany 20 = .ok (.iaload, 1) := by decide +kernel
theorem dX9_clashMany_21 : decode cX9_clashMany 21 = .ok (.invokestatic 181, 3) := by decide +kernel
theorem dX9_clashMany_24 : decode cX9_clashMany 24 = .ok (.iadd, 1) := by decide +kernel
theorem dX9_clashMany_25 : decode cX9_clashMany 25 = .ok (.istore_n 1, 1) := by decide +kernel
theorem dX9_clashMany_26 : decode cX9_clashMany 26 = .ok (.iinc 2 1, 3) := by decide +kernel
theorem dX9_clashMany_29 : decode cX9_clashMany 29 = .ok (.goto (-25), 3) := by decide +kernel
theorem dX9_clashMany_32 : decode cX9_clashMany 32 = .ok (.iload_n 1, 1) := by decide +kernel
theorem dX9_clashMany_33 : decode cX9_clashMany 33 = .ok (.iconst 2, 1) := by decide +kernel
theorem dX9_clashMany_34 : decode cX9_clashMany 34 = .ok (.idiv, 1) := by decide +kernel
theorem dX9_clashMany_35 : decode cX9_clashMany 35 = .ok (.ireturn, 1) := by decide +kernel
theorem dX9_part_0 : decode cX9_part 0 = .ok (.aload_n 0, 1) := by decide +kernel
theorem dX9_part_1 : decode cX9_part 1 = .ok (.iload_n 1, 1) := by decide +kernel
theorem dX9_part_2 : decode cX9_part 2 = .ok (.invokevirtual 184, 3) := by decide +kernel
theorem dX9_part_5 : decode cX9_part 5 = .ok (.ifCond .ne 6, 3) := by decide +kernel
theorem dX9_part_8 : decode cX9_part 8 = .ok (.ldc 188, 2) := by decide +kernel
theorem dX9_part_10 : decode cX9_part 10 = .ok (.ireturn, 1) := by decide +kernel
theorem dX9_part_11 : decode cX9_part 11 = .ok (.iload_n 2, 1) := by decide +kernel
theorem dX9_part_12 : decode cX9_part 12 = .ok (.tableswitch 110 0 7 #[48, 55, 62, 69, 79, 86, 93, 100], 48) := by decide +kernel
theorem dX9_part_60 : decode cX9_part 60 = .ok (.aload_n 0, 1) := by decide +kernel
theorem dX9_part_61 : decode cX9_part 61 = .ok (.getfield 17, 3) := by decide +kernel
theorem dX9_part_64 : decode cX9_part 64 = .ok (.iload_n 1, 1) := by decide +kernel
theorem dX9_part_65 : decode cX9_part 65 = .ok (.iaload, 1) := by decide +kernel
theorem dX9_part_66 : decode cX9_part 66 = .ok (.ireturn, 1) := by decide +kernel
theorem dX9_part_67 : decode cX9_part 67 = .ok (.aload_n 0, 1) := by decide +kernel
theorem dX9_part_68 : decode cX9_part 68 = .ok (.getfield 20, 3) := by decide +kernel
theorem dX9_part_71 : decode cX9_part 71 = .ok (.iload_n 1, 1) := by decide +kernel
theorem dX9_part_72 : decode cX9_part 72 = .ok (.iaload, 1) := by decide +kernel
theorem dX9_part_73 : decode cX9_part 73 = .ok (.ireturn, 1) := by decide +kernel
theorem dX9_part_74 : decode cX9_part 74 = .ok (.aload_n 0, 1) := by decide +kernel
theorem dX9_part_75 : decode cX9_part 75 = .ok (.getfield 7, 3) := by decide +kernel
theorem dX9_part_78 : decode cX9_part 78 = .ok (.iload_n 1, 1) := by decide +kernel
theorem dX9_part_79 : decode cX9_part 79 = .ok (.iaload, 1) := by decide +kernel
theorem dX9_part_80 : decode cX9_part 80 = .ok (.ireturn, 1) := by decide +kernel
theorem dX9_part_81 : decode cX9_part 81 = .ok (.aload_n 0, 1) := by decide +kernel
theorem dX9_part_82 : decode cX9_part 82 = .ok (.getfield 7, 3) := by decide +kernel
theorem dX9_part_85 : decode cX9_part 85 = .ok (.bipush 10, 2) := by decide +kernel
theorem dX9_part_87 : decode cX9_part 87 = .ok (.iload_n 1, 1) := by decide +kernel
theorem dX9_part_88 : decode cX9_part 88 = .ok (.iadd, 1) := by decide +kernel
theorem dX9_part_89 : decode cX9_part 89 = .ok (.iaload, 1) := by decide +kernel
theorem dX9_part_90 : decode cX9_part 90 = .ok (.ireturn, 1) := by decide +kernel
theorem dX9_part_91 : decode cX9_part 91 = .ok (.aload_n 0, 1) := by decide +kernel
theorem dX9_part_92 : decode cX9_part 92 = .ok (.getfield 29, 3) := by decide +kernel
theorem dX9_part_95 : decode cX9_part 95 = .ok (.iload_n 1, 1) := by decide +kernel
theorem dX9_part_96 : decode cX9_part 96 = .ok (.iaload, 1) := by decide +kernel
theorem dX9_part_97 : decode cX9_part 97 = .ok (.ireturn, 1) := by decide +kernel
theorem dX9_part_98 : decode cX9_part 98 = .ok (.aload_n 0, 1) := by decide +kernel
theorem dX9_part_99 : decode cX9_part 99 = .ok (.getfield 32, 3) := by decide +kernel
theorem dX9_part_102 : decode cX9_part 102 = .ok (.iload_n 1, 1) := by decide +kernel
theorem dX9_part_103 : decode cX9_part 103 = .ok (.iaload, 1) := by decide +kernel
theorem dX9_part_104 : decode cX9_part 104 = .ok (.ireturn, 1) := by decide +kernel
theorem dX9_part_105 : decode cX9_part 105 = .ok (.aload_n 0, 1) := by decide +kernel
theorem dX9_part_106 : decode cX9_part 106 = .ok (.getfield 35, 3) := by decide +kernel
theorem dX9_part_109 : decode cX9_part 109 = .ok (.iload_n 1, 1) := by decide +kernel
theorem dX9_part_110 : decode cX9_part 110 = .ok (.iaload, 1) := by decide +kernel
theorem dX9_part_111 : decode cX9_part 111 = .ok (.ireturn, 1) := by decide +kernel
theorem dX9_part_112 : decode cX9_part 112 = .ok (.aload_n 0, 1) := by decide +kernel
theorem dX9_part_113 : decode cX9_part 113 = .ok (.getfield 7, 3) := by decide +kernel
theorem dX9_part_116 : decode cX9_part 116 = .ok (.bipush 20, 2) := by decide +kernel
theorem dX9_part_118 : decode cX9_part 118 = .ok (.iload_n 1, 1) := by decide +kernel
theorem dX9_part_119 : decode cX9_part 119 = .ok (.iadd, 1) := by decide +kernel
theorem dX9_part_120 : decode cX9_part 120 = .ok (.iaload, 1) := by decide +kernel
theorem dX9_part_121 : decode cX9_part 121 = .ok (.ireturn, 1) := by decide +kernel
theorem dX9_part_122 : decode cX9_part 122 = .ok (.ldc 93, 2) := by decide +kernel
theorem dX9_part_124 : decode cX9_part 124 = .ok (.ireturn, 1) := by decide +kernel
theorem dX9_scene_0 : decode cX9_scene 0 = .ok (.aload_n 0, 1) := by decide +kernel
theorem dX9_scene_1 : decode cX9_scene 1 = .ok (.iload_n 1, 1) := by decide +kernel
theorem dX9_scene_2 : decode cX9_scene 2 = .ok (.invokevirtual 189, 3) := by decide +kernel
theorem dX9_scene_5 : decode cX9_scene 5 = .ok (.ifCond .ne 6, 3) := by decide +kernel
theorem dX9_scene_8 : decode cX9_scene 8 = .ok (.ldc 188, 2) := by decide +kernel
theorem dX9_scene_10 : decode cX9_scene 10 = .ok (.ireturn, 1) := by decide +kernel
theorem dX9_scene_11 : decode cX9_scene 11 = .ok (.iload_n 2, 1) := by decide +kernel
theorem dX9_scene_12 : decode cX9_scene 12 = .ok (.ifCond .ne 12, 3) := by decide +kernel
theorem dX9_scene_15 : decode cX9_scene 15 = .ok (.aload_n 0, 1) := by decide +kernel
theorem dX9_scene_16 : decode cX9_scene 16 = .ok (.getfield 38, 3) := by decide +kernel
theorem dX9_scene_19 : decode cX9_scene 19 = .ok (.iload_n 1, 1) := by decide +kernel
theorem dX9_scene_20 : decode cX9_scene 20 = .ok (.iaload, 1) := by decide +kernel
theorem dX9_scene_21 : decode cX9_scene 21 = .ok (.goto 33, 3) := by decide +kernel
theorem dX9_scene_24 : decode cX9_scene 24 = .ok (.iload_n 2, 1) := by decide +kernel
theorem dX9_scene_25 : decode cX9_scene 25 = .ok (.iconst 1, 1) := by decide +kernel
theorem dX9_scene_26 : decode cX9_scene 26 = .ok (.if_icmp .ne 12, 3) := by decide +kernel
theorem dX9_scene_29 : decode cX9_scene 29 = .ok (.aload_n 0, 1) := by decide +kernel
theorem dX9_scene_30 : decode cX9_scene 30 = .ok (.getfield 41, 3) := by decide +kernel
theorem dX9_scene_33 : decode cX9_scene 33 = .ok (.iload_n 1, 1) := by decide +kernel
theorem dX9_scene_34 : decode cX9_scene 34 = .ok (.iaload, 1) := by decide +kernel
theorem dX9_scene_35 : decode cX9_scene 35 = .ok (.goto 19, 3) := by decide +kernel
theorem dX9_scene_38 : decode cX9_scene 38 = .ok (.iload_n 2, 1) := by decide +kernel
theorem dX9_scene_39 : decode cX9_scene 39 = .ok (.iconst 2, 1) := by decide +kernel
theorem dX9_scene_40 : decode cX9_scene 40 = .ok (.if_icmp .ne 12, 3) := by decide +kernel
theorem dX9_scene_43 : decode cX9_scene 43 = .ok (.aload_n 0, 1) := by decide +kernel
theorem dX9_scene_44 : decode cX9_scene 44 = .ok (.getfield 44, 3) := by decide +kernel
theorem dX9_scene_47 : decode cX9_scene 47 = .ok (.iload_n 1, 1) := by decide +kernel
theorem dX9_scene_48 : decode cX9_scene 48 = .ok (.iaload, 1) := by decide +kernel
theorem dX9_scene_49 : decode cX9_scene 49 = .ok (.goto 5, 3) := by decide +kernel
theorem dX9_scene_52 : decode cX9_scene 52 = .ok (.ldc 93, 2) := by decide +kernel
theorem dX9_scene_54 : decode cX9_scene 54 = .ok (.ireturn, 1) := by decide +kernel
theorem dX9_look_0 : decode cX9_look 0 = .ok (.iload_n 2, 1) := by decide +kernel
theorem dX9_look_1 : decode cX9_look 1 = .ok (.i2l, 1) := by decide +kernel
theorem dX9_look_2 : decode cX9_look 2 = .ok (.lconst 0, 1) := by decide +kernel
theorem dX9_look_3 : decode cX9_look 3 = .ok (.ldc2_w 192, 3) := by decide +kernel
theorem dX9_look_6 : decode cX9_look 6 = .ok (.invokestatic 89, 3) := by decide +kernel
theorem dX9_look_9 : decode cX9_look 9 = .ok (.ifCond .ne 6, 3) := by decide +kernel
theorem dX9_look_12 : decode cX9_look 12 = .ok (.ldc 93, 2) := by decide +kernel
theorem dX9_look_14 : decode cX9_look 14 = .ok (.ireturn, 1) := by decide +kernel
theorem dX9_look_15 : decode cX9_look 15 = .ok (.iload_n 1, 1) := by decide +kernel
theorem dX9_look_16 : decode cX9_look 16 = .ok (.i2l, 1) := by decide +kernel
theorem dX9_look_17 : decode cX9_look 17 = .ok (.lconst 0, 1) := by decide +kernel
theorem dX9_look_18 : decode cX9_look 18 = .ok (.aload_n 0, 1) := by decide +kernel
theorem dX9_look_19 : decode cX9_look 19 = .ok (.getfield 165, 3) := by decide +kernel
theorem dX9_look_22 : decode cX9_look 22 = .ok (.iconst 1, 1) := by decide +kernel
theorem dX9_look_23 : decode cX9_look 23 = .ok (.isub, 1) := by decide +kernel
theorem dX9_look_24 : decode cX9_look 24 = .ok (.i2l, 1) := by decide +kernel
theorem dX9_look_25 : decode cX9_look 25 = .ok (.invokestatic 89, 3) := by decide +kernel
theorem dX9_look_28 : decode cX9_look 28 = .ok (.ifCond .ne 5, 3) := by decide +kernel
theorem dX9_look_31 : decode cX9_look 31 = .ok (.iconst (-1), 1) := by decide +kernel
theorem dX9_look_32 : decode cX9_look 32 = .ok (.ireturn, 1) := by decide +kernel
theorem dX9_look_33 : decode cX9_look 33 = .ok (.iload_n 2, 1) := by decide +kernel
theorem dX9_look_34 : decode cX9_look 34 = .ok (.ifCond .ne 12, 3) := by decide +kernel
theorem dX9_look_37 : decode cX9_look 37 = .ok (.aload_n 0, 1) := by decide +kernel
theorem dX9_look_38 : decode cX9_look 38 = .ok (.getfield 57, 3) := by decide +kernel
theorem dX9_look_41 : decode cX9_look 41 = .ok (.iload_n 1, 1) := by decide +kernel
theorem dX9_look_42 : decode cX9_look 42 = .ok (.iaload, 1) := by decide +kernel
theorem dX9_look_43 : decode cX9_look 43 = .ok (.goto 24, 3) := by decide +kernel
theorem dX9_look_46 : decode cX9_look 46 = .ok (.aload_n 0, 1) := by decide +kernel
theorem dX9_look_47 : decode cX9_look 47 = .ok (.iload_n 2, 1) := by decide +kernel
theorem dX9_look_48 : decode cX9_look 48 = .ok (.iconst 1, 1) := by decide +kernel
theorem dX9_look_49 : decode cX9_look 49 = .ok (.if_icmp .ne 7, 3) := by decide +kernel
theorem dX9_look_52 : decode cX9_look 52 = .ok (.iconst 0, 1) := by decide +kernel
theorem dX9_look_53 : decode cX9_look 53 = .ok (.goto 5, 3) := by decide +kernel
theorem dX9_look_56 : decode cX9_look 56 = .ok (.bipush 10, 2) := by decide +kernel
theorem dX9_look_58 : decode cX9_look 58 = .ok (.aload_n 0, 1) := by decide +kernel
theorem dX9_look_59 : decode cX9_look 59 = .ok (.getfield 57, 3) := by decide +kernel
theorem dX9_look_62 : decode cX9_look 62 = .ok (.iload_n 1, 1) := by decide +kernel
theorem dX9_look_63 : decode cX9_look 63 = .ok (.iaload, 1) := by decide +kernel
theorem dX9_look_64 : decode cX9_look 64 = .ok (.invokevirtual 171, 3) := by decide +kernel
theorem dX9_look_67 : decode cX9_look 67 = .ok (.ireturn, 1) := by decide +kernel
theorem dX9_law_0 : decode cX9_law 0 = .ok (.iload_n 1, 1) := by decide +kernel
theorem dX9_law_1 : decode cX9_law 1 = .ok (.i2l, 1) := by decide +kernel
theorem dX9_law_2 : decode cX9_law 2 = .ok (.lconst 0, 1) := by decide +kernel
theorem dX9_law_3 : decode cX9_law 3 = .ok (.lconst 1, 1) := by decide +kernel
theorem dX9_law_4 : decode cX9_law 4 = .ok (.invokestatic 89, 3) := by decide +kernel
theorem dX9_law_7 : decode cX9_law 7 = .ok (.ifCond .ne 6, 3) := by decide +kernel
theorem dX9_law_10 : decode cX9_law 10 = .ok (.ldc 93, 2) := by decide +kernel
theorem dX9_law_12 : decode cX9_law 12 = .ok (.ireturn, 1) := by decide +kernel
theorem dX9_law_13 : decode cX9_law 13 = .ok (.aload_n 0, 1) := by decide +kernel
theorem dX9_law_14 : decode cX9_law 14 = .ok (.getfield 7, 3) := by decide +kernel
theorem dX9_law_17 : decode cX9_law 17 = .ok (.bipush 31, 2) := by decide +kernel
theorem dX9_law_19 : decode cX9_law 19 = .ok (.iaload, 1) := by decide +kernel
theorem dX9_law_20 : decode cX9_law 20 = .ok (.istore_n 2, 1) := by decide +kernel
theorem dX9_law_21 : decode cX9_law 21 = .ok (.aload_n 0, 1) := by decide +kernel
theorem dX9_law_22 : decode cX9_law 22 = .ok (.getfield 7, 3) := by decide +kernel
theorem dX9_law_25 : decode cX9_law 25 = .ok (.bipush 31, 2) := by decide +kernel
theorem dX9_law_27 : decode cX9_law 27 = .ok (.iload_n 1, 1) := by decide +kernel
theorem dX9_law_28 : decode cX9_law 28 = .ok (.iastore, 1) := by decide +kernel
theorem dX9_law_29 : decode cX9_law 29 = .ok (.iload_n 2, 1) := by decide +kernel
theorem dX9_law_30 : decode cX9_law 30 = .ok (.ireturn, 1) := by decide +kernel
theorem dX9_price_0 : decode cX9_price 0 = .ok (.aload_n 0, 1) := by decide +kernel
theorem dX9_price_1 : decode cX9_price 1 = .ok (.iload_n 1, 1) := by decide +kernel
theorem dX9_price_2 : decode cX9_price 2 = .ok (.invokevirtual 184, 3) := by decide +kernel
theorem dX9_price_5 : decode cX9_price 5 = .ok (.ifCond .ne 6, 3) := by decide +kernel
theorem dX9_price_8 : decode cX9_price 8 = .ok (.ldc 188, 2) := by decide +kernel
theorem dX9_price_10 : decode cX9_price 10 = .ok (.ireturn, 1) := by decide +kernel
theorem dX9_price_11 : decode cX9_price 11 = .ok (.iload_n 2, 1) := by decide +kernel
theorem dX9_price_12 : decode cX9_price 12 = .ok (.i2l, 1) := by decide +kernel
theorem dX9_price_13 : decode cX9_price 13 = .ok (.lconst 0, 1) := by decide +kernel
theorem dX9_price_14 : decode cX9_price 14 = .ok (.ldc2_w 194, 3) := by decide +kernel
theorem dX9_price_17 : decode cX9_price 17 = .ok (.invokestatic 89, 3) := by decide +kernel
theorem dX9_price_20 : decode cX9_price 20 = .ok (.ifCond .ne 6, 3) := by decide +kernel
theorem dX9_price_23 : decode cX9_price 23 = .ok (.ldc 93, 2) := by decide +kernel
theorem dX9_price_25 : decode cX9_price 25 = .ok (.ireturn, 1) := by decide +kernel
theorem dX9_price_26 : decode cX9_price 26 = .ok (.aload_n 0, 1) := by decide +kernel
theorem dX9_price_27 : decode cX9_price 27 = .ok (.getfield 7, 3) := by decide +kernel
theorem dX9_price_30 : decode cX9_price 30 = .ok (.bipush 10, 2) := by decide +kernel
theorem dX9_price_32 : decode cX9_price 32 = .ok (.iload_n 1, 1) := by decide +kernel
theorem dX9_price_33 : decode cX9_price 33 = .ok (.iadd, 1) := by decide +kernel
theorem dX9_price_34 : decode cX9_price 34 = .ok (.iaload, 1) := by decide +kernel
theorem dX9_price_35 : decode cX9_price 35 = .ok (.istore_n 3, 1) := by decide +kernel
theorem dX9_price_36 : decode cX9_price 36 = .ok (.aload_n 0, 1) := by decide +kernel
theorem dX9_price_37 : decode cX9_price 37 = .ok (.getfield 7, 3) := by decide +kernel
theorem dX9_price_40 : decode cX9_price 40 = .ok (.bipush 10, 2) := by decide +kernel
theorem dX9_price_42 : decode cX9_price 42 = .ok (.iload_n 1, 1) := by decide +kernel
theorem dX9_price_43 : decode cX9_price 43 = .ok (.iadd, 1) := by decide +kernel
theorem dX9_price_44 : decode cX9_price 44 = .ok (.iload_n 2, 1) := by decide +kernel
theorem dX9_price_45 : decode cX9_price 45 = .ok (.iastore, 1) := by decide +kernel
theorem dX9_price_46 : decode cX9_price 46 = .ok (.iload_n 3, 1) := by decide +kernel
theorem dX9_price_47 : decode cX9_price 47 = .ok (.ireturn, 1) := by decide +kernel
theorem dX9_width_0 : decode cX9_width 0 = .ok (.aload_n 0, 1) := by decide +kernel
theorem dX9_width_1 : decode cX9_width 1 = .ok (.iload_n 1, 1) := by decide +kernel
theorem dX9_width_2 : decode cX9_width 2 = .ok (.invokevirtual 184, 3) := by decide +kernel
theorem dX9_width_5 : decode cX9_width 5 = .ok (.ifCond .ne 6, 3) := by decide +kernel
theorem dX9_width_8 : decode cX9_width 8 = .ok (.ldc 188, 2) := by decide +kernel
theorem dX9_width_10 : decode cX9_width 10 = .ok (.ireturn, 1) := by decide +kernel
theorem dX9_width_11 : decode cX9_width 11 = .ok (.iload_n 2, 1) := by decide +kernel
theorem dX9_width_12 : decode cX9_width 12 = .ok (.i2l, 1) := by decide +kernel
theorem dX9_width_13 : decode cX9_width 13 = .ok (.lconst 0, 1) := by decide +kernel
theorem dX9_width_14 : decode cX9_width 14 = .ok (.ldc2_w 196, 3) := by decide +kernel
theorem dX9_width_17 : decode cX9_width 17 = .ok (.invokestatic 89, 3) := by decide +kernel
theorem dX9_width_20 : decode cX9_width 20 = .ok (.ifCond .ne 6, 3) := by decide +kernel
theorem dX9_width_23 : decode cX9_width 23 = .ok (.ldc 93, 2) := by decide +kernel
theorem dX9_width_25 : decode cX9_width 25 = .ok (.ireturn, 1) := by decide +kernel
theorem dX9_width_26 : decode cX9_width 26 = .ok (.aload_n 0, 1) := by decide +kernel
theorem dX9_width_27 : decode cX9_width 27 = .ok (.getfield 7, 3) := by decide +kernel
theorem dX9_width_30 : decode cX9_width 30 = .ok (.iload_n 1, 1) := by decide +kernel
theorem dX9_width_31 : decode cX9_width 31 = .ok (.iaload, 1) := by decide +kernel
theorem dX9_width_32 : decode cX9_width 32 = .ok (.istore_n 3, 1) := by decide +kernel
theorem dX9_width_33 : decode cX9_width 33 = .ok (.aload_n 0, 1) := by decide +kernel
theorem dX9_width_34 : decode cX9_width 34 = .ok (.getfield 7, 3) := by decide +kernel
theorem dX9_width_37 : decode cX9_width 37 = .ok (.iload_n 1, 1) := by decide +kernel
theorem dX9_width_38 : decode cX9_width 38 = .ok (.iload_n 2, 1) := by decide +kernel
theorem dX9_width_39 : decode cX9_width 39 = .ok (.iastore, 1) := by decide +kernel
theorem dX9_width_40 : decode cX9_width 40 = .ok (.iload_n 3, 1) := by decide +kernel
theorem dX9_width_41 : decode cX9_width 41 = .ok (.ireturn, 1) := by decide +kernel
theorem dX9_isFor_0 : decode cX9_isFor 0 = .ok (.aload_n 0, 1) := by decide +kernel
theorem dX9_isFor_1 : decode cX9_isFor 1 = .ok (.iload_n 2, 1) := by decide +kernel
theorem dX9_isFor_2 : decode cX9_isFor 2 = .ok (.aload_n 0, 1) := by decide +kernel
theorem dX9_isFor_3 : decode cX9_isFor 3 = .ok (.getfield 38, 3) := by decide +kernel
theorem dX9_isFor_6 : decode cX9_isFor 6 = .ok (.iload_n 3, 1) := by decide +kernel
theorem dX9_isFor_7 : decode cX9_isFor 7 = .ok (.iaload, 1) := by decide +kernel
theorem dX9_isFor_8 : decode cX9_isFor 8 = .ok (.invokevirtual 198, 3) := by decide +kernel
theorem dX9_isFor_11 : decode cX9_isFor 11 = .ok (.ifCond .eq 34, 3) := by decide +kernel
theorem dX9_isFor_14 : decode cX9_isFor 14 = .ok (.aload_n 0, 1) := by decide +kernel
theorem dX9_isFor_15 : decode cX9_isFor 15 = .ok (.iload_n 1, 1) := by decide +kernel
theorem dX9_isFor_16 : decode cX9_isFor 16 = .ok (.iload_n 2, 1) := by decide +kernel
theorem dX9_isFor_17 : decode cX9_isFor 17 = .ok (.invokevirtual 171, 3) := by decide +kernel
theorem dX9_isFor_20 : decode cX9_isFor 20 = .ok (.i2l, 1) := by decide +kernel
theorem dX9_isFor_21 : decode cX9_isFor 21 = .ok (.aload_n 0, 1) := by decide +kernel
theorem dX9_isFor_22 : decode cX9_isFor 22 = .ok (.getfield 41, 3) := by decide +kernel
theorem dX9_isFor_25 : decode cX9_isFor 25 = .ok (.iload_n 3, 1) := by decide +kernel
theorem dX9_isFor_26 : decode cX9_isFor 26 = .ok (.iaload, 1) := by decide +kernel
theorem dX9_isFor_27 : decode cX9_isFor 27 = .ok (.i2l, 1) := by decide +kernel
theorem dX9_isFor_28 : decode cX9_isFor 28 = .ok (.aload_n 0, 1) := by decide +kernel
theorem dX9_isFor_29 : decode cX9_isFor 29 = .ok (.getfield 44, 3) := by decide +kernel
theorem dX9_isFor_32 : decode cX9_isFor 32 = .ok (.iload_n 3, 1) := by decide +kernel
theorem dX9_isFor_33 : decode cX9_isFor 33 = .ok (.iaload, 1) := by decide +kernel
theorem dX9_isFor_34 : decode cX9_isFor 34 = .ok (.i2l, 1) := by decide +kernel
theorem dX9_isFor_35 : decode cX9_isFor 35 = .ok (.invokestatic 89, 3) := by decide +kernel
theorem dX9_isFor_38 : decode cX9_isFor 38 = .ok (.ifCond .eq 7, 3) := by decide +kernel
theorem dX9_isFor_41 : decode cX9_isFor 41 = .ok (.iconst 1, 1) := by decide +kernel
theorem dX9_isFor_42 : decode cX9_isFor 42 = .ok (.goto 4, 3) := by decide +kernel
theorem dX9_isFor_45 : decode cX9_isFor 45 = .ok (.iconst 0, 1) := by decide +kernel
theorem dX9_isFor_46 : decode cX9_isFor 46 = .ok (.ireturn, 1) := by decide +kernel
theorem dX9_cheapest_0 : decode cX9_cheapest 0 = .ok (.aload_n 0, 1) := by decide +kernel
theorem dX9_cheapest_1 : decode cX9_cheapest 1 = .ok (.iload_n 1, 1) := by decide +kernel
theorem dX9_cheapest_2 : decode cX9_cheapest 2 = .ok (.invokevirtual 189, 3) := by decide +kernel
theorem dX9_cheapest_5 : decode cX9_cheapest 5 = .ok (.ifCond .ne 6, 3) := by decide +kernel
theorem dX9_cheapest_8 : decode cX9_cheapest 8 = .ok (.ldc 188, 2) := by decide +kernel
theorem dX9_cheapest_10 : decode cX9_cheapest 10 = .ok (.ireturn, 1) := by decide +kernel
theorem dX9_cheapest_11 : decode cX9_cheapest 11 = .ok (.iload_n 2, 1) := by decide +kernel
theorem dX9_cheapest_12 : decode cX9_cheapest 12 = .ok (.i2l, 1) := by decide +kernel
theorem dX9_cheapest_13 : decode cX9_cheapest 13 = .ok (.lconst 0, 1) := by decide +kernel
theorem dX9_cheapest_14 : decode cX9_cheapest 14 = .ok (.lconst 1, 1) := by decide +kernel
theorem dX9_cheapest_15 : decode cX9_cheapest 15 = .ok (.invokestatic 89, 3) := by decide +kernel
theorem dX9_cheapest_18 : decode cX9_cheapest 18 = .ok (.ifCond .ne 6, 3) := by decide +kernel
theorem dX9_cheapest_21 : decode cX9_cheapest 21 = .ok (.ldc 93, 2) := by decide +kernel
theorem dX9_cheapest_23 : decode cX9_cheapest 23 = .ok (.ireturn, 1) := by decide +kernel
theorem dX9_cheapest_24 : decode cX9_cheapest 24 = .ok (.iconst (-1), 1) := by decide +kernel
theorem dX9_cheapest_25 : decode cX9_cheapest 25 = .ok (.istore_n 3, 1) := by decide +kernel
theorem dX9_cheapest_26 : decode cX9_cheapest 26 = .ok (.iconst 0, 1) := by decide +kernel
theorem dX9_cheapest_27 : decode cX9_cheapest 27 = .ok (.istore 4, 2) := by decide +kernel
theorem dX9_cheapest_29 : decode cX9_cheapest 29 = .ok (.iload 4, 2) := by decide +kernel
theorem dX9_cheapest_31 : decode cX9_cheapest 31 = .ok (.aload_n 0, 1) := by decide +kernel
theorem dX9_cheapest_32 : decode cX9_cheapest 32 = .ok (.getfield 165, 3) := by decide +kernel
theorem dX9_cheapest_35 : decode cX9_cheapest 35 = .ok (.if_icmp .ge 68, 3) := by decide +kernel
theorem dX9_cheapest_38 : decode cX9_cheapest 38 = .ok (.aload_n 0, 1) := by decide +kernel
theorem dX9_cheapest_39 : decode cX9_cheapest 39 = .ok (.iconst 0, 1) := by decide +kernel
theorem dX9_cheapest_40 : decode cX9_cheapest 40 = .ok (.aload_n 0, 1) := by decide +kernel
theorem dX9_cheapest_41 : decode cX9_cheapest 41 = .ok (.getfield 57, 3) := by decide +kernel
theorem dX9_cheapest_44 : decode cX9_cheapest 44 = .ok (.iload 4, 2) := by decide +kernel
theorem dX9_cheapest_46 : decode cX9_cheapest 46 = .ok (.iaload, 1) := by decide +kernel
theorem dX9_cheapest_47 : decode cX9_cheapest 47 = .ok (.iload_n 1, 1) := by decide +kernel
theorem dX9_cheapest_48 : decode cX9_cheapest 48 = .ok (.invokevirtual 201, 3) := by decide +kernel
theorem dX9_cheapest_51 : decode cX9_cheapest 51 = .ok (.istore 5, 2) := by decide +kernel
theorem dX9_cheapest_53 : decode cX9_cheapest 53 = .ok (.iload 5, 2) := by decide +kernel
theorem dX9_cheapest_55 : decode cX9_cheapest 55 = .ok (.ifCond .eq 40, 3) := by decide +kernel
theorem dX9_cheapest_58 : decode cX9_cheapest 58 = .ok (.iload_n 3, 1) := by decide +kernel
theorem dX9_cheapest_59 : decode cX9_cheapest 59 = .ok (.ifCond .lt 31, 3) := by decide +kernel
theorem dX9_cheapest_62 : decode cX9_cheapest 62 = .ok (.aload_n 0, 1) := by decide +kernel
theorem dX9_cheapest_63 : decode cX9_cheapest 63 = .ok (.bipush 10, 2) := by decide +kernel
theorem dX9_cheapest_65 : decode cX9_cheapest 65 = .ok (.aload_n 0, 1) := by decide +kernel
theorem dX9_cheapest_66 : decode cX9_cheapest 66 = .ok (.getfield 57, 3) := by decide +kernel
theorem dX9_cheapest_69 : decode cX9_cheapest 69 = .ok (.iload 4, 2) := by decide +kernel
theorem dX9_cheapest_71 : decode cX9_cheapest 71 = .ok (.iaload, 1) := by decide +kernel
theorem dX9_cheapest_72 : decode cX9_cheapest 72 = .ok (.invokevirtual 171, 3) := by decide +kernel
theorem dX9_cheapest_75 : decode cX9_cheapest 75 = .ok (.aload_n 0, 1) := by decide +kernel
theorem dX9_cheapest_76 : decode cX9_cheapest 76 = .ok (.bipush 10, 2) := by decide +kernel
theorem dX9_cheapest_78 : decode cX9_cheapest 78 = .ok (.aload_n 0, 1) := by decide +kernel
theorem dX9_cheapest_79 : decode cX9_cheapest 79 = .ok (.getfield 57, 3) := by decide +kernel
theorem dX9_cheapest_82 : decode cX9_cheapest 82 = .ok (.iload_n 3, 1) := by decide +kernel
theorem dX9_cheapest_83 : decode cX9_cheapest 83 = .ok (.iaload, 1) := by decide +kernel
theorem dX9_cheapest_84 : decode cX9_cheapest 84 = .ok (.invokevirtual 171, 3) := by decide +kernel
theorem dX9_cheapest_87 : decode cX9_cheapest 87 = .ok (.if_icmp .ge 8, 3) := by decide +kernel
theorem dX9_cheapest_90 : decode cX9_cheapest 90 = .ok (.iload 4, 2) := by decide +kernel
theorem dX9_cheapest_92 : decode cX9_cheapest 92 = .ok (.goto 4, 3) := by decide +kernel
theorem dX9_cheapest_95 : decode cX9_cheapest 95 = .ok (.iload_n 3, 1) := by decide +kernel
theorem dX9_cheapest_96 : decode cX9_cheapest 96 = .ok (.istore_n 3, 1) := by decide +kernel
theorem dX9_cheapest_97 : decode cX9_cheapest 97 = .ok (.iinc 4 1, 3) := by decide +kernel
theorem dX9_cheapest_100 : decode cX9_cheapest 100 = .ok (.goto (-71), 3) := by decide +kernel
theorem dX9_cheapest_103 : decode cX9_cheapest 103 = .ok (.iload_n 3, 1) := by decide +kernel
theorem dX9_cheapest_104 : decode cX9_cheapest 104 = .ok (.ifCond .ge 7, 3) := by decide +kernel
theorem dX9_cheapest_107 : decode cX9_cheapest 107 = .ok (.iconst (-1), 1) := by decide +kernel
theorem dX9_cheapest_108 : decode cX9_cheapest 108 = .ok (.goto 28, 3) := by decide +kernel
theorem dX9_cheapest_111 : decode cX9_cheapest 111 = .ok (.iload_n 2, 1) := by decide +kernel
theorem dX9_cheapest_112 : decode cX9_cheapest 112 = .ok (.ifCond .ne 12, 3) := by decide +kernel
theorem dX9_cheapest_115 : decode cX9_cheapest 115 = .ok (.aload_n 0, 1) := by decide +kernel
theorem dX9_cheapest_116 : decode cX9_cheapest 116 = .ok (.getfield 57, 3) := by decide +kernel
theorem dX9_cheapest_119 : decode cX9_cheapest 119 = .ok (.iload_n 3, 1) := by decide +kernel
theorem dX9_cheapest_120 : decode cX9_cheapest 120 = .ok (.iaload, 1) := by decide +kernel
theorem dX9_cheapest_121 : decode cX9_cheapest 121 = .ok (.goto 15, 3) := by decide +kernel
theorem dX9_cheapest_124 : decode cX9_cheapest 124 = .ok (.aload_n 0, 1) := by decide +kernel
theorem dX9_cheapest_125 : decode cX9_cheapest 125 = .ok (.bipush 10, 2) := by decide +kernel
theorem dX9_cheapest_127 : decode cX9_cheapest 127 = .ok (.aload_n 0, 1) := by decide +kernel
theorem dX9_cheapest_128 : decode cX9_cheapest 128 = .ok (.getfield 57, 3) := by decide +kernel
theorem dX9_cheapest_131 : decode cX9_cheapest 131 = .ok (.iload_n 3, 1) := by decide +kernel
theorem dX9_cheapest_132 : decode cX9_cheapest 132 = .ok (.iaload, 1) := by decide +kernel
theorem dX9_cheapest_133 : decode cX9_cheapest 133 = .ok (.invokevirtual 171, 3) := by decide +kernel
theorem dX9_cheapest_136 : decode cX9_cheapest 136 = .ok (.ireturn, 1) := by decide +kernel
theorem dX9_findSets_0 : decode cX9_findSets 0 = .ok (.iconst 0, 1) := by decide +kernel
theorem dX9_findSets_1 : decode cX9_findSets 1 = .ok (.istore_n 3, 1) := by decide +kernel
theorem dX9_findSets_2 : decode cX9_findSets 2 = .ok (.iload_n 3, 1) := by decide +kernel
theorem dX9_findSets_3 : decode cX9_findSets 3 = .ok (.sipush 1024, 3) := by decide +kernel
theorem dX9_findSets_6 : decode cX9_findSets 6 = .ok (.if_icmp .ge 24, 3) := by decide +kernel
theorem dX9_findSets_9 : decode cX9_findSets 9 = .ok (.aload_n 0, 1) := by decide +kernel
theorem dX9_findSets_10 : decode cX9_findSets 10 = .ok (.getfield 69, 3) := by decide +kernel
theorem dX9_findSets_13 : decode cX9_findSets 13 = .ok (.iload_n 3, 1) := by decide +kernel
theorem dX9_findSets_14 : decode cX9_findSets 14 = .ok (.iload_n 3, 1) := by decide +kernel
theorem dX9_findSets_15 : decode cX9_findSets 15 = .ok (.ifCond .ne 7, 3) := by decide +kernel
theorem dX9_findSets_18 : decode cX9_findSets 18 = .ok (.iconst 1, 1) := by decide +kernel
theorem dX9_findSets_19 : decode cX9_findSets 19 = .ok (.goto 4, 3) := by decide +kernel
theorem dX9_findSets_22 : decode cX9_findSets 22 = .ok (.iconst 0, 1) := by decide +kernel
theorem dX9_findSets_23 : decode cX9_findSets 23 = .ok (.bastore, 1) := by decide +kernel
theorem dX9_findSets_24 : decode cX9_findSets 24 = .ok (.iinc 3 1, 3) := by decide +kernel
theorem dX9_findSets_27 : decode cX9_findSets 27 = .ok (.goto (-25), 3) := by decide +kernel
theorem dX9_findSets_30 : decode cX9_findSets 30 = .ok (.iconst 0, 1) := by decide +kernel
theorem dX9_findSets_31 : decode cX9_findSets 31 = .ok (.istore_n 3, 1) := by decide +kernel
theorem dX9_findSets_32 : decode cX9_findSets 32 = .ok (.iload_n 3, 1) := by decide +kernel
theorem dX9_findSets_33 : decode cX9_findSets 33 = .ok (.aload_n 0, 1) := by decide +kernel
theorem dX9_findSets_34 : decode cX9_findSets 34 = .ok (.getfield 47, 3) := by decide +kernel
theorem dX9_findSets_37 : decode cX9_findSets 37 = .ok (.iconst 1, 1) := by decide +kernel
theorem dX9_findSets_38 : decode cX9_findSets 38 = .ok (.iaload, 1) := by decide +kernel
theorem dX9_findSets_39 : decode cX9_findSets 39 = .ok (.if_icmp .ge 25, 3) := by decide +kernel
theorem dX9_findSets_42 : decode cX9_findSets 42 = .ok (.aload_n 0, 1) := by decide +kernel
theorem dX9_findSets_43 : decode cX9_findSets 43 = .ok (.getfield 38, 3) := by decide +kernel
theorem dX9_findSets_46 : decode cX9_findSets 46 = .ok (.iload_n 3, 1) := by decide +kernel
theorem dX9_findSets_47 : decode cX9_findSets 47 = .ok (.iaload, 1) := by decide +kernel
theorem dX9_findSets_48 : decode cX9_findSets 48 = .ok (.iload_n 2, 1) := by decide +kernel
theorem dX9_findSets_49 : decode cX9_findSets 49 = .ok (.if_icmp .ne 9, 3) := by decide +kernel
theorem dX9_findSets_52 : decode cX9_findSets 52 = .ok (.aload_n 0, 1) := by decide +kernel
theorem dX9_findSets_53 : decode cX9_findSets 53 = .ok (.iload_n 1, 1) := by decide +kernel
theorem dX9_findSets_54 : decode cX9_findSets 54 = .ok (.iload_n 3, 1) := by decide +kernel
theorem dX9_findSets_55 : decode cX9_findSets 55 = .ok (.invokevirtual 205, 3) := by decide +kernel
theorem dX9_findSets_58 : decode cX9_findSets 58 = .ok (.iinc 3 1, 3) := by decide +kernel
theorem dX9_findSets_61 : decode cX9_findSets 61 = .ok (.goto (-29), 3) := by decide +kernel
theorem dX9_findSets_64 : decode cX9_findSets 64 = .ok (.iconst 0, 1) := by decide +kernel
theorem dX9_findSets_65 : decode cX9_findSets 65 = .ok (.istore_n 3, 1) := by decide +kernel
theorem dX9_findSets_66 : decode cX9_findSets 66 = .ok (.iload_n 3, 1) := by decide +kernel
theorem dX9_findSets_67 : decode cX9_findSets 67 = .ok (.sipush 1024, 3) := by decide +kernel
theorem dX9_findSets_70 : decode cX9_findSets 70 = .ok (.if_icmp .ge 27, 3) := by decide +kernel
theorem dX9_findSets_73 : decode cX9_findSets 73 = .ok (.aload_n 0, 1) := by decide +kernel
theorem dX9_findSets_74 : decode cX9_findSets 74 = .ok (.getfield 60, 3) := by decide +kernel
theorem dX9_findSets_77 : decode cX9_findSets 77 = .ok (.sipush 1024, 3) := by decide +kernel
theorem dX9_findSets_80 : decode cX9_findSets 80 = .ok (.iload_n 2, 1) := by decide +kernel
theorem dX9_findSets_81 : decode cX9_findSets 81 = .ok (.imul, 1) := by decide +kernel
theorem dX9_findSets_82 : decode cX9_findSets 82 = .ok (.iload_n 3, 1) := by decide +kernel
theorem dX9_findSets_83 : decode cX9_findSets 83 = .ok (.iadd, 1) := by decide +kernel
theorem dX9_findSets_84 : decode cX9_findSets 84 = .ok (.aload_n 0, 1) := by decide +kernel
theorem dX9_findSets_85 : decode cX9_findSets 85 = .ok (.getfield 69, 3) := by decide +kernel
theorem dX9_findSets_88 : decode cX9_findSets 88 = .ok (.iload_n 3, 1) := by decide +kernel
theorem dX9_findSets_89 : decode cX9_findSets 89 = .ok (.baload, 1) := by decide +kernel
theorem dX9_findSets_90 : decode cX9_findSets 90 = .ok (.bastore, 1) := by decide +kernel
theorem dX9_findSets_91 : decode cX9_findSets 91 = .ok (.iinc 3 1, 3) := by decide +kernel
theorem dX9_findSets_94 : decode cX9_findSets 94 = .ok (.goto (-28), 3) := by decide +kernel
theorem dX9_findSets_97 : decode cX9_findSets 97 = .ok (.return_, 1) := by decide +kernel
theorem dX9_addScene_0 : decode cX9_addScene 0 = .ok (.iconst 0, 1) := by decide +kernel
theorem dX9_addScene_1 : decode cX9_addScene 1 = .ok (.istore_n 3, 1) := by decide +kernel
theorem dX9_addScene_2 : decode cX9_addScene 2 = .ok (.iload_n 3, 1) := by decide +kernel
theorem dX9_addScene_3 : decode cX9_addScene 3 = .ok (.sipush 1024, 3) := by decide +kernel
theorem dX9_addScene_6 : decode cX9_addScene 6 = .ok (.if_icmp .ge 28, 3) := by decide +kernel
theorem dX9_addScene_9 : decode cX9_addScene 9 = .ok (.aload_n 0, 1) := by decide +kernel
theorem dX9_addScene_10 : decode cX9_addScene 10 = .ok (.getfield 66, 3) := by decide +kernel
theorem dX9_addScene_13 : decode cX9_addScene 13 = .ok (.iload_n 3, 1) := by decide +kernel
theorem dX9_addScene_14 : decode cX9_addScene 14 = .ok (.aload_n 0, 1) := by decide +kernel
theorem dX9_addScene_15 : decode cX9_addScene 15 = .ok (.getfield 69, 3) := by decide +kernel
theorem dX9_addScene_18 : decode cX9_addScene 18 = .ok (.iload_n 3, 1) := by decide +kernel
theorem dX9_addScene_19 : decode cX9_addScene 19 = .ok (.baload, 1) := by decide +kernel
theorem dX9_addScene_20 : decode cX9_addScene 20 = .ok (.bastore, 1) := by decide +kernel
theorem dX9_addScene_21 : decode cX9_addScene 21 = .ok (.aload_n 0, 1) := by decide +kernel
theorem dX9_addScene_22 : decode cX9_addScene 22 = .ok (.getfield 69, 3) := by decide +kernel
theorem dX9_addScene_25 : decode cX9_addScene 25 = .ok (.iload_n 3, 1) := by decide +kernel
theorem dX9_addScene_26 : decode cX9_addScene 26 = .ok (.iconst 0, 1) := by decide +kernel
theorem dX9_addScene_27 : decode cX9_addScene 27 = .ok (.bastore, 1) := by decide +kernel
theorem dX9_addScene_28 : decode cX9_addScene 28 = .ok (.iinc 3 1, 3) := by decide +kernel
theorem dX9_addScene_31 : decode cX9_addScene 31 = .ok (.goto (-29), 3) := by decide +kernel
theorem dX9_addScene_34 : decode cX9_addScene 34 = .ok (.iconst 0, 1) := by decide +kernel
theorem dX9_addScene_35 : decode cX9_addScene 35 = .ok (.istore_n 3, 1) := by decide +kernel
theorem dX9_addScene_36 : decode cX9_addScene 36 = .ok (.iload_n 3, 1) := by decide +kernel
theorem dX9_addScene_37 : decode cX9_addScene 37 = .ok (.aload_n 0, 1) := by decide +kernel
theorem dX9_addScene_38 : decode cX9_addScene 38 = .ok (.getfield 165, 3) := by decide +kernel
theorem dX9_addScene_41 : decode cX9_addScene 41 = .ok (.if_icmp .ge 78, 3) := by decide +kernel
theorem dX9_addScene_44 : decode cX9_addScene 44 = .ok (.aload_n 0, 1) := by decide +kernel
theorem dX9_addScene_45 : decode cX9_addScene 45 = .ok (.iload_n 1, 1) := by decide +kernel
theorem dX9_addScene_46 : decode cX9_addScene 46 = .ok (.aload_n 0, 1) := by decide +kernel
theorem dX9_addScene_47 : decode cX9_addScene 47 = .ok (.getfield 57, 3) := by decide +kernel
theorem dX9_addScene_50 : decode cX9_addScene 50 = .ok (.iload_n 3, 1) := by decide +kernel
theorem dX9_addScene_51 : decode cX9_addScene 51 = .ok (.iaload, 1) := by decide +kernel
theorem dX9_addScene_52 : decode cX9_addScene 52 = .ok (.iload_n 2, 1) := by decide +kernel
theorem dX9_addScene_53 : decode cX9_addScene 53 = .ok (.invokevirtual 201, 3) := by decide +kernel
theorem dX9_addScene_56 : decode cX9_addScene 56 = .ok (.ifCond .eq 57, 3) := by decide +kernel
theorem dX9_addScene_59 : decode cX9_addScene 59 = .ok (.iconst 0, 1) := by decide +kernel
theorem dX9_addScene_60 : decode cX9_addScene 60 = .ok (.istore 4, 2) := by decide +kernel
theorem dX9_addScene_62 : decode cX9_addScene 62 = .ok (.iload 4, 2) := by decide +kernel
theorem dX9_addScene_64 : decode cX9_addScene 64 = .ok (.sipush 1024, 3) := by decide +kernel
theorem dX9_addScene_67 : decode cX9_addScene 67 = .ok (.if_icmp .ge 46, 3) := by decide +kernel
theorem dX9_addScene_70 : decode cX9_addScene 70 = .ok (.aload_n 0, 1) := by decide +kernel
theorem dX9_addScene_71 : decode cX9_addScene 71 = .ok (.getfield 66, 3) := by decide +kernel
theorem dX9_addScene_74 : decode cX9_addScene 74 = .ok (.iload 4, 2) := by decide +kernel
theorem dX9_addScene_76 : decode cX9_addScene 76 = .ok (.baload, 1) := by decide +kernel
theorem dX9_addScene_77 : decode cX9_addScene 77 = .ok (.ifCond .eq 30, 3) := by decide +kernel
theorem dX9_addScene_80 : decode cX9_addScene 80 = .ok (.iload 4, 2) := by decide +kernel
theorem dX9_addScene_82 : decode cX9_addScene 82 = .ok (.aload_n 0, 1) := by decide +kernel
theorem dX9_addScene_83 : decode cX9_addScene 83 = .ok (.getfield 57, 3) := by decide +kernel
theorem dX9_addScene_86 : decode cX9_addScene 86 = .ok (.iload_n 3, 1) := by decide +kernel
theorem dX9_addScene_87 : decode cX9_addScene 87 = .ok (.iaload, 1) := by decide +kernel
theorem dX9_addScene_88 : decode cX9_addScene 88 = .ok (.iand, 1) := by decide +kernel
theorem dX9_addScene_89 : decode cX9_addScene 89 = .ok (.ifCond .ne 18, 3) := by decide +kernel
theorem dX9_addScene_92 : decode cX9_addScene 92 = .ok (.aload_n 0, 1) := by decide +kernel
theorem dX9_addScene_93 : decode cX9_addScene 93 = .ok (.getfield 69, 3) := by decide +kernel
theorem dX9_addScene_96 : decode cX9_addScene 96 = .ok (.iload 4, 2) := by decide +kernel
theorem dX9_addScene_98 : decode cX9_addScene 98 = .ok (.aload_n 0, 1) := by decide +kernel
theorem dX9_addScene_99 : decode cX9_addScene 99 = .ok (.getfield 57, 3) := by decide +kernel
theorem dX9_addScene_102 : decode cX9_addScene 102 = .ok (.iload_n 3, 1) := by decide +kernel
theorem dX9_addScene_103 : decode cX9_addScene 103 = .ok (.iaload, 1) := by decide +kernel
theorem dX9_addScene_104 : decode cX9_addScene 104 = .ok (.ior, 1) := by decide +kernel
theorem dX9_addScene_105 : decode cX9_addScene 105 = .ok (.iconst 1, 1) := by decide +kernel
theorem dX9_addScene_106 : decode cX9_addScene 106 = .ok (.bastore, 1) := by decide +kernel
theorem dX9_addScene_107 : decode cX9_addScene 107 = .ok (.iinc 4 1, 3) := by decide +kernel
theorem dX9_addScene_110 : decode cX9_addScene 110 = .ok (.goto (-48), 3) := by decide +kernel
theorem dX9_addScene_113 : decode cX9_addScene 113 = .ok (.iinc 3 1, 3) := by decide +kernel
theorem dX9_addScene_116 : decode cX9_addScene 116 = .ok (.goto (-80), 3) := by decide +kernel
theorem dX9_addScene_119 : decode cX9_addScene 119 = .ok (.return_, 1) := by decide +kernel
theorem dX9_best_0 : decode cX9_best 0 = .ok (.ldc 209, 2) := by decide +kernel
theorem dX9_best_2 : decode cX9_best 2 = .ok (.istore 4, 2) := by decide +kernel
theorem dX9_best_4 : decode cX9_best 4 = .ok (.iconst 0, 1) := by decide +kernel
theorem dX9_best_5 : decode cX9_best 5 = .ok (.istore 5, 2) := by decide +kernel
theorem dX9_best_7 : decode cX9_best 7 = .ok (.iload 5, 2) := by decide +kernel
theorem dX9_best_9 : decode cX9_best 9 = .ok (.sipush 1024, 3) := by decide +kernel
theorem dX9_best_12 : decode cX9_best 12 = .ok (.if_icmp .ge 104, 3) := by decide +kernel
theorem dX9_best_15 : decode cX9_best 15 = .ok (.aload_n 0, 1) := by decide +kernel
theorem dX9_best_16 : decode cX9_best 16 = .ok (.getfield 60, 3) := by decide +kernel
theorem dX9_best_19 : decode cX9_best 19 = .ok (.sipush 1024, 3) := by decide +kernel
theorem dX9_best_22 : decode cX9_best 22 = .ok (.iload_n 2, 1) := by decide +kernel
theorem dX9_best_23 : decode cX9_best 23 = .ok (.imul, 1) := by decide +kernel
theorem dX9_best_24 : decode cX9_best 24 = .ok (.iload 5, 2) := by decide +kernel
theorem dX9_best_26 : decode cX9_best 26 = .ok (.iadd, 1) := by decide +kernel
theorem dX9_best_27 : decode cX9_best 27 = .ok (.baload, 1) := by decide +kernel
theorem dX9_best_28 : decode cX9_best 28 = .ok (.ifCond .eq 82, 3) := by decide +kernel
theorem dX9_best_31 : decode cX9_best 31 = .ok (.aload_n 0, 1) := by decide +kernel
theorem dX9_best_32 : decode cX9_best 32 = .ok (.getfield 7, 3) := by decide +kernel
theorem dX9_best_35 : decode cX9_best 35 = .ok (.iload_n 1, 1) := by decide +kernel
theorem dX9_best_36 : decode cX9_best 36 = .ok (.bipush 31, 2) := by decide +kernel
theorem dX9_best_38 : decode cX9_best 38 = .ok (.iadd, 1) := by decide +kernel
theorem dX9_best_39 : decode cX9_best 39 = .ok (.iaload, 1) := by decide +kernel
theorem dX9_best_40 : decode cX9_best 40 = .ok (.ifCond .eq 10, 3) := by decide +kernel
theorem dX9_best_43 : decode cX9_best 43 = .ok (.iload 5, 2) := by decide +kernel
theorem dX9_best_45 : decode cX9_best 45 = .ok (.iload_n 3, 1) := by decide +kernel
theorem dX9_best_46 : decode cX9_best 46 = .ok (.iand, 1) := by decide +kernel
theorem dX9_best_47 : decode cX9_best 47 = .ok (.ifCond .ne 63, 3) := by decide +kernel
theorem dX9_best_50 : decode cX9_best 50 = .ok (.aload_n 0, 1) := by decide +kernel
theorem dX9_best_51 : decode cX9_best 51 = .ok (.iload_n 1, 1) := by decide +kernel
theorem dX9_best_52 : decode cX9_best 52 = .ok (.bipush 10, 2) := by decide +kernel
theorem dX9_best_54 : decode cX9_best 54 = .ok (.iadd, 1) := by decide +kernel
theorem dX9_best_55 : decode cX9_best 55 = .ok (.iload 5, 2) := by decide +kernel
theorem dX9_best_57 : decode cX9_best 57 = .ok (.invokevirtual 171, 3) := by decide +kernel
theorem dX9_best_60 : decode cX9_best 60 = .ok (.aload_n 0, 1) := by decide +kernel
theorem dX9_best_61 : decode cX9_best 61 = .ok (.getfield 63, 3) := by decide +kernel
theorem dX9_best_64 : decode cX9_best 64 = .ok (.sipush 1024, 3) := by decide +kernel
theorem dX9_best_67 : decode cX9_best 67 = .ok (.iload_n 2, 1) := by decide +kernel
theorem dX9_best_68 : decode cX9_best 68 = .ok (.iconst 1, 1) := by decide +kernel
theorem dX9_best_69 : decode cX9_best 69 = .ok (.iadd, 1) := by decide +kernel
theorem dX9_best_70 : decode cX9_best 70 = .ok (.imul, 1) := by decide +kernel
theorem dX9_best_71 : decode cX9_best 71 = .ok (.aload_n 0, 1) := by decide +kernel
theorem dX9_best_72 : decode cX9_best 72 = .ok (.getfield 7, 3) := by decide +kernel
theorem dX9_best_75 : decode cX9_best 75 = .ok (.iload_n 1, 1) := by decide +kernel
theorem dX9_best_76 : decode cX9_best 76 = .ok (.bipush 31, 2) := by decide +kernel
theorem dX9_best_78 : decode cX9_best 78 = .ok (.iadd, 1) := by decide +kernel
theorem dX9_best_79 : decode cX9_best 79 = .ok (.iaload, 1) := by decide +kernel
theorem dX9_best_80 : decode cX9_best 80 = .ok (.ifCond .ne 7, 3) := by decide +kernel
theorem dX9_best_83 : decode cX9_best 83 = .ok (.iconst 0, 1) := by decide +kernel
theorem dX9_best_84 : decode cX9_best 84 = .ok (.goto 5, 3) := by decide +kernel
theorem dX9_best_87 : decode cX9_best 87 = .ok (.iload 5, 2) := by decide +kernel
theorem dX9_best_89 : decode cX9_best 89 = .ok (.iadd, 1) := by decide +kernel
theorem dX9_best_90 : decode cX9_best 90 = .ok (.iaload, 1) := by decide +kernel
theorem dX9_best_91 : decode cX9_best 91 = .ok (.iadd, 1) := by decide +kernel
theorem dX9_best_92 : decode cX9_best 92 = .ok (.istore 6, 2) := by decide +kernel
theorem dX9_best_94 : decode cX9_best 94 = .ok (.iload 6, 2) := by decide +kernel
theorem dX9_best_96 : decode cX9_best 96 = .ok (.iload 4, 2) := by decide +kernel
theorem dX9_best_98 : decode cX9_best 98 = .ok (.if_icmp .ge 8, 3) := by decide +kernel
theorem dX9_best_101 : decode cX9_best 101 = .ok (.iload 6, 2) := by decide +kernel
theorem dX9_best_103 : decode cX9_best 103 = .ok (.goto 5, 3) := by decide +kernel
theorem dX9_best_106 : decode cX9_best 106 = .ok (.iload 4, 2) := by decide +kernel
theorem dX9_best_108 : decode cX9_best 108 = .ok (.istore 4, 2) := by decide +kernel
theorem dX9_best_110 : decode cX9_best 110 = .ok (.iinc 5 1, 3) := by decide +kernel
theorem dX9_best_113 : decode cX9_best 113 = .ok (.goto (-106), 3) := by decide +kernel
theorem dX9_best_116 : decode cX9_best 116 = .ok (.iload 4, 2) := by decide +kernel
theorem dX9_best_118 : decode cX9_best 118 = .ok (.ireturn, 1) := by decide +kernel
theorem dX9_findAllSets_0 : decode cX9_findAllSets 0 = .ok (.iconst 0, 1) := by decide +kernel
theorem dX9_findAllSets_1 : decode cX9_findAllSets 1 = .ok (.istore_n 2, 1) := by decide +kernel
theorem dX9_findAllSets_2 : decode cX9_findAllSets 2 = .ok (.iload_n 2, 1) := by decide +kernel
theorem dX9_findAllSets_3 : decode cX9_findAllSets 3 = .ok (.bipush 12, 2) := by decide +kernel
theorem dX9_findAllSets_5 : decode cX9_findAllSets 5 = .ok (.if_icmp .ge 15, 3) := by decide +kernel
theorem dX9_findAllSets_8 : decode cX9_findAllSets 8 = .ok (.aload_n 0, 1) := by decide +kernel
theorem dX9_findAllSets_9 : decode cX9_findAllSets 9 = .ok (.iload_n 1, 1) := by decide +kernel
theorem dX9_findAllSets_10 : decode cX9_findAllSets 10 = .ok (.iload_n 2, 1) := by decide +kernel
theorem dX9_findAllSets_11 : decode cX9_findAllSets 11 = .ok (.invokevirtual 210, 3) := by decide +kernel
theorem dX9_findAllSets_14 : decode cX9_findAllSets 14 = .ok (.iinc 2 1, 3) := by decide +kernel
theorem dX9_findAllSets_17 : decode cX9_findAllSets 17 = .ok (.goto (-15), 3) := by decide +kernel
theorem dX9_findAllSets_20 : decode cX9_findAllSets 20 = .ok (.return_, 1) := by decide +kernel
theorem dX9_findLeast_0 : decode cX9_findLeast 0 = .ok (.iconst 0, 1) := by decide +kernel
theorem dX9_findLeast_1 : decode cX9_findLeast 1 = .ok (.istore_n 2, 1) := by decide +kernel
theorem dX9_findLeast_2 : decode cX9_findLeast 2 = .ok (.iload_n 2, 1) := by decide +kernel
theorem dX9_findLeast_3 : decode cX9_findLeast 3 = .ok (.sipush 1024, 3) := by decide +kernel
theorem dX9_findLeast_6 : decode cX9_findLeast 6 = .ok (.if_icmp .ge 20, 3) := by decide +kernel
theorem dX9_findLeast_9 : decode cX9_findLeast 9 = .ok (.aload_n 0, 1) := by decide +kernel
theorem dX9_findLeast_10 : decode cX9_findLeast 10 = .ok (.getfield 63, 3) := by decide +kernel
theorem dX9_findLeast_13 : decode cX9_findLeast 13 = .ok (.sipush 12288, 3) := by decide +kernel
theorem dX9_findLeast_16 : decode cX9_findLeast 16 = .ok (.iload_n 2, 1) := by decide +kernel
theorem dX9_findLeast_17 : decode cX9_findLeast 17 = .ok (.iadd, 1) := by decide +kernel
theorem dX9_findLeast_18 : decode cX9_findLeast 18 = .ok (.iconst 0, 1) := by decide +kernel
theorem dX9_findLeast_19 : decode cX9_findLeast 19 = .ok (.iastore, 1) := by decide +kernel
theorem dX9_findLeast_20 : decode cX9_findLeast 20 = .ok (.iinc 2 1, 3) := by decide +kernel
theorem dX9_findLeast_23 : decode cX9_findLeast 23 = .ok (.goto (-21), 3) := by decide +kernel
theorem dX9_findLeast_26 : decode cX9_findLeast 26 = .ok (.bipush 11, 2) := by decide +kernel
theorem dX9_findLeast_28 : decode cX9_findLeast 28 = .ok (.istore_n 2, 1) := by decide +kernel
theorem dX9_findLeast_29 : decode cX9_findLeast 29 = .ok (.iload_n 2, 1) := by decide +kernel
theorem dX9_findLeast_30 : decode cX9_findLeast 30 = .ok (.ifCond .lt 99, 3) := by decide +kernel
theorem dX9_findLeast_33 : decode cX9_findLeast 33 = .ok (.aload_n 0, 1) := by decide +kernel
theorem dX9_findLeast_34 : decode cX9_findLeast 34 = .ok (.getfield 63, 3) := by decide +kernel
theorem dX9_findLeast_37 : decode cX9_findLeast 37 = .ok (.sipush 1024, 3) := by decide +kernel
theorem dX9_findLeast_40 : decode cX9_findLeast 40 = .ok (.iload_n 2, 1) := by decide +kernel
theorem dX9_findLeast_41 : decode cX9_findLeast 41 = .ok (.imul, 1) := by decide +kernel
theorem dX9_findLeast_42 : decode cX9_findLeast 42 = .ok (.aload_n 0, 1) := by decide +kernel
theorem dX9_findLeast_43 : decode cX9_findLeast 43 = .ok (.iload_n 1, 1) := by decide +kernel
theorem dX9_findLeast_44 : decode cX9_findLeast 44 = .ok (.iload_n 2, 1) := by decide +kernel
theorem dX9_findLeast_45 : decode cX9_findLeast 45 = .ok (.iconst 0, 1) := by decide +kernel
theorem dX9_findLeast_46 : decode cX9_findLeast 46 = .ok (.invokevirtual 213, 3) := by decide +kernel
end
section
theorem dX9_findLeast_49 : decode cX9_findLeast 49 = .ok (.iastore, 1) := by decide +kernel
theorem dX9_findLeast_50 : decode cX9_findLeast 50 = .ok (.iconst 1, 1) := by decide +kernel
theorem dX9_findLeast_51 : decode cX9_findLeast 51 = .ok (.istore_n 3, 1) := by decide +kernel
theorem dX9_findLeast_52 : decode cX9_findLeast 52 = .ok (.iload_n 3, 1) := by decide +kernel
theorem dX9_findLeast_53 : decode cX9_findLeast 53 = .ok (.sipush 1024, 3) := by decide +kernel
theorem dX9_findLeast_56 : decode cX9_findLeast 56 = .ok (.if_icmp .ge 67, 3) := by decide +kernel
theorem dX9_findLeast_59 : decode cX9_findLeast 59 = .ok (.iload_n 2, 1) := by decide +kernel
theorem dX9_findLeast_60 : decode cX9_findLeast 60 = .ok (.ifCond .le 63, 3) := by decide +kernel
theorem dX9_findLeast_63 : decode cX9_findLeast 63 = .ok (.aload_n 0, 1) := by decide +kernel
theorem dX9_findLeast_64 : decode cX9_findLeast 64 = .ok (.getfield 7, 3) := by decide +kernel
theorem dX9_findLeast_67 : decode cX9_findLeast 67 = .ok (.iload_n 1, 1) := by decide +kernel
theorem dX9_findLeast_68 : decode cX9_findLeast 68 = .ok (.bipush 31, 2) := by decide +kernel
theorem dX9_findLeast_70 : decode cX9_findLeast 70 = .ok (.iadd, 1) := by decide +kernel
theorem dX9_findLeast_71 : decode cX9_findLeast 71 = .ok (.iaload, 1) := by decide +kernel
theorem dX9_findLeast_72 : decode cX9_findLeast 72 = .ok (.iconst 1, 1) := by decide +kernel
theorem dX9_findLeast_73 : decode cX9_findLeast 73 = .ok (.if_icmp .ne 50, 3) := by decide +kernel
theorem dX9_findLeast_76 : decode cX9_findLeast 76 = .ok (.aload_n 0, 1) := by decide +kernel
theorem dX9_findLeast_77 : decode cX9_findLeast 77 = .ok (.getfield 63, 3) := by decide +kernel
theorem dX9_findLeast_80 : decode cX9_findLeast 80 = .ok (.sipush 1024, 3) := by decide +kernel
theorem dX9_findLeast_83 : decode cX9_findLeast 83 = .ok (.iload_n 2, 1) := by decide +kernel
theorem dX9_findLeast_84 : decode cX9_findLeast 84 = .ok (.imul, 1) := by decide +kernel
theorem dX9_findLeast_85 : decode cX9_findLeast 85 = .ok (.iload_n 3, 1) := by decide +kernel
theorem dX9_findLeast_86 : decode cX9_findLeast 86 = .ok (.iadd, 1) := by decide +kernel
theorem dX9_findLeast_87 : decode cX9_findLeast 87 = .ok (.aload_n 0, 1) := by decide +kernel
theorem dX9_findLeast_88 : decode cX9_findLeast 88 = .ok (.getfield 60, 3) := by decide +kernel
theorem dX9_findLeast_91 : decode cX9_findLeast 91 = .ok (.sipush 1024, 3) := by decide +kernel
theorem dX9_findLeast_94 : decode cX9_findLeast 94 = .ok (.iload_n 2, 1) := by decide +kernel
theorem dX9_findLeast_95 : decode cX9_findLeast 95 = .ok (.iconst 1, 1) := by decide +kernel
theorem dX9_findLeast_96 : decode cX9_findLeast 96 = .ok (.isub, 1) := by decide +kernel
theorem dX9_findLeast_97 : decode cX9_findLeast 97 = .ok (.imul, 1) := by decide +kernel
theorem dX9_findLeast_98 : decode cX9_findLeast 98 = .ok (.iload_n 3, 1) := by decide +kernel
theorem dX9_findLeast_99 : decode cX9_findLeast 99 = .ok (.iadd, 1) := by decide +kernel
theorem dX9_findLeast_100 : decode cX9_findLeast 100 = .ok (.baload, 1) := by decide +kernel
theorem dX9_findLeast_101 : decode cX9_findLeast 101 = .ok (.ifCond .eq 13, 3) := by decide +kernel
theorem dX9_findLeast_104 : decode cX9_findLeast 104 = .ok (.aload_n 0, 1) := by decide +kernel
theorem dX9_findLeast_105 : decode cX9_findLeast 105 = .ok (.iload_n 1, 1) := by decide +kernel
theorem dX9_findLeast_106 : decode cX9_findLeast 106 = .ok (.iload_n 2, 1) := by decide +kernel
theorem dX9_findLeast_107 : decode cX9_findLeast 107 = .ok (.iload_n 3, 1) := by decide +kernel
theorem dX9_findLeast_108 : decode cX9_findLeast 108 = .ok (.invokevirtual 213, 3) := by decide +kernel
theorem dX9_findLeast_111 : decode cX9_findLeast 111 = .ok (.goto 5, 3) := by decide +kernel
theorem dX9_findLeast_114 : decode cX9_findLeast 114 = .ok (.ldc 209, 2) := by decide +kernel
theorem dX9_findLeast_116 : decode cX9_findLeast 116 = .ok (.iastore, 1) := by decide +kernel
theorem dX9_findLeast_117 : decode cX9_findLeast 117 = .ok (.iinc 3 1, 3) := by decide +kernel
theorem dX9_findLeast_120 : decode cX9_findLeast 120 = .ok (.goto (-68), 3) := by decide +kernel
theorem dX9_findLeast_123 : decode cX9_findLeast 123 = .ok (.iinc 2 (-1), 3) := by decide +kernel
theorem dX9_findLeast_126 : decode cX9_findLeast 126 = .ok (.goto (-97), 3) := by decide +kernel
theorem dX9_findLeast_129 : decode cX9_findLeast 129 = .ok (.return_, 1) := by decide +kernel
theorem dX9_leastIn_0 : decode cX9_leastIn 0 = .ok (.aload_n 0, 1) := by decide +kernel
theorem dX9_leastIn_1 : decode cX9_leastIn 1 = .ok (.iload_n 1, 1) := by decide +kernel
theorem dX9_leastIn_2 : decode cX9_leastIn 2 = .ok (.invokevirtual 217, 3) := by decide +kernel
theorem dX9_leastIn_5 : decode cX9_leastIn 5 = .ok (.aload_n 0, 1) := by decide +kernel
theorem dX9_leastIn_6 : decode cX9_leastIn 6 = .ok (.iload_n 1, 1) := by decide +kernel
theorem dX9_leastIn_7 : decode cX9_leastIn 7 = .ok (.invokevirtual 221, 3) := by decide +kernel
theorem dX9_leastIn_10 : decode cX9_leastIn 10 = .ok (.aload_n 0, 1) := by decide +kernel
theorem dX9_leastIn_11 : decode cX9_leastIn 11 = .ok (.getfield 63, 3) := by decide +kernel
theorem dX9_leastIn_14 : decode cX9_leastIn 14 = .ok (.iconst 0, 1) := by decide +kernel
theorem dX9_leastIn_15 : decode cX9_leastIn 15 = .ok (.iaload, 1) := by decide +kernel
theorem dX9_leastIn_16 : decode cX9_leastIn 16 = .ok (.ldc 209, 2) := by decide +kernel
theorem dX9_leastIn_18 : decode cX9_leastIn 18 = .ok (.if_icmp .lt 7, 3) := by decide +kernel
theorem dX9_leastIn_21 : decode cX9_leastIn 21 = .ok (.iconst (-1), 1) := by decide +kernel
theorem dX9_leastIn_22 : decode cX9_leastIn 22 = .ok (.goto 9, 3) := by decide +kernel
theorem dX9_leastIn_25 : decode cX9_leastIn 25 = .ok (.aload_n 0, 1) := by decide +kernel
theorem dX9_leastIn_26 : decode cX9_leastIn 26 = .ok (.getfield 63, 3) := by decide +kernel
theorem dX9_leastIn_29 : decode cX9_leastIn 29 = .ok (.iconst 0, 1) := by decide +kernel
theorem dX9_leastIn_30 : decode cX9_leastIn 30 = .ok (.iaload, 1) := by decide +kernel
theorem dX9_leastIn_31 : decode cX9_leastIn 31 = .ok (.ireturn, 1) := by decide +kernel
theorem dX9_findWorn_0 : decode cX9_findWorn 0 = .ok (.iconst 0, 1) := by decide +kernel
theorem dX9_findWorn_1 : decode cX9_findWorn 1 = .ok (.istore_n 2, 1) := by decide +kernel
theorem dX9_findWorn_2 : decode cX9_findWorn 2 = .ok (.iconst 0, 1) := by decide +kernel
theorem dX9_findWorn_3 : decode cX9_findWorn 3 = .ok (.istore_n 3, 1) := by decide +kernel
theorem dX9_findWorn_4 : decode cX9_findWorn 4 = .ok (.iload_n 3, 1) := by decide +kernel
theorem dX9_findWorn_5 : decode cX9_findWorn 5 = .ok (.bipush 12, 2) := by decide +kernel
theorem dX9_findWorn_7 : decode cX9_findWorn 7 = .ok (.if_icmp .ge 171, 3) := by decide +kernel
theorem dX9_findWorn_10 : decode cX9_findWorn 10 = .ok (.iconst 0, 1) := by decide +kernel
theorem dX9_findWorn_11 : decode cX9_findWorn 11 = .ok (.istore 4, 2) := by decide +kernel
theorem dX9_findWorn_13 : decode cX9_findWorn 13 = .ok (.iconst 0, 1) := by decide +kernel
theorem dX9_findWorn_14 : decode cX9_findWorn 14 = .ok (.istore 5, 2) := by decide +kernel
theorem dX9_findWorn_16 : decode cX9_findWorn 16 = .ok (.iload 5, 2) := by decide +kernel
theorem dX9_findWorn_18 : decode cX9_findWorn 18 = .ok (.ifCond .ne 127, 3) := by decide +kernel
theorem dX9_findWorn_21 : decode cX9_findWorn 21 = .ok (.aload_n 0, 1) := by decide +kernel
theorem dX9_findWorn_22 : decode cX9_findWorn 22 = .ok (.getfield 7, 3) := by decide +kernel
theorem dX9_findWorn_25 : decode cX9_findWorn 25 = .ok (.iload_n 1, 1) := by decide +kernel
theorem dX9_findWorn_26 : decode cX9_findWorn 26 = .ok (.bipush 31, 2) := by decide +kernel
theorem dX9_findWorn_28 : decode cX9_findWorn 28 = .ok (.iadd, 1) := by decide +kernel
theorem dX9_findWorn_29 : decode cX9_findWorn 29 = .ok (.iaload, 1) := by decide +kernel
theorem dX9_findWorn_30 : decode cX9_findWorn 30 = .ok (.ifCond .ne 7, 3) := by decide +kernel
theorem dX9_findWorn_33 : decode cX9_findWorn 33 = .ok (.iconst 0, 1) := by decide +kernel
theorem dX9_findWorn_34 : decode cX9_findWorn 34 = .ok (.goto 5, 3) := by decide +kernel
theorem dX9_findWorn_37 : decode cX9_findWorn 37 = .ok (.iload 4, 2) := by decide +kernel
theorem dX9_findWorn_39 : decode cX9_findWorn 39 = .ok (.istore 6, 2) := by decide +kernel
theorem dX9_findWorn_41 : decode cX9_findWorn 41 = .ok (.aload_n 0, 1) := by decide +kernel
theorem dX9_findWorn_42 : decode cX9_findWorn 42 = .ok (.getfield 60, 3) := by decide +kernel
theorem dX9_findWorn_45 : decode cX9_findWorn 45 = .ok (.sipush 1024, 3) := by decide +kernel
theorem dX9_findWorn_48 : decode cX9_findWorn 48 = .ok (.iload_n 3, 1) := by decide +kernel
theorem dX9_findWorn_49 : decode cX9_findWorn 49 = .ok (.imul, 1) := by decide +kernel
theorem dX9_findWorn_50 : decode cX9_findWorn 50 = .ok (.iload 4, 2) := by decide +kernel
theorem dX9_findWorn_52 : decode cX9_findWorn 52 = .ok (.iadd, 1) := by decide +kernel
theorem dX9_findWorn_53 : decode cX9_findWorn 53 = .ok (.baload, 1) := by decide +kernel
theorem dX9_findWorn_54 : decode cX9_findWorn 54 = .ok (.ifCond .eq 67, 3) := by decide +kernel
theorem dX9_findWorn_57 : decode cX9_findWorn 57 = .ok (.aload_n 0, 1) := by decide +kernel
theorem dX9_findWorn_58 : decode cX9_findWorn 58 = .ok (.getfield 7, 3) := by decide +kernel
theorem dX9_findWorn_61 : decode cX9_findWorn 61 = .ok (.iload_n 1, 1) := by decide +kernel
theorem dX9_findWorn_62 : decode cX9_findWorn 62 = .ok (.bipush 31, 2) := by decide +kernel
theorem dX9_findWorn_64 : decode cX9_findWorn 64 = .ok (.iadd, 1) := by decide +kernel
theorem dX9_findWorn_65 : decode cX9_findWorn 65 = .ok (.iaload, 1) := by decide +kernel
theorem dX9_findWorn_66 : decode cX9_findWorn 66 = .ok (.ifCond .eq 10, 3) := by decide +kernel
theorem dX9_findWorn_69 : decode cX9_findWorn 69 = .ok (.iload 4, 2) := by decide +kernel
theorem dX9_findWorn_71 : decode cX9_findWorn 71 = .ok (.iload_n 2, 1) := by decide +kernel
theorem dX9_findWorn_72 : decode cX9_findWorn 72 = .ok (.iand, 1) := by decide +kernel
theorem dX9_findWorn_73 : decode cX9_findWorn 73 = .ok (.ifCond .ne 48, 3) := by decide +kernel
theorem dX9_findWorn_76 : decode cX9_findWorn 76 = .ok (.aload_n 0, 1) := by decide +kernel
theorem dX9_findWorn_77 : decode cX9_findWorn 77 = .ok (.iload_n 1, 1) := by decide +kernel
theorem dX9_findWorn_78 : decode cX9_findWorn 78 = .ok (.bipush 10, 2) := by decide +kernel
theorem dX9_findWorn_80 : decode cX9_findWorn 80 = .ok (.iadd, 1) := by decide +kernel
theorem dX9_findWorn_81 : decode cX9_findWorn 81 = .ok (.iload 4, 2) := by decide +kernel
theorem dX9_findWorn_83 : decode cX9_findWorn 83 = .ok (.invokevirtual 171, 3) := by decide +kernel
theorem dX9_findWorn_86 : decode cX9_findWorn 86 = .ok (.aload_n 0, 1) := by decide +kernel
theorem dX9_findWorn_87 : decode cX9_findWorn 87 = .ok (.getfield 63, 3) := by decide +kernel
theorem dX9_findWorn_90 : decode cX9_findWorn 90 = .ok (.sipush 1024, 3) := by decide +kernel
theorem dX9_findWorn_93 : decode cX9_findWorn 93 = .ok (.iload_n 3, 1) := by decide +kernel
theorem dX9_findWorn_94 : decode cX9_findWorn 94 = .ok (.iconst 1, 1) := by decide +kernel
theorem dX9_findWorn_95 : decode cX9_findWorn 95 = .ok (.iadd, 1) := by decide +kernel
theorem dX9_findWorn_96 : decode cX9_findWorn 96 = .ok (.imul, 1) := by decide +kernel
theorem dX9_findWorn_97 : decode cX9_findWorn 97 = .ok (.iload 6, 2) := by decide +kernel
theorem dX9_findWorn_99 : decode cX9_findWorn 99 = .ok (.iadd, 1) := by decide +kernel
theorem dX9_findWorn_100 : decode cX9_findWorn 100 = .ok (.iaload, 1) := by decide +kernel
theorem dX9_findWorn_101 : decode cX9_findWorn 101 = .ok (.iadd, 1) := by decide +kernel
theorem dX9_findWorn_102 : decode cX9_findWorn 102 = .ok (.aload_n 0, 1) := by decide +kernel
theorem dX9_findWorn_103 : decode cX9_findWorn 103 = .ok (.getfield 63, 3) := by decide +kernel
theorem dX9_findWorn_106 : decode cX9_findWorn 106 = .ok (.sipush 1024, 3) := by decide +kernel
theorem dX9_findWorn_109 : decode cX9_findWorn 109 = .ok (.iload_n 3, 1) := by decide +kernel
theorem dX9_findWorn_110 : decode cX9_findWorn 110 = .ok (.imul, 1) := by decide +kernel
theorem dX9_findWorn_111 : decode cX9_findWorn 111 = .ok (.iload_n 2, 1) := by decide +kernel
theorem dX9_findWorn_112 : decode cX9_findWorn 112 = .ok (.iadd, 1) := by decide +kernel
theorem dX9_findWorn_113 : decode cX9_findWorn 113 = .ok (.iaload, 1) := by decide +kernel
theorem dX9_findWorn_114 : decode cX9_findWorn 114 = .ok (.if_icmp .ne 7, 3) := by decide +kernel
theorem dX9_findWorn_117 : decode cX9_findWorn 117 = .ok (.iconst 1, 1) := by decide +kernel
theorem dX9_findWorn_118 : decode cX9_findWorn 118 = .ok (.goto 4, 3) := by decide +kernel
theorem dX9_findWorn_121 : decode cX9_findWorn 121 = .ok (.iconst 0, 1) := by decide +kernel
theorem dX9_findWorn_122 : decode cX9_findWorn 122 = .ok (.istore 5, 2) := by decide +kernel
theorem dX9_findWorn_124 : decode cX9_findWorn 124 = .ok (.iload 4, 2) := by decide +kernel
theorem dX9_findWorn_126 : decode cX9_findWorn 126 = .ok (.iload 5, 2) := by decide +kernel
theorem dX9_findWorn_128 : decode cX9_findWorn 128 = .ok (.ifCond .ne 7, 3) := by decide +kernel
theorem dX9_findWorn_131 : decode cX9_findWorn 131 = .ok (.iconst 1, 1) := by decide +kernel
theorem dX9_findWorn_132 : decode cX9_findWorn 132 = .ok (.goto 4, 3) := by decide +kernel
theorem dX9_findWorn_135 : decode cX9_findWorn 135 = .ok (.iconst 0, 1) := by decide +kernel
theorem dX9_findWorn_136 : decode cX9_findWorn 136 = .ok (.invokestatic 224, 3) := by decide +kernel
theorem dX9_findWorn_139 : decode cX9_findWorn 139 = .ok (.iadd, 1) := by decide +kernel
theorem dX9_findWorn_140 : decode cX9_findWorn 140 = .ok (.istore 4, 2) := by decide +kernel
theorem dX9_findWorn_142 : decode cX9_findWorn 142 = .ok (.goto (-126), 3) := by decide +kernel
theorem dX9_findWorn_145 : decode cX9_findWorn 145 = .ok (.aload_n 0, 1) := by decide +kernel
theorem dX9_findWorn_146 : decode cX9_findWorn 146 = .ok (.getfield 72, 3) := by decide +kernel
theorem dX9_findWorn_149 : decode cX9_findWorn 149 = .ok (.iload_n 3, 1) := by decide +kernel
theorem dX9_findWorn_150 : decode cX9_findWorn 150 = .ok (.iload 4, 2) := by decide +kernel
theorem dX9_findWorn_152 : decode cX9_findWorn 152 = .ok (.iastore, 1) := by decide +kernel
theorem dX9_findWorn_153 : decode cX9_findWorn 153 = .ok (.aload_n 0, 1) := by decide +kernel
theorem dX9_findWorn_154 : decode cX9_findWorn 154 = .ok (.getfield 7, 3) := by decide +kernel
theorem dX9_findWorn_157 : decode cX9_findWorn 157 = .ok (.iload_n 1, 1) := by decide +kernel
theorem dX9_findWorn_158 : decode cX9_findWorn 158 = .ok (.bipush 31, 2) := by decide +kernel
theorem dX9_findWorn_160 : decode cX9_findWorn 160 = .ok (.iadd, 1) := by decide +kernel
theorem dX9_findWorn_161 : decode cX9_findWorn 161 = .ok (.iaload, 1) := by decide +kernel
theorem dX9_findWorn_162 : decode cX9_findWorn 162 = .ok (.ifCond .ne 7, 3) := by decide +kernel
theorem dX9_findWorn_165 : decode cX9_findWorn 165 = .ok (.iconst 0, 1) := by decide +kernel
theorem dX9_findWorn_166 : decode cX9_findWorn 166 = .ok (.goto 5, 3) := by decide +kernel
theorem dX9_findWorn_169 : decode cX9_findWorn 169 = .ok (.iload 4, 2) := by decide +kernel
theorem dX9_findWorn_171 : decode cX9_findWorn 171 = .ok (.istore_n 2, 1) := by decide +kernel
theorem dX9_findWorn_172 : decode cX9_findWorn 172 = .ok (.iinc 3 1, 3) := by decide +kernel
theorem dX9_findWorn_175 : decode cX9_findWorn 175 = .ok (.goto (-171), 3) := by decide +kernel
theorem dX9_findWorn_178 : decode cX9_findWorn 178 = .ok (.return_, 1) := by decide +kernel
theorem dX9_lookOf_0 : decode cX9_lookOf 0 = .ok (.aload_n 0, 1) := by decide +kernel
theorem dX9_lookOf_1 : decode cX9_lookOf 1 = .ok (.getfield 72, 3) := by decide +kernel
theorem dX9_lookOf_4 : decode cX9_lookOf 4 = .ok (.aload_n 0, 1) := by decide +kernel
theorem dX9_lookOf_5 : decode cX9_lookOf 5 = .ok (.getfield 38, 3) := by decide +kernel
theorem dX9_lookOf_8 : decode cX9_lookOf 8 = .ok (.iload_n 1, 1) := by decide +kernel
theorem dX9_lookOf_9 : decode cX9_lookOf 9 = .ok (.iaload, 1) := by decide +kernel
theorem dX9_lookOf_10 : decode cX9_lookOf 10 = .ok (.iaload, 1) := by decide +kernel
theorem dX9_lookOf_11 : decode cX9_lookOf 11 = .ok (.istore_n 2, 1) := by decide +kernel
theorem dX9_lookOf_12 : decode cX9_lookOf 12 = .ok (.iconst (-1), 1) := by decide +kernel
theorem dX9_lookOf_13 : decode cX9_lookOf 13 = .ok (.istore_n 3, 1) := by decide +kernel
theorem dX9_lookOf_14 : decode cX9_lookOf 14 = .ok (.iconst 0, 1) := by decide +kernel
theorem dX9_lookOf_15 : decode cX9_lookOf 15 = .ok (.istore 4, 2) := by decide +kernel
theorem dX9_lookOf_17 : decode cX9_lookOf 17 = .ok (.iload 4, 2) := by decide +kernel
theorem dX9_lookOf_19 : decode cX9_lookOf 19 = .ok (.iload_n 1, 1) := by decide +kernel
theorem dX9_lookOf_20 : decode cX9_lookOf 20 = .ok (.if_icmp .gt 44, 3) := by decide +kernel
theorem dX9_lookOf_23 : decode cX9_lookOf 23 = .ok (.aload_n 0, 1) := by decide +kernel
theorem dX9_lookOf_24 : decode cX9_lookOf 24 = .ok (.getfield 38, 3) := by decide +kernel
theorem dX9_lookOf_27 : decode cX9_lookOf 27 = .ok (.iload 4, 2) := by decide +kernel
theorem dX9_lookOf_29 : decode cX9_lookOf 29 = .ok (.iaload, 1) := by decide +kernel
theorem dX9_lookOf_30 : decode cX9_lookOf 30 = .ok (.aload_n 0, 1) := by decide +kernel
theorem dX9_lookOf_31 : decode cX9_lookOf 31 = .ok (.getfield 38, 3) := by decide +kernel
theorem dX9_lookOf_34 : decode cX9_lookOf 34 = .ok (.iload_n 1, 1) := by decide +kernel
theorem dX9_lookOf_35 : decode cX9_lookOf 35 = .ok (.iaload, 1) := by decide +kernel
theorem dX9_lookOf_36 : decode cX9_lookOf 36 = .ok (.if_icmp .ne 22, 3) := by decide +kernel
theorem dX9_lookOf_39 : decode cX9_lookOf 39 = .ok (.aload_n 0, 1) := by decide +kernel
theorem dX9_lookOf_40 : decode cX9_lookOf 40 = .ok (.iload 4, 2) := by decide +kernel
theorem dX9_lookOf_42 : decode cX9_lookOf 42 = .ok (.iload_n 2, 1) := by decide +kernel
theorem dX9_lookOf_43 : decode cX9_lookOf 43 = .ok (.invokevirtual 228, 3) := by decide +kernel
theorem dX9_lookOf_46 : decode cX9_lookOf 46 = .ok (.istore_n 3, 1) := by decide +kernel
theorem dX9_lookOf_47 : decode cX9_lookOf 47 = .ok (.iload_n 2, 1) := by decide +kernel
theorem dX9_lookOf_48 : decode cX9_lookOf 48 = .ok (.aload_n 0, 1) := by decide +kernel
theorem dX9_lookOf_49 : decode cX9_lookOf 49 = .ok (.getfield 57, 3) := by decide +kernel
theorem dX9_lookOf_52 : decode cX9_lookOf 52 = .ok (.iload_n 3, 1) := by decide +kernel
theorem dX9_lookOf_53 : decode cX9_lookOf 53 = .ok (.iaload, 1) := by decide +kernel
theorem dX9_lookOf_54 : decode cX9_lookOf 54 = .ok (.iconst (-1), 1) := by decide +kernel
theorem dX9_lookOf_55 : decode cX9_lookOf 55 = .ok (.ixor, 1) := by decide +kernel
theorem dX9_lookOf_56 : decode cX9_lookOf 56 = .ok (.iand, 1) := by decide +kernel
theorem dX9_lookOf_57 : decode cX9_lookOf 57 = .ok (.istore_n 2, 1) := by decide +kernel
theorem dX9_lookOf_58 : decode cX9_lookOf 58 = .ok (.iinc 4 1, 3) := by decide +kernel
theorem dX9_lookOf_61 : decode cX9_lookOf 61 = .ok (.goto (-44), 3) := by decide +kernel
theorem dX9_lookOf_64 : decode cX9_lookOf 64 = .ok (.aload_n 0, 1) := by decide +kernel
theorem dX9_lookOf_65 : decode cX9_lookOf 65 = .ok (.getfield 57, 3) := by decide +kernel
theorem dX9_lookOf_68 : decode cX9_lookOf 68 = .ok (.iload_n 3, 1) := by decide +kernel
theorem dX9_lookOf_69 : decode cX9_lookOf 69 = .ok (.iaload, 1) := by decide +kernel
theorem dX9_lookOf_70 : decode cX9_lookOf 70 = .ok (.ireturn, 1) := by decide +kernel
theorem dX9_firstLook_0 : decode cX9_firstLook 0 = .ok (.iconst (-1), 1) := by decide +kernel
theorem dX9_firstLook_1 : decode cX9_firstLook 1 = .ok (.istore_n 3, 1) := by decide +kernel
theorem dX9_firstLook_2 : decode cX9_firstLook 2 = .ok (.aload_n 0, 1) := by decide +kernel
theorem dX9_firstLook_3 : decode cX9_firstLook 3 = .ok (.getfield 165, 3) := by decide +kernel
theorem dX9_firstLook_6 : decode cX9_firstLook 6 = .ok (.iconst 1, 1) := by decide +kernel
theorem dX9_firstLook_7 : decode cX9_firstLook 7 = .ok (.isub, 1) := by decide +kernel
theorem dX9_firstLook_8 : decode cX9_firstLook 8 = .ok (.istore 4, 2) := by decide +kernel
theorem dX9_firstLook_10 : decode cX9_firstLook 10 = .ok (.iload 4, 2) := by decide +kernel
theorem dX9_firstLook_12 : decode cX9_firstLook 12 = .ok (.ifCond .lt 85, 3) := by decide +kernel
theorem dX9_firstLook_15 : decode cX9_firstLook 15 = .ok (.aload_n 0, 1) := by decide +kernel
theorem dX9_firstLook_16 : decode cX9_firstLook 16 = .ok (.getfield 57, 3) := by decide +kernel
theorem dX9_firstLook_19 : decode cX9_firstLook 19 = .ok (.iload 4, 2) := by decide +kernel
theorem dX9_firstLook_21 : decode cX9_firstLook 21 = .ok (.iaload, 1) := by decide +kernel
theorem dX9_firstLook_22 : decode cX9_firstLook 22 = .ok (.iload_n 2, 1) := by decide +kernel
theorem dX9_firstLook_23 : decode cX9_firstLook 23 = .ok (.iconst (-1), 1) := by decide +kernel
theorem dX9_firstLook_24 : decode cX9_firstLook 24 = .ok (.ixor, 1) := by decide +kernel
theorem dX9_firstLook_25 : decode cX9_firstLook 25 = .ok (.iand, 1) := by decide +kernel
theorem dX9_firstLook_26 : decode cX9_firstLook 26 = .ok (.ifCond .ne 23, 3) := by decide +kernel
theorem dX9_firstLook_29 : decode cX9_firstLook 29 = .ok (.aload_n 0, 1) := by decide +kernel
theorem dX9_firstLook_30 : decode cX9_firstLook 30 = .ok (.iconst 0, 1) := by decide +kernel
theorem dX9_firstLook_31 : decode cX9_firstLook 31 = .ok (.aload_n 0, 1) := by decide +kernel
theorem dX9_firstLook_32 : decode cX9_firstLook 32 = .ok (.getfield 57, 3) := by decide +kernel
theorem dX9_firstLook_35 : decode cX9_firstLook 35 = .ok (.iload 4, 2) := by decide +kernel
theorem dX9_firstLook_37 : decode cX9_firstLook 37 = .ok (.iaload, 1) := by decide +kernel
theorem dX9_firstLook_38 : decode cX9_firstLook 38 = .ok (.iload_n 1, 1) := by decide +kernel
theorem dX9_firstLook_39 : decode cX9_firstLook 39 = .ok (.invokevirtual 201, 3) := by decide +kernel
theorem dX9_firstLook_42 : decode cX9_firstLook 42 = .ok (.ifCond .eq 7, 3) := by decide +kernel
theorem dX9_firstLook_45 : decode cX9_firstLook 45 = .ok (.iconst 1, 1) := by decide +kernel
theorem dX9_firstLook_46 : decode cX9_firstLook 46 = .ok (.goto 4, 3) := by decide +kernel
theorem dX9_firstLook_49 : decode cX9_firstLook 49 = .ok (.iconst 0, 1) := by decide +kernel
theorem dX9_firstLook_50 : decode cX9_firstLook 50 = .ok (.istore 5, 2) := by decide +kernel
theorem dX9_firstLook_52 : decode cX9_firstLook 52 = .ok (.iload 5, 2) := by decide +kernel
theorem dX9_firstLook_54 : decode cX9_firstLook 54 = .ok (.ifCond .eq 35, 3) := by decide +kernel
theorem dX9_firstLook_57 : decode cX9_firstLook 57 = .ok (.aload_n 0, 1) := by decide +kernel
theorem dX9_firstLook_58 : decode cX9_firstLook 58 = .ok (.iload_n 1, 1) := by decide +kernel
theorem dX9_firstLook_59 : decode cX9_firstLook 59 = .ok (.iconst 1, 1) := by decide +kernel
theorem dX9_firstLook_60 : decode cX9_firstLook 60 = .ok (.iadd, 1) := by decide +kernel
theorem dX9_firstLook_61 : decode cX9_firstLook 61 = .ok (.aload_n 0, 1) := by decide +kernel
theorem dX9_firstLook_62 : decode cX9_firstLook 62 = .ok (.getfield 38, 3) := by decide +kernel
theorem dX9_firstLook_65 : decode cX9_firstLook 65 = .ok (.iload_n 1, 1) := by decide +kernel
theorem dX9_firstLook_66 : decode cX9_firstLook 66 = .ok (.iaload, 1) := by decide +kernel
theorem dX9_firstLook_67 : decode cX9_firstLook 67 = .ok (.iload_n 2, 1) := by decide +kernel
theorem dX9_firstLook_68 : decode cX9_firstLook 68 = .ok (.aload_n 0, 1) := by decide +kernel
theorem dX9_firstLook_69 : decode cX9_firstLook 69 = .ok (.getfield 57, 3) := by decide +kernel
theorem dX9_firstLook_72 : decode cX9_firstLook 72 = .ok (.iload 4, 2) := by decide +kernel
theorem dX9_firstLook_74 : decode cX9_firstLook 74 = .ok (.iaload, 1) := by decide +kernel
theorem dX9_firstLook_75 : decode cX9_firstLook 75 = .ok (.iconst (-1), 1) := by decide +kernel
theorem dX9_firstLook_76 : decode cX9_firstLook 76 = .ok (.ixor, 1) := by decide +kernel
theorem dX9_firstLook_77 : decode cX9_firstLook 77 = .ok (.iand, 1) := by decide +kernel
theorem dX9_firstLook_78 : decode cX9_firstLook 78 = .ok (.invokevirtual 231, 3) := by decide +kernel
theorem dX9_firstLook_81 : decode cX9_firstLook 81 = .ok (.ifCond .eq 8, 3) := by decide +kernel
theorem dX9_firstLook_84 : decode cX9_firstLook 84 = .ok (.iload 4, 2) := by decide +kernel
theorem dX9_firstLook_86 : decode cX9_firstLook 86 = .ok (.goto 4, 3) := by decide +kernel
theorem dX9_firstLook_89 : decode cX9_firstLook 89 = .ok (.iload_n 3, 1) := by decide +kernel
theorem dX9_firstLook_90 : decode cX9_firstLook 90 = .ok (.istore_n 3, 1) := by decide +kernel
theorem dX9_firstLook_91 : decode cX9_firstLook 91 = .ok (.iinc 4 (-1), 3) := by decide +kernel
theorem dX9_firstLook_94 : decode cX9_firstLook 94 = .ok (.goto (-84), 3) := by decide +kernel
theorem dX9_firstLook_97 : decode cX9_firstLook 97 = .ok (.iload_n 3, 1) := by decide +kernel
theorem dX9_firstLook_98 : decode cX9_firstLook 98 = .ok (.ireturn, 1) := by decide +kernel
theorem dX9_canRest_0 : decode cX9_canRest 0 = .ok (.iconst 0, 1) := by decide +kernel
theorem dX9_canRest_1 : decode cX9_canRest 1 = .ok (.istore 4, 2) := by decide +kernel
theorem dX9_canRest_3 : decode cX9_canRest 3 = .ok (.iload 4, 2) := by decide +kernel
theorem dX9_canRest_5 : decode cX9_canRest 5 = .ok (.sipush 1024, 3) := by decide +kernel
theorem dX9_canRest_8 : decode cX9_canRest 8 = .ok (.if_icmp .ge 26, 3) := by decide +kernel
theorem dX9_canRest_11 : decode cX9_canRest 11 = .ok (.aload_n 0, 1) := by decide +kernel
theorem dX9_canRest_12 : decode cX9_canRest 12 = .ok (.getfield 69, 3) := by decide +kernel
theorem dX9_canRest_15 : decode cX9_canRest 15 = .ok (.iload 4, 2) := by decide +kernel
theorem dX9_canRest_17 : decode cX9_canRest 17 = .ok (.iload 4, 2) := by decide +kernel
theorem dX9_canRest_19 : decode cX9_canRest 19 = .ok (.ifCond .ne 7, 3) := by decide +kernel
theorem dX9_canRest_22 : decode cX9_canRest 22 = .ok (.iconst 1, 1) := by decide +kernel
theorem dX9_canRest_23 : decode cX9_canRest 23 = .ok (.goto 4, 3) := by decide +kernel
theorem dX9_canRest_26 : decode cX9_canRest 26 = .ok (.iconst 0, 1) := by decide +kernel
theorem dX9_canRest_27 : decode cX9_canRest 27 = .ok (.bastore, 1) := by decide +kernel
theorem dX9_canRest_28 : decode cX9_canRest 28 = .ok (.iinc 4 1, 3) := by decide +kernel
theorem dX9_canRest_31 : decode cX9_canRest 31 = .ok (.goto (-28), 3) := by decide +kernel
theorem dX9_canRest_34 : decode cX9_canRest 34 = .ok (.iload_n 1, 1) := by decide +kernel
theorem dX9_canRest_35 : decode cX9_canRest 35 = .ok (.istore 4, 2) := by decide +kernel
theorem dX9_canRest_37 : decode cX9_canRest 37 = .ok (.iload 4, 2) := by decide +kernel
theorem dX9_canRest_39 : decode cX9_canRest 39 = .ok (.aload_n 0, 1) := by decide +kernel
theorem dX9_canRest_40 : decode cX9_canRest 40 = .ok (.getfield 47, 3) := by decide +kernel
theorem dX9_canRest_43 : decode cX9_canRest 43 = .ok (.iconst 1, 1) := by decide +kernel
theorem dX9_canRest_44 : decode cX9_canRest 44 = .ok (.iaload, 1) := by decide +kernel
theorem dX9_canRest_45 : decode cX9_canRest 45 = .ok (.if_icmp .ge 27, 3) := by decide +kernel
theorem dX9_canRest_48 : decode cX9_canRest 48 = .ok (.aload_n 0, 1) := by decide +kernel
theorem dX9_canRest_49 : decode cX9_canRest 49 = .ok (.getfield 38, 3) := by decide +kernel
theorem dX9_canRest_52 : decode cX9_canRest 52 = .ok (.iload 4, 2) := by decide +kernel
theorem dX9_canRest_54 : decode cX9_canRest 54 = .ok (.iaload, 1) := by decide +kernel
theorem dX9_canRest_55 : decode cX9_canRest 55 = .ok (.iload_n 2, 1) := by decide +kernel
theorem dX9_canRest_56 : decode cX9_canRest 56 = .ok (.if_icmp .ne 10, 3) := by decide +kernel
theorem dX9_canRest_59 : decode cX9_canRest 59 = .ok (.aload_n 0, 1) := by decide +kernel
theorem dX9_canRest_60 : decode cX9_canRest 60 = .ok (.iconst 0, 1) := by decide +kernel
theorem dX9_canRest_61 : decode cX9_canRest 61 = .ok (.iload 4, 2) := by decide +kernel
theorem dX9_canRest_63 : decode cX9_canRest 63 = .ok (.invokevirtual 205, 3) := by decide +kernel
theorem dX9_canRest_66 : decode cX9_canRest 66 = .ok (.iinc 4 1, 3) := by decide +kernel
theorem dX9_canRest_69 : decode cX9_canRest 69 = .ok (.goto (-32), 3) := by decide +kernel
theorem dX9_canRest_72 : decode cX9_canRest 72 = .ok (.aload_n 0, 1) := by decide +kernel
theorem dX9_canRest_73 : decode cX9_canRest 73 = .ok (.getfield 69, 3) := by decide +kernel
theorem dX9_canRest_76 : decode cX9_canRest 76 = .ok (.iload_n 3, 1) := by decide +kernel
theorem dX9_canRest_77 : decode cX9_canRest 77 = .ok (.baload, 1) := by decide +kernel
theorem dX9_canRest_78 : decode cX9_canRest 78 = .ok (.ireturn, 1) := by decide +kernel
theorem dX9_dressing_0 : decode cX9_dressing 0 = .ok (.iload_n 1, 1) := by decide +kernel
theorem dX9_dressing_1 : decode cX9_dressing 1 = .ok (.iconst (-1), 1) := by decide +kernel
theorem dX9_dressing_2 : decode cX9_dressing 2 = .ok (.if_icmp .eq 14, 3) := by decide +kernel
theorem dX9_dressing_5 : decode cX9_dressing 5 = .ok (.aload_n 0, 1) := by decide +kernel
theorem dX9_dressing_6 : decode cX9_dressing 6 = .ok (.iload_n 1, 1) := by decide +kernel
theorem dX9_dressing_7 : decode cX9_dressing 7 = .ok (.invokevirtual 189, 3) := by decide +kernel
theorem dX9_dressing_10 : decode cX9_dressing 10 = .ok (.ifCond .ne 6, 3) := by decide +kernel
theorem dX9_dressing_13 : decode cX9_dressing 13 = .ok (.ldc 188, 2) := by decide +kernel
theorem dX9_dressing_15 : decode cX9_dressing 15 = .ok (.ireturn, 1) := by decide +kernel
theorem dX9_dressing_16 : decode cX9_dressing 16 = .ok (.aload_n 0, 1) := by decide +kernel
theorem dX9_dressing_17 : decode cX9_dressing 17 = .ok (.iconst 0, 1) := by decide +kernel
theorem dX9_dressing_18 : decode cX9_dressing 18 = .ok (.invokevirtual 234, 3) := by decide +kernel
theorem dX9_dressing_21 : decode cX9_dressing 21 = .ok (.istore_n 2, 1) := by decide +kernel
theorem dX9_dressing_22 : decode cX9_dressing 22 = .ok (.iload_n 2, 1) := by decide +kernel
theorem dX9_dressing_23 : decode cX9_dressing 23 = .ok (.ifCond .lt 7, 3) := by decide +kernel
theorem dX9_dressing_26 : decode cX9_dressing 26 = .ok (.iload_n 1, 1) := by decide +kernel
theorem dX9_dressing_27 : decode cX9_dressing 27 = .ok (.ifCond .ge 5, 3) := by decide +kernel
theorem dX9_dressing_30 : decode cX9_dressing 30 = .ok (.iload_n 2, 1) := by decide +kernel
theorem dX9_dressing_31 : decode cX9_dressing 31 = .ok (.ireturn, 1) := by decide +kernel
theorem dX9_dressing_32 : decode cX9_dressing 32 = .ok (.aload_n 0, 1) := by decide +kernel
theorem dX9_dressing_33 : decode cX9_dressing 33 = .ok (.iconst 0, 1) := by decide +kernel
theorem dX9_dressing_34 : decode cX9_dressing 34 = .ok (.invokevirtual 237, 3) := by decide +kernel
theorem dX9_dressing_37 : decode cX9_dressing 37 = .ok (.aload_n 0, 1) := by decide +kernel
theorem dX9_dressing_38 : decode cX9_dressing 38 = .ok (.iload_n 1, 1) := by decide +kernel
theorem dX9_dressing_39 : decode cX9_dressing 39 = .ok (.invokevirtual 240, 3) := by decide +kernel
theorem dX9_dressing_42 : decode cX9_dressing 42 = .ok (.ireturn, 1) := by decide +kernel
theorem dX9_rentIn_0 : decode cX9_rentIn 0 = .ok (.aload_n 0, 1) := by decide +kernel
theorem dX9_rentIn_1 : decode cX9_rentIn 1 = .ok (.iload_n 1, 1) := by decide +kernel
theorem dX9_rentIn_2 : decode cX9_rentIn 2 = .ok (.invokevirtual 221, 3) := by decide +kernel
theorem dX9_rentIn_5 : decode cX9_rentIn 5 = .ok (.aload_n 0, 1) := by decide +kernel
theorem dX9_rentIn_6 : decode cX9_rentIn 6 = .ok (.getfield 63, 3) := by decide +kernel
theorem dX9_rentIn_9 : decode cX9_rentIn 9 = .ok (.iconst 0, 1) := by decide +kernel
theorem dX9_rentIn_10 : decode cX9_rentIn 10 = .ok (.iaload, 1) := by decide +kernel
theorem dX9_rentIn_11 : decode cX9_rentIn 11 = .ok (.ldc 209, 2) := by decide +kernel
theorem dX9_rentIn_13 : decode cX9_rentIn 13 = .ok (.if_icmp .lt 5, 3) := by decide +kernel
theorem dX9_rentIn_16 : decode cX9_rentIn 16 = .ok (.iconst 0, 1) := by decide +kernel
theorem dX9_rentIn_17 : decode cX9_rentIn 17 = .ok (.ireturn, 1) := by decide +kernel
theorem dX9_rentIn_18 : decode cX9_rentIn 18 = .ok (.aload_n 0, 1) := by decide +kernel
theorem dX9_rentIn_19 : decode cX9_rentIn 19 = .ok (.iload_n 1, 1) := by decide +kernel
theorem dX9_rentIn_20 : decode cX9_rentIn 20 = .ok (.invokevirtual 237, 3) := by decide +kernel
theorem dX9_rentIn_23 : decode cX9_rentIn 23 = .ok (.iconst 0, 1) := by decide +kernel
theorem dX9_rentIn_24 : decode cX9_rentIn 24 = .ok (.istore_n 3, 1) := by decide +kernel
theorem dX9_rentIn_25 : decode cX9_rentIn 25 = .ok (.iconst 0, 1) := by decide +kernel
theorem dX9_rentIn_26 : decode cX9_rentIn 26 = .ok (.istore 4, 2) := by decide +kernel
theorem dX9_rentIn_28 : decode cX9_rentIn 28 = .ok (.iload 4, 2) := by decide +kernel
theorem dX9_rentIn_30 : decode cX9_rentIn 30 = .ok (.bipush 12, 2) := by decide +kernel
theorem dX9_rentIn_32 : decode cX9_rentIn 32 = .ok (.if_icmp .ge 74, 3) := by decide +kernel
theorem dX9_rentIn_35 : decode cX9_rentIn 35 = .ok (.iconst 0, 1) := by decide +kernel
theorem dX9_rentIn_36 : decode cX9_rentIn 36 = .ok (.istore 5, 2) := by decide +kernel
theorem dX9_rentIn_38 : decode cX9_rentIn 38 = .ok (.iload 5, 2) := by decide +kernel
theorem dX9_rentIn_40 : decode cX9_rentIn 40 = .ok (.aload_n 0, 1) := by decide +kernel
theorem dX9_rentIn_41 : decode cX9_rentIn 41 = .ok (.getfield 47, 3) := by decide +kernel
theorem dX9_rentIn_44 : decode cX9_rentIn 44 = .ok (.iconst 0, 1) := by decide +kernel
theorem dX9_rentIn_45 : decode cX9_rentIn 45 = .ok (.iaload, 1) := by decide +kernel
theorem dX9_rentIn_46 : decode cX9_rentIn 46 = .ok (.if_icmp .ge 54, 3) := by decide +kernel
theorem dX9_rentIn_49 : decode cX9_rentIn 49 = .ok (.iload_n 3, 1) := by decide +kernel
theorem dX9_rentIn_50 : decode cX9_rentIn 50 = .ok (.aload_n 0, 1) := by decide +kernel
theorem dX9_rentIn_51 : decode cX9_rentIn 51 = .ok (.getfield 72, 3) := by decide +kernel
theorem dX9_rentIn_54 : decode cX9_rentIn 54 = .ok (.iload 4, 2) := by decide +kernel
theorem dX9_rentIn_56 : decode cX9_rentIn 56 = .ok (.iaload, 1) := by decide +kernel
theorem dX9_rentIn_57 : decode cX9_rentIn 57 = .ok (.iload 5, 2) := by decide +kernel
theorem dX9_rentIn_59 : decode cX9_rentIn 59 = .ok (.invokestatic 140, 3) := by decide +kernel
theorem dX9_rentIn_62 : decode cX9_rentIn 62 = .ok (.ifCond .eq 29, 3) := by decide +kernel
theorem dX9_rentIn_65 : decode cX9_rentIn 65 = .ok (.aload_n 0, 1) := by decide +kernel
theorem dX9_rentIn_66 : decode cX9_rentIn 66 = .ok (.getfield 20, 3) := by decide +kernel
theorem dX9_rentIn_69 : decode cX9_rentIn 69 = .ok (.iload 5, 2) := by decide +kernel
theorem dX9_rentIn_71 : decode cX9_rentIn 71 = .ok (.iaload, 1) := by decide +kernel
theorem dX9_rentIn_72 : decode cX9_rentIn 72 = .ok (.iload_n 2, 1) := by decide +kernel
theorem dX9_rentIn_73 : decode cX9_rentIn 73 = .ok (.if_icmp .ne 18, 3) := by decide +kernel
theorem dX9_rentIn_76 : decode cX9_rentIn 76 = .ok (.aload_n 0, 1) := by decide +kernel
theorem dX9_rentIn_77 : decode cX9_rentIn 77 = .ok (.getfield 7, 3) := by decide +kernel
theorem dX9_rentIn_80 : decode cX9_rentIn 80 = .ok (.iload_n 1, 1) := by decide +kernel
theorem dX9_rentIn_81 : decode cX9_rentIn 81 = .ok (.bipush 10, 2) := by decide +kernel
theorem dX9_rentIn_83 : decode cX9_rentIn 83 = .ok (.iadd, 1) := by decide +kernel
theorem dX9_rentIn_84 : decode cX9_rentIn 84 = .ok (.iload 5, 2) := by decide +kernel
theorem dX9_rentIn_86 : decode cX9_rentIn 86 = .ok (.iadd, 1) := by decide +kernel
theorem dX9_rentIn_87 : decode cX9_rentIn 87 = .ok (.iaload, 1) := by decide +kernel
theorem dX9_rentIn_88 : decode cX9_rentIn 88 = .ok (.goto 4, 3) := by decide +kernel
theorem dX9_rentIn_91 : decode cX9_rentIn 91 = .ok (.iconst 0, 1) := by decide +kernel
theorem dX9_rentIn_92 : decode cX9_rentIn 92 = .ok (.iadd, 1) := by decide +kernel
theorem dX9_rentIn_93 : decode cX9_rentIn 93 = .ok (.istore_n 3, 1) := by decide +kernel
theorem dX9_rentIn_94 : decode cX9_rentIn 94 = .ok (.iinc 5 1, 3) := by decide +kernel
theorem dX9_rentIn_97 : decode cX9_rentIn 97 = .ok (.goto (-59), 3) := by decide +kernel
theorem dX9_rentIn_100 : decode cX9_rentIn 100 = .ok (.iinc 4 1, 3) := by decide +kernel
theorem dX9_rentIn_103 : decode cX9_rentIn 103 = .ok (.goto (-75), 3) := by decide +kernel
theorem dX9_rentIn_106 : decode cX9_rentIn 106 = .ok (.iload_n 3, 1) := by decide +kernel
theorem dX9_rentIn_107 : decode cX9_rentIn 107 = .ok (.ireturn, 1) := by decide +kernel
theorem dX9_rent_0 : decode cX9_rent 0 = .ok (.iload_n 1, 1) := by decide +kernel
theorem dX9_rent_1 : decode cX9_rent 1 = .ok (.i2l, 1) := by decide +kernel
theorem dX9_rent_2 : decode cX9_rent 2 = .ok (.lconst 0, 1) := by decide +kernel
theorem dX9_rent_3 : decode cX9_rent 3 = .ok (.ldc2_w 243, 3) := by decide +kernel
theorem dX9_rent_6 : decode cX9_rent 6 = .ok (.invokestatic 89, 3) := by decide +kernel
theorem dX9_rent_9 : decode cX9_rent 9 = .ok (.ifCond .ne 6, 3) := by decide +kernel
theorem dX9_rent_12 : decode cX9_rent 12 = .ok (.ldc 93, 2) := by decide +kernel
theorem dX9_rent_14 : decode cX9_rent 14 = .ok (.ireturn, 1) := by decide +kernel
theorem dX9_rent_15 : decode cX9_rent 15 = .ok (.aload_n 0, 1) := by decide +kernel
theorem dX9_rent_16 : decode cX9_rent 16 = .ok (.iconst 0, 1) := by decide +kernel
theorem dX9_rent_17 : decode cX9_rent 17 = .ok (.invokevirtual 217, 3) := by decide +kernel
theorem dX9_rent_20 : decode cX9_rent 20 = .ok (.aload_n 0, 1) := by decide +kernel
theorem dX9_rent_21 : decode cX9_rent 21 = .ok (.iconst 0, 1) := by decide +kernel
theorem dX9_rent_22 : decode cX9_rent 22 = .ok (.iload_n 1, 1) := by decide +kernel
theorem dX9_rent_23 : decode cX9_rent 23 = .ok (.invokevirtual 245, 3) := by decide +kernel
theorem dX9_rent_26 : decode cX9_rent 26 = .ok (.ireturn, 1) := by decide +kernel
theorem dX9_without_0 : decode cX9_without 0 = .ok (.iload_n 1, 1) := by decide +kernel
theorem dX9_without_1 : decode cX9_without 1 = .ok (.i2l, 1) := by decide +kernel
theorem dX9_without_2 : decode cX9_without 2 = .ok (.lconst 0, 1) := by decide +kernel
theorem dX9_without_3 : decode cX9_without 3 = .ok (.ldc2_w 243, 3) := by decide +kernel
theorem dX9_without_6 : decode cX9_without 6 = .ok (.invokestatic 89, 3) := by decide +kernel
theorem dX9_without_9 : decode cX9_without 9 = .ok (.ifCond .ne 6, 3) := by decide +kernel
theorem dX9_without_12 : decode cX9_without 12 = .ok (.ldc 93, 2) := by decide +kernel
theorem dX9_without_14 : decode cX9_without 14 = .ok (.ireturn, 1) := by decide +kernel
theorem dX9_without_15 : decode cX9_without 15 = .ok (.aload_n 0, 1) := by decide +kernel
theorem dX9_without_16 : decode cX9_without 16 = .ok (.iconst 0, 1) := by decide +kernel
theorem dX9_without_17 : decode cX9_without 17 = .ok (.invokevirtual 234, 3) := by decide +kernel
theorem dX9_without_20 : decode cX9_without 20 = .ok (.istore_n 2, 1) := by decide +kernel
theorem dX9_without_21 : decode cX9_without 21 = .ok (.iconst 0, 1) := by decide +kernel
theorem dX9_without_22 : decode cX9_without 22 = .ok (.istore_n 3, 1) := by decide +kernel
theorem dX9_without_23 : decode cX9_without 23 = .ok (.iload_n 3, 1) := by decide +kernel
theorem dX9_without_24 : decode cX9_without 24 = .ok (.aload_n 0, 1) := by decide +kernel
theorem dX9_without_25 : decode cX9_without 25 = .ok (.getfield 47, 3) := by decide +kernel
theorem dX9_without_28 : decode cX9_without 28 = .ok (.iconst 0, 1) := by decide +kernel
theorem dX9_without_29 : decode cX9_without 29 = .ok (.iaload, 1) := by decide +kernel
theorem dX9_without_30 : decode cX9_without 30 = .ok (.if_icmp .ge 38, 3) := by decide +kernel
theorem dX9_without_33 : decode cX9_without 33 = .ok (.aload_n 0, 1) := by decide +kernel
theorem dX9_without_34 : decode cX9_without 34 = .ok (.dup, 1) := by decide +kernel
theorem dX9_without_35 : decode cX9_without 35 = .ok (.getfield 168, 3) := by decide +kernel
theorem dX9_without_38 : decode cX9_without 38 = .ok (.aload_n 0, 1) := by decide +kernel
theorem dX9_without_39 : decode cX9_without 39 = .ok (.getfield 20, 3) := by decide +kernel
theorem dX9_without_42 : decode cX9_without 42 = .ok (.iload_n 3, 1) := by decide +kernel
theorem dX9_without_43 : decode cX9_without 43 = .ok (.iaload, 1) := by decide +kernel
theorem dX9_without_44 : decode cX9_without 44 = .ok (.iload_n 1, 1) := by decide +kernel
theorem dX9_without_45 : decode cX9_without 45 = .ok (.if_icmp .ne 7, 3) := by decide +kernel
theorem dX9_without_48 : decode cX9_without 48 = .ok (.iconst 1, 1) := by decide +kernel
theorem dX9_without_49 : decode cX9_without 49 = .ok (.goto 4, 3) := by decide +kernel
theorem dX9_without_52 : decode cX9_without 52 = .ok (.iconst 0, 1) := by decide +kernel
theorem dX9_without_53 : decode cX9_without 53 = .ok (.invokestatic 224, 3) := by decide +kernel
theorem dX9_without_56 : decode cX9_without 56 = .ok (.iload_n 3, 1) := by decide +kernel
theorem dX9_without_57 : decode cX9_without 57 = .ok (.ishl, 1) := by decide +kernel
theorem dX9_without_58 : decode cX9_without 58 = .ok (.ior, 1) := by decide +kernel
theorem dX9_without_59 : decode cX9_without 59 = .ok (.putfield 168, 3) := by decide +kernel
theorem dX9_without_62 : decode cX9_without 62 = .ok (.iinc 3 1, 3) := by decide +kernel
theorem dX9_without_65 : decode cX9_without 65 = .ok (.goto (-42), 3) := by decide +kernel
theorem dX9_without_68 : decode cX9_without 68 = .ok (.aload_n 0, 1) := by decide +kernel
theorem dX9_without_69 : decode cX9_without 69 = .ok (.iconst 0, 1) := by decide +kernel
theorem dX9_without_70 : decode cX9_without 70 = .ok (.invokevirtual 234, 3) := by decide +kernel
theorem dX9_without_73 : decode cX9_without 73 = .ok (.istore_n 3, 1) := by decide +kernel
theorem dX9_without_74 : decode cX9_without 74 = .ok (.aload_n 0, 1) := by decide +kernel
theorem dX9_without_75 : decode cX9_without 75 = .ok (.iconst 0, 1) := by decide +kernel
theorem dX9_without_76 : decode cX9_without 76 = .ok (.putfield 168, 3) := by decide +kernel
theorem dX9_without_79 : decode cX9_without 79 = .ok (.iload_n 2, 1) := by decide +kernel
theorem dX9_without_80 : decode cX9_without 80 = .ok (.ifCond .lt 7, 3) := by decide +kernel
theorem dX9_without_83 : decode cX9_without 83 = .ok (.iload_n 3, 1) := by decide +kernel
theorem dX9_without_84 : decode cX9_without 84 = .ok (.ifCond .ge 7, 3) := by decide +kernel
theorem dX9_without_87 : decode cX9_without 87 = .ok (.iconst (-1), 1) := by decide +kernel
theorem dX9_without_88 : decode cX9_without 88 = .ok (.goto 6, 3) := by decide +kernel
theorem dX9_without_91 : decode cX9_without 91 = .ok (.iload_n 3, 1) := by decide +kernel
theorem dX9_without_92 : decode cX9_without 92 = .ok (.iload_n 2, 1) := by decide +kernel
theorem dX9_without_93 : decode cX9_without 93 = .ok (.isub, 1) := by decide +kernel
theorem dX9_without_94 : decode cX9_without 94 = .ok (.ireturn, 1) := by decide +kernel
theorem dX9_copy_0 : decode cX9_copy 0 = .ok (.iconst 0, 1) := by decide +kernel
theorem dX9_copy_1 : decode cX9_copy 1 = .ok (.istore_n 3, 1) := by decide +kernel
theorem dX9_copy_2 : decode cX9_copy 2 = .ok (.iload_n 3, 1) := by decide +kernel
theorem dX9_copy_3 : decode cX9_copy 3 = .ok (.bipush 40, 2) := by decide +kernel
theorem dX9_copy_5 : decode cX9_copy 5 = .ok (.if_icmp .ge 25, 3) := by decide +kernel
theorem dX9_copy_8 : decode cX9_copy 8 = .ok (.aload_n 0, 1) := by decide +kernel
theorem dX9_copy_9 : decode cX9_copy 9 = .ok (.getfield 7, 3) := by decide +kernel
theorem dX9_copy_12 : decode cX9_copy 12 = .ok (.iload_n 2, 1) := by decide +kernel
theorem dX9_copy_13 : decode cX9_copy 13 = .ok (.iload_n 3, 1) := by decide +kernel
theorem dX9_copy_14 : decode cX9_copy 14 = .ok (.iadd, 1) := by decide +kernel
theorem dX9_copy_15 : decode cX9_copy 15 = .ok (.aload_n 0, 1) := by decide +kernel
theorem dX9_copy_16 : decode cX9_copy 16 = .ok (.getfield 7, 3) := by decide +kernel
theorem dX9_copy_19 : decode cX9_copy 19 = .ok (.iload_n 1, 1) := by decide +kernel
theorem dX9_copy_20 : decode cX9_copy 20 = .ok (.iload_n 3, 1) := by decide +kernel
theorem dX9_copy_21 : decode cX9_copy 21 = .ok (.iadd, 1) := by decide +kernel
theorem dX9_copy_22 : decode cX9_copy 22 = .ok (.iaload, 1) := by decide +kernel
theorem dX9_copy_23 : decode cX9_copy 23 = .ok (.iastore, 1) := by decide +kernel
theorem dX9_copy_24 : decode cX9_copy 24 = .ok (.iinc 3 1, 3) := by decide +kernel
theorem dX9_copy_27 : decode cX9_copy 27 = .ok (.goto (-25), 3) := by decide +kernel
theorem dX9_copy_30 : decode cX9_copy 30 = .ok (.return_, 1) := by decide +kernel
theorem dX9_raise_0 : decode cX9_raise 0 = .ok (.iload_n 1, 1) := by decide +kernel
theorem dX9_raise_1 : decode cX9_raise 1 = .ok (.i2l, 1) := by decide +kernel
theorem dX9_raise_2 : decode cX9_raise 2 = .ok (.lconst 0, 1) := by decide +kernel
theorem dX9_raise_3 : decode cX9_raise 3 = .ok (.ldc2_w 243, 3) := by decide +kernel
theorem dX9_raise_6 : decode cX9_raise 6 = .ok (.invokestatic 89, 3) := by decide +kernel
theorem dX9_raise_9 : decode cX9_raise 9 = .ok (.ifCond .eq 13, 3) := by decide +kernel
theorem dX9_raise_12 : decode cX9_raise 12 = .ok (.iload_n 2, 1) := by decide +kernel
theorem dX9_raise_13 : decode cX9_raise 13 = .ok (.i2l, 1) := by decide +kernel
theorem dX9_raise_14 : decode cX9_raise 14 = .ok (.lconst 0, 1) := by decide +kernel
theorem dX9_raise_15 : decode cX9_raise 15 = .ok (.lconst 1, 1) := by decide +kernel
theorem dX9_raise_16 : decode cX9_raise 16 = .ok (.invokestatic 89, 3) := by decide +kernel
theorem dX9_raise_19 : decode cX9_raise 19 = .ok (.ifCond .ne 6, 3) := by decide +kernel
theorem dX9_raise_22 : decode cX9_raise 22 = .ok (.ldc 93, 2) := by decide +kernel
theorem dX9_raise_24 : decode cX9_raise 24 = .ok (.ireturn, 1) := by decide +kernel
theorem dX9_raise_25 : decode cX9_raise 25 = .ok (.iconst 0, 1) := by decide +kernel
theorem dX9_raise_26 : decode cX9_raise 26 = .ok (.istore_n 3, 1) := by decide +kernel
theorem dX9_raise_27 : decode cX9_raise 27 = .ok (.iconst (-1), 1) := by decide +kernel
theorem dX9_raise_28 : decode cX9_raise 28 = .ok (.istore 4, 2) := by decide +kernel
theorem dX9_raise_30 : decode cX9_raise 30 = .ok (.aload_n 0, 1) := by decide +kernel
theorem dX9_raise_31 : decode cX9_raise 31 = .ok (.iconst 0, 1) := by decide +kernel
theorem dX9_raise_32 : decode cX9_raise 32 = .ok (.invokevirtual 217, 3) := by decide +kernel
theorem dX9_raise_35 : decode cX9_raise 35 = .ok (.iconst 0, 1) := by decide +kernel
theorem dX9_raise_36 : decode cX9_raise 36 = .ok (.istore 5, 2) := by decide +kernel
theorem dX9_raise_38 : decode cX9_raise 38 = .ok (.iload 5, 2) := by decide +kernel
theorem dX9_raise_40 : decode cX9_raise 40 = .ok (.bipush 20, 2) := by decide +kernel
theorem dX9_raise_42 : decode cX9_raise 42 = .ok (.if_icmp .gt 113, 3) := by decide +kernel
theorem dX9_raise_45 : decode cX9_raise 45 = .ok (.aload_n 0, 1) := by decide +kernel
theorem dX9_raise_46 : decode cX9_raise 46 = .ok (.iconst 0, 1) := by decide +kernel
theorem dX9_raise_47 : decode cX9_raise 47 = .ok (.bipush 40, 2) := by decide +kernel
theorem dX9_raise_49 : decode cX9_raise 49 = .ok (.invokevirtual 248, 3) := by decide +kernel
theorem dX9_raise_52 : decode cX9_raise 52 = .ok (.iconst 0, 1) := by decide +kernel
theorem dX9_raise_53 : decode cX9_raise 53 = .ok (.istore 6, 2) := by decide +kernel
theorem dX9_raise_55 : decode cX9_raise 55 = .ok (.iload 6, 2) := by decide +kernel
theorem dX9_raise_57 : decode cX9_raise 57 = .ok (.aload_n 0, 1) := by decide +kernel
theorem dX9_raise_58 : decode cX9_raise 58 = .ok (.getfield 47, 3) := by decide +kernel
theorem dX9_raise_61 : decode cX9_raise 61 = .ok (.iconst 0, 1) := by decide +kernel
theorem dX9_raise_62 : decode cX9_raise 62 = .ok (.iaload, 1) := by decide +kernel
theorem dX9_raise_63 : decode cX9_raise 63 = .ok (.if_icmp .ge 63, 3) := by decide +kernel
theorem dX9_raise_66 : decode cX9_raise 66 = .ok (.aload_n 0, 1) := by decide +kernel
theorem dX9_raise_67 : decode cX9_raise 67 = .ok (.getfield 7, 3) := by decide +kernel
theorem dX9_raise_70 : decode cX9_raise 70 = .ok (.bipush 10, 2) := by decide +kernel
theorem dX9_raise_72 : decode cX9_raise 72 = .ok (.iload 6, 2) := by decide +kernel
theorem dX9_raise_74 : decode cX9_raise 74 = .ok (.iadd, 1) := by decide +kernel
theorem dX9_raise_75 : decode cX9_raise 75 = .ok (.iaload, 1) := by decide +kernel
theorem dX9_raise_76 : decode cX9_raise 76 = .ok (.aload_n 0, 1) := by decide +kernel
theorem dX9_raise_77 : decode cX9_raise 77 = .ok (.getfield 20, 3) := by decide +kernel
theorem dX9_raise_80 : decode cX9_raise 80 = .ok (.iload 6, 2) := by decide +kernel
theorem dX9_raise_82 : decode cX9_raise 82 = .ok (.iaload, 1) := by decide +kernel
theorem dX9_raise_83 : decode cX9_raise 83 = .ok (.iload_n 1, 1) := by decide +kernel
theorem dX9_raise_84 : decode cX9_raise 84 = .ok (.if_icmp .ne 8, 3) := by decide +kernel
theorem dX9_raise_87 : decode cX9_raise 87 = .ok (.iload 5, 2) := by decide +kernel
theorem dX9_raise_89 : decode cX9_raise 89 = .ok (.goto 4, 3) := by decide +kernel
theorem dX9_raise_92 : decode cX9_raise 92 = .ok (.iconst 0, 1) := by decide +kernel
theorem dX9_raise_93 : decode cX9_raise 93 = .ok (.iadd, 1) := by decide +kernel
theorem dX9_raise_94 : decode cX9_raise 94 = .ok (.istore 7, 2) := by decide +kernel
theorem dX9_raise_96 : decode cX9_raise 96 = .ok (.aload_n 0, 1) := by decide +kernel
theorem dX9_raise_97 : decode cX9_raise 97 = .ok (.getfield 7, 3) := by decide +kernel
theorem dX9_raise_100 : decode cX9_raise 100 = .ok (.bipush 50, 2) := by decide +kernel
theorem dX9_raise_102 : decode cX9_raise 102 = .ok (.iload 6, 2) := by decide +kernel
theorem dX9_raise_104 : decode cX9_raise 104 = .ok (.iadd, 1) := by decide +kernel
theorem dX9_raise_105 : decode cX9_raise 105 = .ok (.iload 7, 2) := by decide +kernel
theorem dX9_raise_107 : decode cX9_raise 107 = .ok (.bipush 99, 2) := by decide +kernel
theorem dX9_raise_109 : decode cX9_raise 109 = .ok (.if_icmp .le 8, 3) := by decide +kernel
theorem dX9_raise_112 : decode cX9_raise 112 = .ok (.bipush 99, 2) := by decide +kernel
theorem dX9_raise_114 : decode cX9_raise 114 = .ok (.goto 5, 3) := by decide +kernel
theorem dX9_raise_117 : decode cX9_raise 117 = .ok (.iload 7, 2) := by decide +kernel
theorem dX9_raise_119 : decode cX9_raise 119 = .ok (.iastore, 1) := by decide +kernel
theorem dX9_raise_120 : decode cX9_raise 120 = .ok (.iinc 6 1, 3) := by decide +kernel
theorem dX9_raise_123 : decode cX9_raise 123 = .ok (.goto (-68), 3) := by decide +kernel
theorem dX9_raise_126 : decode cX9_raise 126 = .ok (.aload_n 0, 1) := by decide +kernel
theorem dX9_raise_127 : decode cX9_raise 127 = .ok (.bipush 40, 2) := by decide +kernel
theorem dX9_raise_129 : decode cX9_raise 129 = .ok (.iload_n 1, 1) := by decide +kernel
theorem dX9_raise_130 : decode cX9_raise 130 = .ok (.invokevirtual 245, 3) := by decide +kernel
theorem dX9_raise_133 : decode cX9_raise 133 = .ok (.istore 6, 2) := by decide +kernel
theorem dX9_raise_135 : decode cX9_raise 135 = .ok (.iload 6, 2) := by decide +kernel
theorem dX9_raise_137 : decode cX9_raise 137 = .ok (.iload 4, 2) := by decide +kernel
theorem dX9_raise_139 : decode cX9_raise 139 = .ok (.if_icmp .le 10, 3) := by decide +kernel
theorem dX9_raise_142 : decode cX9_raise 142 = .ok (.iload 5, 2) := by decide +kernel
theorem dX9_raise_144 : decode cX9_raise 144 = .ok (.istore_n 3, 1) := by decide +kernel
theorem dX9_raise_145 : decode cX9_raise 145 = .ok (.iload 6, 2) := by decide +kernel
theorem dX9_raise_147 : decode cX9_raise 147 = .ok (.istore 4, 2) := by decide +kernel
theorem dX9_raise_149 : decode cX9_raise 149 = .ok (.iinc 5 1, 3) := by decide +kernel
theorem dX9_raise_152 : decode cX9_raise 152 = .ok (.goto (-114), 3) := by decide +kernel
theorem dX9_raise_155 : decode cX9_raise 155 = .ok (.iload_n 2, 1) := by decide +kernel
theorem dX9_raise_156 : decode cX9_raise 156 = .ok (.ifCond .ne 7, 3) := by decide +kernel
theorem dX9_raise_159 : decode cX9_raise 159 = .ok (.iload_n 3, 1) := by decide +kernel
theorem dX9_raise_160 : decode cX9_raise 160 = .ok (.goto 5, 3) := by decide +kernel
theorem dX9_raise_163 : decode cX9_raise 163 = .ok (.iload 4, 2) := by decide +kernel
theorem dX9_raise_165 : decode cX9_raise 165 = .ok (.ireturn, 1) := by decide +kernel
theorem dX9_grow_0 : decode cX9_grow 0 = .ok (.iload_n 1, 1) := by decide +kernel
theorem dX9_grow_1 : decode cX9_grow 1 = .ok (.i2l, 1) := by decide +kernel
theorem dX9_grow_2 : decode cX9_grow 2 = .ok (.lconst 0, 1) := by decide +kernel
theorem dX9_grow_3 : decode cX9_grow 3 = .ok (.ldc2_w 192, 3) := by decide +kernel
theorem dX9_grow_6 : decode cX9_grow 6 = .ok (.invokestatic 89, 3) := by decide +kernel
theorem dX9_grow_9 : decode cX9_grow 9 = .ok (.ifCond .ne 6, 3) := by decide +kernel
theorem dX9_grow_12 : decode cX9_grow 12 = .ok (.ldc 93, 2) := by decide +kernel
theorem dX9_grow_14 : decode cX9_grow 14 = .ok (.ireturn, 1) := by decide +kernel
theorem dX9_grow_15 : decode cX9_grow 15 = .ok (.aload_n 0, 1) := by decide +kernel
theorem dX9_grow_16 : decode cX9_grow 16 = .ok (.iconst 0, 1) := by decide +kernel
theorem dX9_grow_17 : decode cX9_grow 17 = .ok (.bipush 40, 2) := by decide +kernel
theorem dX9_grow_19 : decode cX9_grow 19 = .ok (.invokevirtual 248, 3) := by decide +kernel
theorem dX9_grow_22 : decode cX9_grow 22 = .ok (.iconst (-1), 1) := by decide +kernel
theorem dX9_grow_23 : decode cX9_grow 23 = .ok (.istore_n 2, 1) := by decide +kernel
theorem dX9_grow_24 : decode cX9_grow 24 = .ok (.iconst 0, 1) := by decide +kernel
theorem dX9_grow_25 : decode cX9_grow 25 = .ok (.istore_n 3, 1) := by decide +kernel
theorem dX9_grow_26 : decode cX9_grow 26 = .ok (.iconst (-1), 1) := by decide +kernel
theorem dX9_grow_27 : decode cX9_grow 27 = .ok (.istore 4, 2) := by decide +kernel
theorem dX9_grow_29 : decode cX9_grow 29 = .ok (.iconst 0, 1) := by decide +kernel
theorem dX9_grow_30 : decode cX9_grow 30 = .ok (.istore 5, 2) := by decide +kernel
theorem dX9_grow_32 : decode cX9_grow 32 = .ok (.iload 5, 2) := by decide +kernel
theorem dX9_grow_34 : decode cX9_grow 34 = .ok (.aload_n 0, 1) := by decide +kernel
theorem dX9_grow_35 : decode cX9_grow 35 = .ok (.getfield 47, 3) := by decide +kernel
theorem dX9_grow_38 : decode cX9_grow 38 = .ok (.iconst 0, 1) := by decide +kernel
theorem dX9_grow_39 : decode cX9_grow 39 = .ok (.iaload, 1) := by decide +kernel
theorem dX9_grow_40 : decode cX9_grow 40 = .ok (.if_icmp .ge 82, 3) := by decide +kernel
theorem dX9_grow_43 : decode cX9_grow 43 = .ok (.iconst 0, 1) := by decide +kernel
theorem dX9_grow_44 : decode cX9_grow 44 = .ok (.istore 6, 2) := by decide +kernel
theorem dX9_grow_46 : decode cX9_grow 46 = .ok (.iload 6, 2) := by decide +kernel
theorem dX9_grow_48 : decode cX9_grow 48 = .ok (.bipush 9, 2) := by decide +kernel
theorem dX9_grow_50 : decode cX9_grow 50 = .ok (.if_icmp .gt 49, 3) := by decide +kernel
theorem dX9_grow_53 : decode cX9_grow 53 = .ok (.aload_n 0, 1) := by decide +kernel
theorem dX9_grow_54 : decode cX9_grow 54 = .ok (.getfield 7, 3) := by decide +kernel
theorem dX9_grow_57 : decode cX9_grow 57 = .ok (.bipush 40, 2) := by decide +kernel
theorem dX9_grow_59 : decode cX9_grow 59 = .ok (.iload 5, 2) := by decide +kernel
theorem dX9_grow_61 : decode cX9_grow 61 = .ok (.iadd, 1) := by decide +kernel
theorem dX9_grow_62 : decode cX9_grow 62 = .ok (.iload 6, 2) := by decide +kernel
theorem dX9_grow_64 : decode cX9_grow 64 = .ok (.iastore, 1) := by decide +kernel
theorem dX9_grow_65 : decode cX9_grow 65 = .ok (.aload_n 0, 1) := by decide +kernel
theorem dX9_grow_66 : decode cX9_grow 66 = .ok (.bipush 40, 2) := by decide +kernel
theorem dX9_grow_68 : decode cX9_grow 68 = .ok (.invokevirtual 177, 3) := by decide +kernel
theorem dX9_grow_71 : decode cX9_grow 71 = .ok (.invokestatic 181, 3) := by decide +kernel
theorem dX9_grow_74 : decode cX9_grow 74 = .ok (.istore 7, 2) := by decide +kernel
theorem dX9_grow_76 : decode cX9_grow 76 = .ok (.iload 7, 2) := by decide +kernel
theorem dX9_grow_78 : decode cX9_grow 78 = .ok (.iload 4, 2) := by decide +kernel
theorem dX9_grow_80 : decode cX9_grow 80 = .ok (.if_icmp .le 13, 3) := by decide +kernel
theorem dX9_grow_83 : decode cX9_grow 83 = .ok (.iload 5, 2) := by decide +kernel
theorem dX9_grow_85 : decode cX9_grow 85 = .ok (.istore_n 2, 1) := by decide +kernel
theorem dX9_grow_86 : decode cX9_grow 86 = .ok (.iload 6, 2) := by decide +kernel
theorem dX9_grow_88 : decode cX9_grow 88 = .ok (.istore_n 3, 1) := by decide +kernel
theorem dX9_grow_89 : decode cX9_grow 89 = .ok (.iload 7, 2) := by decide +kernel
theorem dX9_grow_91 : decode cX9_grow 91 = .ok (.istore 4, 2) := by decide +kernel
theorem dX9_grow_93 : decode cX9_grow 93 = .ok (.iinc 6 1, 3) := by decide +kernel
theorem dX9_grow_96 : decode cX9_grow 96 = .ok (.goto (-50), 3) := by decide +kernel
theorem dX9_grow_99 : decode cX9_grow 99 = .ok (.aload_n 0, 1) := by decide +kernel
theorem dX9_grow_100 : decode cX9_grow 100 = .ok (.getfield 7, 3) := by decide +kernel
theorem dX9_grow_103 : decode cX9_grow 103 = .ok (.bipush 40, 2) := by decide +kernel
theorem dX9_grow_105 : decode cX9_grow 105 = .ok (.iload 5, 2) := by decide +kernel
theorem dX9_grow_107 : decode cX9_grow 107 = .ok (.iadd, 1) := by decide +kernel
theorem dX9_grow_108 : decode cX9_grow 108 = .ok (.aload_n 0, 1) := by decide +kernel
theorem dX9_grow_109 : decode cX9_grow 109 = .ok (.getfield 7, 3) := by decide +kernel
theorem dX9_grow_112 : decode cX9_grow 112 = .ok (.iload 5, 2) := by decide +kernel
theorem dX9_grow_114 : decode cX9_grow 114 = .ok (.iaload, 1) := by decide +kernel
theorem dX9_grow_115 : decode cX9_grow 115 = .ok (.iastore, 1) := by decide +kernel
theorem dX9_grow_116 : decode cX9_grow 116 = .ok (.iinc 5 1, 3) := by decide +kernel
theorem dX9_grow_119 : decode cX9_grow 119 = .ok (.goto (-87), 3) := by decide +kernel
theorem dX9_grow_122 : decode cX9_grow 122 = .ok (.iload_n 2, 1) := by decide +kernel
theorem dX9_grow_123 : decode cX9_grow 123 = .ok (.ifCond .ge 7, 3) := by decide +kernel
theorem dX9_grow_126 : decode cX9_grow 126 = .ok (.iconst (-1), 1) := by decide +kernel
theorem dX9_grow_127 : decode cX9_grow 127 = .ok (.goto 22, 3) := by decide +kernel
theorem dX9_grow_130 : decode cX9_grow 130 = .ok (.iload_n 1, 1) := by decide +kernel
theorem dX9_grow_131 : decode cX9_grow 131 = .ok (.ifCond .ne 7, 3) := by decide +kernel
theorem dX9_grow_134 : decode cX9_grow 134 = .ok (.iload_n 2, 1) := by decide +kernel
theorem dX9_grow_135 : decode cX9_grow 135 = .ok (.goto 14, 3) := by decide +kernel
theorem dX9_grow_138 : decode cX9_grow 138 = .ok (.iload_n 1, 1) := by decide +kernel
theorem dX9_grow_139 : decode cX9_grow 139 = .ok (.iconst 1, 1) := by decide +kernel
theorem dX9_grow_140 : decode cX9_grow 140 = .ok (.if_icmp .ne 7, 3) := by decide +kernel
theorem dX9_grow_143 : decode cX9_grow 143 = .ok (.iload_n 3, 1) := by decide +kernel
theorem dX9_grow_144 : decode cX9_grow 144 = .ok (.goto 5, 3) := by decide +kernel
theorem dX9_grow_147 : decode cX9_grow 147 = .ok (.iload 4, 2) := by decide +kernel
theorem dX9_grow_149 : decode cX9_grow 149 = .ok (.ireturn, 1) := by decide +kernel
theorem dX9_wedding_0 : decode cX9_wedding 0 = .ok (.iload_n 1, 1) := by decide +kernel
theorem dX9_wedding_1 : decode cX9_wedding 1 = .ok (.i2l, 1) := by decide +kernel
theorem dX9_wedding_2 : decode cX9_wedding 2 = .ok (.lconst 0, 1) := by decide +kernel
theorem dX9_wedding_3 : decode cX9_wedding 3 = .ok (.ldc2_w 251, 3) := by decide +kernel
theorem dX9_wedding_6 : decode cX9_wedding 6 = .ok (.invokestatic 89, 3) := by decide +kernel
theorem dX9_wedding_9 : decode cX9_wedding 9 = .ok (.ifCond .eq 13, 3) := by decide +kernel
theorem dX9_wedding_12 : decode cX9_wedding 12 = .ok (.iload_n 2, 1) := by decide +kernel
theorem dX9_wedding_13 : decode cX9_wedding 13 = .ok (.i2l, 1) := by decide +kernel
theorem dX9_wedding_14 : decode cX9_wedding 14 = .ok (.lconst 0, 1) := by decide +kernel
theorem dX9_wedding_15 : decode cX9_wedding 15 = .ok (.lconst 1, 1) := by decide +kernel
theorem dX9_wedding_16 : decode cX9_wedding 16 = .ok (.invokestatic 89, 3) := by decide +kernel
theorem dX9_wedding_19 : decode cX9_wedding 19 = .ok (.ifCond .ne 6, 3) := by decide +kernel
theorem dX9_wedding_22 : decode cX9_wedding 22 = .ok (.ldc 93, 2) := by decide +kernel
theorem dX9_wedding_24 : decode cX9_wedding 24 = .ok (.ireturn, 1) := by decide +kernel
theorem dX9_wedding_25 : decode cX9_wedding 25 = .ok (.iconst (-1), 1) := by decide +kernel
theorem dX9_wedding_26 : decode cX9_wedding 26 = .ok (.istore_n 3, 1) := by decide +kernel
theorem dX9_wedding_27 : decode cX9_wedding 27 = .ok (.ldc 209, 2) := by decide +kernel
theorem dX9_wedding_29 : decode cX9_wedding 29 = .ok (.istore 4, 2) := by decide +kernel
theorem dX9_wedding_31 : decode cX9_wedding 31 = .ok (.iconst 0, 1) := by decide +kernel
theorem dX9_wedding_32 : decode cX9_wedding 32 = .ok (.istore 5, 2) := by decide +kernel
theorem dX9_wedding_34 : decode cX9_wedding 34 = .ok (.iload 5, 2) := by decide +kernel
theorem dX9_wedding_36 : decode cX9_wedding 36 = .ok (.aload_n 0, 1) := by decide +kernel
theorem dX9_wedding_37 : decode cX9_wedding 37 = .ok (.getfield 165, 3) := by decide +kernel
theorem dX9_wedding_40 : decode cX9_wedding 40 = .ok (.if_icmp .ge 160, 3) := by decide +kernel
theorem dX9_wedding_43 : decode cX9_wedding 43 = .ok (.iload 5, 2) := by decide +kernel
theorem dX9_wedding_45 : decode cX9_wedding 45 = .ok (.iconst 1, 1) := by decide +kernel
theorem dX9_wedding_46 : decode cX9_wedding 46 = .ok (.iadd, 1) := by decide +kernel
theorem dX9_wedding_47 : decode cX9_wedding 47 = .ok (.istore 6, 2) := by decide +kernel
theorem dX9_wedding_49 : decode cX9_wedding 49 = .ok (.iload 6, 2) := by decide +kernel
theorem dX9_wedding_51 : decode cX9_wedding 51 = .ok (.aload_n 0, 1) := by decide +kernel
theorem dX9_wedding_52 : decode cX9_wedding 52 = .ok (.getfield 165, 3) := by decide +kernel
theorem dX9_wedding_55 : decode cX9_wedding 55 = .ok (.if_icmp .ge 139, 3) := by decide +kernel
theorem dX9_wedding_58 : decode cX9_wedding 58 = .ok (.aload_n 0, 1) := by decide +kernel
theorem dX9_wedding_59 : decode cX9_wedding 59 = .ok (.getfield 57, 3) := by decide +kernel
theorem dX9_wedding_62 : decode cX9_wedding 62 = .ok (.iload 5, 2) := by decide +kernel
theorem dX9_wedding_64 : decode cX9_wedding 64 = .ok (.iaload, 1) := by decide +kernel
theorem dX9_wedding_65 : decode cX9_wedding 65 = .ok (.aload_n 0, 1) := by decide +kernel
theorem dX9_wedding_66 : decode cX9_wedding 66 = .ok (.getfield 57, 3) := by decide +kernel
theorem dX9_wedding_69 : decode cX9_wedding 69 = .ok (.iload 6, 2) := by decide +kernel
theorem dX9_wedding_71 : decode cX9_wedding 71 = .ok (.iaload, 1) := by decide +kernel
theorem dX9_wedding_72 : decode cX9_wedding 72 = .ok (.iand, 1) := by decide +kernel
theorem dX9_wedding_73 : decode cX9_wedding 73 = .ok (.ifCond .ne 34, 3) := by decide +kernel
theorem dX9_wedding_76 : decode cX9_wedding 76 = .ok (.aload_n 0, 1) := by decide +kernel
theorem dX9_wedding_77 : decode cX9_wedding 77 = .ok (.iconst 0, 1) := by decide +kernel
theorem dX9_wedding_78 : decode cX9_wedding 78 = .ok (.aload_n 0, 1) := by decide +kernel
theorem dX9_wedding_79 : decode cX9_wedding 79 = .ok (.getfield 57, 3) := by decide +kernel
theorem dX9_wedding_82 : decode cX9_wedding 82 = .ok (.iload 5, 2) := by decide +kernel
theorem dX9_wedding_84 : decode cX9_wedding 84 = .ok (.iaload, 1) := by decide +kernel
theorem dX9_wedding_85 : decode cX9_wedding 85 = .ok (.invokevirtual 171, 3) := by decide +kernel
theorem dX9_wedding_88 : decode cX9_wedding 88 = .ok (.aload_n 0, 1) := by decide +kernel
theorem dX9_wedding_89 : decode cX9_wedding 89 = .ok (.iconst 0, 1) := by decide +kernel
theorem dX9_wedding_90 : decode cX9_wedding 90 = .ok (.aload_n 0, 1) := by decide +kernel
theorem dX9_wedding_91 : decode cX9_wedding 91 = .ok (.getfield 57, 3) := by decide +kernel
theorem dX9_wedding_94 : decode cX9_wedding 94 = .ok (.iload 6, 2) := by decide +kernel
theorem dX9_wedding_96 : decode cX9_wedding 96 = .ok (.iaload, 1) := by decide +kernel
theorem dX9_wedding_97 : decode cX9_wedding 97 = .ok (.invokevirtual 171, 3) := by decide +kernel
theorem dX9_wedding_100 : decode cX9_wedding 100 = .ok (.if_icmp .ne 7, 3) := by decide +kernel
theorem dX9_wedding_103 : decode cX9_wedding 103 = .ok (.iconst 1, 1) := by decide +kernel
theorem dX9_wedding_104 : decode cX9_wedding 104 = .ok (.goto 4, 3) := by decide +kernel
theorem dX9_wedding_107 : decode cX9_wedding 107 = .ok (.iconst 0, 1) := by decide +kernel
theorem dX9_wedding_108 : decode cX9_wedding 108 = .ok (.istore 7, 2) := by decide +kernel
theorem dX9_wedding_110 : decode cX9_wedding 110 = .ok (.aload_n 0, 1) := by decide +kernel
theorem dX9_wedding_111 : decode cX9_wedding 111 = .ok (.bipush 10, 2) := by decide +kernel
theorem dX9_wedding_113 : decode cX9_wedding 113 = .ok (.aload_n 0, 1) := by decide +kernel
theorem dX9_wedding_114 : decode cX9_wedding 114 = .ok (.getfield 57, 3) := by decide +kernel
theorem dX9_wedding_117 : decode cX9_wedding 117 = .ok (.iload 5, 2) := by decide +kernel
theorem dX9_wedding_119 : decode cX9_wedding 119 = .ok (.iaload, 1) := by decide +kernel
theorem dX9_wedding_120 : decode cX9_wedding 120 = .ok (.aload_n 0, 1) := by decide +kernel
theorem dX9_wedding_121 : decode cX9_wedding 121 = .ok (.getfield 57, 3) := by decide +kernel
theorem dX9_wedding_124 : decode cX9_wedding 124 = .ok (.iload 6, 2) := by decide +kernel
theorem dX9_wedding_126 : decode cX9_wedding 126 = .ok (.iaload, 1) := by decide +kernel
theorem dX9_wedding_127 : decode cX9_wedding 127 = .ok (.ior, 1) := by decide +kernel
theorem dX9_wedding_128 : decode cX9_wedding 128 = .ok (.invokevirtual 171, 3) := by decide +kernel
theorem dX9_wedding_131 : decode cX9_wedding 131 = .ok (.istore 8, 2) := by decide +kernel
theorem dX9_wedding_133 : decode cX9_wedding 133 = .ok (.iload 7, 2) := by decide +kernel
theorem dX9_wedding_135 : decode cX9_wedding 135 = .ok (.ifCond .eq 53, 3) := by decide +kernel
theorem dX9_wedding_138 : decode cX9_wedding 138 = .ok (.iload 8, 2) := by decide +kernel
theorem dX9_wedding_140 : decode cX9_wedding 140 = .ok (.iload 4, 2) := by decide +kernel
theorem dX9_wedding_142 : decode cX9_wedding 142 = .ok (.if_icmp .ge 46, 3) := by decide +kernel
theorem dX9_wedding_145 : decode cX9_wedding 145 = .ok (.aload_n 0, 1) := by decide +kernel
theorem dX9_wedding_146 : decode cX9_wedding 146 = .ok (.aload_n 0, 1) := by decide +kernel
theorem dX9_wedding_147 : decode cX9_wedding 147 = .ok (.getfield 57, 3) := by decide +kernel
theorem dX9_wedding_150 : decode cX9_wedding 150 = .ok (.iload 5, 2) := by decide +kernel
theorem dX9_wedding_152 : decode cX9_wedding 152 = .ok (.iaload, 1) := by decide +kernel
theorem dX9_wedding_153 : decode cX9_wedding 153 = .ok (.aload_n 0, 1) := by decide +kernel
theorem dX9_wedding_154 : decode cX9_wedding 154 = .ok (.getfield 57, 3) := by decide +kernel
theorem dX9_wedding_157 : decode cX9_wedding 157 = .ok (.iload 6, 2) := by decide +kernel
theorem dX9_wedding_159 : decode cX9_wedding 159 = .ok (.iaload, 1) := by decide +kernel
theorem dX9_wedding_160 : decode cX9_wedding 160 = .ok (.ior, 1) := by decide +kernel
theorem dX9_wedding_161 : decode cX9_wedding 161 = .ok (.iload_n 1, 1) := by decide +kernel
theorem dX9_wedding_162 : decode cX9_wedding 162 = .ok (.invokevirtual 198, 3) := by decide +kernel
theorem dX9_wedding_165 : decode cX9_wedding 165 = .ok (.ifCond .eq 23, 3) := by decide +kernel
theorem dX9_wedding_168 : decode cX9_wedding 168 = .ok (.aload_n 0, 1) := by decide +kernel
theorem dX9_wedding_169 : decode cX9_wedding 169 = .ok (.getfield 57, 3) := by decide +kernel
theorem dX9_wedding_172 : decode cX9_wedding 172 = .ok (.iload 5, 2) := by decide +kernel
theorem dX9_wedding_174 : decode cX9_wedding 174 = .ok (.iaload, 1) := by decide +kernel
theorem dX9_wedding_175 : decode cX9_wedding 175 = .ok (.aload_n 0, 1) := by decide +kernel
theorem dX9_wedding_176 : decode cX9_wedding 176 = .ok (.getfield 57, 3) := by decide +kernel
theorem dX9_wedding_179 : decode cX9_wedding 179 = .ok (.iload 6, 2) := by decide +kernel
theorem dX9_wedding_181 : decode cX9_wedding 181 = .ok (.iaload, 1) := by decide +kernel
theorem dX9_wedding_182 : decode cX9_wedding 182 = .ok (.ior, 1) := by decide +kernel
theorem dX9_wedding_183 : decode cX9_wedding 183 = .ok (.istore_n 3, 1) := by decide +kernel
theorem dX9_wedding_184 : decode cX9_wedding 184 = .ok (.iload 8, 2) := by decide +kernel
theorem dX9_wedding_186 : decode cX9_wedding 186 = .ok (.istore 4, 2) := by decide +kernel
theorem dX9_wedding_188 : decode cX9_wedding 188 = .ok (.iinc 6 1, 3) := by decide +kernel
theorem dX9_wedding_191 : decode cX9_wedding 191 = .ok (.goto (-142), 3) := by decide +kernel
theorem dX9_wedding_194 : decode cX9_wedding 194 = .ok (.iinc 5 1, 3) := by decide +kernel
theorem dX9_wedding_197 : decode cX9_wedding 197 = .ok (.goto (-163), 3) := by decide +kernel
theorem dX9_wedding_200 : decode cX9_wedding 200 = .ok (.iload_n 3, 1) := by decide +kernel
theorem dX9_wedding_201 : decode cX9_wedding 201 = .ok (.ifCond .ge 7, 3) := by decide +kernel
theorem dX9_wedding_204 : decode cX9_wedding 204 = .ok (.iconst (-1), 1) := by decide +kernel
theorem dX9_wedding_205 : decode cX9_wedding 205 = .ok (.goto 13, 3) := by decide +kernel
theorem dX9_wedding_208 : decode cX9_wedding 208 = .ok (.iload_n 2, 1) := by decide +kernel
theorem dX9_wedding_209 : decode cX9_wedding 209 = .ok (.ifCond .ne 8, 3) := by decide +kernel
theorem dX9_wedding_212 : decode cX9_wedding 212 = .ok (.iload 4, 2) := by decide +kernel
theorem dX9_wedding_214 : decode cX9_wedding 214 = .ok (.goto 4, 3) := by decide +kernel
theorem dX9_wedding_217 : decode cX9_wedding 217 = .ok (.iload_n 3, 1) := by decide +kernel
theorem dX9_wedding_218 : decode cX9_wedding 218 = .ok (.ireturn, 1) := by decide +kernel
theorem dX9_see_0 : decode cX9_see 0 = .ok (.iload_n 1, 1) := by decide +kernel
theorem dX9_see_1 : decode cX9_see 1 = .ok (.i2l, 1) := by decide +kernel
theorem dX9_see_2 : decode cX9_see 2 = .ok (.lconst 0, 1) := by decide +kernel
theorem dX9_see_3 : decode cX9_see 3 = .ok (.ldc2_w 251, 3) := by decide +kernel
theorem dX9_see_6 : decode cX9_see 6 = .ok (.invokestatic 89, 3) := by decide +kernel
theorem dX9_see_9 : decode cX9_see 9 = .ok (.ifCond .eq 15, 3) := by decide +kernel
theorem dX9_see_12 : decode cX9_see 12 = .ok (.iload_n 2, 1) := by decide +kernel
theorem dX9_see_13 : decode cX9_see 13 = .ok (.i2l, 1) := by decide +kernel
theorem dX9_see_14 : decode cX9_see 14 = .ok (.lconst 0, 1) := by decide +kernel
theorem dX9_see_15 : decode cX9_see 15 = .ok (.ldc2_w 253, 3) := by decide +kernel
theorem dX9_see_18 : decode cX9_see 18 = .ok (.invokestatic 89, 3) := by decide +kernel
theorem dX9_see_21 : decode cX9_see 21 = .ok (.ifCond .ne 6, 3) := by decide +kernel
theorem dX9_see_24 : decode cX9_see 24 = .ok (.ldc 93, 2) := by decide +kernel
theorem dX9_see_26 : decode cX9_see 26 = .ok (.ireturn, 1) := by decide +kernel
theorem dX9_see_27 : decode cX9_see 27 = .ok (.aload_n 0, 1) := by decide +kernel
theorem dX9_see_28 : decode cX9_see 28 = .ok (.getfield 156, 3) := by decide +kernel
theorem dX9_see_31 : decode cX9_see 31 = .ok (.bipush 20, 2) := by decide +kernel
theorem dX9_see_33 : decode cX9_see 33 = .ok (.if_icmp .ne 6, 3) := by decide +kernel
theorem dX9_see_36 : decode cX9_see 36 = .ok (.ldc 97, 2) := by decide +kernel
theorem dX9_see_38 : decode cX9_see 38 = .ok (.ireturn, 1) := by decide +kernel
theorem dX9_see_39 : decode cX9_see 39 = .ok (.aload_n 0, 1) := by decide +kernel
theorem dX9_see_40 : decode cX9_see 40 = .ok (.getfield 75, 3) := by decide +kernel
theorem dX9_see_43 : decode cX9_see 43 = .ok (.aload_n 0, 1) := by decide +kernel
theorem dX9_see_44 : decode cX9_see 44 = .ok (.getfield 156, 3) := by decide +kernel
theorem dX9_see_47 : decode cX9_see 47 = .ok (.iload_n 1, 1) := by decide +kernel
theorem dX9_see_48 : decode cX9_see 48 = .ok (.iastore, 1) := by decide +kernel
theorem dX9_see_49 : decode cX9_see 49 = .ok (.aload_n 0, 1) := by decide +kernel
theorem dX9_see_50 : decode cX9_see 50 = .ok (.getfield 78, 3) := by decide +kernel
theorem dX9_see_53 : decode cX9_see 53 = .ok (.aload_n 0, 1) := by decide +kernel
theorem dX9_see_54 : decode cX9_see 54 = .ok (.getfield 156, 3) := by decide +kernel
theorem dX9_see_57 : decode cX9_see 57 = .ok (.iload_n 2, 1) := by decide +kernel
theorem dX9_see_58 : decode cX9_see 58 = .ok (.iastore, 1) := by decide +kernel
theorem dX9_see_59 : decode cX9_see 59 = .ok (.aload_n 0, 1) := by decide +kernel
theorem dX9_see_60 : decode cX9_see 60 = .ok (.dup, 1) := by decide +kernel
theorem dX9_see_61 : decode cX9_see 61 = .ok (.getfield 156, 3) := by decide +kernel
theorem dX9_see_64 : decode cX9_see 64 = .ok (.iconst 1, 1) := by decide +kernel
theorem dX9_see_65 : decode cX9_see 65 = .ok (.iadd, 1) := by decide +kernel
theorem dX9_see_66 : decode cX9_see 66 = .ok (.putfield 156, 3) := by decide +kernel
theorem dX9_see_69 : decode cX9_see 69 = .ok (.aload_n 0, 1) := by decide +kernel
theorem dX9_see_70 : decode cX9_see 70 = .ok (.getfield 156, 3) := by decide +kernel
theorem dX9_see_73 : decode cX9_see 73 = .ok (.ireturn, 1) := by decide +kernel
theorem dX9_seenBy_0 : decode cX9_seenBy 0 = .ok (.iconst 0, 1) := by decide +kernel
theorem dX9_seenBy_1 : decode cX9_seenBy 1 = .ok (.istore_n 3, 1) := by decide +kernel
theorem dX9_seenBy_2 : decode cX9_seenBy 2 = .ok (.iconst (-1), 1) := by decide +kernel
theorem dX9_seenBy_3 : decode cX9_seenBy 3 = .ok (.istore 4, 2) := by decide +kernel
theorem dX9_seenBy_5 : decode cX9_seenBy 5 = .ok (.iconst 0, 1) := by decide +kernel
theorem dX9_seenBy_6 : decode cX9_seenBy 6 = .ok (.istore 5, 2) := by decide +kernel
theorem dX9_seenBy_8 : decode cX9_seenBy 8 = .ok (.iload 5, 2) := by decide +kernel
theorem dX9_seenBy_10 : decode cX9_seenBy 10 = .ok (.aload_n 0, 1) := by decide +kernel
theorem dX9_seenBy_11 : decode cX9_seenBy 11 = .ok (.getfield 165, 3) := by decide +kernel
theorem dX9_seenBy_14 : decode cX9_seenBy 14 = .ok (.if_icmp .ge 72, 3) := by decide +kernel
theorem dX9_seenBy_17 : decode cX9_seenBy 17 = .ok (.aload_n 0, 1) := by decide +kernel
theorem dX9_seenBy_18 : decode cX9_seenBy 18 = .ok (.iconst 0, 1) := by decide +kernel
theorem dX9_seenBy_19 : decode cX9_seenBy 19 = .ok (.aload_n 0, 1) := by decide +kernel
theorem dX9_seenBy_20 : decode cX9_seenBy 20 = .ok (.getfield 57, 3) := by decide +kernel
theorem dX9_seenBy_23 : decode cX9_seenBy 23 = .ok (.iload 5, 2) := by decide +kernel
theorem dX9_seenBy_25 : decode cX9_seenBy 25 = .ok (.iaload, 1) := by decide +kernel
theorem dX9_seenBy_26 : decode cX9_seenBy 26 = .ok (.invokevirtual 171, 3) := by decide +kernel
theorem dX9_seenBy_29 : decode cX9_seenBy 29 = .ok (.aload_n 0, 1) := by decide +kernel
theorem dX9_seenBy_30 : decode cX9_seenBy 30 = .ok (.getfield 78, 3) := by decide +kernel
theorem dX9_seenBy_33 : decode cX9_seenBy 33 = .ok (.iload_n 1, 1) := by decide +kernel
theorem dX9_seenBy_34 : decode cX9_seenBy 34 = .ok (.iaload, 1) := by decide +kernel
theorem dX9_seenBy_35 : decode cX9_seenBy 35 = .ok (.if_icmp .ne 45, 3) := by decide +kernel
theorem dX9_seenBy_38 : decode cX9_seenBy 38 = .ok (.aload_n 0, 1) := by decide +kernel
theorem dX9_seenBy_39 : decode cX9_seenBy 39 = .ok (.aload_n 0, 1) := by decide +kernel
theorem dX9_seenBy_40 : decode cX9_seenBy 40 = .ok (.getfield 57, 3) := by decide +kernel
theorem dX9_seenBy_43 : decode cX9_seenBy 43 = .ok (.iload 5, 2) := by decide +kernel
theorem dX9_seenBy_45 : decode cX9_seenBy 45 = .ok (.iaload, 1) := by decide +kernel
theorem dX9_seenBy_46 : decode cX9_seenBy 46 = .ok (.aload_n 0, 1) := by decide +kernel
theorem dX9_seenBy_47 : decode cX9_seenBy 47 = .ok (.getfield 75, 3) := by decide +kernel
theorem dX9_seenBy_50 : decode cX9_seenBy 50 = .ok (.iload_n 1, 1) := by decide +kernel
theorem dX9_seenBy_51 : decode cX9_seenBy 51 = .ok (.iaload, 1) := by decide +kernel
theorem dX9_seenBy_52 : decode cX9_seenBy 52 = .ok (.invokevirtual 198, 3) := by decide +kernel
theorem dX9_seenBy_55 : decode cX9_seenBy 55 = .ok (.ifCond .eq 25, 3) := by decide +kernel
theorem dX9_seenBy_58 : decode cX9_seenBy 58 = .ok (.iload_n 3, 1) := by decide +kernel
theorem dX9_seenBy_59 : decode cX9_seenBy 59 = .ok (.aload_n 0, 1) := by decide +kernel
theorem dX9_seenBy_60 : decode cX9_seenBy 60 = .ok (.getfield 57, 3) := by decide +kernel
theorem dX9_seenBy_63 : decode cX9_seenBy 63 = .ok (.iload 5, 2) := by decide +kernel
theorem dX9_seenBy_65 : decode cX9_seenBy 65 = .ok (.iaload, 1) := by decide +kernel
theorem dX9_seenBy_66 : decode cX9_seenBy 66 = .ok (.ior, 1) := by decide +kernel
theorem dX9_seenBy_67 : decode cX9_seenBy 67 = .ok (.istore_n 3, 1) := by decide +kernel
theorem dX9_seenBy_68 : decode cX9_seenBy 68 = .ok (.iload 4, 2) := by decide +kernel
theorem dX9_seenBy_70 : decode cX9_seenBy 70 = .ok (.aload_n 0, 1) := by decide +kernel
theorem dX9_seenBy_71 : decode cX9_seenBy 71 = .ok (.getfield 57, 3) := by decide +kernel
theorem dX9_seenBy_74 : decode cX9_seenBy 74 = .ok (.iload 5, 2) := by decide +kernel
theorem dX9_seenBy_76 : decode cX9_seenBy 76 = .ok (.iaload, 1) := by decide +kernel
theorem dX9_seenBy_77 : decode cX9_seenBy 77 = .ok (.iand, 1) := by decide +kernel
theorem dX9_seenBy_78 : decode cX9_seenBy 78 = .ok (.istore 4, 2) := by decide +kernel
theorem dX9_seenBy_80 : decode cX9_seenBy 80 = .ok (.iinc 5 1, 3) := by decide +kernel
theorem dX9_seenBy_83 : decode cX9_seenBy 83 = .ok (.goto (-75), 3) := by decide +kernel
theorem dX9_seenBy_86 : decode cX9_seenBy 86 = .ok (.iload_n 3, 1) := by decide +kernel
theorem dX9_seenBy_87 : decode cX9_seenBy 87 = .ok (.ifCond .eq 7, 3) := by decide +kernel
theorem dX9_seenBy_90 : decode cX9_seenBy 90 = .ok (.iload_n 2, 1) := by decide +kernel
theorem dX9_seenBy_91 : decode cX9_seenBy 91 = .ok (.ifCond .ne 7, 3) := by decide +kernel
theorem dX9_seenBy_94 : decode cX9_seenBy 94 = .ok (.iload_n 3, 1) := by decide +kernel
theorem dX9_seenBy_95 : decode cX9_seenBy 95 = .ok (.goto 5, 3) := by decide +kernel
theorem dX9_seenBy_98 : decode cX9_seenBy 98 = .ok (.iload 4, 2) := by decide +kernel
theorem dX9_seenBy_100 : decode cX9_seenBy 100 = .ok (.ireturn, 1) := by decide +kernel
theorem dX9_seen_0 : decode cX9_seen 0 = .ok (.iload_n 2, 1) := by decide +kernel
theorem dX9_seen_1 : decode cX9_seen 1 = .ok (.i2l, 1) := by decide +kernel
theorem dX9_seen_2 : decode cX9_seen 2 = .ok (.lconst 0, 1) := by decide +kernel
theorem dX9_seen_3 : decode cX9_seen 3 = .ok (.lconst 1, 1) := by decide +kernel
theorem dX9_seen_4 : decode cX9_seen 4 = .ok (.invokestatic 89, 3) := by decide +kernel
theorem dX9_seen_7 : decode cX9_seen 7 = .ok (.ifCond .ne 6, 3) := by decide +kernel
theorem dX9_seen_10 : decode cX9_seen 10 = .ok (.ldc 93, 2) := by decide +kernel
theorem dX9_seen_12 : decode cX9_seen 12 = .ok (.ireturn, 1) := by decide +kernel
theorem dX9_seen_13 : decode cX9_seen 13 = .ok (.iload_n 1, 1) := by decide +kernel
theorem dX9_seen_14 : decode cX9_seen 14 = .ok (.i2l, 1) := by decide +kernel
theorem dX9_seen_15 : decode cX9_seen 15 = .ok (.lconst 0, 1) := by decide +kernel
theorem dX9_seen_16 : decode cX9_seen 16 = .ok (.aload_n 0, 1) := by decide +kernel
theorem dX9_seen_17 : decode cX9_seen 17 = .ok (.getfield 156, 3) := by decide +kernel
theorem dX9_seen_20 : decode cX9_seen 20 = .ok (.iconst 1, 1) := by decide +kernel
theorem dX9_seen_21 : decode cX9_seen 21 = .ok (.isub, 1) := by decide +kernel
theorem dX9_seen_22 : decode cX9_seen 22 = .ok (.i2l, 1) := by decide +kernel
theorem dX9_seen_23 : decode cX9_seen 23 = .ok (.invokestatic 89, 3) := by decide +kernel
theorem dX9_seen_26 : decode cX9_seen 26 = .ok (.ifCond .eq 12, 3) := by decide +kernel
theorem dX9_seen_29 : decode cX9_seen 29 = .ok (.aload_n 0, 1) := by decide +kernel
theorem dX9_seen_30 : decode cX9_seen 30 = .ok (.iload_n 1, 1) := by decide +kernel
theorem dX9_seen_31 : decode cX9_seen 31 = .ok (.iload_n 2, 1) := by decide +kernel
theorem dX9_seen_32 : decode cX9_seen 32 = .ok (.invokevirtual 255, 3) := by decide +kernel
theorem dX9_seen_35 : decode cX9_seen 35 = .ok (.goto 4, 3) := by decide +kernel
theorem dX9_seen_38 : decode cX9_seen 38 = .ok (.iconst (-1), 1) := by decide +kernel
theorem dX9_seen_39 : decode cX9_seen 39 = .ok (.ireturn, 1) := by decide +kernel
theorem dX9_strange_0 : decode cX9_strange 0 = .ok (.iconst 0, 1) := by decide +kernel
theorem dX9_strange_1 : decode cX9_strange 1 = .ok (.istore_n 1, 1) := by decide +kernel
theorem dX9_strange_2 : decode cX9_strange 2 = .ok (.iload_n 1, 1) := by decide +kernel
theorem dX9_strange_3 : decode cX9_strange 3 = .ok (.aload_n 0, 1) := by decide +kernel
theorem dX9_strange_4 : decode cX9_strange 4 = .ok (.getfield 156, 3) := by decide +kernel
theorem dX9_strange_7 : decode cX9_strange 7 = .ok (.if_icmp .ge 20, 3) := by decide +kernel
theorem dX9_strange_10 : decode cX9_strange 10 = .ok (.aload_n 0, 1) := by decide +kernel
theorem dX9_strange_11 : decode cX9_strange 11 = .ok (.iload_n 1, 1) := by decide +kernel
theorem dX9_strange_12 : decode cX9_strange 12 = .ok (.iconst 0, 1) := by decide +kernel
theorem dX9_strange_13 : decode cX9_strange 13 = .ok (.invokevirtual 255, 3) := by decide +kernel
theorem dX9_strange_16 : decode cX9_strange 16 = .ok (.ifCond .ne 5, 3) := by decide +kernel
theorem dX9_strange_19 : decode cX9_strange 19 = .ok (.iload_n 1, 1) := by decide +kernel
theorem dX9_strange_20 : decode cX9_strange 20 = .ok (.ireturn, 1) := by decide +kernel
theorem dX9_strange_21 : decode cX9_strange 21 = .ok (.iinc 1 1, 3) := by decide +kernel
theorem dX9_strange_24 : decode cX9_strange 24 = .ok (.goto (-22), 3) := by decide +kernel
theorem dX9_strange_27 : decode cX9_strange 27 = .ok (.iconst (-1), 1) := by decide +kernel
theorem dX9_strange_28 : decode cX9_strange 28 = .ok (.ireturn, 1) := by decide +kernel
theorem dX9_pass_0 : decode cX9_pass 0 = .ok (.aload_n 0, 1) := by decide +kernel
theorem dX9_pass_1 : decode cX9_pass 1 = .ok (.iconst 0, 1) := by decide +kernel
theorem dX9_pass_2 : decode cX9_pass 2 = .ok (.invokevirtual 234, 3) := by decide +kernel
theorem dX9_pass_5 : decode cX9_pass 5 = .ok (.istore_n 1, 1) := by decide +kernel
theorem dX9_pass_6 : decode cX9_pass 6 = .ok (.aload_n 0, 1) := by decide +kernel
theorem dX9_pass_7 : decode cX9_pass 7 = .ok (.getfield 7, 3) := by decide +kernel
theorem dX9_pass_10 : decode cX9_pass 10 = .ok (.bipush 32, 2) := by decide +kernel
theorem dX9_pass_12 : decode cX9_pass 12 = .ok (.dup2, 1) := by decide +kernel
theorem dX9_pass_13 : decode cX9_pass 13 = .ok (.iaload, 1) := by decide +kernel
theorem dX9_pass_14 : decode cX9_pass 14 = .ok (.iconst 1, 1) := by decide +kernel
theorem dX9_pass_15 : decode cX9_pass 15 = .ok (.iadd, 1) := by decide +kernel
theorem dX9_pass_16 : decode cX9_pass 16 = .ok (.iastore, 1) := by decide +kernel
theorem dX9_pass_17 : decode cX9_pass 17 = .ok (.iload_n 1, 1) := by decide +kernel
theorem dX9_pass_18 : decode cX9_pass 18 = .ok (.ifCond .ge 5, 3) := by decide +kernel
theorem dX9_pass_21 : decode cX9_pass 21 = .ok (.iconst 0, 1) := by decide +kernel
theorem dX9_pass_22 : decode cX9_pass 22 = .ok (.ireturn, 1) := by decide +kernel
theorem dX9_pass_23 : decode cX9_pass 23 = .ok (.aload_n 0, 1) := by decide +kernel
theorem dX9_pass_24 : decode cX9_pass 24 = .ok (.iconst 0, 1) := by decide +kernel
theorem dX9_pass_25 : decode cX9_pass 25 = .ok (.invokevirtual 237, 3) := by decide +kernel
theorem dX9_pass_28 : decode cX9_pass 28 = .ok (.iconst 0, 1) := by decide +kernel
theorem dX9_pass_29 : decode cX9_pass 29 = .ok (.istore_n 2, 1) := by decide +kernel
theorem dX9_pass_30 : decode cX9_pass 30 = .ok (.iload_n 2, 1) := by decide +kernel
theorem dX9_pass_31 : decode cX9_pass 31 = .ok (.aload_n 0, 1) := by decide +kernel
theorem dX9_pass_32 : decode cX9_pass 32 = .ok (.getfield 47, 3) := by decide +kernel
theorem dX9_pass_35 : decode cX9_pass 35 = .ok (.iconst 0, 1) := by decide +kernel
theorem dX9_pass_36 : decode cX9_pass 36 = .ok (.iaload, 1) := by decide +kernel
theorem dX9_pass_37 : decode cX9_pass 37 = .ok (.if_icmp .ge 106, 3) := by decide +kernel
theorem dX9_pass_40 : decode cX9_pass 40 = .ok (.iconst 0, 1) := by decide +kernel
theorem dX9_pass_41 : decode cX9_pass 41 = .ok (.istore_n 3, 1) := by decide +kernel
theorem dX9_pass_42 : decode cX9_pass 42 = .ok (.iload_n 3, 1) := by decide +kernel
theorem dX9_pass_43 : decode cX9_pass 43 = .ok (.bipush 12, 2) := by decide +kernel
theorem dX9_pass_45 : decode cX9_pass 45 = .ok (.if_icmp .ge 34, 3) := by decide +kernel
theorem dX9_pass_48 : decode cX9_pass 48 = .ok (.aload_n 0, 1) := by decide +kernel
theorem dX9_pass_49 : decode cX9_pass 49 = .ok (.getfield 7, 3) := by decide +kernel
theorem dX9_pass_52 : decode cX9_pass 52 = .ok (.bipush 20, 2) := by decide +kernel
theorem dX9_pass_54 : decode cX9_pass 54 = .ok (.iload_n 2, 1) := by decide +kernel
theorem dX9_pass_55 : decode cX9_pass 55 = .ok (.iadd, 1) := by decide +kernel
theorem dX9_pass_56 : decode cX9_pass 56 = .ok (.dup2, 1) := by decide +kernel
theorem dX9_pass_57 : decode cX9_pass 57 = .ok (.iaload, 1) := by decide +kernel
theorem dX9_pass_58 : decode cX9_pass 58 = .ok (.aload_n 0, 1) := by decide +kernel
theorem dX9_pass_59 : decode cX9_pass 59 = .ok (.getfield 72, 3) := by decide +kernel
theorem dX9_pass_62 : decode cX9_pass 62 = .ok (.iload_n 3, 1) := by decide +kernel
theorem dX9_pass_63 : decode cX9_pass 63 = .ok (.iaload, 1) := by decide +kernel
theorem dX9_pass_64 : decode cX9_pass 64 = .ok (.iload_n 2, 1) := by decide +kernel
theorem dX9_pass_65 : decode cX9_pass 65 = .ok (.invokestatic 140, 3) := by decide +kernel
theorem dX9_pass_68 : decode cX9_pass 68 = .ok (.invokestatic 224, 3) := by decide +kernel
theorem dX9_pass_71 : decode cX9_pass 71 = .ok (.iadd, 1) := by decide +kernel
theorem dX9_pass_72 : decode cX9_pass 72 = .ok (.iastore, 1) := by decide +kernel
theorem dX9_pass_73 : decode cX9_pass 73 = .ok (.iinc 3 1, 3) := by decide +kernel
theorem dX9_pass_76 : decode cX9_pass 76 = .ok (.goto (-34), 3) := by decide +kernel
theorem dX9_pass_79 : decode cX9_pass 79 = .ok (.aload_n 0, 1) := by decide +kernel
theorem dX9_pass_80 : decode cX9_pass 80 = .ok (.getfield 7, 3) := by decide +kernel
theorem dX9_pass_83 : decode cX9_pass 83 = .ok (.bipush 20, 2) := by decide +kernel
theorem dX9_pass_85 : decode cX9_pass 85 = .ok (.iload_n 2, 1) := by decide +kernel
theorem dX9_pass_86 : decode cX9_pass 86 = .ok (.iadd, 1) := by decide +kernel
theorem dX9_pass_87 : decode cX9_pass 87 = .ok (.iaload, 1) := by decide +kernel
theorem dX9_pass_88 : decode cX9_pass 88 = .ok (.bipush 10, 2) := by decide +kernel
theorem dX9_pass_90 : decode cX9_pass 90 = .ok (.if_icmp .lt 47, 3) := by decide +kernel
theorem dX9_pass_93 : decode cX9_pass 93 = .ok (.aload_n 0, 1) := by decide +kernel
theorem dX9_pass_94 : decode cX9_pass 94 = .ok (.getfield 7, 3) := by decide +kernel
theorem dX9_pass_97 : decode cX9_pass 97 = .ok (.bipush 20, 2) := by decide +kernel
theorem dX9_pass_99 : decode cX9_pass 99 = .ok (.iload_n 2, 1) := by decide +kernel
theorem dX9_pass_100 : decode cX9_pass 100 = .ok (.iadd, 1) := by decide +kernel
theorem dX9_pass_101 : decode cX9_pass 101 = .ok (.dup2, 1) := by decide +kernel
theorem dX9_pass_102 : decode cX9_pass 102 = .ok (.iaload, 1) := by decide +kernel
theorem dX9_pass_103 : decode cX9_pass 103 = .ok (.bipush 10, 2) := by decide +kernel
theorem dX9_pass_105 : decode cX9_pass 105 = .ok (.isub, 1) := by decide +kernel
theorem dX9_pass_106 : decode cX9_pass 106 = .ok (.iastore, 1) := by decide +kernel
theorem dX9_pass_107 : decode cX9_pass 107 = .ok (.aload_n 0, 1) := by decide +kernel
theorem dX9_pass_108 : decode cX9_pass 108 = .ok (.getfield 7, 3) := by decide +kernel
theorem dX9_pass_111 : decode cX9_pass 111 = .ok (.iload_n 2, 1) := by decide +kernel
theorem dX9_pass_112 : decode cX9_pass 112 = .ok (.aload_n 0, 1) := by decide +kernel
theorem dX9_pass_113 : decode cX9_pass 113 = .ok (.getfield 7, 3) := by decide +kernel
theorem dX9_pass_116 : decode cX9_pass 116 = .ok (.iload_n 2, 1) := by decide +kernel
theorem dX9_pass_117 : decode cX9_pass 117 = .ok (.iaload, 1) := by decide +kernel
theorem dX9_pass_118 : decode cX9_pass 118 = .ok (.ifCond .le 14, 3) := by decide +kernel
theorem dX9_pass_121 : decode cX9_pass 121 = .ok (.aload_n 0, 1) := by decide +kernel
theorem dX9_pass_122 : decode cX9_pass 122 = .ok (.getfield 7, 3) := by decide +kernel
theorem dX9_pass_125 : decode cX9_pass 125 = .ok (.iload_n 2, 1) := by decide +kernel
theorem dX9_pass_126 : decode cX9_pass 126 = .ok (.iaload, 1) := by decide +kernel
theorem dX9_pass_127 : decode cX9_pass 127 = .ok (.iconst 1, 1) := by decide +kernel
theorem dX9_pass_128 : decode cX9_pass 128 = .ok (.isub, 1) := by decide +kernel
theorem dX9_pass_129 : decode cX9_pass 129 = .ok (.goto 4, 3) := by decide +kernel
theorem dX9_pass_132 : decode cX9_pass 132 = .ok (.iconst 0, 1) := by decide +kernel
theorem dX9_pass_133 : decode cX9_pass 133 = .ok (.iastore, 1) := by decide +kernel
theorem dX9_pass_134 : decode cX9_pass 134 = .ok (.goto (-55), 3) := by decide +kernel
theorem dX9_pass_137 : decode cX9_pass 137 = .ok (.iinc 2 1, 3) := by decide +kernel
theorem dX9_pass_140 : decode cX9_pass 140 = .ok (.goto (-110), 3) := by decide +kernel
theorem dX9_pass_143 : decode cX9_pass 143 = .ok (.aload_n 0, 1) := by decide +kernel
theorem dX9_pass_144 : decode cX9_pass 144 = .ok (.getfield 7, 3) := by decide +kernel
theorem dX9_pass_147 : decode cX9_pass 147 = .ok (.bipush 30, 2) := by decide +kernel
theorem dX9_pass_149 : decode cX9_pass 149 = .ok (.aload_n 0, 1) := by decide +kernel
theorem dX9_pass_150 : decode cX9_pass 150 = .ok (.getfield 7, 3) := by decide +kernel
theorem dX9_pass_153 : decode cX9_pass 153 = .ok (.bipush 30, 2) := by decide +kernel
theorem dX9_pass_155 : decode cX9_pass 155 = .ok (.iaload, 1) := by decide +kernel
theorem dX9_pass_156 : decode cX9_pass 156 = .ok (.iload_n 1, 1) := by decide +kernel
theorem dX9_pass_157 : decode cX9_pass 157 = .ok (.iadd, 1) := by decide +kernel
theorem dX9_pass_158 : decode cX9_pass 158 = .ok (.ldc_w 258, 3) := by decide +kernel
theorem dX9_pass_161 : decode cX9_pass 161 = .ok (.if_icmp .le 9, 3) := by decide +kernel
theorem dX9_pass_164 : decode cX9_pass 164 = .ok (.ldc_w 258, 3) := by decide +kernel
theorem dX9_pass_167 : decode cX9_pass 167 = .ok (.goto 12, 3) := by decide +kernel
theorem dX9_pass_170 : decode cX9_pass 170 = .ok (.aload_n 0, 1) := by decide +kernel
theorem dX9_pass_171 : decode cX9_pass 171 = .ok (.getfield 7, 3) := by decide +kernel
theorem dX9_pass_174 : decode cX9_pass 174 = .ok (.bipush 30, 2) := by decide +kernel
theorem dX9_pass_176 : decode cX9_pass 176 = .ok (.iaload, 1) := by decide +kernel
theorem dX9_pass_177 : decode cX9_pass 177 = .ok (.iload_n 1, 1) := by decide +kernel
theorem dX9_pass_178 : decode cX9_pass 178 = .ok (.iadd, 1) := by decide +kernel
theorem dX9_pass_179 : decode cX9_pass 179 = .ok (.iastore, 1) := by decide +kernel
theorem dX9_pass_180 : decode cX9_pass 180 = .ok (.iload_n 1, 1) := by decide +kernel
theorem dX9_pass_181 : decode cX9_pass 181 = .ok (.ireturn, 1) := by decide +kernel
theorem dX9_day_0 : decode cX9_day 0 = .ok (.iload_n 1, 1) := by decide +kernel
theorem dX9_day_1 : decode cX9_day 1 = .ok (.i2l, 1) := by decide +kernel
theorem dX9_day_2 : decode cX9_day 2 = .ok (.lconst 1, 1) := by decide +kernel
theorem dX9_day_3 : decode cX9_day 3 = .ok (.ldc2_w 196, 3) := by decide +kernel
theorem dX9_day_6 : decode cX9_day 6 = .ok (.invokestatic 89, 3) := by decide +kernel
theorem dX9_day_9 : decode cX9_day 9 = .ok (.ifCond .ne 6, 3) := by decide +kernel
theorem dX9_day_12 : decode cX9_day 12 = .ok (.ldc 93, 2) := by decide +kernel
theorem dX9_day_14 : decode cX9_day 14 = .ok (.ireturn, 1) := by decide +kernel
theorem dX9_day_15 : decode cX9_day 15 = .ok (.iconst 0, 1) := by decide +kernel
theorem dX9_day_16 : decode cX9_day 16 = .ok (.istore_n 2, 1) := by decide +kernel
theorem dX9_day_17 : decode cX9_day 17 = .ok (.iconst 0, 1) := by decide +kernel
theorem dX9_day_18 : decode cX9_day 18 = .ok (.istore_n 3, 1) := by decide +kernel
theorem dX9_day_19 : decode cX9_day 19 = .ok (.iload_n 3, 1) := by decide +kernel
theorem dX9_day_20 : decode cX9_day 20 = .ok (.iload_n 1, 1) := by decide +kernel
theorem dX9_day_21 : decode cX9_day 21 = .ok (.if_icmp .ge 16, 3) := by decide +kernel
theorem dX9_day_24 : decode cX9_day 24 = .ok (.iload_n 2, 1) := by decide +kernel
theorem dX9_day_25 : decode cX9_day 25 = .ok (.aload_n 0, 1) := by decide +kernel
theorem dX9_day_26 : decode cX9_day 26 = .ok (.invokevirtual 259, 3) := by decide +kernel
theorem dX9_day_29 : decode cX9_day 29 = .ok (.iadd, 1) := by decide +kernel
theorem dX9_day_30 : decode cX9_day 30 = .ok (.istore_n 2, 1) := by decide +kernel
theorem dX9_day_31 : decode cX9_day 31 = .ok (.iinc 3 1, 3) := by decide +kernel
theorem dX9_day_34 : decode cX9_day 34 = .ok (.goto (-15), 3) := by decide +kernel
theorem dX9_day_37 : decode cX9_day 37 = .ok (.iload_n 2, 1) := by decide +kernel
theorem dX9_day_38 : decode cX9_day 38 = .ok (.ireturn, 1) := by decide +kernel
theorem dX9_draw_0 : decode cX9_draw 0 = .ok (.aload_n 0, 1) := by decide +kernel
theorem dX9_draw_1 : decode cX9_draw 1 = .ok (.getfield 7, 3) := by decide +kernel
theorem dX9_draw_4 : decode cX9_draw 4 = .ok (.bipush 33, 2) := by decide +kernel
theorem dX9_draw_6 : decode cX9_draw 6 = .ok (.aload_n 0, 1) := by decide +kernel
theorem dX9_draw_7 : decode cX9_draw 7 = .ok (.getfield 7, 3) := by decide +kernel
theorem dX9_draw_10 : decode cX9_draw 10 = .ok (.bipush 33, 2) := by decide +kernel
theorem dX9_draw_12 : decode cX9_draw 12 = .ok (.iaload, 1) := by decide +kernel
theorem dX9_draw_13 : decode cX9_draw 13 = .ok (.i2l, 1) := by decide +kernel
theorem dX9_draw_14 : decode cX9_draw 14 = .ok (.ldc2_w 262, 3) := by decide +kernel
theorem dX9_draw_17 : decode cX9_draw 17 = .ok (.lmul, 1) := by decide +kernel
theorem dX9_draw_18 : decode cX9_draw 18 = .ok (.ldc2_w 264, 3) := by decide +kernel
theorem dX9_draw_21 : decode cX9_draw 21 = .ok (.ladd, 1) := by decide +kernel
theorem dX9_draw_22 : decode cX9_draw 22 = .ok (.ldc2_w 266, 3) := by decide +kernel
theorem dX9_draw_25 : decode cX9_draw 25 = .ok (.lrem, 1) := by decide +kernel
theorem dX9_draw_26 : decode cX9_draw 26 = .ok (.l2i, 1) := by decide +kernel
theorem dX9_draw_27 : decode cX9_draw 27 = .ok (.iastore, 1) := by decide +kernel
theorem dX9_draw_28 : decode cX9_draw 28 = .ok (.aload_n 0, 1) := by decide +kernel
theorem dX9_draw_29 : decode cX9_draw 29 = .ok (.getfield 7, 3) := by decide +kernel
theorem dX9_draw_32 : decode cX9_draw 32 = .ok (.bipush 33, 2) := by decide +kernel
theorem dX9_draw_34 : decode cX9_draw 34 = .ok (.iaload, 1) := by decide +kernel
theorem dX9_draw_35 : decode cX9_draw 35 = .ok (.ldc_w 268, 3) := by decide +kernel
theorem dX9_draw_38 : decode cX9_draw 38 = .ok (.idiv, 1) := by decide +kernel
theorem dX9_draw_39 : decode cX9_draw 39 = .ok (.iload_n 1, 1) := by decide +kernel
theorem dX9_draw_40 : decode cX9_draw 40 = .ok (.irem, 1) := by decide +kernel
theorem dX9_draw_41 : decode cX9_draw 41 = .ok (.ireturn, 1) := by decide +kernel
theorem dX9_drift_0 : decode cX9_drift 0 = .ok (.iload_n 1, 1) := by decide +kernel
theorem dX9_drift_1 : decode cX9_drift 1 = .ok (.i2l, 1) := by decide +kernel
theorem dX9_drift_2 : decode cX9_drift 2 = .ok (.lconst 1, 1) := by decide +kernel
theorem dX9_drift_3 : decode cX9_drift 3 = .ok (.ldc2_w 196, 3) := by decide +kernel
theorem dX9_drift_6 : decode cX9_drift 6 = .ok (.invokestatic 89, 3) := by decide +kernel
theorem dX9_drift_9 : decode cX9_drift 9 = .ok (.ifCond .ne 6, 3) := by decide +kernel
theorem dX9_drift_12 : decode cX9_drift 12 = .ok (.ldc 93, 2) := by decide +kernel
theorem dX9_drift_14 : decode cX9_drift 14 = .ok (.ireturn, 1) := by decide +kernel
theorem dX9_drift_15 : decode cX9_drift 15 = .ok (.iconst 0, 1) := by decide +kernel
theorem dX9_drift_16 : decode cX9_drift 16 = .ok (.istore_n 2, 1) := by decide +kernel
theorem dX9_drift_17 : decode cX9_drift 17 = .ok (.iconst 0, 1) := by decide +kernel
theorem dX9_drift_18 : decode cX9_drift 18 = .ok (.istore_n 3, 1) := by decide +kernel
theorem dX9_drift_19 : decode cX9_drift 19 = .ok (.iload_n 3, 1) := by decide +kernel
theorem dX9_drift_20 : decode cX9_drift 20 = .ok (.iload_n 1, 1) := by decide +kernel
theorem dX9_drift_21 : decode cX9_drift 21 = .ok (.if_icmp .ge 109, 3) := by decide +kernel
theorem dX9_drift_24 : decode cX9_drift 24 = .ok (.iconst 0, 1) := by decide +kernel
theorem dX9_drift_25 : decode cX9_drift 25 = .ok (.istore 4, 2) := by decide +kernel
theorem dX9_drift_27 : decode cX9_drift 27 = .ok (.iload 4, 2) := by decide +kernel
theorem dX9_drift_29 : decode cX9_drift 29 = .ok (.aload_n 0, 1) := by decide +kernel
theorem dX9_drift_30 : decode cX9_drift 30 = .ok (.getfield 47, 3) := by decide +kernel
theorem dX9_drift_33 : decode cX9_drift 33 = .ok (.iconst 0, 1) := by decide +kernel
theorem dX9_drift_34 : decode cX9_drift 34 = .ok (.iaload, 1) := by decide +kernel
theorem dX9_drift_35 : decode cX9_drift 35 = .ok (.if_icmp .ge 82, 3) := by decide +kernel
theorem dX9_drift_38 : decode cX9_drift 38 = .ok (.aload_n 0, 1) := by decide +kernel
theorem dX9_drift_39 : decode cX9_drift 39 = .ok (.iconst 4, 1) := by decide +kernel
theorem dX9_drift_40 : decode cX9_drift 40 = .ok (.invokevirtual 269, 3) := by decide +kernel
theorem dX9_drift_43 : decode cX9_drift 43 = .ok (.istore 5, 2) := by decide +kernel
theorem dX9_drift_45 : decode cX9_drift 45 = .ok (.aload_n 0, 1) := by decide +kernel
theorem dX9_drift_46 : decode cX9_drift 46 = .ok (.getfield 7, 3) := by decide +kernel
theorem dX9_drift_49 : decode cX9_drift 49 = .ok (.bipush 10, 2) := by decide +kernel
theorem dX9_drift_51 : decode cX9_drift 51 = .ok (.iload 4, 2) := by decide +kernel
theorem dX9_drift_53 : decode cX9_drift 53 = .ok (.iadd, 1) := by decide +kernel
theorem dX9_drift_54 : decode cX9_drift 54 = .ok (.iaload, 1) := by decide +kernel
theorem dX9_drift_55 : decode cX9_drift 55 = .ok (.iload 5, 2) := by decide +kernel
theorem dX9_drift_57 : decode cX9_drift 57 = .ok (.ifCond .ne 7, 3) := by decide +kernel
theorem dX9_drift_60 : decode cX9_drift 60 = .ok (.iconst 1, 1) := by decide +kernel
theorem dX9_drift_61 : decode cX9_drift 61 = .ok (.goto 14, 3) := by decide +kernel
theorem dX9_drift_64 : decode cX9_drift 64 = .ok (.iload 5, 2) := by decide +kernel
theorem dX9_drift_66 : decode cX9_drift 66 = .ok (.iconst 1, 1) := by decide +kernel
theorem dX9_drift_67 : decode cX9_drift 67 = .ok (.if_icmp .ne 7, 3) := by decide +kernel
theorem dX9_drift_70 : decode cX9_drift 70 = .ok (.iconst (-1), 1) := by decide +kernel
theorem dX9_drift_71 : decode cX9_drift 71 = .ok (.goto 4, 3) := by decide +kernel
theorem dX9_drift_74 : decode cX9_drift 74 = .ok (.iconst 0, 1) := by decide +kernel
theorem dX9_drift_75 : decode cX9_drift 75 = .ok (.iadd, 1) := by decide +kernel
theorem dX9_drift_76 : decode cX9_drift 76 = .ok (.istore 6, 2) := by decide +kernel
theorem dX9_drift_78 : decode cX9_drift 78 = .ok (.aload_n 0, 1) := by decide +kernel
theorem dX9_drift_79 : decode cX9_drift 79 = .ok (.getfield 7, 3) := by decide +kernel
theorem dX9_drift_82 : decode cX9_drift 82 = .ok (.bipush 10, 2) := by decide +kernel
theorem dX9_drift_84 : decode cX9_drift 84 = .ok (.iload 4, 2) := by decide +kernel
theorem dX9_drift_86 : decode cX9_drift 86 = .ok (.iadd, 1) := by decide +kernel
theorem dX9_drift_87 : decode cX9_drift 87 = .ok (.iload 6, 2) := by decide +kernel
theorem dX9_drift_89 : decode cX9_drift 89 = .ok (.bipush 99, 2) := by decide +kernel
theorem dX9_drift_91 : decode cX9_drift 91 = .ok (.if_icmp .le 8, 3) := by decide +kernel
theorem dX9_drift_94 : decode cX9_drift 94 = .ok (.bipush 99, 2) := by decide +kernel
theorem dX9_drift_96 : decode cX9_drift 96 = .ok (.goto 14, 3) := by decide +kernel
theorem dX9_drift_99 : decode cX9_drift 99 = .ok (.iload 6, 2) := by decide +kernel
theorem dX9_drift_101 : decode cX9_drift 101 = .ok (.ifCond .ge 7, 3) := by decide +kernel
theorem dX9_drift_104 : decode cX9_drift 104 = .ok (.iconst 0, 1) := by decide +kernel
theorem dX9_drift_105 : decode cX9_drift 105 = .ok (.goto 5, 3) := by decide +kernel
theorem dX9_drift_108 : decode cX9_drift 108 = .ok (.iload 6, 2) := by decide +kernel
theorem dX9_drift_110 : decode cX9_drift 110 = .ok (.iastore, 1) := by decide +kernel
theorem dX9_drift_111 : decode cX9_drift 111 = .ok (.iinc 4 1, 3) := by decide +kernel
theorem dX9_drift_114 : decode cX9_drift 114 = .ok (.goto (-87), 3) := by decide +kernel
theorem dX9_drift_117 : decode cX9_drift 117 = .ok (.iload_n 2, 1) := by decide +kernel
theorem dX9_drift_118 : decode cX9_drift 118 = .ok (.aload_n 0, 1) := by decide +kernel
theorem dX9_drift_119 : decode cX9_drift 119 = .ok (.invokevirtual 259, 3) := by decide +kernel
theorem dX9_drift_122 : decode cX9_drift 122 = .ok (.iadd, 1) := by decide +kernel
theorem dX9_drift_123 : decode cX9_drift 123 = .ok (.istore_n 2, 1) := by decide +kernel
theorem dX9_drift_124 : decode cX9_drift 124 = .ok (.iinc 3 1, 3) := by decide +kernel
theorem dX9_drift_127 : decode cX9_drift 127 = .ok (.goto (-108), 3) := by decide +kernel
theorem dX9_drift_130 : decode cX9_drift 130 = .ok (.iload_n 2, 1) := by decide +kernel
theorem dX9_drift_131 : decode cX9_drift 131 = .ok (.ireturn, 1) := by decide +kernel
theorem dX9_write_0 : decode cX9_write 0 = .ok (.aload_n 0, 1) := by decide +kernel
theorem dX9_write_1 : decode cX9_write 1 = .ok (.iload_n 2, 1) := by decide +kernel
theorem dX9_write_2 : decode cX9_write 2 = .ok (.invokevirtual 184, 3) := by decide +kernel
theorem dX9_write_5 : decode cX9_write 5 = .ok (.ifCond .ne 6, 3) := by decide +kernel
theorem dX9_write_8 : decode cX9_write 8 = .ok (.ldc 188, 2) := by decide +kernel
theorem dX9_write_10 : decode cX9_write 10 = .ok (.ireturn, 1) := by decide +kernel
theorem dX9_write_11 : decode cX9_write 11 = .ok (.iload_n 1, 1) := by decide +kernel
theorem dX9_write_12 : decode cX9_write 12 = .ok (.i2l, 1) := by decide +kernel
theorem dX9_write_13 : decode cX9_write 13 = .ok (.lconst 0, 1) := by decide +kernel
theorem dX9_write_14 : decode cX9_write 14 = .ok (.ldc2_w 251, 3) := by decide +kernel
theorem dX9_write_17 : decode cX9_write 17 = .ok (.invokestatic 89, 3) := by decide +kernel
theorem dX9_write_20 : decode cX9_write 20 = .ok (.ifCond .ne 6, 3) := by decide +kernel
theorem dX9_write_23 : decode cX9_write 23 = .ok (.ldc 93, 2) := by decide +kernel
theorem dX9_write_25 : decode cX9_write 25 = .ok (.ireturn, 1) := by decide +kernel
theorem dX9_write_26 : decode cX9_write 26 = .ok (.aload_n 0, 1) := by decide +kernel
theorem dX9_write_27 : decode cX9_write 27 = .ok (.getfield 159, 3) := by decide +kernel
theorem dX9_write_30 : decode cX9_write 30 = .ok (.bipush 40, 2) := by decide +kernel
theorem dX9_write_32 : decode cX9_write 32 = .ok (.if_icmp .ne 6, 3) := by decide +kernel
theorem dX9_write_35 : decode cX9_write 35 = .ok (.ldc 97, 2) := by decide +kernel
theorem dX9_write_37 : decode cX9_write 37 = .ok (.ireturn, 1) := by decide +kernel
theorem dX9_write_38 : decode cX9_write 38 = .ok (.aload_n 0, 1) := by decide +kernel
theorem dX9_write_39 : decode cX9_write 39 = .ok (.getfield 81, 3) := by decide +kernel
theorem dX9_write_42 : decode cX9_write 42 = .ok (.aload_n 0, 1) := by decide +kernel
theorem dX9_write_43 : decode cX9_write 43 = .ok (.getfield 159, 3) := by decide +kernel
theorem dX9_write_46 : decode cX9_write 46 = .ok (.iload_n 1, 1) := by decide +kernel
theorem dX9_write_47 : decode cX9_write 47 = .ok (.iastore, 1) := by decide +kernel
theorem dX9_write_48 : decode cX9_write 48 = .ok (.aload_n 0, 1) := by decide +kernel
theorem dX9_write_49 : decode cX9_write 49 = .ok (.getfield 84, 3) := by decide +kernel
theorem dX9_write_52 : decode cX9_write 52 = .ok (.aload_n 0, 1) := by decide +kernel
theorem dX9_write_53 : decode cX9_write 53 = .ok (.getfield 159, 3) := by decide +kernel
theorem dX9_write_56 : decode cX9_write 56 = .ok (.iload_n 2, 1) := by decide +kernel
theorem dX9_write_57 : decode cX9_write 57 = .ok (.iastore, 1) := by decide +kernel
theorem dX9_write_58 : decode cX9_write 58 = .ok (.aload_n 0, 1) := by decide +kernel
theorem dX9_write_59 : decode cX9_write 59 = .ok (.dup, 1) := by decide +kernel
theorem dX9_write_60 : decode cX9_write 60 = .ok (.getfield 159, 3) := by decide +kernel
theorem dX9_write_63 : decode cX9_write 63 = .ok (.iconst 1, 1) := by decide +kernel
theorem dX9_write_64 : decode cX9_write 64 = .ok (.iadd, 1) := by decide +kernel
theorem dX9_write_65 : decode cX9_write 65 = .ok (.putfield 159, 3) := by decide +kernel
theorem dX9_write_68 : decode cX9_write 68 = .ok (.aload_n 0, 1) := by decide +kernel
theorem dX9_write_69 : decode cX9_write 69 = .ok (.getfield 159, 3) := by decide +kernel
theorem dX9_write_72 : decode cX9_write 72 = .ok (.ireturn, 1) := by decide +kernel
theorem dX9_tear_0 : decode cX9_tear 0 = .ok (.aload_n 0, 1) := by decide +kernel
theorem dX9_tear_1 : decode cX9_tear 1 = .ok (.getfield 159, 3) := by decide +kernel
theorem dX9_tear_4 : decode cX9_tear 4 = .ok (.aload_n 0, 1) := by decide +kernel
theorem dX9_tear_5 : decode cX9_tear 5 = .ok (.getfield 156, 3) := by decide +kernel
theorem dX9_tear_8 : decode cX9_tear 8 = .ok (.iadd, 1) := by decide +kernel
theorem dX9_tear_9 : decode cX9_tear 9 = .ok (.istore_n 1, 1) := by decide +kernel
theorem dX9_tear_10 : decode cX9_tear 10 = .ok (.aload_n 0, 1) := by decide +kernel
theorem dX9_tear_11 : decode cX9_tear 11 = .ok (.iconst 0, 1) := by decide +kernel
theorem dX9_tear_12 : decode cX9_tear 12 = .ok (.putfield 159, 3) := by decide +kernel
theorem dX9_tear_15 : decode cX9_tear 15 = .ok (.aload_n 0, 1) := by decide +kernel
theorem dX9_tear_16 : decode cX9_tear 16 = .ok (.iconst 0, 1) := by decide +kernel
theorem dX9_tear_17 : decode cX9_tear 17 = .ok (.putfield 156, 3) := by decide +kernel
theorem dX9_tear_20 : decode cX9_tear 20 = .ok (.iload_n 1, 1) := by decide +kernel
theorem dX9_tear_21 : decode cX9_tear 21 = .ok (.ireturn, 1) := by decide +kernel
theorem dX9_judge_0 : decode cX9_judge 0 = .ok (.iconst 0, 1) := by decide +kernel
theorem dX9_judge_1 : decode cX9_judge 1 = .ok (.istore_n 1, 1) := by decide +kernel
theorem dX9_judge_2 : decode cX9_judge 2 = .ok (.iload_n 1, 1) := by decide +kernel
theorem dX9_judge_3 : decode cX9_judge 3 = .ok (.aload_n 0, 1) := by decide +kernel
theorem dX9_judge_4 : decode cX9_judge 4 = .ok (.getfield 159, 3) := by decide +kernel
theorem dX9_judge_7 : decode cX9_judge 7 = .ok (.if_icmp .ge 151, 3) := by decide +kernel
theorem dX9_judge_10 : decode cX9_judge 10 = .ok (.aload_n 0, 1) := by decide +kernel
theorem dX9_judge_11 : decode cX9_judge 11 = .ok (.getfield 81, 3) := by decide +kernel
theorem dX9_judge_14 : decode cX9_judge 14 = .ok (.iload_n 1, 1) := by decide +kernel
theorem dX9_judge_15 : decode cX9_judge 15 = .ok (.iaload, 1) := by decide +kernel
theorem dX9_judge_16 : decode cX9_judge 16 = .ok (.i2l, 1) := by decide +kernel
theorem dX9_judge_17 : decode cX9_judge 17 = .ok (.aload_n 0, 1) := by decide +kernel
theorem dX9_judge_18 : decode cX9_judge 18 = .ok (.getfield 29, 3) := by decide +kernel
theorem dX9_judge_21 : decode cX9_judge 21 = .ok (.aload_n 0, 1) := by decide +kernel
theorem dX9_judge_22 : decode cX9_judge 22 = .ok (.getfield 84, 3) := by decide +kernel
theorem dX9_judge_25 : decode cX9_judge 25 = .ok (.iload_n 1, 1) := by decide +kernel
theorem dX9_judge_26 : decode cX9_judge 26 = .ok (.iaload, 1) := by decide +kernel
theorem dX9_judge_27 : decode cX9_judge 27 = .ok (.iaload, 1) := by decide +kernel
theorem dX9_judge_28 : decode cX9_judge 28 = .ok (.i2l, 1) := by decide +kernel
theorem dX9_judge_29 : decode cX9_judge 29 = .ok (.aload_n 0, 1) := by decide +kernel
theorem dX9_judge_30 : decode cX9_judge 30 = .ok (.getfield 32, 3) := by decide +kernel
theorem dX9_judge_33 : decode cX9_judge 33 = .ok (.aload_n 0, 1) := by decide +kernel
theorem dX9_judge_34 : decode cX9_judge 34 = .ok (.getfield 84, 3) := by decide +kernel
theorem dX9_judge_37 : decode cX9_judge 37 = .ok (.iload_n 1, 1) := by decide +kernel
theorem dX9_judge_38 : decode cX9_judge 38 = .ok (.iaload, 1) := by decide +kernel
theorem dX9_judge_39 : decode cX9_judge 39 = .ok (.iaload, 1) := by decide +kernel
theorem dX9_judge_40 : decode cX9_judge 40 = .ok (.i2l, 1) := by decide +kernel
theorem dX9_judge_41 : decode cX9_judge 41 = .ok (.invokestatic 89, 3) := by decide +kernel
theorem dX9_judge_44 : decode cX9_judge 44 = .ok (.ifCond .ne 7, 3) := by decide +kernel
theorem dX9_judge_47 : decode cX9_judge 47 = .ok (.iconst 1, 1) := by decide +kernel
theorem dX9_judge_48 : decode cX9_judge 48 = .ok (.goto 4, 3) := by decide +kernel
theorem dX9_judge_51 : decode cX9_judge 51 = .ok (.iconst 0, 1) := by decide +kernel
theorem dX9_judge_52 : decode cX9_judge 52 = .ok (.istore_n 2, 1) := by decide +kernel
theorem dX9_judge_53 : decode cX9_judge 53 = .ok (.iconst 0, 1) := by decide +kernel
theorem dX9_judge_54 : decode cX9_judge 54 = .ok (.istore_n 3, 1) := by decide +kernel
theorem dX9_judge_55 : decode cX9_judge 55 = .ok (.iload_n 3, 1) := by decide +kernel
theorem dX9_judge_56 : decode cX9_judge 56 = .ok (.iload_n 1, 1) := by decide +kernel
theorem dX9_judge_57 : decode cX9_judge 57 = .ok (.if_icmp .ge 89, 3) := by decide +kernel
theorem dX9_judge_60 : decode cX9_judge 60 = .ok (.aload_n 0, 1) := by decide +kernel
theorem dX9_judge_61 : decode cX9_judge 61 = .ok (.getfield 81, 3) := by decide +kernel
theorem dX9_judge_64 : decode cX9_judge 64 = .ok (.iload_n 1, 1) := by decide +kernel
theorem dX9_judge_65 : decode cX9_judge 65 = .ok (.iaload, 1) := by decide +kernel
theorem dX9_judge_66 : decode cX9_judge 66 = .ok (.aload_n 0, 1) := by decide +kernel
theorem dX9_judge_67 : decode cX9_judge 67 = .ok (.getfield 81, 3) := by decide +kernel
theorem dX9_judge_70 : decode cX9_judge 70 = .ok (.iload_n 3, 1) := by decide +kernel
theorem dX9_judge_71 : decode cX9_judge 71 = .ok (.iaload, 1) := by decide +kernel
theorem dX9_judge_72 : decode cX9_judge 72 = .ok (.isub, 1) := by decide +kernel
theorem dX9_judge_73 : decode cX9_judge 73 = .ok (.istore 4, 2) := by decide +kernel
theorem dX9_judge_75 : decode cX9_judge 75 = .ok (.iload 4, 2) := by decide +kernel
theorem dX9_judge_77 : decode cX9_judge 77 = .ok (.ifCond .eq 26, 3) := by decide +kernel
theorem dX9_judge_80 : decode cX9_judge 80 = .ok (.aload_n 0, 1) := by decide +kernel
theorem dX9_judge_81 : decode cX9_judge 81 = .ok (.getfield 7, 3) := by decide +kernel
theorem dX9_judge_84 : decode cX9_judge 84 = .ok (.bipush 31, 2) := by decide +kernel
theorem dX9_judge_86 : decode cX9_judge 86 = .ok (.iaload, 1) := by decide +kernel
theorem dX9_judge_87 : decode cX9_judge 87 = .ok (.iconst 1, 1) := by decide +kernel
theorem dX9_judge_88 : decode cX9_judge 88 = .ok (.if_icmp .ne 19, 3) := by decide +kernel
theorem dX9_judge_91 : decode cX9_judge 91 = .ok (.iload 4, 2) := by decide +kernel
theorem dX9_judge_93 : decode cX9_judge 93 = .ok (.iconst 1, 1) := by decide +kernel
theorem dX9_judge_94 : decode cX9_judge 94 = .ok (.if_icmp .eq 9, 3) := by decide +kernel
theorem dX9_judge_97 : decode cX9_judge 97 = .ok (.iload 4, 2) := by decide +kernel
theorem dX9_judge_99 : decode cX9_judge 99 = .ok (.iconst (-1), 1) := by decide +kernel
theorem dX9_judge_100 : decode cX9_judge 100 = .ok (.if_icmp .ne 7, 3) := by decide +kernel
theorem dX9_judge_103 : decode cX9_judge 103 = .ok (.iconst 1, 1) := by decide +kernel
theorem dX9_judge_104 : decode cX9_judge 104 = .ok (.goto 4, 3) := by decide +kernel
theorem dX9_judge_107 : decode cX9_judge 107 = .ok (.iconst 0, 1) := by decide +kernel
theorem dX9_judge_108 : decode cX9_judge 108 = .ok (.istore 5, 2) := by decide +kernel
theorem dX9_judge_110 : decode cX9_judge 110 = .ok (.iload_n 2, 1) := by decide +kernel
theorem dX9_judge_111 : decode cX9_judge 111 = .ok (.ifCond .ne 23, 3) := by decide +kernel
theorem dX9_judge_114 : decode cX9_judge 114 = .ok (.aload_n 0, 1) := by decide +kernel
theorem dX9_judge_115 : decode cX9_judge 115 = .ok (.getfield 84, 3) := by decide +kernel
theorem dX9_judge_118 : decode cX9_judge 118 = .ok (.iload_n 3, 1) := by decide +kernel
theorem dX9_judge_119 : decode cX9_judge 119 = .ok (.iaload, 1) := by decide +kernel
theorem dX9_judge_120 : decode cX9_judge 120 = .ok (.aload_n 0, 1) := by decide +kernel
theorem dX9_judge_121 : decode cX9_judge 121 = .ok (.getfield 84, 3) := by decide +kernel
theorem dX9_judge_124 : decode cX9_judge 124 = .ok (.iload_n 1, 1) := by decide +kernel
theorem dX9_judge_125 : decode cX9_judge 125 = .ok (.iaload, 1) := by decide +kernel
theorem dX9_judge_126 : decode cX9_judge 126 = .ok (.if_icmp .ne 12, 3) := by decide +kernel
theorem dX9_judge_129 : decode cX9_judge 129 = .ok (.iload 5, 2) := by decide +kernel
theorem dX9_judge_131 : decode cX9_judge 131 = .ok (.ifCond .eq 7, 3) := by decide +kernel
theorem dX9_judge_134 : decode cX9_judge 134 = .ok (.iconst 1, 1) := by decide +kernel
theorem dX9_judge_135 : decode cX9_judge 135 = .ok (.goto 4, 3) := by decide +kernel
theorem dX9_judge_138 : decode cX9_judge 138 = .ok (.iconst 0, 1) := by decide +kernel
theorem dX9_judge_139 : decode cX9_judge 139 = .ok (.istore_n 2, 1) := by decide +kernel
theorem dX9_judge_140 : decode cX9_judge 140 = .ok (.iinc 3 1, 3) := by decide +kernel
theorem dX9_judge_143 : decode cX9_judge 143 = .ok (.goto (-88), 3) := by decide +kernel
theorem dX9_judge_146 : decode cX9_judge 146 = .ok (.iload_n 2, 1) := by decide +kernel
theorem dX9_judge_147 : decode cX9_judge 147 = .ok (.ifCond .eq 5, 3) := by decide +kernel
theorem dX9_judge_150 : decode cX9_judge 150 = .ok (.iload_n 1, 1) := by decide +kernel
theorem dX9_judge_151 : decode cX9_judge 151 = .ok (.ireturn, 1) := by decide +kernel
theorem dX9_judge_152 : decode cX9_judge 152 = .ok (.iinc 1 1, 3) := by decide +kernel
theorem dX9_judge_155 : decode cX9_judge 155 = .ok (.goto (-153), 3) := by decide +kernel
theorem dX9_judge_158 : decode cX9_judge 158 = .ok (.iconst (-1), 1) := by decide +kernel
theorem dX9_judge_159 : decode cX9_judge 159 = .ok (.ireturn, 1) := by decide +kernel
theorem dX9_seed_0 : decode cX9_seed 0 = .ok (.iload_n 1, 1) := by decide +kernel
theorem dX9_seed_1 : decode cX9_seed 1 = .ok (.ifCond .ge 6, 3) := by decide +kernel
theorem dX9_seed_4 : decode cX9_seed 4 = .ok (.ldc 93, 2) := by decide +kernel
theorem dX9_seed_6 : decode cX9_seed 6 = .ok (.ireturn, 1) := by decide +kernel
theorem dX9_seed_7 : decode cX9_seed 7 = .ok (.aload_n 0, 1) := by decide +kernel
theorem dX9_seed_8 : decode cX9_seed 8 = .ok (.getfield 7, 3) := by decide +kernel
theorem dX9_seed_11 : decode cX9_seed 11 = .ok (.bipush 33, 2) := by decide +kernel
theorem dX9_seed_13 : decode cX9_seed 13 = .ok (.iaload, 1) := by decide +kernel
theorem dX9_seed_14 : decode cX9_seed 14 = .ok (.istore_n 2, 1) := by decide +kernel
theorem dX9_seed_15 : decode cX9_seed 15 = .ok (.aload_n 0, 1) := by decide +kernel
theorem dX9_seed_16 : decode cX9_seed 16 = .ok (.getfield 7, 3) := by decide +kernel
theorem dX9_seed_19 : decode cX9_seed 19 = .ok (.bipush 33, 2) := by decide +kernel
theorem dX9_seed_21 : decode cX9_seed 21 = .ok (.iload_n 1, 1) := by decide +kernel
theorem dX9_seed_22 : decode cX9_seed 22 = .ok (.iastore, 1) := by decide +kernel
theorem dX9_seed_23 : decode cX9_seed 23 = .ok (.iload_n 2, 1) := by decide +kernel
theorem dX9_seed_24 : decode cX9_seed 24 = .ok (.ireturn, 1) := by decide +kernel
theorem dX9_keep_0 : decode cX9_keep 0 = .ok (.iload_n 1, 1) := by decide +kernel
theorem dX9_keep_1 : decode cX9_keep 1 = .ok (.i2l, 1) := by decide +kernel
theorem dX9_keep_2 : decode cX9_keep 2 = .ok (.lconst 0, 1) := by decide +kernel
theorem dX9_keep_3 : decode cX9_keep 3 = .ok (.lconst 1, 1) := by decide +kernel
theorem dX9_keep_4 : decode cX9_keep 4 = .ok (.invokestatic 89, 3) := by decide +kernel
theorem dX9_keep_7 : decode cX9_keep 7 = .ok (.ifCond .ne 6, 3) := by decide +kernel
theorem dX9_keep_10 : decode cX9_keep 10 = .ok (.ldc 188, 2) := by decide +kernel
theorem dX9_keep_12 : decode cX9_keep 12 = .ok (.ireturn, 1) := by decide +kernel
theorem dX9_keep_13 : decode cX9_keep 13 = .ok (.aload_n 0, 1) := by decide +kernel
theorem dX9_keep_14 : decode cX9_keep 14 = .ok (.iconst 0, 1) := by decide +kernel
theorem dX9_keep_15 : decode cX9_keep 15 = .ok (.bipush 80, 2) := by decide +kernel
theorem dX9_keep_17 : decode cX9_keep 17 = .ok (.bipush 40, 2) := by decide +kernel
theorem dX9_keep_19 : decode cX9_keep 19 = .ok (.iload_n 1, 1) := by decide +kernel
theorem dX9_keep_20 : decode cX9_keep 20 = .ok (.imul, 1) := by decide +kernel
theorem dX9_keep_21 : decode cX9_keep 21 = .ok (.iadd, 1) := by decide +kernel
theorem dX9_keep_22 : decode cX9_keep 22 = .ok (.invokevirtual 248, 3) := by decide +kernel
theorem dX9_keep_25 : decode cX9_keep 25 = .ok (.aload_n 0, 1) := by decide +kernel
theorem dX9_keep_26 : decode cX9_keep 26 = .ok (.getfield 13, 3) := by decide +kernel
theorem dX9_keep_29 : decode cX9_keep 29 = .ok (.iload_n 1, 1) := by decide +kernel
theorem dX9_keep_30 : decode cX9_keep 30 = .ok (.iconst 1, 1) := by decide +kernel
theorem dX9_keep_31 : decode cX9_keep 31 = .ok (.bastore, 1) := by decide +kernel
theorem dX9_keep_32 : decode cX9_keep 32 = .ok (.iconst 1, 1) := by decide +kernel
theorem dX9_keep_33 : decode cX9_keep 33 = .ok (.ireturn, 1) := by decide +kernel
theorem dX9_goBack_0 : decode cX9_goBack 0 = .ok (.iload_n 1, 1) := by decide +kernel
theorem dX9_goBack_1 : decode cX9_goBack 1 = .ok (.i2l, 1) := by decide +kernel
theorem dX9_goBack_2 : decode cX9_goBack 2 = .ok (.lconst 0, 1) := by decide +kernel
theorem dX9_goBack_3 : decode cX9_goBack 3 = .ok (.lconst 1, 1) := by decide +kernel
theorem dX9_goBack_4 : decode cX9_goBack 4 = .ok (.invokestatic 89, 3) := by decide +kernel
theorem dX9_goBack_7 : decode cX9_goBack 7 = .ok (.ifCond .ne 6, 3) := by decide +kernel
theorem dX9_goBack_10 : decode cX9_goBack 10 = .ok (.ldc 188, 2) := by decide +kernel
theorem dX9_goBack_12 : decode cX9_goBack 12 = .ok (.ireturn, 1) := by decide +kernel
theorem dX9_goBack_13 : decode cX9_goBack 13 = .ok (.aload_n 0, 1) := by decide +kernel
theorem dX9_goBack_14 : decode cX9_goBack 14 = .ok (.getfield 13, 3) := by decide +kernel
theorem dX9_goBack_17 : decode cX9_goBack 17 = .ok (.iload_n 1, 1) := by decide +kernel
theorem dX9_goBack_18 : decode cX9_goBack 18 = .ok (.baload, 1) := by decide +kernel
theorem dX9_goBack_19 : decode cX9_goBack 19 = .ok (.ifCond .ne 7, 3) := by decide +kernel
theorem dX9_goBack_22 : decode cX9_goBack 22 = .ok (.ldc_w 272, 3) := by decide +kernel
theorem dX9_goBack_25 : decode cX9_goBack 25 = .ok (.ireturn, 1) := by decide +kernel
theorem dX9_goBack_26 : decode cX9_goBack 26 = .ok (.aload_n 0, 1) := by decide +kernel
theorem dX9_goBack_27 : decode cX9_goBack 27 = .ok (.bipush 80, 2) := by decide +kernel
theorem dX9_goBack_29 : decode cX9_goBack 29 = .ok (.bipush 40, 2) := by decide +kernel
theorem dX9_goBack_31 : decode cX9_goBack 31 = .ok (.iload_n 1, 1) := by decide +kernel
theorem dX9_goBack_32 : decode cX9_goBack 32 = .ok (.imul, 1) := by decide +kernel
theorem dX9_goBack_33 : decode cX9_goBack 33 = .ok (.iadd, 1) := by decide +kernel
theorem dX9_goBack_34 : decode cX9_goBack 34 = .ok (.iconst 0, 1) := by decide +kernel
theorem dX9_goBack_35 : decode cX9_goBack 35 = .ok (.invokevirtual 248, 3) := by decide +kernel
theorem dX9_goBack_38 : decode cX9_goBack 38 = .ok (.iconst 1, 1) := by decide +kernel
theorem dX9_goBack_39 : decode cX9_goBack 39 = .ok (.ireturn, 1) := by decide +kernel
end
section
abbrev gM : Type := Nat → Nat → Int32
abbrev gK : Type := Nat ⊕ Nat ⊕ Nat ⊕ Nat
abbrev gKo (c : Nat) : gK := .inl c
abbrev gKi (n : Nat) : gK := .inr (.inl n)
abbrev gKz (n : Nat) : gK := .inr (.inr (.inl n))
abbrev gKr (n : Nat) : gK := .inr (.inr (.inr n))
def gN : Nat := 120
def gkdL : List gK := [gKo 8, gKo 6, gKi 400, gKo 7, gKi 10, gKi 10, gKi 10, gKi 10, gKi 10, gKi 10, gKi 10, gKi 8, gKi 8, gKi 8, gKo 7, gKi 10, gKi 10, gKi 10, gKi 10, gKi 10, gKi 10, gKi 10, gKi 8, gKi 8, gKi 8, gKo 3, gKo 5, gKi 10, gKi 10, gKi 10, gKo 5, gKi 10, gKi 10, gKi 10, gKo 5, gKi 10, gKi 10, gKi 10, gKz 2, gKo 2, gKi 36, gKi 36, gKi 36, gKo 1, gKi 13, gKr 13, gKi 64, gKi 64, gKi 64, gKi 64, gKi 64, gKi 64, gKi 64, gKi 64, gKi 64, gKi 64, gKi 64, gKi 64, gKi 64, gKr 13, gKi 64, gKi 64, gKi 64, gKi 64, gKi 64, gKi 64, gKi 64, gKi 64, gKi 64, gKi 64, gKi 64, gKi 64, gKi 64, gKr 12, gKi 64, gKi 64, gKi 64, gKi 64, gKi 64, gKi 64, gKi 64, gKi 64, gKi 64, gKi 64, gKi 64, gKi 64, gKi 12, gKi 8, gKo 4, gKi 20, gKi 20, gKo 0, gKi 40, gKi 40, gKi 10, gKo 9, gKi 160, gKz 2, gKi 20, gKi 20, gKi 20, gKi 20, gKi 20, gKi 20, gKi 20, gKi 16, gKi 16, gKi 16, gKi 8, gKi 400, gKi 64, gKz 12288, gKi 13312, gKz 1024, gKz 1024, gKi 12, gKi 20, gKi 20, gKi 40, gKi 40]
def kd (k : Nat) : gK := gkdL.getD k (gKo 77)
theorem gkdL_len : gkdL.length = gN := by decide +kernel
theorem gkd_lt {k : Nat} {K : gK} (h : kd k = K) (hK : K ≠ gKo 77) : k < gN := by
  rcases Nat.lt_or_ge k gN with q | q
  · exact q
  · exfalso
    apply hK
    rw [← h]
    have e2 : gkdL[k]? = none := List.getElem?_eq_none (by rw [gkdL_len]; exact q)
    unfold kd
    rw [List.getD_eq_getElem?_getD, e2]
    rfl
def grfL : List (List Nat) := [[1, 25, 3, 14, 26, 30, 34, 38, 39, 43, 88, 91, 94], [2], [], [4, 5, 6, 7, 8, 9, 10, 11, 12, 13], [], [], [], [], [], [], [], [], [], [], [15, 16, 17, 18, 19, 20, 21, 22, 23, 24], [], [], [], [], [], [], [], [], [], [], [1, 14], [27, 28, 29], [], [], [], [31, 32, 33], [], [], [], [35, 36, 37], [], [], [], [], [3, 26, 40, 41, 42], [], [], [], [3, 39, 44, 45, 59, 73, 86, 87], [], [46, 47, 48, 49, 50, 51, 52, 53, 54, 55, 56, 57, 58], [], [], [], [], [], [], [], [], [], [], [], [], [], [60, 61, 62, 63, 64, 65, 66, 67, 68, 69, 70, 71, 72], [], [], [], [], [], [], [], [], [], [], [], [], [], [74, 75, 76, 77, 78, 79, 80, 81, 82, 83, 84, 85], [], [], [], [], [], [], [], [], [], [], [], [], [], [], [3, 39, 89, 90], [], [], [3, 92, 93], [], [], [], [96, 97, 98, 99, 100, 101, 102, 103, 104, 105, 106, 107, 108, 109, 0, 0, 0, 0, 0, 0, 110, 0, 0, 111, 112, 113, 114, 115, 116, 117, 0, 118, 119], [], [], [], [], [], [], [], [], [], [], [], [], [], [], [], [], [], [], [], [], [], [], [], []]
def rf (k i : Nat) : Nat := (grfL.getD k []).getD i 0
def gfshL : List (List Bool) := [[false, false, false, true], [false, false, false, false, false, false, false, false, true], [false, false, false, false, false, true], [false, false, true, true, true, true], [false, false, false, false, true], [false, false, false, true, true, true, true], [false, true], [false, false, false, false, false, false, false, false, false, false, true, true, true], [false, false, false, false, false, false, false, false, false, false, false, false, false, true], [false, false, false, false, false, false, false, false, false, false, false, false, false, false, true, true, true, true, true, true, false, true, true, false, false, false, false, false, false, false, true, false, false, true]]
def gfsh (c : Nat) : List Bool := gfshL.getD c []
theorem kf_7_0 {t : Nat} (h : kd t = gKo 7) : kd (rf t 0) = gKi 10 :=
  (show ∀ t, t < gN → kd t = gKo 7 → kd (rf t 0) = gKi 10 by decide +kernel) t (gkd_lt h (by decide)) h
theorem kf_7_1 {t : Nat} (h : kd t = gKo 7) : kd (rf t 1) = gKi 10 :=
  (show ∀ t, t < gN → kd t = gKo 7 → kd (rf t 1) = gKi 10 by decide +kernel) t (gkd_lt h (by decide)) h
theorem kf_7_2 {t : Nat} (h : kd t = gKo 7) : kd (rf t 2) = gKi 10 :=
  (show ∀ t, t < gN → kd t = gKo 7 → kd (rf t 2) = gKi 10 by decide +kernel) t (gkd_lt h (by decide)) h
theorem kf_7_3 {t : Nat} (h : kd t = gKo 7) : kd (rf t 3) = gKi 10 :=
  (show ∀ t, t < gN → kd t = gKo 7 → kd (rf t 3) = gKi 10 by decide +kernel) t (gkd_lt h (by decide)) h
theorem kf_7_4 {t : Nat} (h : kd t = gKo 7) : kd (rf t 4) = gKi 10 :=
  (show ∀ t, t < gN → kd t = gKo 7 → kd (rf t 4) = gKi 10 by decide +kernel) t (gkd_lt h (by decide)) h
theorem kf_7_5 {t : Nat} (h : kd t = gKo 7) : kd (rf t 5) = gKi 10 :=
  (show ∀ t, t < gN → kd t = gKo 7 → kd (rf t 5) = gKi 10 by decide +kernel) t (gkd_lt h (by decide)) h
theorem kf_7_6 {t : Nat} (h : kd t = gKo 7) : kd (rf t 6) = gKi 10 :=
  (show ∀ t, t < gN → kd t = gKo 7 → kd (rf t 6) = gKi 10 by decide +kernel) t (gkd_lt h (by decide)) h
theorem kf_7_7 {t : Nat} (h : kd t = gKo 7) : kd (rf t 7) = gKi 8 :=
  (show ∀ t, t < gN → kd t = gKo 7 → kd (rf t 7) = gKi 8 by decide +kernel) t (gkd_lt h (by decide)) h
theorem kf_7_8 {t : Nat} (h : kd t = gKo 7) : kd (rf t 8) = gKi 8 :=
  (show ∀ t, t < gN → kd t = gKo 7 → kd (rf t 8) = gKi 8 by decide +kernel) t (gkd_lt h (by decide)) h
theorem kf_7_9 {t : Nat} (h : kd t = gKo 7) : kd (rf t 9) = gKi 8 :=
  (show ∀ t, t < gN → kd t = gKo 7 → kd (rf t 9) = gKi 8 by decide +kernel) t (gkd_lt h (by decide)) h
theorem kf_5_0 {t : Nat} (h : kd t = gKo 5) : kd (rf t 0) = gKi 10 :=
  (show ∀ t, t < gN → kd t = gKo 5 → kd (rf t 0) = gKi 10 by decide +kernel) t (gkd_lt h (by decide)) h
theorem kf_5_1 {t : Nat} (h : kd t = gKo 5) : kd (rf t 1) = gKi 10 :=
  (show ∀ t, t < gN → kd t = gKo 5 → kd (rf t 1) = gKi 10 by decide +kernel) t (gkd_lt h (by decide)) h
theorem kf_5_2 {t : Nat} (h : kd t = gKo 5) : kd (rf t 2) = gKi 10 :=
  (show ∀ t, t < gN → kd t = gKo 5 → kd (rf t 2) = gKi 10 by decide +kernel) t (gkd_lt h (by decide)) h
theorem kg_45 {j : Int32} (h : decide (0 ≤ j.toInt ∧ j.toInt < (13 : Int)) = true) : kd (rf 45 j.toNatClampNeg) = gKi 64 := by
  have h2 := of_decide_eq_true h
  have h3 : j.toNatClampNeg < 13 := by
    show j.toInt.toNat < 13
    omega
  exact (show ∀ k, k < 13 → kd (rf 45 k) = gKi 64 by decide +kernel) _ h3
theorem kg_59 {j : Int32} (h : decide (0 ≤ j.toInt ∧ j.toInt < (13 : Int)) = true) : kd (rf 59 j.toNatClampNeg) = gKi 64 := by
  have h2 := of_decide_eq_true h
  have h3 : j.toNatClampNeg < 13 := by
    show j.toInt.toNat < 13
    omega
  exact (show ∀ k, k < 13 → kd (rf 59 k) = gKi 64 by decide +kernel) _ h3
theorem kg_73 {j : Int32} (h : decide (0 ≤ j.toInt ∧ j.toInt < (12 : Int)) = true) : kd (rf 73 j.toNatClampNeg) = gKi 64 := by
  have h2 := of_decide_eq_true h
  have h3 : j.toNatClampNeg < 12 := by
    show j.toInt.toNat < 12
    omega
  exact (show ∀ k, k < 12 → kd (rf 73 k) = gKi 64 by decide +kernel) _ h3
abbrev gNF : Type := String × Nat × String × String × String × String
abbrev gNM : Type := String × Nat × MethodName × String
def nstF : List gNF := [(RX8, 95, "RentedLooks$Text", "length", "I", "RentedLooks"), (RX3, 37, "RentedLooks$Text", "length", "I", "RentedLooks"), (RX8, 151, "RentedLooks$Town", "kind", "[I", "RentedLooks"), (RX8, 154, "RentedLooks$Town", "landlord", "[I", "RentedLooks"), (RX5, 21, "RentedLooks$Town", "toldWidth", "[I", "RentedLooks"), (RX5, 30, "RentedLooks$Town", "toldPrice", "[I", "RentedLooks"), (RX8, 163, "RentedLooks$Town", "from", "[I", "RentedLooks"), (RX8, 166, "RentedLooks$Town", "to", "[I", "RentedLooks"), (RX8, 169, "RentedLooks$Town", "clashing", "[I", "RentedLooks"), (RX1, 50, "RentedLooks$Town", "hour", "[I", "RentedLooks"), (RX8, 178, "RentedLooks$Town", "hour", "[I", "RentedLooks"), (RX2, 84, "RentedLooks$Town", "hour", "[I", "RentedLooks"), (RX8, 181, "RentedLooks$Town", "low", "[I", "RentedLooks"), (RX2, 78, "RentedLooks$Town", "low", "[I", "RentedLooks"), (RX8, 184, "RentedLooks$Town", "high", "[I", "RentedLooks"), (RX2, 81, "RentedLooks$Town", "high", "[I", "RentedLooks"), (RX2, 33, "RentedLooks$Town", "parts", "I", "RentedLooks"), (RX3, 71, "RentedLooks$Town", "parts", "I", "RentedLooks"), (RX8, 123, "RentedLooks$Town", "parts", "I", "RentedLooks"), (RX3, 92, "RentedLooks$Town", "clashes", "I", "RentedLooks"), (RX8, 129, "RentedLooks$Town", "clashes", "I", "RentedLooks"), (RX1, 44, "RentedLooks$Town", "scenes", "I", "RentedLooks"), (RX3, 102, "RentedLooks$Town", "scenes", "I", "RentedLooks"), (RX8, 126, "RentedLooks$Town", "scenes", "I", "RentedLooks"), (RX8, 107, "RentedLooks$Reader", "place", "I", "RentedLooks"), (RX2, 49, "RentedLooks$State", "widths", "[I", "RentedLooks"), (RX8, 157, "RentedLooks$State", "widths", "[I", "RentedLooks"), (RX2, 58, "RentedLooks$State", "prices", "[I", "RentedLooks"), (RX8, 160, "RentedLooks$State", "prices", "[I", "RentedLooks"), (RX8, 172, "RentedLooks$State", "worn", "[I", "RentedLooks"), (RX8, 135, "RentedLooks$State", "spent", "I", "RentedLooks"), (RX8, 138, "RentedLooks$State", "days", "I", "RentedLooks"), (RX8, 132, "RentedLooks$State", "lawNow", "I", "RentedLooks"), (RX8, 280, "RentedLooks$State", "seedNow", "I", "RentedLooks"), (RX1, 64, "RentedLooks$Looks", "count", "I", "RentedLooks"), (RX4, 44, "RentedLooks$Looks", "count", "I", "RentedLooks"), (RX8, 141, "RentedLooks$Looks", "count", "I", "RentedLooks"), (RX8, 263, "RentedLooks$Dresser", "worn", "[I", "RentedLooks"), (RX8, 206, "RentedLooks$Dresser", "lookOf", "[I", "RentedLooks"), (RX8, 203, "RentedLooks$Dresser", "total", "I", "RentedLooks"), (RX8, 119, "RentedLooks$Sightings", "count", "I", "RentedLooks"), (RX8, 122, "RentedLooks$Book", "count", "I", "RentedLooks")]
def nstM : List gNM := [(RX8, 9, yX6_init, "RentedLooks"), (RX8, 18, yX7_init, "RentedLooks"), (RX8, 28, yX3_init, "RentedLooks"), (RX8, 37, yX5_init, "RentedLooks"), (RX8, 54, yX2_init, "RentedLooks"), (RX8, 63, yX1_init, "RentedLooks"), (RX8, 72, yX4_init, "RentedLooks"), (RX8, 79, yX0_init, "RentedLooks"), (RX8, 99, yX6_add, "RentedLooks"), (RX8, 103, yX3_readTown, "RentedLooks"), (RX3, 23, yX7_clear, "RentedLooks"), (RX3, 122, yX6_byteAt, "RentedLooks"), (RX3, 109, yX6_isLetter, "RentedLooks"), (RX3, 50, yX6_stands, "RentedLooks"), (RX3, 119, yX6_isFigure, "RentedLooks"), (RX3, 85, yX7_addPart, "RentedLooks"), (RX3, 89, yX7_setHoursOfLatest, "RentedLooks"), (RX3, 95, yX7_isClash, "RentedLooks"), (RX7, 56, yX8_has, "RentedLooks"), (RX3, 99, yX7_addClash, "RentedLooks"), (RX3, 105, yX7_addScene, "RentedLooks"), (RX8, 110, yX7_copyFrom, "RentedLooks"), (RX7, 60, yX8_copyRow, "RentedLooks"), (RX8, 113, yX5_beginIn, "RentedLooks"), (RX5, 26, yX8_copyRow, "RentedLooks"), (RX8, 116, yX2_build, "RentedLooks"), (RX2, 42, yX7_isOfKind, "RentedLooks"), (RX2, 46, yX7_isClash, "RentedLooks"), (RX8, 142, yX2_widthsIf, "RentedLooks"), (RX2, 65, yX7_hasPart, "RentedLooks"), (RX2, 72, yX8_has, "RentedLooks"), (RX8, 146, yX7_hasPart, "RentedLooks"), (RX8, 175, yX7_hasScene, "RentedLooks"), (RX8, 187, yX2_partsOf, "RentedLooks"), (RX8, 191, yX2_widthOf, "RentedLooks"), (RX8, 194, yX2_priceOf, "RentedLooks"), (RX8, 197, yX2_cheapestFor, "RentedLooks"), (RX2, 75, yX7_hasScene, "RentedLooks"), (RX2, 87, yX7_freeIn, "RentedLooks"), (RX8, 219, yX1_gather, "RentedLooks"), (RX1, 53, yX7_freeIn, "RentedLooks"), (RX1, 60, yX8_copyRow, "RentedLooks"), (RX1, 69, yX2_isFor, "RentedLooks"), (RX1, 73, yX2_partsOf, "RentedLooks"), (RX8, 226, yX1_choose, "RentedLooks"), (RX1, 87, yX8_sumOver, "RentedLooks"), (RX8, 212, yX7_ownedBy, "RentedLooks"), (RX8, 215, yX1_priceOfWorn, "RentedLooks"), (RX8, 222, yX5_raisePrices, "RentedLooks"), (RX5, 52, yX8_has, "RentedLooks"), (RX8, 238, yX7_freeIn, "RentedLooks"), (RX8, 241, yX2_mayMarry, "RentedLooks"), (RX8, 245, yX4_add, "RentedLooks"), (RX8, 248, yX4_mayBeWorn, "RentedLooks"), (RX4, 39, yX7_freeIn, "RentedLooks"), (RX4, 30, yX2_partsOf, "RentedLooks"), (RX4, 36, yX2_widthOf, "RentedLooks"), (RX8, 251, yX4_surelyWorn, "RentedLooks"), (RX8, 254, yX4_firstStrange, "RentedLooks"), (RX8, 264, yX5_wearHour, "RentedLooks"), (RX8, 267, yX5_wearOut, "RentedLooks"), (RX8, 260, yX5_drawPrices, "RentedLooks"), (RX8, 276, yX0_add, "RentedLooks"), (RX8, 277, yX0_firstWrong, "RentedLooks"), (RX0, 26, yX7_isFree, "RentedLooks"), (RX8, 287, yX5_copyFrom, "RentedLooks")]
def gLen : List Nat := [4, 5, 5, 4, 4, 5]
def gByt : List (List Int32) := [[112, 97, 114, 116], [99, 108, 97, 115, 104], [115, 99, 101, 110, 101], [98, 114, 111, 119], [101, 121, 101, 115], [109, 111, 117, 116, 104]]
def gSix : List Nat := [45, 57, 62, 113, 115, 117]
def gStx : List String := ["part", "clash", "scene", "brow", "eyes", "mouth"]
theorem wnf_X8_95 : (RX8, 95, "RentedLooks$Text", "length", "I", "RentedLooks") ∈ nstF := List.mem_of_getElem? (i := 0) rfl
theorem wnf_X3_37 : (RX3, 37, "RentedLooks$Text", "length", "I", "RentedLooks") ∈ nstF := List.mem_of_getElem? (i := 1) rfl
theorem wnf_X8_151 : (RX8, 151, "RentedLooks$Town", "kind", "[I", "RentedLooks") ∈ nstF := List.mem_of_getElem? (i := 2) rfl
theorem wnf_X8_154 : (RX8, 154, "RentedLooks$Town", "landlord", "[I", "RentedLooks") ∈ nstF := List.mem_of_getElem? (i := 3) rfl
theorem wnf_X5_21 : (RX5, 21, "RentedLooks$Town", "toldWidth", "[I", "RentedLooks") ∈ nstF := List.mem_of_getElem? (i := 4) rfl
theorem wnf_X5_30 : (RX5, 30, "RentedLooks$Town", "toldPrice", "[I", "RentedLooks") ∈ nstF := List.mem_of_getElem? (i := 5) rfl
theorem wnf_X8_163 : (RX8, 163, "RentedLooks$Town", "from", "[I", "RentedLooks") ∈ nstF := List.mem_of_getElem? (i := 6) rfl
theorem wnf_X8_166 : (RX8, 166, "RentedLooks$Town", "to", "[I", "RentedLooks") ∈ nstF := List.mem_of_getElem? (i := 7) rfl
theorem wnf_X8_169 : (RX8, 169, "RentedLooks$Town", "clashing", "[I", "RentedLooks") ∈ nstF := List.mem_of_getElem? (i := 8) rfl
theorem wnf_X1_50 : (RX1, 50, "RentedLooks$Town", "hour", "[I", "RentedLooks") ∈ nstF := List.mem_of_getElem? (i := 9) rfl
theorem wnf_X8_178 : (RX8, 178, "RentedLooks$Town", "hour", "[I", "RentedLooks") ∈ nstF := List.mem_of_getElem? (i := 10) rfl
theorem wnf_X2_84 : (RX2, 84, "RentedLooks$Town", "hour", "[I", "RentedLooks") ∈ nstF := List.mem_of_getElem? (i := 11) rfl
theorem wnf_X8_181 : (RX8, 181, "RentedLooks$Town", "low", "[I", "RentedLooks") ∈ nstF := List.mem_of_getElem? (i := 12) rfl
theorem wnf_X2_78 : (RX2, 78, "RentedLooks$Town", "low", "[I", "RentedLooks") ∈ nstF := List.mem_of_getElem? (i := 13) rfl
theorem wnf_X8_184 : (RX8, 184, "RentedLooks$Town", "high", "[I", "RentedLooks") ∈ nstF := List.mem_of_getElem? (i := 14) rfl
theorem wnf_X2_81 : (RX2, 81, "RentedLooks$Town", "high", "[I", "RentedLooks") ∈ nstF := List.mem_of_getElem? (i := 15) rfl
theorem wnf_X2_33 : (RX2, 33, "RentedLooks$Town", "parts", "I", "RentedLooks") ∈ nstF := List.mem_of_getElem? (i := 16) rfl
theorem wnf_X3_71 : (RX3, 71, "RentedLooks$Town", "parts", "I", "RentedLooks") ∈ nstF := List.mem_of_getElem? (i := 17) rfl
theorem wnf_X8_123 : (RX8, 123, "RentedLooks$Town", "parts", "I", "RentedLooks") ∈ nstF := List.mem_of_getElem? (i := 18) rfl
theorem wnf_X3_92 : (RX3, 92, "RentedLooks$Town", "clashes", "I", "RentedLooks") ∈ nstF := List.mem_of_getElem? (i := 19) rfl
theorem wnf_X8_129 : (RX8, 129, "RentedLooks$Town", "clashes", "I", "RentedLooks") ∈ nstF := List.mem_of_getElem? (i := 20) rfl
theorem wnf_X1_44 : (RX1, 44, "RentedLooks$Town", "scenes", "I", "RentedLooks") ∈ nstF := List.mem_of_getElem? (i := 21) rfl
theorem wnf_X3_102 : (RX3, 102, "RentedLooks$Town", "scenes", "I", "RentedLooks") ∈ nstF := List.mem_of_getElem? (i := 22) rfl
theorem wnf_X8_126 : (RX8, 126, "RentedLooks$Town", "scenes", "I", "RentedLooks") ∈ nstF := List.mem_of_getElem? (i := 23) rfl
theorem wnf_X8_107 : (RX8, 107, "RentedLooks$Reader", "place", "I", "RentedLooks") ∈ nstF := List.mem_of_getElem? (i := 24) rfl
theorem wnf_X2_49 : (RX2, 49, "RentedLooks$State", "widths", "[I", "RentedLooks") ∈ nstF := List.mem_of_getElem? (i := 25) rfl
theorem wnf_X8_157 : (RX8, 157, "RentedLooks$State", "widths", "[I", "RentedLooks") ∈ nstF := List.mem_of_getElem? (i := 26) rfl
theorem wnf_X2_58 : (RX2, 58, "RentedLooks$State", "prices", "[I", "RentedLooks") ∈ nstF := List.mem_of_getElem? (i := 27) rfl
theorem wnf_X8_160 : (RX8, 160, "RentedLooks$State", "prices", "[I", "RentedLooks") ∈ nstF := List.mem_of_getElem? (i := 28) rfl
theorem wnf_X8_172 : (RX8, 172, "RentedLooks$State", "worn", "[I", "RentedLooks") ∈ nstF := List.mem_of_getElem? (i := 29) rfl
theorem wnf_X8_135 : (RX8, 135, "RentedLooks$State", "spent", "I", "RentedLooks") ∈ nstF := List.mem_of_getElem? (i := 30) rfl
theorem wnf_X8_138 : (RX8, 138, "RentedLooks$State", "days", "I", "RentedLooks") ∈ nstF := List.mem_of_getElem? (i := 31) rfl
theorem wnf_X8_132 : (RX8, 132, "RentedLooks$State", "lawNow", "I", "RentedLooks") ∈ nstF := List.mem_of_getElem? (i := 32) rfl
theorem wnf_X8_280 : (RX8, 280, "RentedLooks$State", "seedNow", "I", "RentedLooks") ∈ nstF := List.mem_of_getElem? (i := 33) rfl
theorem wnf_X1_64 : (RX1, 64, "RentedLooks$Looks", "count", "I", "RentedLooks") ∈ nstF := List.mem_of_getElem? (i := 34) rfl
theorem wnf_X4_44 : (RX4, 44, "RentedLooks$Looks", "count", "I", "RentedLooks") ∈ nstF := List.mem_of_getElem? (i := 35) rfl
theorem wnf_X8_141 : (RX8, 141, "RentedLooks$Looks", "count", "I", "RentedLooks") ∈ nstF := List.mem_of_getElem? (i := 36) rfl
theorem wnf_X8_263 : (RX8, 263, "RentedLooks$Dresser", "worn", "[I", "RentedLooks") ∈ nstF := List.mem_of_getElem? (i := 37) rfl
theorem wnf_X8_206 : (RX8, 206, "RentedLooks$Dresser", "lookOf", "[I", "RentedLooks") ∈ nstF := List.mem_of_getElem? (i := 38) rfl
theorem wnf_X8_203 : (RX8, 203, "RentedLooks$Dresser", "total", "I", "RentedLooks") ∈ nstF := List.mem_of_getElem? (i := 39) rfl
theorem wnf_X8_119 : (RX8, 119, "RentedLooks$Sightings", "count", "I", "RentedLooks") ∈ nstF := List.mem_of_getElem? (i := 40) rfl
theorem wnf_X8_122 : (RX8, 122, "RentedLooks$Book", "count", "I", "RentedLooks") ∈ nstF := List.mem_of_getElem? (i := 41) rfl
theorem wnm_X8_9 : (RX8, 9, yX6_init, "RentedLooks") ∈ nstM := List.mem_of_getElem? (i := 0) rfl
theorem wnm_X8_18 : (RX8, 18, yX7_init, "RentedLooks") ∈ nstM := List.mem_of_getElem? (i := 1) rfl
theorem wnm_X8_28 : (RX8, 28, yX3_init, "RentedLooks") ∈ nstM := List.mem_of_getElem? (i := 2) rfl
theorem wnm_X8_37 : (RX8, 37, yX5_init, "RentedLooks") ∈ nstM := List.mem_of_getElem? (i := 3) rfl
theorem wnm_X8_54 : (RX8, 54, yX2_init, "RentedLooks") ∈ nstM := List.mem_of_getElem? (i := 4) rfl
theorem wnm_X8_63 : (RX8, 63, yX1_init, "RentedLooks") ∈ nstM := List.mem_of_getElem? (i := 5) rfl
theorem wnm_X8_72 : (RX8, 72, yX4_init, "RentedLooks") ∈ nstM := List.mem_of_getElem? (i := 6) rfl
theorem wnm_X8_79 : (RX8, 79, yX0_init, "RentedLooks") ∈ nstM := List.mem_of_getElem? (i := 7) rfl
theorem wnm_X8_99 : (RX8, 99, yX6_add, "RentedLooks") ∈ nstM := List.mem_of_getElem? (i := 8) rfl
theorem wnm_X8_103 : (RX8, 103, yX3_readTown, "RentedLooks") ∈ nstM := List.mem_of_getElem? (i := 9) rfl
theorem wnm_X3_23 : (RX3, 23, yX7_clear, "RentedLooks") ∈ nstM := List.mem_of_getElem? (i := 10) rfl
theorem wnm_X3_122 : (RX3, 122, yX6_byteAt, "RentedLooks") ∈ nstM := List.mem_of_getElem? (i := 11) rfl
theorem wnm_X3_109 : (RX3, 109, yX6_isLetter, "RentedLooks") ∈ nstM := List.mem_of_getElem? (i := 12) rfl
theorem wnm_X3_50 : (RX3, 50, yX6_stands, "RentedLooks") ∈ nstM := List.mem_of_getElem? (i := 13) rfl
theorem wnm_X3_119 : (RX3, 119, yX6_isFigure, "RentedLooks") ∈ nstM := List.mem_of_getElem? (i := 14) rfl
theorem wnm_X3_85 : (RX3, 85, yX7_addPart, "RentedLooks") ∈ nstM := List.mem_of_getElem? (i := 15) rfl
theorem wnm_X3_89 : (RX3, 89, yX7_setHoursOfLatest, "RentedLooks") ∈ nstM := List.mem_of_getElem? (i := 16) rfl
theorem wnm_X3_95 : (RX3, 95, yX7_isClash, "RentedLooks") ∈ nstM := List.mem_of_getElem? (i := 17) rfl
theorem wnm_X7_56 : (RX7, 56, yX8_has, "RentedLooks") ∈ nstM := List.mem_of_getElem? (i := 18) rfl
theorem wnm_X3_99 : (RX3, 99, yX7_addClash, "RentedLooks") ∈ nstM := List.mem_of_getElem? (i := 19) rfl
theorem wnm_X3_105 : (RX3, 105, yX7_addScene, "RentedLooks") ∈ nstM := List.mem_of_getElem? (i := 20) rfl
theorem wnm_X8_110 : (RX8, 110, yX7_copyFrom, "RentedLooks") ∈ nstM := List.mem_of_getElem? (i := 21) rfl
theorem wnm_X7_60 : (RX7, 60, yX8_copyRow, "RentedLooks") ∈ nstM := List.mem_of_getElem? (i := 22) rfl
theorem wnm_X8_113 : (RX8, 113, yX5_beginIn, "RentedLooks") ∈ nstM := List.mem_of_getElem? (i := 23) rfl
theorem wnm_X5_26 : (RX5, 26, yX8_copyRow, "RentedLooks") ∈ nstM := List.mem_of_getElem? (i := 24) rfl
theorem wnm_X8_116 : (RX8, 116, yX2_build, "RentedLooks") ∈ nstM := List.mem_of_getElem? (i := 25) rfl
theorem wnm_X2_42 : (RX2, 42, yX7_isOfKind, "RentedLooks") ∈ nstM := List.mem_of_getElem? (i := 26) rfl
theorem wnm_X2_46 : (RX2, 46, yX7_isClash, "RentedLooks") ∈ nstM := List.mem_of_getElem? (i := 27) rfl
theorem wnm_X8_142 : (RX8, 142, yX2_widthsIf, "RentedLooks") ∈ nstM := List.mem_of_getElem? (i := 28) rfl
theorem wnm_X2_65 : (RX2, 65, yX7_hasPart, "RentedLooks") ∈ nstM := List.mem_of_getElem? (i := 29) rfl
theorem wnm_X2_72 : (RX2, 72, yX8_has, "RentedLooks") ∈ nstM := List.mem_of_getElem? (i := 30) rfl
theorem wnm_X8_146 : (RX8, 146, yX7_hasPart, "RentedLooks") ∈ nstM := List.mem_of_getElem? (i := 31) rfl
theorem wnm_X8_175 : (RX8, 175, yX7_hasScene, "RentedLooks") ∈ nstM := List.mem_of_getElem? (i := 32) rfl
theorem wnm_X8_187 : (RX8, 187, yX2_partsOf, "RentedLooks") ∈ nstM := List.mem_of_getElem? (i := 33) rfl
theorem wnm_X8_191 : (RX8, 191, yX2_widthOf, "RentedLooks") ∈ nstM := List.mem_of_getElem? (i := 34) rfl
theorem wnm_X8_194 : (RX8, 194, yX2_priceOf, "RentedLooks") ∈ nstM := List.mem_of_getElem? (i := 35) rfl
theorem wnm_X8_197 : (RX8, 197, yX2_cheapestFor, "RentedLooks") ∈ nstM := List.mem_of_getElem? (i := 36) rfl
theorem wnm_X2_75 : (RX2, 75, yX7_hasScene, "RentedLooks") ∈ nstM := List.mem_of_getElem? (i := 37) rfl
theorem wnm_X2_87 : (RX2, 87, yX7_freeIn, "RentedLooks") ∈ nstM := List.mem_of_getElem? (i := 38) rfl
theorem wnm_X8_219 : (RX8, 219, yX1_gather, "RentedLooks") ∈ nstM := List.mem_of_getElem? (i := 39) rfl
theorem wnm_X1_53 : (RX1, 53, yX7_freeIn, "RentedLooks") ∈ nstM := List.mem_of_getElem? (i := 40) rfl
theorem wnm_X1_60 : (RX1, 60, yX8_copyRow, "RentedLooks") ∈ nstM := List.mem_of_getElem? (i := 41) rfl
theorem wnm_X1_69 : (RX1, 69, yX2_isFor, "RentedLooks") ∈ nstM := List.mem_of_getElem? (i := 42) rfl
theorem wnm_X1_73 : (RX1, 73, yX2_partsOf, "RentedLooks") ∈ nstM := List.mem_of_getElem? (i := 43) rfl
theorem wnm_X8_226 : (RX8, 226, yX1_choose, "RentedLooks") ∈ nstM := List.mem_of_getElem? (i := 44) rfl
theorem wnm_X1_87 : (RX1, 87, yX8_sumOver, "RentedLooks") ∈ nstM := List.mem_of_getElem? (i := 45) rfl
theorem wnm_X8_212 : (RX8, 212, yX7_ownedBy, "RentedLooks") ∈ nstM := List.mem_of_getElem? (i := 46) rfl
theorem wnm_X8_215 : (RX8, 215, yX1_priceOfWorn, "RentedLooks") ∈ nstM := List.mem_of_getElem? (i := 47) rfl
theorem wnm_X8_222 : (RX8, 222, yX5_raisePrices, "RentedLooks") ∈ nstM := List.mem_of_getElem? (i := 48) rfl
theorem wnm_X5_52 : (RX5, 52, yX8_has, "RentedLooks") ∈ nstM := List.mem_of_getElem? (i := 49) rfl
theorem wnm_X8_238 : (RX8, 238, yX7_freeIn, "RentedLooks") ∈ nstM := List.mem_of_getElem? (i := 50) rfl
theorem wnm_X8_241 : (RX8, 241, yX2_mayMarry, "RentedLooks") ∈ nstM := List.mem_of_getElem? (i := 51) rfl
theorem wnm_X8_245 : (RX8, 245, yX4_add, "RentedLooks") ∈ nstM := List.mem_of_getElem? (i := 52) rfl
theorem wnm_X8_248 : (RX8, 248, yX4_mayBeWorn, "RentedLooks") ∈ nstM := List.mem_of_getElem? (i := 53) rfl
theorem wnm_X4_39 : (RX4, 39, yX7_freeIn, "RentedLooks") ∈ nstM := List.mem_of_getElem? (i := 54) rfl
theorem wnm_X4_30 : (RX4, 30, yX2_partsOf, "RentedLooks") ∈ nstM := List.mem_of_getElem? (i := 55) rfl
theorem wnm_X4_36 : (RX4, 36, yX2_widthOf, "RentedLooks") ∈ nstM := List.mem_of_getElem? (i := 56) rfl
theorem wnm_X8_251 : (RX8, 251, yX4_surelyWorn, "RentedLooks") ∈ nstM := List.mem_of_getElem? (i := 57) rfl
theorem wnm_X8_254 : (RX8, 254, yX4_firstStrange, "RentedLooks") ∈ nstM := List.mem_of_getElem? (i := 58) rfl
theorem wnm_X8_264 : (RX8, 264, yX5_wearHour, "RentedLooks") ∈ nstM := List.mem_of_getElem? (i := 59) rfl
theorem wnm_X8_267 : (RX8, 267, yX5_wearOut, "RentedLooks") ∈ nstM := List.mem_of_getElem? (i := 60) rfl
theorem wnm_X8_260 : (RX8, 260, yX5_drawPrices, "RentedLooks") ∈ nstM := List.mem_of_getElem? (i := 61) rfl
theorem wnm_X8_276 : (RX8, 276, yX0_add, "RentedLooks") ∈ nstM := List.mem_of_getElem? (i := 62) rfl
theorem wnm_X8_277 : (RX8, 277, yX0_firstWrong, "RentedLooks") ∈ nstM := List.mem_of_getElem? (i := 63) rfl
theorem wnm_X0_26 : (RX0, 26, yX7_isFree, "RentedLooks") ∈ nstM := List.mem_of_getElem? (i := 64) rfl
theorem wnm_X8_287 : (RX8, 287, yX5_copyFrom, "RentedLooks") ∈ nstM := List.mem_of_getElem? (i := 65) rfl
end
section
/-! the memory of the two systems as numbers: M k i is slot i of object k; kinds and references are fixed tables (part tabs) -/
abbrev gX : Type := Program × Launch × Env × Room × State × MethodId × Array Value × List Frame × Method × Code × va_G × (Nat → Nat) × (ClassId × ClassId × ClassId) × (Nat → Prop) × Nat × Nat × (Nat → Nat) × (Nat → Nat)
abbrev xp (X : gX) : Program := X.1
abbrev xl (X : gX) : Launch := X.2.1
abbrev xe (X : gX) : Env := X.2.2.1
abbrev xR (X : gX) : Room := X.2.2.2.1
abbrev xs (X : gX) : State := X.2.2.2.2.1
abbrev xm (X : gX) : MethodId := X.2.2.2.2.2.1
abbrev xargs (X : gX) : Array Value := X.2.2.2.2.2.2.1
abbrev xbelow (X : gX) : List Frame := X.2.2.2.2.2.2.2.1
abbrev xmeth (X : gX) : Method := X.2.2.2.2.2.2.2.2.1
abbrev xc (X : gX) : Code := X.2.2.2.2.2.2.2.2.2.1
abbrev xD (X : gX) : va_G := X.2.2.2.2.2.2.2.2.2.2.1
abbrev xad (X : gX) : Nat → Nat := X.2.2.2.2.2.2.2.2.2.2.2.1
abbrev xcs (X : gX) : ClassId × ClassId × ClassId := X.2.2.2.2.2.2.2.2.2.2.2.2.1
abbrev xA (X : gX) : Nat → Prop := X.2.2.2.2.2.2.2.2.2.2.2.2.2.1
abbrev xce (X : gX) : Nat := X.2.2.2.2.2.2.2.2.2.2.2.2.2.2.1
abbrev xsl (X : gX) : Nat := X.2.2.2.2.2.2.2.2.2.2.2.2.2.2.2.1
abbrev xK (X : gX) : Nat → Nat := X.2.2.2.2.2.2.2.2.2.2.2.2.2.2.2.2.1
abbrev xV (X : gX) : Nat → Nat := X.2.2.2.2.2.2.2.2.2.2.2.2.2.2.2.2.2
def gst (M : gM) (a i : Nat) (v : Int32) : gM := fun k => if k = a then upd (M a) i v else M k
theorem gst_at (M : gM) (a i : Nat) (v : Int32) : gst M a i v a = upd (M a) i v := by simp [gst]
theorem gst_ne (M : gM) (a i : Nat) (v : Int32) {k : Nat} (h : k ≠ a) : gst M a i v k = M k := by simp [gst, h]
def gflds (ad r : Nat → Nat) (f : Nat → Int32) : List Bool → Nat → List Value
  | [], _ => []
  | b :: bs, i => (if b then Value.int (f i) else Value.ref (ad (r i))) :: gflds ad r f bs (i + 1)
def gcell (ad : Nat → Nat) (cs : ClassId × ClassId × ClassId) : gK → (Nat → Nat) → (Nat → Int32) → va_E
  | .inl c, r, f => .inr (c, gflds ad r f (gfsh c) 0)
  | .inr (.inl n), _, f => .inl (cs.1, n, .inl f)
  | .inr (.inr (.inl n)), _, f => .inl (cs.2.1, n, .inl f)
  | .inr (.inr (.inr n)), r, _ => .inl (cs.2.2, n, .inr (.inr (.inr (.inr (fun j => some (ad (r j)))))))
def gwl (ad : Nat → Nat) (cs : ClassId × ClassId × ClassId) (M : gM) : va_W := (List.range gN).map (fun k => (ad k, gcell ad cs (kd k) (rf k) (M k)))
theorem gwl_get {ad : Nat → Nat} {cs : ClassId × ClassId × ClassId} {M : gM} {k : Nat} (hk : k < gN) : (gwl ad cs M)[k]? = some (ad k, gcell ad cs (kd k) (rf k) (M k)) := by
  simp [gwl, List.getElem?_range hk]
theorem gwl_set {ad : Nat → Nat} {cs : ClassId × ClassId × ClassId} {M M' : gM} {k : Nat} {E : va_E} (h1 : E = gcell ad cs (kd k) (rf k) (M' k)) (h2 : ∀ j, j ≠ k → M' j = M j) : (gwl ad cs M).set k (ad k, E) = gwl ad cs M' := by
  apply List.ext_getElem?
  intro j
  rw [List.getElem?_set]
  have hl : (gwl ad cs M).length = gN := by simp [gwl]
  by_cases hj : k = j
  · subst hj
    rw [if_pos rfl, hl]
    by_cases hn : k < gN
    · rw [if_pos hn, gwl_get hn, h1]
    · rw [if_neg hn]
      exact (List.getElem?_eq_none (by simp [gwl]; omega)).symm
  · rw [if_neg hj]
    by_cases hn : j < gN
    · rw [gwl_get hn, gwl_get hn, h2 j (fun q => hj q.symm)]
    · rw [List.getElem?_eq_none (by simp [gwl]; omega), List.getElem?_eq_none (by simp [gwl]; omega)]
theorem gflds_int {ad r : Nat → Nat} {f : Nat → Int32} : ∀ (bs : List Bool) (i j : Nat), bs[j]? = some true → (gflds ad r f bs i)[j]? = some (Value.int (f (i + j))) := by
  intro bs
  induction bs with
  | nil => intro i j h; simp at h
  | cons b bs ih =>
    intro i j h
    cases j with
    | zero =>
      simp at h
      subst h
      simp [gflds]
    | succ j =>
      have := ih (i + 1) j (by simpa using h)
      simp [gflds, this]
      congr 1
      omega
theorem gflds_ref {ad r : Nat → Nat} {f : Nat → Int32} : ∀ (bs : List Bool) (i j : Nat), bs[j]? = some false → (gflds ad r f bs i)[j]? = some (Value.ref (ad (r (i + j)))) := by
  intro bs
  induction bs with
  | nil => intro i j h; simp at h
  | cons b bs ih =>
    intro i j h
    cases j with
    | zero =>
      simp at h
      subst h
      simp [gflds]
    | succ j =>
      have := ih (i + 1) j (by simpa using h)
      simp [gflds, this]
      congr 2
      omega
theorem gflds_len {ad r : Nat → Nat} {f : Nat → Int32} : ∀ (bs : List Bool) (i : Nat), (gflds ad r f bs i).length = bs.length := by
  intro bs
  induction bs with
  | nil => intro i; rfl
  | cons b bs ih => intro i; simp [gflds, ih (i + 1)]
theorem gflds_congr {ad r : Nat → Nat} {f f' : Nat → Int32} : ∀ (bs : List Bool) (i : Nat), (∀ k, i ≤ k → f k = f' k) → gflds ad r f bs i = gflds ad r f' bs i := by
  intro bs
  induction bs with
  | nil => intro i _; rfl
  | cons b bs ih =>
    intro i h
    simp only [gflds]
    rw [ih (i + 1) (fun k hk => h k (by omega)), h i (Nat.le_refl i)]
theorem gflds_set {ad r : Nat → Nat} {f : Nat → Int32} {v : Int32} : ∀ (bs : List Bool) (i j : Nat), bs[j]? = some true → (gflds ad r f bs i).set j (Value.int v) = gflds ad r (upd f (i + j) v) bs i := by
  intro bs
  induction bs with
  | nil => intro i j h; simp at h
  | cons b bs ih =>
    intro i j h
    cases j with
    | zero =>
      simp at h
      subst h
      simp only [gflds, List.set_cons_zero, if_true]
      rw [gflds_congr (f := f) (f' := upd f (i + 0) v) bs (i + 1) (fun k hk => by simp only [upd]; rw [if_neg (by omega)])]
      simp [upd]
    | succ j =>
      have := ih (i + 1) j (by simpa using h)
      simp only [gflds, List.set_cons_succ]
      rw [this]
      have e1 : i + 1 + j = i + (j + 1) := by omega
      rw [e1]
      have e2 : upd f (i + (j + 1)) v i = f i := by simp only [upd]; rw [if_neg (by omega)]
      rw [e2]
def gtys (cs : ClassId × ClassId × ClassId) : List (ClassId × FieldType) := [(cs.1, .int), (cs.2.1, .boolean), (cs.2.2, .array .int)]
def gInj (ad : Nat → Nat) : Prop := ∀ i j, i < gN → j < gN → ad i = ad j → i = j
def gNst (s : State) : Prop := (∀ q ∈ nstF, va_Nw (.fieldLinkNest q.1 q.2.1 q.2.2.1 q.2.2.2.1 q.2.2.2.2.1 q.2.2.2.2.2) s) ∧ ∀ q ∈ nstM, va_Nw (.methodLinkNest q.1 q.2.1 q.2.2.1 q.2.2.2) s
theorem gNst.warm {s U : State} (hW : s.WarmedH U.vm) (h : gNst s) : gNst U := ⟨fun q hq => va_Nw.warmF hW (h.1 q hq), fun q hq => va_Nw.warmM hW (h.2 q hq)⟩
theorem gNst.same {s U : State} (hv : s.vm = U.vm) (h : gNst s) : gNst U := ⟨fun q hq => va_Nw.same rfl hv (h.1 q hq), fun q hq => va_Nw.same rfl hv (h.2 q hq)⟩
theorem gwl_D {ad : Nat → Nat} {cs : ClassId × ClassId × ClassId} {M : gM} {A : Nat → Prop} (h : gInj ad) (hA : ∀ k, k < gN → A (ad k)) : va_D A (gwl ad cs M) := by
  have key : ∀ (k : Nat) (q : Nat × va_E), (gwl ad cs M)[k]? = some q → k < gN ∧ q.1 = ad k := by
    intro k q hq
    by_cases hn : k < gN
    · rw [gwl_get hn] at hq
      cases hq
      exact ⟨hn, rfl⟩
    · rw [List.getElem?_eq_none (by simp [gwl]; omega)] at hq
      cases hq
  refine ⟨fun i j p q hp hq e => ?_, fun k q hq => ?_⟩
  · obtain ⟨h1, e1⟩ := key i p hp
    obtain ⟨h2, e2⟩ := key j q hq
    exact h i j h1 h2 (by rw [← e1, ← e2, e])
  · obtain ⟨h1, e1⟩ := key k q hq
    rw [e1]
    exact hA k h1
/-- what is held of the JDK's own: the six words of the texts (by their places), two statics -/
def gJ (K V : Nat → Nat) (A : Nat → Prop) (U : State) (H : Heap) : Prop := vk_S 6 gLen gByt K V A U H ∧ (∀ i, i < 6 → vk_R RX3 (gSix.getD i 0) (gStx.getD i "") (K i) U) ∧ va_Z "java/lang/String" "COMPACT_STRINGS" "Z" (.int 1) A U H ∧ va_Zq "jdk/internal/util/Preconditions" "SIOOBE_FORMATTER" "Ljava/util/function/BiFunction;" A U H
theorem gJ.warm {K V : Nat → Nat} {A B : Nat → Prop} {s U : State} {H : Heap} (hW : s.WarmedH U.vm) (hq : ∀ a : Nat, a < s.heap.size → ¬ A a → H[a]? = s.heap[a]?) (hAB : ∀ q, B q → A q) (h : gJ K V A s s.heap) : gJ K V B U H :=
  ⟨((h.1.kept hq).narrow hAB).moved hW.alike, fun i hi => (h.2.1 i hi).warm hW, ((h.2.2.1.kept hq).narrow hAB).moved hW.alike, ((h.2.2.2.kept hq).narrow hAB).moved hW.alike⟩
theorem gJ.same {K V : Nat → Nat} {A : Nat → Prop} {s U : State} {H : Heap} (hv : U.vm = s.vm) (h : gJ K V A s H) : gJ K V A U H := by
  have ha : s.vm.Alike U.vm := by rw [hv]; exact Vm.Alike.refl _
  exact ⟨h.1.moved ha, fun i hi => (h.2.1 i hi).same hv, h.2.2.1.moved ha, h.2.2.2.moved ha⟩
/-- what is fixed while a method of class own, of code cc, is under way -/
def gC (X : gX) (cc : ByteArray) (own : String) (nL : Nat) (ret : Option FieldType) (fr lo : Nat) : Prop :=
  (xp X).tables.exec = Jvm.exec ∧ (xc X).code = cc ∧ (xc X).maxLocals = nL ∧ (xmeth X).sig.returnType = ret ∧ (xmeth X).locks = false ∧ (xs X).vm.findClass own = some (xm X).cls ∧ (∀ w ∈ ws0, w.before (xargs X) (xs X) = true) ∧ gNst (xs X) ∧ va_K (xD X) vwCl (gtys (xcs X)) (xs X) ∧ gInj (xad X) ∧ (∀ k, k < gN → xA X (xad X k)) ∧ (fr ≤ (xR X).frames ∧ lo ≤ (xR X).locals) ∧ (xce X ≤ (xR X).cells ∧ xsl X ≤ (xR X).slots) ∧ gJ (xK X) (xV X) (xA X) (xs X) (xs X).heap
section GC
variable {X : gX} {cc : ByteArray} {own : String} {nL : Nat} {ret : Option FieldType} {fr lo : Nat}
theorem gC.x (C : gC X cc own nL ret fr lo) : (xp X).tables.exec = Jvm.exec := C.1
theorem gC.b (C : gC X cc own nL ret fr lo) : (xc X).code = cc := C.2.1
theorem gC.ml (C : gC X cc own nL ret fr lo) : (xc X).maxLocals = nL := C.2.2.1
theorem gC.r (C : gC X cc own nL ret fr lo) : (xmeth X).sig.returnType = ret := C.2.2.2.1
theorem gC.lk (C : gC X cc own nL ret fr lo) : (xmeth X).locks = false := C.2.2.2.2.1
theorem gC.ow (C : gC X cc own nL ret fr lo) : (xs X).vm.findClass own = some (xm X).cls := C.2.2.2.2.2.1
theorem gC.ts (C : gC X cc own nL ret fr lo) : ∀ w ∈ ws0, w.before (xargs X) (xs X) = true := C.2.2.2.2.2.2.1
theorem gC.nst (C : gC X cc own nL ret fr lo) : gNst (xs X) := C.2.2.2.2.2.2.2.1
theorem gC.K (C : gC X cc own nL ret fr lo) : va_K (xD X) vwCl (gtys (xcs X)) (xs X) := C.2.2.2.2.2.2.2.2.1
theorem gC.inj (C : gC X cc own nL ret fr lo) : gInj (xad X) := C.2.2.2.2.2.2.2.2.2.1
theorem gC.A (C : gC X cc own nL ret fr lo) : ∀ k, k < gN → xA X (xad X k) := C.2.2.2.2.2.2.2.2.2.2.1
theorem gC.frm (C : gC X cc own nL ret fr lo) : fr ≤ (xR X).frames := C.2.2.2.2.2.2.2.2.2.2.2.1.1
theorem gC.loc (C : gC X cc own nL ret fr lo) : lo ≤ (xR X).locals := C.2.2.2.2.2.2.2.2.2.2.2.1.2
theorem gC.ce (C : gC X cc own nL ret fr lo) : xce X ≤ (xR X).cells := C.2.2.2.2.2.2.2.2.2.2.2.2.1.1
theorem gC.sl (C : gC X cc own nL ret fr lo) : xsl X ≤ (xR X).slots := C.2.2.2.2.2.2.2.2.2.2.2.2.1.2
theorem gC.J (C : gC X cc own nL ret fr lo) : gJ (xK X) (xV X) (xA X) (xs X) (xs X).heap := C.2.2.2.2.2.2.2.2.2.2.2.2.2
end GC
abbrev gW (X : gX) (H : Heap) (locs : List Loc) (Q : State → Prop) (g : JFrame) : Prop := W (xp X) (xl X) (xe X) (xR X) (xs X) (xm X) (xargs X) (xbelow X) (xmeth X) (xc X) H locs (xce X) (xsl X) Q g
/-- from pc, with these locals and this stack, over the memory M, the machine does what o tells: if o is some r, it comes to a state of Q r -/
def G {ρ : Type} (X : gX) (Q : ρ → State → Prop) (nL : Nat) (M : gM) (lv : List (Nat × Value)) (stk : List Value) (pc : Nat) (o : Option ρ) : Prop :=
  ∀ r, o = some r → ∀ (H : Heap) (locs : List Loc) (ls : Array Slot), va_P (xD X) vwCl (gwl (xad X) (xcs X) M) H → va_S (xA X) (xs X).heap H locs → lv_has ls nL lv → gW X H locs (Q r) (F0 (xm X) pc ls stk)
/-- a test that the machine makes: where it fails nothing is said -/
def ck {ρ : Type} (b : Bool) (o : Option ρ) : Option ρ := if b = true then o else none
def lt_ {α β : Type} (e : α) (f : α → β) : β := f e
/-- i is a place of an array of n -/
def ib (i : Int32) (n : Nat) : Bool := decide (0 ≤ i.toInt ∧ i.toInt < (n : Int))
theorem ib_in {i : Int32} {n : Nat} (h : ib i n = true) : vp_in i n := vp_in_iff.mpr (of_decide_eq_true h)
/-- a boolean's number -/
def gb (v : Int32) : Bool := decide (v = 0 ∨ v = 1)
theorem gb_nar {v : Int32} (h : gb v = true) : narrow .boolean (.int v) = .int v := by
  rcases of_decide_eq_true h with rfl | rfl <;> decide
section GR
variable {ρ : Type} {X : gX} {Q : ρ → State → Prop} {nL : Nat} {M : gM} {lv lv' : List (Nat × Value)} {stk : List Value} {pc : Nat} {o A B : Option ρ} {cc : ByteArray} {own : String} {ret : Option FieldType} {fr lo : Nat}
theorem g_iconst (C : gC X cc own nL ret fr lo) {n : Int} {v : Int32} (hd : decode cc pc = .ok (.iconst n, 1)) (hv : Int32.ofInt n = v) (k : G X Q nL M lv (.int v :: stk) (pc + 1) o) : G X Q nL M lv stk pc o :=
  fun r hr H locs ls hP hS hl => lv_iconst C.x C.b hd hv (k r hr H locs ls hP hS hl)
theorem g_bipush (C : gC X cc own nL ret fr lo) {n : Int} {v : Int32} (hd : decode cc pc = .ok (.bipush n, 2)) (hv : (Int8.ofInt n).toInt32 = v) (k : G X Q nL M lv (.int v :: stk) (pc + 2) o) : G X Q nL M lv stk pc o :=
  fun r hr H locs ls hP hS hl => lv_bipush C.x C.b hd hv (k r hr H locs ls hP hS hl)
theorem g_sipush (C : gC X cc own nL ret fr lo) {n : Int} {v : Int32} (hd : decode cc pc = .ok (.sipush n, 3)) (hv : (Int16.ofInt n).toInt32 = v) (k : G X Q nL M lv (.int v :: stk) (pc + 3) o) : G X Q nL M lv stk pc o :=
  fun r hr H locs ls hP hS hl => lv_sipush C.x C.b hd hv (k r hr H locs ls hP hS hl)
theorem g_lconst (C : gC X cc own nL ret fr lo) {n : Fin 2} {v : Int64} (hd : decode cc pc = .ok (.lconst n, 1)) (hv : Int64.ofNat (n : Nat) = v) (k : G X Q nL M lv (.long v :: stk) (pc + 1) o) : G X Q nL M lv stk pc o :=
  fun r hr H locs ls hP hS hl => lv_lconst C.x C.b hd hv (k r hr H locs ls hP hS hl)
theorem g_ldc (C : gC X cc own nL ret fr lo) {ix : Nat} {v : Int32} (hw : Cond.constant own ix v ∈ ws0) (hd : decode cc pc = .ok (.ldc ix, 2)) (k : G X Q nL M lv (.int v :: stk) (pc + 2) o) : G X Q nL M lv stk pc o :=
  fun r hr H locs ls hP hS hl => lv_ldc C.x C.b C.ow (C.ts _ hw) hd (k r hr H locs ls hP hS hl)
theorem g_ldcw (C : gC X cc own nL ret fr lo) {ix : Nat} {v : Int32} (hw : Cond.constant own ix v ∈ ws0) (hd : decode cc pc = .ok (.ldc_w ix, 3)) (k : G X Q nL M lv (.int v :: stk) (pc + 3) o) : G X Q nL M lv stk pc o :=
  fun r hr H locs ls hP hS hl => lv_ldcw C.x C.b C.ow (C.ts _ hw) hd (k r hr H locs ls hP hS hl)
theorem g_ldc2 (C : gC X cc own nL ret fr lo) {ix : Nat} {v : Int64} (hw : Cond.constantLong own ix v ∈ ws0) (hd : decode cc pc = .ok (.ldc2_w ix, 3)) (k : G X Q nL M lv (.long v :: stk) (pc + 3) o) : G X Q nL M lv stk pc o :=
  fun r hr H locs ls hP hS hl => lv_ldc2 C.x C.b C.ow (C.ts _ hw) hd (k r hr H locs ls hP hS hl)
theorem g_iload_n (C : gC X cc own nL ret fr lo) {k : Fin 4} {i : Nat} {x : Int32} (hd : decode cc pc = .ok (.iload_n k, 1)) (hi : (k : Nat) = i) (j : Nat) (hj : lv[j]? = some (i, .int x)) (k : G X Q nL M lv (.int x :: stk) (pc + 1) o) : G X Q nL M lv stk pc o :=
  fun r hr H locs ls hP hS hl => lv_iload_n C.x C.b hd hi (lv_at hl j hj) (k r hr H locs ls hP hS hl)
theorem g_iload (C : gC X cc own nL ret fr lo) {i : Nat} {x : Int32} (hd : decode cc pc = .ok (.iload i, 2)) (j : Nat) (hj : lv[j]? = some (i, .int x)) (k : G X Q nL M lv (.int x :: stk) (pc + 2) o) : G X Q nL M lv stk pc o :=
  fun r hr H locs ls hP hS hl => lv_iload C.x C.b hd (lv_at hl j hj) (k r hr H locs ls hP hS hl)
theorem g_lload_n (C : gC X cc own nL ret fr lo) {k : Fin 4} {i : Nat} {x : Int64} (hd : decode cc pc = .ok (.lload_n k, 1)) (hi : (k : Nat) = i) (j : Nat) (hj : lv[j]? = some (i, .long x)) (k : G X Q nL M lv (.long x :: stk) (pc + 1) o) : G X Q nL M lv stk pc o :=
  fun r hr H locs ls hP hS hl => lv_lload_n C.x C.b hd hi (lv_at hl j hj) (k r hr H locs ls hP hS hl)
theorem g_lload (C : gC X cc own nL ret fr lo) {i : Nat} {x : Int64} (hd : decode cc pc = .ok (.lload i, 2)) (j : Nat) (hj : lv[j]? = some (i, .long x)) (k : G X Q nL M lv (.long x :: stk) (pc + 2) o) : G X Q nL M lv stk pc o :=
  fun r hr H locs ls hP hS hl => lv_lload C.x C.b hd (lv_at hl j hj) (k r hr H locs ls hP hS hl)
theorem g_aload_n (C : gC X cc own nL ret fr lo) {k : Fin 4} {i x : Nat} (hd : decode cc pc = .ok (.aload_n k, 1)) (hi : (k : Nat) = i) (j : Nat) (hj : lv[j]? = some (i, .ref x)) (k : G X Q nL M lv (.ref x :: stk) (pc + 1) o) : G X Q nL M lv stk pc o :=
  fun r hr H locs ls hP hS hl => lv_aload_n C.x C.b hd hi (lv_at hl j hj) (k r hr H locs ls hP hS hl)
theorem g_aload (C : gC X cc own nL ret fr lo) {i x : Nat} (hd : decode cc pc = .ok (.aload i, 2)) (j : Nat) (hj : lv[j]? = some (i, .ref x)) (k : G X Q nL M lv (.ref x :: stk) (pc + 2) o) : G X Q nL M lv stk pc o :=
  fun r hr H locs ls hP hS hl => lv_aload C.x C.b hd (lv_at hl j hj) (k r hr H locs ls hP hS hl)
theorem g_istore_n (C : gC X cc own nL ret fr lo) {k : Fin 4} {i : Nat} {x : Int32} (hd : decode cc pc = .ok (.istore_n k, 1)) (hi : (k : Nat) = i) (hn : i < nL) (hl : (i, Value.int x) :: lv.filter (fun q => !(q.1 == i) && !(q.1 + 1 == i && q.2.category == 2)) = lv') (k : G X Q nL M lv' stk (pc + 1) o) : G X Q nL M lv (.int x :: stk) pc o :=
  fun r hr H locs _ hP hS hls => lv_istore_n C.x C.b hd hi hls hn hl (fun ls' hl' => k r hr H locs ls' hP hS hl')
theorem g_istore (C : gC X cc own nL ret fr lo) {i : Nat} {x : Int32} (hd : decode cc pc = .ok (.istore i, 2)) (hn : i < nL) (hl : (i, Value.int x) :: lv.filter (fun q => !(q.1 == i) && !(q.1 + 1 == i && q.2.category == 2)) = lv') (k : G X Q nL M lv' stk (pc + 2) o) : G X Q nL M lv (.int x :: stk) pc o :=
  fun r hr H locs _ hP hS hls => lv_istore C.x C.b hd hls hn hl (fun ls' hl' => k r hr H locs ls' hP hS hl')
theorem g_astore_n (C : gC X cc own nL ret fr lo) {k : Fin 4} {i x : Nat} (hd : decode cc pc = .ok (.astore_n k, 1)) (hi : (k : Nat) = i) (hn : i < nL) (hl : (i, Value.ref x) :: lv.filter (fun q => !(q.1 == i) && !(q.1 + 1 == i && q.2.category == 2)) = lv') (k : G X Q nL M lv' stk (pc + 1) o) : G X Q nL M lv (.ref x :: stk) pc o :=
  fun r hr H locs _ hP hS hls => lv_astore_n C.x C.b hd hi hls hn hl (fun ls' hl' => k r hr H locs ls' hP hS hl')
theorem g_astore (C : gC X cc own nL ret fr lo) {i x : Nat} (hd : decode cc pc = .ok (.astore i, 2)) (hn : i < nL) (hl : (i, Value.ref x) :: lv.filter (fun q => !(q.1 == i) && !(q.1 + 1 == i && q.2.category == 2)) = lv') (k : G X Q nL M lv' stk (pc + 2) o) : G X Q nL M lv (.ref x :: stk) pc o :=
  fun r hr H locs _ hP hS hls => lv_astore C.x C.b hd hls hn hl (fun ls' hl' => k r hr H locs ls' hP hS hl')
theorem g_iinc (C : gC X cc own nL ret fr lo) {i j : Nat} {n : Int} {x v : Int32} (hd : decode cc pc = .ok (.iinc i n, 3)) (hj : lv[j]? = some (i, .int x)) (hv : x + Int32.ofInt n = v) (hn : i < nL) (hl : (i, Value.int v) :: lv.filter (fun q => !(q.1 == i) && !(q.1 + 1 == i && q.2.category == 2)) = lv') (k : G X Q nL M lv' stk (pc + 3) o) : G X Q nL M lv stk pc o :=
  fun r hr H locs _ hP hS hls => lv_iinc C.x C.b hd hls hj hv hn hl (fun ls' hl' => k r hr H locs ls' hP hS hl')
theorem g_sub (ks : List Nat) (hl : lv_pick lv ks = lv') (k : G X Q nL M lv' stk pc o) : G X Q nL M lv stk pc o :=
  fun r hr H locs ls hP hS hls => k r hr H locs ls hP hS (lv_sub hls ks hl)
theorem g_iadd (C : gC X cc own nL ret fr lo) {x y : Int32} (hd : decode cc pc = .ok (.iadd, 1)) (k : G X Q nL M lv (.int (x + y) :: stk) (pc + 1) o) : G X Q nL M lv (.int y :: .int x :: stk) pc o :=
  fun r hr H locs ls hP hS hl => lv_iadd C.x C.b hd (k r hr H locs ls hP hS hl)
theorem g_isub (C : gC X cc own nL ret fr lo) {x y : Int32} (hd : decode cc pc = .ok (.isub, 1)) (k : G X Q nL M lv (.int (x - y) :: stk) (pc + 1) o) : G X Q nL M lv (.int y :: .int x :: stk) pc o :=
  fun r hr H locs ls hP hS hl => lv_isub C.x C.b hd (k r hr H locs ls hP hS hl)
theorem g_imul (C : gC X cc own nL ret fr lo) {x y : Int32} (hd : decode cc pc = .ok (.imul, 1)) (k : G X Q nL M lv (.int (x * y) :: stk) (pc + 1) o) : G X Q nL M lv (.int y :: .int x :: stk) pc o :=
  fun r hr H locs ls hP hS hl => lv_imul C.x C.b hd (k r hr H locs ls hP hS hl)
theorem g_iand (C : gC X cc own nL ret fr lo) {x y : Int32} (hd : decode cc pc = .ok (.iand, 1)) (k : G X Q nL M lv (.int (x &&& y) :: stk) (pc + 1) o) : G X Q nL M lv (.int y :: .int x :: stk) pc o :=
  fun r hr H locs ls hP hS hl => lv_iand C.x C.b hd (k r hr H locs ls hP hS hl)
theorem g_ior (C : gC X cc own nL ret fr lo) {x y : Int32} (hd : decode cc pc = .ok (.ior, 1)) (k : G X Q nL M lv (.int (x ||| y) :: stk) (pc + 1) o) : G X Q nL M lv (.int y :: .int x :: stk) pc o :=
  fun r hr H locs ls hP hS hl => lv_ior C.x C.b hd (k r hr H locs ls hP hS hl)
theorem g_ixor (C : gC X cc own nL ret fr lo) {x y : Int32} (hd : decode cc pc = .ok (.ixor, 1)) (k : G X Q nL M lv (.int (x ^^^ y) :: stk) (pc + 1) o) : G X Q nL M lv (.int y :: .int x :: stk) pc o :=
  fun r hr H locs ls hP hS hl => lv_ixor C.x C.b hd (k r hr H locs ls hP hS hl)
theorem g_idiv (C : gC X cc own nL ret fr lo) {x y : Int32} (hd : decode cc pc = .ok (.idiv, 1)) (k : G X Q nL M lv (.int (x / y) :: stk) (pc + 1) o) : G X Q nL M lv (.int y :: .int x :: stk) pc (ck (decide (¬ y = 0)) o) := by
  intro r hr H locs ls hP hS hl
  by_cases hy : y = 0
  · simp [ck, hy] at hr
  · have hr : o = some r := by simpa [ck, hy] using hr
    exact lv_idiv C.x C.b hd hy (k r hr H locs ls hP hS hl)
theorem g_irem (C : gC X cc own nL ret fr lo) {x y : Int32} (hd : decode cc pc = .ok (.irem, 1)) (k : G X Q nL M lv (.int (x - x / y * y) :: stk) (pc + 1) o) : G X Q nL M lv (.int y :: .int x :: stk) pc (ck (decide (¬ y = 0)) o) := by
  intro r hr H locs ls hP hS hl
  by_cases hy : y = 0
  · simp [ck, hy] at hr
  · have hr : o = some r := by simpa [ck, hy] using hr
    exact lv_irem C.x C.b hd hy (k r hr H locs ls hP hS hl)
theorem g_idivk (C : gC X cc own nL ret fr lo) {x y : Int32} (hd : decode cc pc = .ok (.idiv, 1)) (hy : ¬ y = 0) (k : G X Q nL M lv (.int (x / y) :: stk) (pc + 1) o) : G X Q nL M lv (.int y :: .int x :: stk) pc o :=
  fun r hr H locs ls hP hS hl => lv_idiv C.x C.b hd hy (k r hr H locs ls hP hS hl)
theorem g_iremk (C : gC X cc own nL ret fr lo) {x y : Int32} (hd : decode cc pc = .ok (.irem, 1)) (hy : ¬ y = 0) (k : G X Q nL M lv (.int (x - x / y * y) :: stk) (pc + 1) o) : G X Q nL M lv (.int y :: .int x :: stk) pc o :=
  fun r hr H locs ls hP hS hl => lv_irem C.x C.b hd hy (k r hr H locs ls hP hS hl)
theorem g_lremk (C : gC X cc own nL ret fr lo) {x y : Int64} (hd : decode cc pc = .ok (.lrem, 1)) (hy : ¬ y = 0) (k : G X Q nL M lv (.long (x - x / y * y) :: stk) (pc + 1) o) : G X Q nL M lv (.long y :: .long x :: stk) pc o :=
  fun r hr H locs ls hP hS hl => lv_lrem C.x C.b hd hy (k r hr H locs ls hP hS hl)
theorem g_ladd (C : gC X cc own nL ret fr lo) {x y : Int64} (hd : decode cc pc = .ok (.ladd, 1)) (k : G X Q nL M lv (.long (x + y) :: stk) (pc + 1) o) : G X Q nL M lv (.long y :: .long x :: stk) pc o :=
  fun r hr H locs ls hP hS hl => lv_ladd C.x C.b hd (k r hr H locs ls hP hS hl)
theorem g_lmul (C : gC X cc own nL ret fr lo) {x y : Int64} (hd : decode cc pc = .ok (.lmul, 1)) (k : G X Q nL M lv (.long (x * y) :: stk) (pc + 1) o) : G X Q nL M lv (.long y :: .long x :: stk) pc o :=
  fun r hr H locs ls hP hS hl => lv_lmul C.x C.b hd (k r hr H locs ls hP hS hl)
theorem g_land (C : gC X cc own nL ret fr lo) {x y : Int64} (hd : decode cc pc = .ok (.land, 1)) (k : G X Q nL M lv (.long (x &&& y) :: stk) (pc + 1) o) : G X Q nL M lv (.long y :: .long x :: stk) pc o :=
  fun r hr H locs ls hP hS hl => lv_land C.x C.b hd (k r hr H locs ls hP hS hl)
theorem g_lor (C : gC X cc own nL ret fr lo) {x y : Int64} (hd : decode cc pc = .ok (.lor, 1)) (k : G X Q nL M lv (.long (x ||| y) :: stk) (pc + 1) o) : G X Q nL M lv (.long y :: .long x :: stk) pc o :=
  fun r hr H locs ls hP hS hl => lv_lor C.x C.b hd (k r hr H locs ls hP hS hl)
theorem g_ishl (C : gC X cc own nL ret fr lo) {x y : Int32} (hd : decode cc pc = .ok (.ishl, 1)) (k : G X Q nL M lv (.int (x <<< (y &&& 31)) :: stk) (pc + 1) o) : G X Q nL M lv (.int y :: .int x :: stk) pc o :=
  fun r hr H locs ls hP hS hl => lv_ishl C.x C.b hd (k r hr H locs ls hP hS hl)
theorem g_ishr (C : gC X cc own nL ret fr lo) {x y : Int32} (hd : decode cc pc = .ok (.ishr, 1)) (k : G X Q nL M lv (.int (x >>> (y &&& 31)) :: stk) (pc + 1) o) : G X Q nL M lv (.int y :: .int x :: stk) pc o :=
  fun r hr H locs ls hP hS hl => lv_ishr C.x C.b hd (k r hr H locs ls hP hS hl)
theorem g_iushr (C : gC X cc own nL ret fr lo) {x y : Int32} (hd : decode cc pc = .ok (.iushr, 1)) (k : G X Q nL M lv (.int ((x.toUInt32 >>> (y.toUInt32 &&& Int32.toUInt32 31)).toInt32) :: stk) (pc + 1) o) : G X Q nL M lv (.int y :: .int x :: stk) pc o :=
  fun r hr H locs ls hP hS hl => lv_iushr C.x C.b hd rfl (k r hr H locs ls hP hS hl)
theorem g_lushr (C : gC X cc own nL ret fr lo) {x : Int64} {y : Int32} (hd : decode cc pc = .ok (.lushr, 1)) (k : G X Q nL M lv (.long ((x.toUInt64 >>> (y.toInt64.toUInt64 &&& Int64.toUInt64 63)).toInt64) :: stk) (pc + 1) o) : G X Q nL M lv (.int y :: .long x :: stk) pc o :=
  fun r hr H locs ls hP hS hl => lv_lushr C.x C.b hd rfl (k r hr H locs ls hP hS hl)
theorem g_lshr (C : gC X cc own nL ret fr lo) {x : Int64} {y : Int32} (hd : decode cc pc = .ok (.lshr, 1)) (k : G X Q nL M lv (.long (x >>> (y.toInt64 &&& 63)) :: stk) (pc + 1) o) : G X Q nL M lv (.int y :: .long x :: stk) pc o :=
  fun r hr H locs ls hP hS hl => lv_lshr C.x C.b hd rfl (k r hr H locs ls hP hS hl)
theorem g_lshl (C : gC X cc own nL ret fr lo) {x : Int64} {y : Int32} (hd : decode cc pc = .ok (.lshl, 1)) (k : G X Q nL M lv (.long (x <<< (y.toInt64 &&& 63)) :: stk) (pc + 1) o) : G X Q nL M lv (.int y :: .long x :: stk) pc o :=
  fun r hr H locs ls hP hS hl => lv_lshl C.x C.b hd rfl (k r hr H locs ls hP hS hl)
theorem g_i2l (C : gC X cc own nL ret fr lo) {x : Int32} (hd : decode cc pc = .ok (.i2l, 1)) (k : G X Q nL M lv (.long x.toInt64 :: stk) (pc + 1) o) : G X Q nL M lv (.int x :: stk) pc o :=
  fun r hr H locs ls hP hS hl => lv_i2l C.x C.b hd rfl (k r hr H locs ls hP hS hl)
theorem g_l2i (C : gC X cc own nL ret fr lo) {x : Int64} (hd : decode cc pc = .ok (.l2i, 1)) (k : G X Q nL M lv (.int x.toInt32 :: stk) (pc + 1) o) : G X Q nL M lv (.long x :: stk) pc o :=
  fun r hr H locs ls hP hS hl => lv_l2i C.x C.b hd rfl (k r hr H locs ls hP hS hl)
theorem g_lcmp (C : gC X cc own nL ret fr lo) {x y : Int64} (hd : decode cc pc = .ok (.lcmp, 1)) (k : G X Q nL M lv (.int (lg_cmp x y) :: stk) (pc + 1) o) : G X Q nL M lv (.long y :: .long x :: stk) pc o :=
  fun r hr H locs ls hP hS hl => W.lcmp C.x C.b hd (k r hr H locs ls hP hS hl)
theorem g_dup (C : gC X cc own nL ret fr lo) {v : Value} (hd : decode cc pc = .ok (.dup, 1)) (hv : v.category = 1) (k : G X Q nL M lv (v :: v :: stk) (pc + 1) o) : G X Q nL M lv (v :: stk) pc o :=
  fun r hr H locs ls hP hS hl => lv_dup C.x C.b hd hv (k r hr H locs ls hP hS hl)
theorem g_dup2 (C : gC X cc own nL ret fr lo) {v w : Value} (hd : decode cc pc = .ok (.dup2, 1)) (hv : v.category = 1) (hw : w.category = 1) (k : G X Q nL M lv (v :: w :: v :: w :: stk) (pc + 1) o) : G X Q nL M lv (v :: w :: stk) pc o :=
  fun r hr H locs ls hP hS hl => lv_dup2_11 C.x C.b hd hv hw (k r hr H locs ls hP hS hl)
theorem g_pop (C : gC X cc own nL ret fr lo) {v : Value} (hd : decode cc pc = .ok (.pop, 1)) (hv : v.category = 1) (k : G X Q nL M lv stk (pc + 1) o) : G X Q nL M lv (v :: stk) pc o :=
  fun r hr H locs ls hP hS hl => lv_pop C.x C.b hd hv (k r hr H locs ls hP hS hl)
theorem g_goto (C : gC X cc own nL ret fr lo) {off : Int} {tgt : Nat} (hd : decode cc pc = .ok (.goto off, 3)) (ht : (pc : Int) + off = (tgt : Int)) (k : G X Q nL M lv stk tgt o) : G X Q nL M lv stk pc o :=
  fun r hr H locs ls hP hS hl => lv_goto C.x C.b hd ht (k r hr H locs ls hP hS hl)
theorem some_t {c : Prop} [Decidable c] {r : ρ} (h : (if c then A else B) = some r) (hc : c) : A = some r := by rw [if_pos hc] at h; exact h
theorem some_f {c : Prop} [Decidable c] {r : ρ} (h : (if c then A else B) = some r) (hc : ¬ c) : B = some r := by rw [if_neg hc] at h; exact h
theorem g_icmp_eq (C : gC X cc own nL ret fr lo) {x y : Int32} {off : Int} {tgt : Nat} (hd : decode cc pc = .ok (.if_icmp .eq off, 3)) (ht : (pc : Int) + off = (tgt : Int)) (kt : G X Q nL M lv stk tgt A) (kf : G X Q nL M lv stk (pc + 3) B) : G X Q nL M lv (.int y :: .int x :: stk) pc (if x = y then A else B) :=
  fun r hr H locs ls hP hS hl => lv_icmp_eq C.x C.b hd ht (fun h => kt r (some_t hr h) H locs ls hP hS hl) (fun h => kf r (some_f hr h) H locs ls hP hS hl)
theorem g_if_eq (C : gC X cc own nL ret fr lo) {x : Int32} {off : Int} {tgt : Nat} (hd : decode cc pc = .ok (.ifCond .eq off, 3)) (ht : (pc : Int) + off = (tgt : Int)) (kt : G X Q nL M lv stk tgt A) (kf : G X Q nL M lv stk (pc + 3) B) : G X Q nL M lv (.int x :: stk) pc (if x = 0 then A else B) :=
  fun r hr H locs ls hP hS hl => lv_if_eq C.x C.b hd ht (fun h => kt r (some_t hr h) H locs ls hP hS hl) (fun h => kf r (some_f hr h) H locs ls hP hS hl)
theorem g_icmp_ne (C : gC X cc own nL ret fr lo) {x y : Int32} {off : Int} {tgt : Nat} (hd : decode cc pc = .ok (.if_icmp .ne off, 3)) (ht : (pc : Int) + off = (tgt : Int)) (kt : G X Q nL M lv stk tgt B) (kf : G X Q nL M lv stk (pc + 3) A) : G X Q nL M lv (.int y :: .int x :: stk) pc (if x = y then A else B) :=
  fun r hr H locs ls hP hS hl => lv_icmp_ne C.x C.b hd ht (fun h => kt r (some_f hr h) H locs ls hP hS hl) (fun h => kf r (some_t hr h) H locs ls hP hS hl)
theorem g_if_ne (C : gC X cc own nL ret fr lo) {x : Int32} {off : Int} {tgt : Nat} (hd : decode cc pc = .ok (.ifCond .ne off, 3)) (ht : (pc : Int) + off = (tgt : Int)) (kt : G X Q nL M lv stk tgt B) (kf : G X Q nL M lv stk (pc + 3) A) : G X Q nL M lv (.int x :: stk) pc (if x = 0 then A else B) :=
  fun r hr H locs ls hP hS hl => lv_if_ne C.x C.b hd ht (fun h => kt r (some_f hr h) H locs ls hP hS hl) (fun h => kf r (some_t hr h) H locs ls hP hS hl)
theorem g_icmp_lt (C : gC X cc own nL ret fr lo) {x y : Int32} {off : Int} {tgt : Nat} (hd : decode cc pc = .ok (.if_icmp .lt off, 3)) (ht : (pc : Int) + off = (tgt : Int)) (kt : G X Q nL M lv stk tgt A) (kf : G X Q nL M lv stk (pc + 3) B) : G X Q nL M lv (.int y :: .int x :: stk) pc (if x < y then A else B) :=
  fun r hr H locs ls hP hS hl => lv_icmp_lt C.x C.b hd ht (fun h => kt r (some_t hr h) H locs ls hP hS hl) (fun h => kf r (some_f hr h) H locs ls hP hS hl)
theorem g_if_lt (C : gC X cc own nL ret fr lo) {x : Int32} {off : Int} {tgt : Nat} (hd : decode cc pc = .ok (.ifCond .lt off, 3)) (ht : (pc : Int) + off = (tgt : Int)) (kt : G X Q nL M lv stk tgt A) (kf : G X Q nL M lv stk (pc + 3) B) : G X Q nL M lv (.int x :: stk) pc (if x < 0 then A else B) :=
  fun r hr H locs ls hP hS hl => lv_if_lt C.x C.b hd ht (fun h => kt r (some_t hr h) H locs ls hP hS hl) (fun h => kf r (some_f hr h) H locs ls hP hS hl)
theorem g_icmp_ge (C : gC X cc own nL ret fr lo) {x y : Int32} {off : Int} {tgt : Nat} (hd : decode cc pc = .ok (.if_icmp .ge off, 3)) (ht : (pc : Int) + off = (tgt : Int)) (kt : G X Q nL M lv stk tgt A) (kf : G X Q nL M lv stk (pc + 3) B) : G X Q nL M lv (.int y :: .int x :: stk) pc (if y ≤ x then A else B) :=
  fun r hr H locs ls hP hS hl => lv_icmp_ge C.x C.b hd ht (fun h => kt r (some_t hr h) H locs ls hP hS hl) (fun h => kf r (some_f hr h) H locs ls hP hS hl)
theorem g_if_ge (C : gC X cc own nL ret fr lo) {x : Int32} {off : Int} {tgt : Nat} (hd : decode cc pc = .ok (.ifCond .ge off, 3)) (ht : (pc : Int) + off = (tgt : Int)) (kt : G X Q nL M lv stk tgt A) (kf : G X Q nL M lv stk (pc + 3) B) : G X Q nL M lv (.int x :: stk) pc (if 0 ≤ x then A else B) :=
  fun r hr H locs ls hP hS hl => lv_if_ge C.x C.b hd ht (fun h => kt r (some_t hr h) H locs ls hP hS hl) (fun h => kf r (some_f hr h) H locs ls hP hS hl)
theorem g_icmp_gt (C : gC X cc own nL ret fr lo) {x y : Int32} {off : Int} {tgt : Nat} (hd : decode cc pc = .ok (.if_icmp .gt off, 3)) (ht : (pc : Int) + off = (tgt : Int)) (kt : G X Q nL M lv stk tgt A) (kf : G X Q nL M lv stk (pc + 3) B) : G X Q nL M lv (.int y :: .int x :: stk) pc (if y < x then A else B) :=
  fun r hr H locs ls hP hS hl => lv_icmp_gt C.x C.b hd ht (fun h => kt r (some_t hr h) H locs ls hP hS hl) (fun h => kf r (some_f hr h) H locs ls hP hS hl)
theorem g_if_gt (C : gC X cc own nL ret fr lo) {x : Int32} {off : Int} {tgt : Nat} (hd : decode cc pc = .ok (.ifCond .gt off, 3)) (ht : (pc : Int) + off = (tgt : Int)) (kt : G X Q nL M lv stk tgt A) (kf : G X Q nL M lv stk (pc + 3) B) : G X Q nL M lv (.int x :: stk) pc (if 0 < x then A else B) :=
  fun r hr H locs ls hP hS hl => lv_if_gt C.x C.b hd ht (fun h => kt r (some_t hr h) H locs ls hP hS hl) (fun h => kf r (some_f hr h) H locs ls hP hS hl)
theorem g_icmp_le (C : gC X cc own nL ret fr lo) {x y : Int32} {off : Int} {tgt : Nat} (hd : decode cc pc = .ok (.if_icmp .le off, 3)) (ht : (pc : Int) + off = (tgt : Int)) (kt : G X Q nL M lv stk tgt A) (kf : G X Q nL M lv stk (pc + 3) B) : G X Q nL M lv (.int y :: .int x :: stk) pc (if x ≤ y then A else B) :=
  fun r hr H locs ls hP hS hl => lv_icmp_le C.x C.b hd ht (fun h => kt r (some_t hr h) H locs ls hP hS hl) (fun h => kf r (some_f hr h) H locs ls hP hS hl)
theorem g_if_le (C : gC X cc own nL ret fr lo) {x : Int32} {off : Int} {tgt : Nat} (hd : decode cc pc = .ok (.ifCond .le off, 3)) (ht : (pc : Int) + off = (tgt : Int)) (kt : G X Q nL M lv stk tgt A) (kf : G X Q nL M lv stk (pc + 3) B) : G X Q nL M lv (.int x :: stk) pc (if x ≤ 0 then A else B) :=
  fun r hr H locs ls hP hS hl => lv_if_le C.x C.b hd ht (fun h => kt r (some_t hr h) H locs ls hP hS hl) (fun h => kf r (some_f hr h) H locs ls hP hS hl)
theorem gCl_ne {ci : Nat} {q : vw_C} (h : vwCl[ci]? = some q) : (gKo ci : gK) ≠ gKo 77 := by
  intro e
  have e1 : ci = 77 := Sum.inl.inj e
  subst e1
  have h2 : (none : Option vw_C) = some q := h
  cases h2
theorem gI_ne {n : Nat} : (gKi n : gK) ≠ gKo 77 := by intro e; cases e
theorem gZ_ne {n : Nat} : (gKz n : gK) ≠ gKo 77 := by intro e; cases e
theorem gR_ne {n : Nat} : (gKr n : gK) ≠ gKo 77 := by intro e; cases e
theorem gwl_at {ad : Nat → Nat} {cs : ClassId × ClassId × ClassId} {M : gM} {k : Nat} {K : gK} (h : kd k = K) (hK : K ≠ gKo 77) : (gwl ad cs M)[k]? = some (ad k, gcell ad cs K (rf k) (M k)) := by
  rw [gwl_get (gkd_lt h hK), h]
theorem g_getI (C : gC X cc own nL ret fr lo) {Cn : String} {T : u_T} {N ci ix i t : Nat} (hk : kd t = gKo ci) (hin : ∀ w ∈ u_ws Cn T N, w ∈ ws0) (hc : vwCl[ci]? = some (Cn, T, N)) (hi : i < N) (hb : (gfsh ci)[i]? = some true) (hw : Cond.fieldLink own ix (T i).1 (T i).2.1 (T i).2.2.1 ∈ ws0) (hd : decode cc pc = .ok (.getfield ix, 3)) (k : G X Q nL M lv (.int (M t i) :: stk) (pc + 3) o) : G X Q nL M lv (.ref (xad X t) :: stk) pc o := by
  intro r hr H locs ls hP hS hl
  have he := gwl_at (ad := xad X) (cs := xcs X) (M := M) hk (gCl_ne hc)
  have hv : (gflds (xad X) (rf t) (M t) (gfsh ci) 0)[i]? = some (Value.int (M t i)) := by rw [gflds_int _ 0 i hb, Nat.zero_add]
  exact va_get C.x C.b C.ts hin C.ow C.K hP t he hc i hi (C.ts _ hw) (fun _ h => h) hv hd (k r hr H locs ls hP hS hl)
theorem g_getR (C : gC X cc own nL ret fr lo) {Cn : String} {T : u_T} {N ci ix i t u : Nat} (hk : kd t = gKo ci) (hin : ∀ w ∈ u_ws Cn T N, w ∈ ws0) (hc : vwCl[ci]? = some (Cn, T, N)) (hi : i < N) (hb : (gfsh ci)[i]? = some false) (hw : Cond.fieldLink own ix (T i).1 (T i).2.1 (T i).2.2.1 ∈ ws0) (hu : rf t i = u) (hd : decode cc pc = .ok (.getfield ix, 3)) (k : G X Q nL M lv (.ref (xad X u) :: stk) (pc + 3) o) : G X Q nL M lv (.ref (xad X t) :: stk) pc o := by
  intro r hr H locs ls hP hS hl
  have he := gwl_at (ad := xad X) (cs := xcs X) (M := M) hk (gCl_ne hc)
  have hv : (gflds (xad X) (rf t) (M t) (gfsh ci) 0)[i]? = some (Value.ref (xad X u)) := by rw [gflds_ref _ 0 i hb, Nat.zero_add, hu]
  exact va_get C.x C.b C.ts hin C.ow C.K hP t he hc i hi (C.ts _ hw) (fun _ h => h) hv hd (k r hr H locs ls hP hS hl)
theorem g_getNI (C : gC X cc own nL ret fr lo) {Cn host : String} {T : u_T} {N ci ix i t : Nat} (hk : kd t = gKo ci) (hin : ∀ w ∈ u_ws Cn T N, w ∈ ws0) (hc : vwCl[ci]? = some (Cn, T, N)) (hi : i < N) (hb : (gfsh ci)[i]? = some true) (hw : (own, ix, (T i).1, (T i).2.1, (T i).2.2.1, host) ∈ nstF) (hd : decode cc pc = .ok (.getfield ix, 3)) (k : G X Q nL M lv (.int (M t i) :: stk) (pc + 3) o) : G X Q nL M lv (.ref (xad X t) :: stk) pc o := by
  intro r hr H locs ls hP hS hl
  have he := gwl_at (ad := xad X) (cs := xcs X) (M := M) hk (gCl_ne hc)
  have hv : (gflds (xad X) (rf t) (M t) (gfsh ci) 0)[i]? = some (Value.int (M t i)) := by rw [gflds_int _ 0 i hb, Nat.zero_add]
  exact va_getN C.x C.b C.ts hin C.ow C.K hP t he hc i hi (va_Nw.use rfl (C.nst.1 _ hw)) (fun _ h => h) hv hd (k r hr H locs ls hP hS hl)
theorem g_getNR (C : gC X cc own nL ret fr lo) {Cn host : String} {T : u_T} {N ci ix i t u : Nat} (hk : kd t = gKo ci) (hin : ∀ w ∈ u_ws Cn T N, w ∈ ws0) (hc : vwCl[ci]? = some (Cn, T, N)) (hi : i < N) (hb : (gfsh ci)[i]? = some false) (hw : (own, ix, (T i).1, (T i).2.1, (T i).2.2.1, host) ∈ nstF) (hu : rf t i = u) (hd : decode cc pc = .ok (.getfield ix, 3)) (k : G X Q nL M lv (.ref (xad X u) :: stk) (pc + 3) o) : G X Q nL M lv (.ref (xad X t) :: stk) pc o := by
  intro r hr H locs ls hP hS hl
  have he := gwl_at (ad := xad X) (cs := xcs X) (M := M) hk (gCl_ne hc)
  have hv : (gflds (xad X) (rf t) (M t) (gfsh ci) 0)[i]? = some (Value.ref (xad X u)) := by rw [gflds_ref _ 0 i hb, Nat.zero_add, hu]
  exact va_getN C.x C.b C.ts hin C.ow C.K hP t he hc i hi (va_Nw.use rfl (C.nst.1 _ hw)) (fun _ h => h) hv hd (k r hr H locs ls hP hS hl)
theorem gwl_putI {ad : Nat → Nat} {cs : ClassId × ClassId × ClassId} {t ci i : Nat} {x : Int32} (hk : kd t = gKo ci) (hb : (gfsh ci)[i]? = some true) : (gwl ad cs M).set t (ad t, .inr (ci, (gflds ad (rf t) (M t) (gfsh ci) 0).set i (Value.int x))) = gwl ad cs (gst M t i x) := by
  refine gwl_set ?_ (fun j hj => gst_ne M t i x hj)
  rw [hk, gst_at]
  show _ = (Sum.inr (ci, gflds ad (rf t) (upd (M t) i x) (gfsh ci) 0) : va_E)
  rw [gflds_set _ 0 i hb, Nat.zero_add]
theorem g_putI (C : gC X cc own nL ret fr lo) {Cn : String} {T : u_T} {N ci ix i t : Nat} {x : Int32} (ty : Nat → FieldType) (hty : ∀ k, k < N → parseFieldDescriptor (T k).2.2.1 = some (ty k)) (hnm : ∀ a, a < N → ∀ b, b < N → a ≠ b → (T a).2.1 ≠ (T b).2.1) (hk : kd t = gKo ci) (hin : ∀ w ∈ u_ws Cn T N, w ∈ ws0) (hc : vwCl[ci]? = some (Cn, T, N)) (hi : i < N) (hb : (gfsh ci)[i]? = some true) (hw : Cond.fieldLink own ix (T i).1 (T i).2.1 (T i).2.2.1 ∈ ws0) (hfin : (T i).2.2.2 = false) (hpd : parseFieldDescriptor (T i).2.2.1 = some .int) (hd : decode cc pc = .ok (.putfield ix, 3)) (k : G X Q nL (gst M t i x) lv stk (pc + 3) o) : G X Q nL M lv (.int x :: .ref (xad X t) :: stk) pc o := by
  intro r hr H locs ls hP hS hl
  have he := gwl_at (ad := xad X) (cs := xcs X) (M := M) hk (gCl_ne hc)
  have hlt : i < (gfsh ci).length := (List.getElem?_eq_some_iff.mp hb).1
  refine va_put C.x C.b C.ts hin ty hty hnm C.ow C.K hP (gwl_D C.inj C.A) hS t he hc i hi (C.ts _ hw) (fun _ h => h) hfin hpd rfl rfl (by rw [gflds_len]; exact hlt) hd (fun H1 locs1 hP1 _ hS1 => ?_)
  rw [gwl_putI hk hb] at hP1
  exact k r hr H1 locs1 ls hP1 hS1 hl
theorem g_putNI (C : gC X cc own nL ret fr lo) {Cn host : String} {T : u_T} {N ci ix i t : Nat} {x : Int32} (ty : Nat → FieldType) (hty : ∀ k, k < N → parseFieldDescriptor (T k).2.2.1 = some (ty k)) (hnm : ∀ a, a < N → ∀ b, b < N → a ≠ b → (T a).2.1 ≠ (T b).2.1) (hk : kd t = gKo ci) (hin : ∀ w ∈ u_ws Cn T N, w ∈ ws0) (hc : vwCl[ci]? = some (Cn, T, N)) (hi : i < N) (hb : (gfsh ci)[i]? = some true) (hw : (own, ix, (T i).1, (T i).2.1, (T i).2.2.1, host) ∈ nstF) (hfin : (T i).2.2.2 = false) (hpd : parseFieldDescriptor (T i).2.2.1 = some .int) (hd : decode cc pc = .ok (.putfield ix, 3)) (k : G X Q nL (gst M t i x) lv stk (pc + 3) o) : G X Q nL M lv (.int x :: .ref (xad X t) :: stk) pc o := by
  intro r hr H locs ls hP hS hl
  have he := gwl_at (ad := xad X) (cs := xcs X) (M := M) hk (gCl_ne hc)
  have hlt : i < (gfsh ci).length := (List.getElem?_eq_some_iff.mp hb).1
  refine va_putN C.x C.b C.ts hin ty hty hnm C.ow C.K hP (gwl_D C.inj C.A) hS t he hc i hi (va_Nw.use rfl (C.nst.1 _ hw)) (fun _ h => h) hfin hpd rfl rfl (by rw [gflds_len]; exact hlt) hd (fun H1 locs1 hP1 _ hS1 => ?_)
  rw [gwl_putI hk hb] at hP1
  exact k r hr H1 locs1 ls hP1 hS1 hl
theorem ck_some {b : Bool} {r : ρ} (h : ck b o = some r) : b = true ∧ o = some r := by
  unfold ck at h
  by_cases hb : b = true
  · rw [if_pos hb] at h
    exact ⟨hb, h⟩
  · rw [if_neg hb] at h
    cases h
theorem g_iald (C : gC X cc own nL ret fr lo) {a n : Nat} {j : Int32} (hk : kd a = gKi n) (hd : decode cc pc = .ok (.iaload, 1)) (k : G X Q nL M lv (.int (M a j.toNatClampNeg) :: stk) (pc + 1) o) : G X Q nL M lv (.int j :: .ref (xad X a) :: stk) pc (ck (ib j n) o) := by
  intro r hr H locs ls hP hS hl
  obtain ⟨h1, h2⟩ := ck_some hr
  exact va_iald C.x C.b C.K hP a 0 (gwl_at hk gI_ne) rfl (ib_in h1) hd (k r h2 H locs ls hP hS hl)
theorem g_zald (C : gC X cc own nL ret fr lo) {a n : Nat} {j : Int32} (hk : kd a = gKz n) (hd : decode cc pc = .ok (.baload, 1)) (k : G X Q nL M lv (.int (M a j.toNatClampNeg) :: stk) (pc + 1) o) : G X Q nL M lv (.int j :: .ref (xad X a) :: stk) pc (ck (ib j n) o) := by
  intro r hr H locs ls hP hS hl
  obtain ⟨h1, h2⟩ := ck_some hr
  exact va_zald C.x C.b C.K hP a 1 (gwl_at hk gZ_ne) rfl (ib_in h1) hd (k r h2 H locs ls hP hS hl)
theorem g_aald (C : gC X cc own nL ret fr lo) {a n : Nat} {j : Int32} (hk : kd a = gKr n) (hd : decode cc pc = .ok (.aaload, 1)) (k : G X Q nL M lv (.ref (xad X (rf a j.toNatClampNeg)) :: stk) (pc + 1) o) : G X Q nL M lv (.int j :: .ref (xad X a) :: stk) pc (ck (ib j n) o) := by
  intro r hr H locs ls hP hS hl
  obtain ⟨h1, h2⟩ := ck_some hr
  have hin := ib_in h1
  have hlt : j.toNatClampNeg < n := Nat.not_le.mp fun q => hin (Or.inr q)
  exact W.aald (v := Value.ref (xad X (rf a j.toNatClampNeg))) (ty := .array .int) C.x C.b (hP a _ (gwl_at hk gR_ne)) ((C.K.2 2 _ rfl).1 n (fun q => va_rf (some (xad X (rf a q))))) rfl (fun q => by cases q) (by show ¬ (j < 0 ∨ (arrV _ _ _).slots.size ≤ _); rw [arrV_size]; exact hin) (by show (arrV _ _ _).slots[_]? = _; rw [arrV_read _ _ hlt]; rfl) rfl rfl hd (k r h2 H locs ls hP hS hl)
theorem g_alen (C : gC X cc own nL ret fr lo) {a n : Nat} {v : Int32} (hk : kd a = gKi n) (hv : Int32.ofNat n = v) (hd : decode cc pc = .ok (.arraylength, 1)) (k : G X Q nL M lv (.int v :: stk) (pc + 1) o) : G X Q nL M lv (.ref (xad X a) :: stk) pc o :=
  fun r hr H locs ls hP hS hl => va_alen C.x C.b C.K hP a 0 (gwl_at hk gI_ne) rfl hv hd (k r hr H locs ls hP hS hl)
theorem gwl_putA {ad : Nat → Nat} {cs : ClassId × ClassId × ClassId} {a n i : Nat} {x : Int32} (hk : kd a = gKi n) : (gwl ad cs M).set a (ad a, .inl (cs.1, n, .inl (upd (M a) i x))) = gwl ad cs (gst M a i x) := by
  refine gwl_set ?_ (fun j hj => gst_ne M a i x hj)
  rw [hk, gst_at]
  rfl
theorem gwl_putZ {ad : Nat → Nat} {cs : ClassId × ClassId × ClassId} {a n i : Nat} {x : Int32} (hk : kd a = gKz n) : (gwl ad cs M).set a (ad a, .inl (cs.2.1, n, .inl (upd (M a) i x))) = gwl ad cs (gst M a i x) := by
  refine gwl_set ?_ (fun j hj => gst_ne M a i x hj)
  rw [hk, gst_at]
  rfl
theorem g_iast (C : gC X cc own nL ret fr lo) {a n : Nat} {j x : Int32} (hk : kd a = gKi n) (hd : decode cc pc = .ok (.iastore, 1)) (k : G X Q nL (gst M a j.toNatClampNeg x) lv stk (pc + 1) o) : G X Q nL M lv (.int x :: .int j :: .ref (xad X a) :: stk) pc (ck (ib j n) o) := by
  intro r hr H locs ls hP hS hl
  obtain ⟨h1, h2⟩ := ck_some hr
  refine va_iast C.x C.b C.K hP (gwl_D C.inj C.A) hS a 0 (gwl_at hk gI_ne) rfl (ib_in h1) hd (fun H1 locs1 hP1 _ hS1 => ?_)
  rw [gwl_putA hk] at hP1
  exact k r h2 H1 locs1 ls hP1 hS1 hl
theorem gz_nar (x : Int32) : vp_nar .boolean x = x &&& 1 := rfl
theorem g_zast (C : gC X cc own nL ret fr lo) {a n : Nat} {j x : Int32} (hk : kd a = gKz n) (hd : decode cc pc = .ok (.bastore, 1)) (k : G X Q nL (gst M a j.toNatClampNeg (x &&& 1)) lv stk (pc + 1) o) : G X Q nL M lv (.int x :: .int j :: .ref (xad X a) :: stk) pc (ck (ib j n) o) := by
  intro r hr H locs ls hP hS hl
  obtain ⟨h1, h2⟩ := ck_some hr
  refine va_zast C.x C.b C.K hP (gwl_D C.inj C.A) hS a 1 (gwl_at hk gZ_ne) rfl (ib_in h1) hd (fun H1 locs1 hP1 _ hS1 => ?_)
  rw [gwl_putZ hk, gz_nar] at hP1
  exact k r h2 H1 locs1 ls hP1 hS1 hl
/-- a computed number gets a name -/
theorem g_lt {e : Int32} {f : Int32 → Option ρ} (k : ∀ y, G X Q nL M lv (.int y :: stk) pc (f y)) : G X Q nL M lv (.int e :: stk) pc (lt_ e f) := k e
theorem g_case (C : gC X cc own nL ret fr lo) {dflt lo' hi : Int} {offs : Array Int} {len : Nat} {x a : Int32} {ai : Int} {off : Int} {tgt : Nat} (hd : decode cc pc = .ok (.tableswitch dflt lo' hi offs, len)) (ha : a.toInt = ai) (h1 : lo' ≤ ai) (h2 : ai ≤ hi) (ho : offs[(ai - lo').toNat]? = some off) (ht : (pc : Int) + off = (tgt : Int)) (k : G X Q nL M lv stk tgt A) (k2 : ¬ x.toInt = ai → G X Q nL M lv (.int x :: stk) pc B) : G X Q nL M lv (.int x :: stk) pc (if x = a then A else B) := by
  intro r hr H locs ls hP hS hl
  by_cases h : x = a
  · rw [if_pos h] at hr
    subst h
    exact lv_tableIn C.x C.b hd (by omega) (by omega) (by rw [ha]; exact ho) ht (k r hr H locs ls hP hS hl)
  · rw [if_neg h] at hr
    exact k2 (fun q => h (Int32.toInt_inj.mp (by rw [ha]; exact q))) r hr H locs ls hP hS hl
theorem g_dflt (C : gC X cc own nL ret fr lo) {dflt lo' hi : Int} {offs : Array Int} {len : Nat} {x : Int32} {tgt : Nat} (hd : decode cc pc = .ok (.tableswitch dflt lo' hi offs, len)) (h : x.toInt < lo' ∨ hi < x.toInt) (ht : (pc : Int) + dflt = (tgt : Int)) (k : G X Q nL M lv stk tgt o) : G X Q nL M lv (.int x :: stk) pc o :=
  fun r hr H locs ls hP hS hl => lv_tableOut C.x C.b hd h ht (k r hr H locs ls hP hS hl)
theorem g_mmin (C : gC X cc own nL ret fr lo) {ix : Nat} {x y : Int32} (h1 : 1 ≤ fr) (h2 : (stk.map fun v => v.category).sum + 13 ≤ lo) (hw : Cond.methodLink own ix Lib.Math.min.name ∈ ws0) (hst : Cond.static Lib.Math.min.name ∈ ws0) (hi : Cond.initialized "java/lang/Math" ∈ ws0) (hco : Cond.code Lib.Math.min.name Lib.Math.min.code 2 (some .int) ∈ ws0) (hd : decode cc pc = .ok (.invokestatic ix, 3)) (k : G X Q nL M lv (.int (if y < x then y else x) :: stk) (pc + 3) o) : G X Q nL M lv (.int y :: .int x :: stk) pc o :=
  fun r hr H locs ls hP hS hl => va_mmin C.x C.b (C.ml.trans hl.1.symm) C.ow (C.ts _ hw) (C.ts _ hst) (C.ts _ hi) (C.ts _ hco) (Nat.le_trans h1 C.frm) (Nat.le_trans h2 C.loc) C.ce C.sl hd (k r hr H locs ls hP hS hl)
theorem g_mmax (C : gC X cc own nL ret fr lo) {ix : Nat} {x y : Int32} (h1 : 1 ≤ fr) (h2 : (stk.map fun v => v.category).sum + 13 ≤ lo) (hw : Cond.methodLink own ix Lib.Math.max.name ∈ ws0) (hst : Cond.static Lib.Math.max.name ∈ ws0) (hi : Cond.initialized "java/lang/Math" ∈ ws0) (hco : Cond.code Lib.Math.max.name Lib.Math.max.code 2 (some .int) ∈ ws0) (hd : decode cc pc = .ok (.invokestatic ix, 3)) (k : G X Q nL M lv (.int (if x < y then y else x) :: stk) (pc + 3) o) : G X Q nL M lv (.int y :: .int x :: stk) pc o :=
  fun r hr H locs ls hP hS hl => va_mmax C.x C.b (C.ml.trans hl.1.symm) C.ow (C.ts _ hw) (C.ts _ hst) (C.ts _ hi) (C.ts _ hco) (Nat.le_trans h1 C.frm) (Nat.le_trans h2 C.loc) C.ce C.sl hd (k r hr H locs ls hP hS hl)
theorem g_mabs (C : gC X cc own nL ret fr lo) {ix : Nat} {x : Int32} (h1 : 1 ≤ fr) (h2 : (stk.map fun v => v.category).sum + 13 ≤ lo) (hw : Cond.methodLink own ix Lib.Math.abs.name ∈ ws0) (hst : Cond.static Lib.Math.abs.name ∈ ws0) (hi : Cond.initialized "java/lang/Math" ∈ ws0) (hco : Cond.code Lib.Math.abs.name Lib.Math.abs.code 1 (some .int) ∈ ws0) (hd : decode cc pc = .ok (.invokestatic ix, 3)) (k : G X Q nL M lv (.int (if 0 ≤ x then x else 0 - x) :: stk) (pc + 3) o) : G X Q nL M lv (.int x :: stk) pc o :=
  fun r hr H locs ls hP hS hl => va_mabs C.x C.b (C.ml.trans hl.1.symm) C.ow (C.ts _ hw) (C.ts _ hst) (C.ts _ hi) (C.ts _ hco) (Nat.le_trans h1 C.frm) (Nat.le_trans h2 C.loc) C.ce C.sl hd (k r hr H locs ls hP hS hl)
end GR
/-! contracts -/
def gGood (D : va_G) (ad : Nat → Nat) (cs : ClassId × ClassId × ClassId) (K V : Nat → Nat) (A : Nat → Prop) (M : gM) (U : State) : Prop := va_P D vwCl (gwl ad cs M) U.heap ∧ va_K D vwCl (gtys cs) U ∧ gNst U ∧ gInj ad ∧ gJ K V A U U.heap
def gA (ad : Nat → Nat) : Nat → Prop := fun q => ∃ k, k < gN ∧ q = ad k
def gQ (D : va_G) (ad : Nat → Nat) (cs : ClassId × ClassId × ClassId) (A : Nat → Prop) (v : Option Value) (M : gM) : Array Value → State → Outcome → State → Prop := fun _ st oc t => oc = .returned v ∧ va_P D vwCl (gwl ad cs M) t.heap ∧ va_F A st t
def gQm {ρ : Type} (X : gX) (rv : (Nat → Nat) → ρ → Option Value) (rM : ρ → gM) : ρ → State → Prop := fun r => MQ (xbelow X) (gQ (xD X) (xad X) (xcs X) (xA X) (rv (xad X) r) (rM r)) (xargs X) (xs X) (xce X) (xsl X) (xA X)
/-- y's contract: over the memory M with these arguments it returns what o tells, if o tells something -/
def gCt {ρ : Type} (y : MethodName) (cd : ByteArray) (maxL : Nat) (ret : Option FieldType) (fr lo : Nat) (av : (Nat → Nat) → (Nat → Nat) → (Nat → Nat) → List Value) (rv : (Nat → Nat) → ρ → Option Value) (rM : ρ → gM) (M : gM) (o : Option ρ) : Prop :=
  ∀ (l : Launch) (D : va_G) (ad : Nat → Nat) (cs : ClassId × ClassId × ClassId) (K V : Nat → Nat) (r : ρ), o = some r → Met l y (Cond.code y cd maxL ret :: ws0) { frames := fr, cells := 0, slots := 0, locals := lo } (va_Pc (av ad K V) (gGood D ad cs K V (gA ad) M)) (gQ D ad cs (gA ad) (rv ad r) (rM r)) 0 0 (gA ad)
theorem g_met {ρ : Type} {y : MethodName} {cd : ByteArray} {maxL : Nat} {ret : Option FieldType} {fr lo : Nat} {av : (Nat → Nat) → (Nat → Nat) → (Nat → Nat) → List Value} {rv : (Nat → Nat) → ρ → Option Value} {rM : ρ → gM} {M : gM} {o : Option ρ} (hy : plainName y.cls = true) (hlen : ∀ ad K V, (lg_sl (av ad K V)).length ≤ maxL)
    (body : ∀ X : gX, gC X cd y.cls maxL ret fr lo → G X (gQm X rv rM) maxL M (lv_args 0 (av (xad X) (xK X) (xV X))) [] 0 o) : gCt y cd maxL ret fr lo av rv rM M o := by
  intro l D ad cs K V r hr
  refine Met.ofW (cc := cd) (maxL := maxL) (ret := ret) hy rfl ?_
  intro p e s m args below meth c s₁ B hml hv
  obtain ⟨rfl, hP, hK, hN, hI, hJ⟩ := hv
  have hts := atoms_spec (ws := Cond.code y cd maxL ret :: ws0) B.pre
  have C : gC (p, l, e, { frames := fr, cells := 0, slots := 0, locals := lo }, s, m, (av ad K V).toArray, below, meth, c, D, ad, cs, gA ad, 0, 0, K, V) cd y.cls maxL ret fr lo :=
    ⟨B.exec, B.bytes, hml, B.returns, B.notSynchronized, findClass_of_methodNamed B.named, fun w h => hts w (List.mem_cons_of_mem _ h), hN, hK, hI, fun k hk => ⟨k, hk, rfl⟩, ⟨Nat.le_refl _, Nat.le_refl _⟩, ⟨Nat.le_refl _, Nat.le_refl _⟩, hJ⟩
  have hl := lv_entry (av ad K V) (n := maxL) (hlen ad K V)
  rw [lg_entry_eq]
  exact body _ C r hr s.heap [] _ hP va_S.rf hl
section GRet
variable {ρ : Type} {X : gX} {rv : (Nat → Nat) → ρ → Option Value} {rM : ρ → gM} {nL : Nat} {M : gM} {lv : List (Nat × Value)} {pc : Nat} {cc : ByteArray} {own : String} {fr lo : Nat}
theorem g_iret (C : gC X cc own nL (some .int) fr lo) {v : Int32} {r : ρ} (hd : decode cc pc = .ok (.ireturn, 1)) (h1 : rv (xad X) r = some (.int v)) (h2 : rM r = M) : G X (gQm X rv rM) nL M lv [.int v] pc (some r) := by
  intro r' hr H locs ls hP hS hl
  cases hr
  exact W.iret C.x C.b C.r (fun t ht _ => ⟨by rw [h1], by rw [ht, h2]; exact hP, hS.F ht⟩) hS.2.2 hd (hlocks := C.lk)
theorem g_zret (C : gC X cc own nL (some .boolean) fr lo) {v : Int32} {r : ρ} (hd : decode cc pc = .ok (.ireturn, 1)) (h1 : rv (xad X) r = some (.int v)) (h2 : rM r = M) : G X (gQm X rv rM) nL M lv [.int v] pc (ck (gb v) (some r)) := by
  intro r' hr H locs ls hP hS hl
  obtain ⟨hb, hr⟩ := ck_some hr
  cases hr
  exact W.zret C.x C.b C.r (gb_nar hb) (fun t ht _ => ⟨by rw [h1], by rw [ht, h2]; exact hP, hS.F ht⟩) hS.2.2 hd (hlocks := C.lk)
theorem g_zretk (C : gC X cc own nL (some .boolean) fr lo) {v : Int32} {r : ρ} (hv : narrow .boolean (.int v) = .int v) (hd : decode cc pc = .ok (.ireturn, 1)) (h1 : rv (xad X) r = some (.int v)) (h2 : rM r = M) : G X (gQm X rv rM) nL M lv [.int v] pc (some r) := by
  intro r' hr H locs ls hP hS hl
  cases hr
  exact W.zret C.x C.b C.r hv (fun t ht _ => ⟨by rw [h1], by rw [ht, h2]; exact hP, hS.F ht⟩) hS.2.2 hd (hlocks := C.lk)
theorem g_nret {ty : FieldType} (C : gC X cc own nL (some ty) fr lo) {v : Int32} {r : ρ} (hv : narrow ty (.int v) = .int v) (hd : decode cc pc = .ok (.ireturn, 1)) (h1 : rv (xad X) r = some (.int v)) (h2 : rM r = M) : G X (gQm X rv rM) nL M lv [.int v] pc (some r) := by
  intro r' hr H locs ls hP hS hl
  cases hr
  exact W.zret C.x C.b C.r hv (fun t ht _ => ⟨by rw [h1], by rw [ht, h2]; exact hP, hS.F ht⟩) hS.2.2 hd (hlocks := C.lk)
theorem g_vret (C : gC X cc own nL none fr lo) {r : ρ} (hd : decode cc pc = .ok (.return_, 1)) (h1 : rv (xad X) r = none) (h2 : rM r = M) : G X (gQm X rv rM) nL M lv [] pc (some r) := by
  intro r' hr H locs ls hP hS hl
  cases hr
  exact W.vret C.x C.b C.r (fun t ht _ => ⟨by rw [h1], by rw [ht, h2]; exact hP, hS.F ht⟩) hS.2.2 hd (hlocks := C.lk)
theorem g_aret {rt : FieldType} (C : gC X cc own nL (some rt) fr lo) (hrt : (∃ n, rt = .object n) ∨ ∃ t, rt = .array t) {t : Nat} {r : ρ} (hd : decode cc pc = .ok (.areturn, 1)) (h1 : rv (xad X) r = some (.ref (xad X t))) (h2 : rM r = M) : G X (gQm X rv rM) nL M lv [.ref (xad X t)] pc (some r) := by
  intro r' hr H locs ls hP hS hl
  cases hr
  exact W.aret C.x C.b C.r hrt (Or.inr ⟨_, rfl⟩) (fun t ht _ => ⟨by rw [h1], by rw [ht, h2]; exact hP, hS.F ht⟩) hS.2.2 hd (hlocks := C.lk)
end GRet
section GCall
variable {ρ σ : Type} {X : gX} {Q : ρ → State → Prop} {nL : Nat} {M : gM} {lv : List (Nat × Value)} {stk stk0 : List Value} {pc : Nat} {cc : ByteArray} {own : String} {ret : Option FieldType} {fr lo : Nat}
variable {y : MethodName} {cd : ByteArray} {maxL : Nat} {ret1 : Option FieldType} {fr1 lo1 : Nat} {rv : (Nat → Nat) → σ → Option Value} {rM : σ → gM} {o1 : Option σ} {As : List Value} {ix n t ci : Nat}
/-- a call that stands at pc: what it leaves -/
def gRun (X : gX) (nL : Nat) (M : gM) (stk0 stk : List Value) (pc : Nat) (rv : (Nat → Nat) → σ → Option Value) (rM : σ → gM) (o1 : Option σ) : Prop :=
  ∀ r, o1 = some r → ∀ (H : Heap) (locs : List Loc) (ls : Array Slot), va_P (xD X) vwCl (gwl (xad X) (xcs X) M) H → va_S (xA X) (xs X).heap H locs → ls.size = nL → ∃ a : Array Value, va_Run (xp X) (xl X) (xe X) (xR X) (xs X) (xm X) (xargs X) (xbelow X) (xmeth X) (xc X) H locs (xce X) (xsl X) 0 0 (F0 (xm X) pc ls stk0) stk (gQ (xD X) (xad X) (xcs X) (gA (xad X)) (rv (xad X) r) (rM r) a) (gA (xad X))
theorem gGood.blind {D : va_G} {ad : Nat → Nat} {cs : ClassId × ClassId × ClassId} {K V : Nat → Nat} {A : Nat → Prop} {M : gM} {av : List Value} : FrameBlind (va_Pc av (gGood D ad cs K V A M)) := by
  intro a U g mk h
  obtain ⟨h0, h1, h2, h3, h4, h5⟩ := h
  exact ⟨h0, h1, va_K.moved (u := U) (U := U.calling g mk a) (Vm.Alike.refl U.vm) h2, gNst.same (s := U) (U := U.calling g mk a) rfl h3, h4, gJ.same (s := U) (U := U.calling g mk a) rfl h5⟩
theorem gGood.at (C : gC X cc own nL ret fr lo) {H : Heap} {locs : List Loc} (hP : va_P (xD X) vwCl (gwl (xad X) (xcs X) M) H) (hS : va_S (xA X) (xs X).heap H locs) {U : State} (hU : U.heap = H) (hW : (xs X).WarmedH U.vm) : gGood (xD X) (xad X) (xcs X) (xK X) (xV X) (gA (xad X)) M U :=
  ⟨by rw [hU]; exact hP, va_K.moved hW.alike C.K, C.nst.warm hW, C.inj, by rw [hU]; exact C.J.warm hW hS.2.1 (fun q hq => by obtain ⟨k, hk, rfl⟩ := hq; exact C.A k hk)⟩
theorem gws (C : gC X cc own nL ret fr lo) (hcw : Cond.code y cd maxL ret1 ∈ ws0) : GoodIn ws0 (Cond.code y cd maxL ret1 :: ws0) := by
  intro w hw
  rcases List.mem_cons.mp hw with rfl | hw
  · exact ⟨hcw, ws0_good hcw⟩
  · exact ⟨hw, ws0_good hw⟩
/-- invokevirtual of a method of the object t, by an entry of the own class -/
theorem g_runV (C : gC X cc own nL ret fr lo) {av : (Nat → Nat) → (Nat → Nat) → (Nat → Nat) → List Value} (hct : gCt y cd maxL ret1 fr1 lo1 av rv rM M o1) {Cn : String} {T : u_T} {N : Nat} (hav : av (xad X) (xK X) (xV X) = .ref (xad X t) :: As) (hst : stk0 = As.reverse ++ .ref (xad X t) :: stk) (hn : As.length = n) (hk : kd t = gKo ci) (hc : vwCl[ci]? = some (Cn, T, N)) (hcw : Cond.code y cd maxL ret1 ∈ ws0) (hwi : Cond.instanceMethod y ∈ ws0) (hwv : Cond.selects Cn y y ∈ ws0) (hw0 : Cond.initialized y.cls ∈ ws0) (hwm : Cond.methodLink own ix y ∈ ws0) (hy : y.cls ≠ "java/lang/invoke/MethodHandle" ∧ y.cls ≠ "java/lang/invoke/VarHandle" ∧ (parseMethodDescriptor y.desc).map (fun d => d.parameters.length) = some n) (hR : fr1 + 1 ≤ fr ∧ 8 + (maxL + 11) + lo1 ≤ lo) (hr8 : (stk.map fun v => v.category).sum ≤ 8) (hd : decode cc pc = .ok (.invokevirtual ix, 3)) : gRun X nL M stk0 stk pc rv rM o1 := by
  intro r hr H locs ls hP hS hl
  subst hst
  have hm := hct (xl X) (xD X) (xad X) (xcs X) (xK X) (xV X) r hr
  rw [hav] at hm
  have cb : CallB (xR X) (xs X) (xargs X) own ix y cd maxL ret1 (Cond.code y cd maxL ret1 :: ws0) { frames := fr1, cells := 0, slots := 0, locals := lo1 } 0 0 n := callB_of n C.ts (gws C hcw) rfl rfl rfl (C.ts _ hw0) (C.ts _ hwm) hy ⟨Nat.le_trans hR.1 C.frm, Nat.le_trans hR.2 C.loc⟩
  exact ⟨_, va_runV ⟨C.x, C.b, C.ml, C.ow, C.ts⟩ hm ⟨cb, C.ts _ hwi, C.ts _ hwv⟩ ⟨gGood.blind, va_recv C.K hP hc (gwl_at hk (gCl_ne hc)), fun U hU hW => ⟨rfl, gGood.at C hP hS hU hW⟩⟩ rfl hn hl rfl (lv_room hr8) hd ⟨C.ce, C.sl⟩⟩
/-- the same, by an entry that names a private method of a nest mate -/
theorem g_runVN (C : gC X cc own nL ret fr lo) {av : (Nat → Nat) → (Nat → Nat) → (Nat → Nat) → List Value} (hct : gCt y cd maxL ret1 fr1 lo1 av rv rM M o1) {Cn host : String} {T : u_T} {N : Nat} (hav : av (xad X) (xK X) (xV X) = .ref (xad X t) :: As) (hst : stk0 = As.reverse ++ .ref (xad X t) :: stk) (hn : As.length = n) (hk : kd t = gKo ci) (hc : vwCl[ci]? = some (Cn, T, N)) (hcw : Cond.code y cd maxL ret1 ∈ ws0) (hwi : Cond.instanceMethod y ∈ ws0) (hwv : Cond.selects Cn y y ∈ ws0) (hw0 : Cond.initialized y.cls ∈ ws0) (hwm : (own, ix, y, host) ∈ nstM) (hy : y.cls ≠ "java/lang/invoke/MethodHandle" ∧ y.cls ≠ "java/lang/invoke/VarHandle" ∧ (parseMethodDescriptor y.desc).map (fun d => d.parameters.length) = some n) (hR : fr1 + 1 ≤ fr ∧ 8 + (maxL + 11) + lo1 ≤ lo) (hr8 : (stk.map fun v => v.category).sum ≤ 8) (hd : decode cc pc = .ok (.invokevirtual ix, 3)) : gRun X nL M stk0 stk pc rv rM o1 := by
  intro r hr H locs ls hP hS hl
  subst hst
  have hm := hct (xl X) (xD X) (xad X) (xcs X) (xK X) (xV X) r hr
  rw [hav] at hm
  exact ⟨_, va_runVN ⟨C.x, C.b, C.ml, C.ow, C.ts⟩ hm ⟨va_cnB n C.ts (gws C hcw) rfl rfl rfl (C.nst.2 _ hwm) (C.ts _ hw0) hy ⟨Nat.le_trans hR.1 C.frm, Nat.le_trans hR.2 C.loc⟩, C.ts _ hwi, C.ts _ hwv⟩ ⟨gGood.blind, va_recv C.K hP hc (gwl_at hk (gCl_ne hc)), fun U hU hW => ⟨rfl, gGood.at C hP hS hU hW⟩⟩ rfl hn hl rfl (lv_room hr8) hd ⟨C.ce, C.sl⟩⟩
theorem g_runS (C : gC X cc own nL ret fr lo) {av : (Nat → Nat) → (Nat → Nat) → (Nat → Nat) → List Value} (hct : gCt y cd maxL ret1 fr1 lo1 av rv rM M o1) (hav : av (xad X) (xK X) (xV X) = As) (hst : stk0 = As.reverse ++ stk) (hn : As.length = n) (hcw : Cond.code y cd maxL ret1 ∈ ws0) (hws : Cond.static y ∈ ws0) (hw0 : Cond.initialized y.cls ∈ ws0) (hwm : Cond.methodLink own ix y ∈ ws0) (hy : y.cls ≠ "java/lang/invoke/MethodHandle" ∧ y.cls ≠ "java/lang/invoke/VarHandle" ∧ (parseMethodDescriptor y.desc).map (fun d => d.parameters.length) = some n) (hR : fr1 + 1 ≤ fr ∧ 8 + (maxL + 11) + lo1 ≤ lo) (hr8 : (stk.map fun v => v.category).sum ≤ 8) (hd : decode cc pc = .ok (.invokestatic ix, 3)) : gRun X nL M stk0 stk pc rv rM o1 := by
  intro r hr H locs ls hP hS hl
  subst hst
  have hm := hct (xl X) (xD X) (xad X) (xcs X) (xK X) (xV X) r hr
  rw [hav] at hm
  have cb : CallB (xR X) (xs X) (xargs X) own ix y cd maxL ret1 (Cond.code y cd maxL ret1 :: ws0) { frames := fr1, cells := 0, slots := 0, locals := lo1 } 0 0 n := callB_of n C.ts (gws C hcw) rfl rfl rfl (C.ts _ hw0) (C.ts _ hwm) hy ⟨Nat.le_trans hR.1 C.frm, Nat.le_trans hR.2 C.loc⟩
  exact ⟨_, va_runS ⟨C.x, C.b, C.ml, C.ow, C.ts⟩ hm ⟨cb, C.ts _ hws⟩ ⟨gGood.blind, fun U hU hW => ⟨rfl, gGood.at C hP hS hU hW⟩⟩ rfl hn hl rfl (lv_room hr8) hd ⟨C.ce, C.sl⟩⟩
theorem g_runSN (C : gC X cc own nL ret fr lo) {av : (Nat → Nat) → (Nat → Nat) → (Nat → Nat) → List Value} (hct : gCt y cd maxL ret1 fr1 lo1 av rv rM M o1) {host : String} (hav : av (xad X) (xK X) (xV X) = As) (hst : stk0 = As.reverse ++ stk) (hn : As.length = n) (hcw : Cond.code y cd maxL ret1 ∈ ws0) (hws : Cond.static y ∈ ws0) (hw0 : Cond.initialized y.cls ∈ ws0) (hwm : (own, ix, y, host) ∈ nstM) (hy : y.cls ≠ "java/lang/invoke/MethodHandle" ∧ y.cls ≠ "java/lang/invoke/VarHandle" ∧ (parseMethodDescriptor y.desc).map (fun d => d.parameters.length) = some n) (hR : fr1 + 1 ≤ fr ∧ 8 + (maxL + 11) + lo1 ≤ lo) (hr8 : (stk.map fun v => v.category).sum ≤ 8) (hd : decode cc pc = .ok (.invokestatic ix, 3)) : gRun X nL M stk0 stk pc rv rM o1 := by
  intro r hr H locs ls hP hS hl
  subst hst
  have hm := hct (xl X) (xD X) (xad X) (xcs X) (xK X) (xV X) r hr
  rw [hav] at hm
  exact ⟨_, va_runSN ⟨C.x, C.b, C.ml, C.ow, C.ts⟩ hm ⟨va_cnB n C.ts (gws C hcw) rfl rfl rfl (C.nst.2 _ hwm) (C.ts _ hw0) hy ⟨Nat.le_trans hR.1 C.frm, Nat.le_trans hR.2 C.loc⟩, C.ts _ hws, trivial⟩ ⟨gGood.blind, fun U hU hW => ⟨rfl, gGood.at C hP hS hU hW⟩⟩ rfl hn hl rfl (lv_room hr8) hd ⟨C.ce, C.sl⟩⟩
/-- behind a call -/
theorem g_call (C : gC X cc own nL ret fr lo) {f : σ → Option ρ} (hr : gRun X nL M stk0 stk pc rv rM o1) (k : ∀ r, G X Q nL (rM r) lv ((rv (xad X) r).toList ++ stk) (pc + 3) (f r)) : G X Q nL M lv stk0 pc (o1.bind f) := by
  intro r0 hr0 H locs ls hP hS hl
  cases ho : o1 with
  | none =>
    rw [ho] at hr0
    cases hr0
  | some r =>
    rw [ho] at hr0
    have hfr : f r = some r0 := hr0
    intro T hT XS
    obtain ⟨a, hrun⟩ := hr r ho H locs ls hP hS hl.1
    obtain ⟨v, st₀, t, T', L, h0, X', hL, e1, e2, ⟨hv, hP1, hF1⟩, st⟩ := hrun T hT XS
    cases hv
    have hA : ∀ q, gA (xad X) q → xA X q := fun q hq => by obtain ⟨k, hk, rfl⟩ := hq; exact C.A k hk
    have hS1 : va_S (xA X) (xs X).heap t.heap (locs ++ L) := by
      refine ⟨Nat.le_trans hS.1 (by rw [← h0]; exact hF1.1), fun q h1 h2 => ?_, fun q hq => ?_⟩
      · rw [hF1.2 q (by rw [h0]; exact Nat.lt_of_lt_of_le h1 hS.1) (fun z => h2 (hA q z)), h0]
        exact hS.2.1 q h1 h2
      · rcases List.mem_append.mp hq with h | h
        · exact hS.2.2 q h
        · exact hA _ (hL q h)
    obtain ⟨t2, a1, b1⟩ := k r r0 hfr t.heap (locs ++ L) ls hP1 hS1 hl T' e1 X'
    exact ⟨t2, st t2 a1, b1⟩
theorem g_callR (C : gC X cc own nL ret fr lo) {o1 : Option Int32} {f : Int32 → Option ρ} (hr : gRun X nL M stk0 stk pc (fun _ r => some (.int r)) (fun _ => M) o1) (k : ∀ r, G X Q nL M lv (.int r :: stk) (pc + 3) (f r)) : G X Q nL M lv stk0 pc (o1.bind f) := g_call C hr k
theorem g_callW (C : gC X cc own nL ret fr lo) {o1 : Option (Int32 × gM)} {f : Int32 × gM → Option ρ} (hr : gRun X nL M stk0 stk pc (fun _ r => some (.int r.1)) (fun r => r.2) o1) (k : ∀ r : Int32 × gM, G X Q nL r.2 lv (.int r.1 :: stk) (pc + 3) (f r)) : G X Q nL M lv stk0 pc (o1.bind f) := g_call C hr k
theorem g_callV (C : gC X cc own nL ret fr lo) {o1 : Option gM} {f : gM → Option ρ} (hr : gRun X nL M stk0 stk pc (fun _ _ => none) (fun r => r) o1) (k : ∀ r : gM, G X Q nL r lv stk (pc + 3) (f r)) : G X Q nL M lv stk0 pc (o1.bind f) := g_call C hr k
theorem g_callA (C : gC X cc own nL ret fr lo) {o1 : Option Nat} {f : Nat → Option ρ} (hr : gRun X nL M stk0 stk pc (fun ad r => some (.ref (ad r))) (fun _ => M) o1) (k : ∀ r : Nat, G X Q nL M lv (.ref (xad X r) :: stk) (pc + 3) (f r)) : G X Q nL M lv stk0 pc (o1.bind f) := g_call C hr k
end GCall
end
