section
-- ===== PART A: goes FIRST, ahead of the names: the tables' words, and 'selects' of the private methods out of them =====
/-- a private method of a class that the tables say can be made, by its rows of tables_1 -/
def lw_okq (q : MethodName × Nat) : Prop := (q.1.cls ≠ "java/lang/invoke/MethodHandle" ∧ q.1.cls ≠ "java/lang/invoke/VarHandle") ∧ Cond.instantiable q.1.cls q.2 ∈ tables_1 ∧ Cond.privateMethod q.1 ∈ tables_1 ∧ Cond.instanceMethod q.1 ∈ tables_1
theorem lw_p0 : lw_okq (⟨"ClockWakers", "faulty", "(I)I"⟩, 10) := ⟨⟨by decide +kernel, by decide +kernel⟩, List.mem_of_getElem? (i := 13) (by decide +kernel), List.mem_of_getElem? (i := 206) (by decide +kernel), List.mem_of_getElem? (i := 207) (by decide +kernel)⟩
theorem lw_p1 : lw_okq (⟨"ClockWakers$Text", "readWall", "(LClockWakers$Street;)Z"⟩, 3) := ⟨⟨by decide +kernel, by decide +kernel⟩, List.mem_of_getElem? (i := 75) (by decide +kernel), List.mem_of_getElem? (i := 221) (by decide +kernel), List.mem_of_getElem? (i := 222) (by decide +kernel)⟩
theorem lw_p2 : lw_okq (⟨"ClockWakers$Text", "takeSign", "(C)Z"⟩, 3) := ⟨⟨by decide +kernel, by decide +kernel⟩, List.mem_of_getElem? (i := 75) (by decide +kernel), List.mem_of_getElem? (i := 225) (by decide +kernel), List.mem_of_getElem? (i := 226) (by decide +kernel)⟩
theorem lw_p3 : lw_okq (⟨"ClockWakers$Text", "takeDigit", "(II)I"⟩, 3) := ⟨⟨by decide +kernel, by decide +kernel⟩, List.mem_of_getElem? (i := 75) (by decide +kernel), List.mem_of_getElem? (i := 229) (by decide +kernel), List.mem_of_getElem? (i := 230) (by decide +kernel)⟩
theorem lw_p4 : lw_okq (⟨"ClockWakers$Text", "readHouses", "(LClockWakers$Street;)Z"⟩, 3) := ⟨⟨by decide +kernel, by decide +kernel⟩, List.mem_of_getElem? (i := 75) (by decide +kernel), List.mem_of_getElem? (i := 233) (by decide +kernel), List.mem_of_getElem? (i := 234) (by decide +kernel)⟩
theorem lw_p5 : lw_okq (⟨"ClockWakers$Text", "takeKind", "()I"⟩, 3) := ⟨⟨by decide +kernel, by decide +kernel⟩, List.mem_of_getElem? (i := 75) (by decide +kernel), List.mem_of_getElem? (i := 237) (by decide +kernel), List.mem_of_getElem? (i := 238) (by decide +kernel)⟩
theorem lw_p6 : lw_okq (⟨"ClockWakers$Text", "readClocks", "(LClockWakers$Street;)Z"⟩, 3) := ⟨⟨by decide +kernel, by decide +kernel⟩, List.mem_of_getElem? (i := 75) (by decide +kernel), List.mem_of_getElem? (i := 245) (by decide +kernel), List.mem_of_getElem? (i := 246) (by decide +kernel)⟩
theorem lw_p7 : lw_okq (⟨"ClockWakers", "refusalOfActs", "(LClockWakers$Sheet;II)I"⟩, 10) := ⟨⟨by decide +kernel, by decide +kernel⟩, List.mem_of_getElem? (i := 13) (by decide +kernel), List.mem_of_getElem? (i := 387) (by decide +kernel), List.mem_of_getElem? (i := 388) (by decide +kernel)⟩
theorem lw_p8 : lw_okq (⟨"ClockWakers", "refusalOfAct", "(II)I"⟩, 10) := ⟨⟨by decide +kernel, by decide +kernel⟩, List.mem_of_getElem? (i := 13) (by decide +kernel), List.mem_of_getElem? (i := 391) (by decide +kernel), List.mem_of_getElem? (i := 392) (by decide +kernel)⟩
theorem lw_p9 : lw_okq (⟨"ClockWakers", "playOnTrial", "(LClockWakers$Sheet;II)I"⟩, 10) := ⟨⟨by decide +kernel, by decide +kernel⟩, List.mem_of_getElem? (i := 13) (by decide +kernel), List.mem_of_getElem? (i := 395) (by decide +kernel), List.mem_of_getElem? (i := 396) (by decide +kernel)⟩
theorem lw_p10 : lw_okq (⟨"ClockWakers", "canAct", "(II)Z"⟩, 10) := ⟨⟨by decide +kernel, by decide +kernel⟩, List.mem_of_getElem? (i := 13) (by decide +kernel), List.mem_of_getElem? (i := 399) (by decide +kernel), List.mem_of_getElem? (i := 400) (by decide +kernel)⟩
theorem lw_p11 : lw_okq (⟨"ClockWakers", "canTurn", "(IZ)Z"⟩, 10) := ⟨⟨by decide +kernel, by decide +kernel⟩, List.mem_of_getElem? (i := 13) (by decide +kernel), List.mem_of_getElem? (i := 403) (by decide +kernel), List.mem_of_getElem? (i := 404) (by decide +kernel)⟩
theorem lw_p12 : lw_okq (⟨"ClockWakers", "canCarry", "(II)Z"⟩, 10) := ⟨⟨by decide +kernel, by decide +kernel⟩, List.mem_of_getElem? (i := 13) (by decide +kernel), List.mem_of_getElem? (i := 407) (by decide +kernel), List.mem_of_getElem? (i := 408) (by decide +kernel)⟩
theorem lw_p13 : lw_okq (⟨"ClockWakers", "answerOfTrial", "(I)I"⟩, 10) := ⟨⟨by decide +kernel, by decide +kernel⟩, List.mem_of_getElem? (i := 13) (by decide +kernel), List.mem_of_getElem? (i := 411) (by decide +kernel), List.mem_of_getElem? (i := 412) (by decide +kernel)⟩
theorem lw_p14 : lw_okq (⟨"ClockWakers$Arrangement", "wakersOfRow", "(I)I"⟩, 3) := ⟨⟨by decide +kernel, by decide +kernel⟩, List.mem_of_getElem? (i := 114) (by decide +kernel), List.mem_of_getElem? (i := 447) (by decide +kernel), List.mem_of_getElem? (i := 448) (by decide +kernel)⟩
theorem lw_p15 : lw_okq (⟨"ClockWakers$Arrangement", "stepRow", "(II)V"⟩, 3) := ⟨⟨by decide +kernel, by decide +kernel⟩, List.mem_of_getElem? (i := 114) (by decide +kernel), List.mem_of_getElem? (i := 453) (by decide +kernel), List.mem_of_getElem? (i := 454) (by decide +kernel)⟩
def lw_privs_1 : List (MethodName × Nat) := [(⟨"ClockWakers", "faulty", "(I)I"⟩, 10), (⟨"ClockWakers$Text", "readWall", "(LClockWakers$Street;)Z"⟩, 3), (⟨"ClockWakers$Text", "takeSign", "(C)Z"⟩, 3), (⟨"ClockWakers$Text", "takeDigit", "(II)I"⟩, 3), (⟨"ClockWakers$Text", "readHouses", "(LClockWakers$Street;)Z"⟩, 3), (⟨"ClockWakers$Text", "takeKind", "()I"⟩, 3), (⟨"ClockWakers$Text", "readClocks", "(LClockWakers$Street;)Z"⟩, 3), (⟨"ClockWakers", "refusalOfActs", "(LClockWakers$Sheet;II)I"⟩, 10), (⟨"ClockWakers", "refusalOfAct", "(II)I"⟩, 10), (⟨"ClockWakers", "playOnTrial", "(LClockWakers$Sheet;II)I"⟩, 10), (⟨"ClockWakers", "canAct", "(II)Z"⟩, 10), (⟨"ClockWakers", "canTurn", "(IZ)Z"⟩, 10), (⟨"ClockWakers", "canCarry", "(II)Z"⟩, 10), (⟨"ClockWakers", "answerOfTrial", "(I)I"⟩, 10), (⟨"ClockWakers$Arrangement", "wakersOfRow", "(I)I"⟩, 3), (⟨"ClockWakers$Arrangement", "stepRow", "(II)V"⟩, 3)]
theorem lw_r1 : ∀ q ∈ lw_privs_1, lw_okq q := List.forall_mem_cons.mpr ⟨lw_p0, List.forall_mem_cons.mpr ⟨lw_p1, List.forall_mem_cons.mpr ⟨lw_p2, List.forall_mem_cons.mpr ⟨lw_p3, List.forall_mem_cons.mpr ⟨lw_p4, List.forall_mem_cons.mpr ⟨lw_p5, List.forall_mem_cons.mpr ⟨lw_p6, List.forall_mem_cons.mpr ⟨lw_p7, List.forall_mem_cons.mpr ⟨lw_p8, List.forall_mem_cons.mpr ⟨lw_p9, List.forall_mem_cons.mpr ⟨lw_p10, List.forall_mem_cons.mpr ⟨lw_p11, List.forall_mem_cons.mpr ⟨lw_p12, List.forall_mem_cons.mpr ⟨lw_p13, List.forall_mem_cons.mpr ⟨lw_p14, List.forall_mem_cons.mpr ⟨lw_p15, fun _ h => absurd h List.not_mem_nil⟩⟩⟩⟩⟩⟩⟩⟩⟩⟩⟩⟩⟩⟩⟩⟩
theorem lw_p16 : lw_okq (⟨"ClockWakers", "nervousTells", "(I)I"⟩, 10) := ⟨⟨by decide +kernel, by decide +kernel⟩, List.mem_of_getElem? (i := 13) (by decide +kernel), List.mem_of_getElem? (i := 538) (by decide +kernel), List.mem_of_getElem? (i := 539) (by decide +kernel)⟩
theorem lw_p17 : lw_okq (⟨"ClockWakers", "leave", "(I)V"⟩, 10) := ⟨⟨by decide +kernel, by decide +kernel⟩, List.mem_of_getElem? (i := 13) (by decide +kernel), List.mem_of_getElem? (i := 542) (by decide +kernel), List.mem_of_getElem? (i := 543) (by decide +kernel)⟩
theorem lw_p18 : lw_okq (⟨"ClockWakers", "sleeperTells", "(I)I"⟩, 10) := ⟨⟨by decide +kernel, by decide +kernel⟩, List.mem_of_getElem? (i := 13) (by decide +kernel), List.mem_of_getElem? (i := 546) (by decide +kernel), List.mem_of_getElem? (i := 547) (by decide +kernel)⟩
theorem lw_p19 : lw_okq (⟨"ClockWakers", "babyTells", "(I)I"⟩, 10) := ⟨⟨by decide +kernel, by decide +kernel⟩, List.mem_of_getElem? (i := 13) (by decide +kernel), List.mem_of_getElem? (i := 550) (by decide +kernel), List.mem_of_getElem? (i := 551) (by decide +kernel)⟩
theorem lw_p20 : lw_okq (⟨"ClockWakers", "babyIsCalled", "()I"⟩, 10) := ⟨⟨by decide +kernel, by decide +kernel⟩, List.mem_of_getElem? (i := 13) (by decide +kernel), List.mem_of_getElem? (i := 558) (by decide +kernel), List.mem_of_getElem? (i := 559) (by decide +kernel)⟩
theorem lw_p21 : lw_okq (⟨"ClockWakers", "sleeperIsCalled", "(I)I"⟩, 10) := ⟨⟨by decide +kernel, by decide +kernel⟩, List.mem_of_getElem? (i := 13) (by decide +kernel), List.mem_of_getElem? (i := 562) (by decide +kernel), List.mem_of_getElem? (i := 563) (by decide +kernel)⟩
theorem lw_p22 : lw_okq (⟨"ClockWakersModel", "against", "(IIII)I"⟩, 30) := ⟨⟨by decide +kernel, by decide +kernel⟩, List.mem_of_getElem? (i := 582) (by decide +kernel), List.mem_of_getElem? (i := 692) (by decide +kernel), List.mem_of_getElem? (i := 693) (by decide +kernel)⟩
theorem lw_p23 : lw_okq (⟨"ClockWakersModel", "fails", "(I)I"⟩, 30) := ⟨⟨by decide +kernel, by decide +kernel⟩, List.mem_of_getElem? (i := 582) (by decide +kernel), List.mem_of_getElem? (i := 696) (by decide +kernel), List.mem_of_getElem? (i := 697) (by decide +kernel)⟩
theorem lw_p24 : lw_okq (⟨"ClockWakersModel", "readStreet", "(I)Z"⟩, 30) := ⟨⟨by decide +kernel, by decide +kernel⟩, List.mem_of_getElem? (i := 582) (by decide +kernel), List.mem_of_getElem? (i := 700) (by decide +kernel), List.mem_of_getElem? (i := 701) (by decide +kernel)⟩
theorem lw_p25 : lw_okq (⟨"ClockWakersModel", "isSign", "(II)Z"⟩, 30) := ⟨⟨by decide +kernel, by decide +kernel⟩, List.mem_of_getElem? (i := 582) (by decide +kernel), List.mem_of_getElem? (i := 704) (by decide +kernel), List.mem_of_getElem? (i := 705) (by decide +kernel)⟩
theorem lw_p26 : lw_okq (⟨"ClockWakersModel", "isNext", "(II)Z"⟩, 30) := ⟨⟨by decide +kernel, by decide +kernel⟩, List.mem_of_getElem? (i := 582) (by decide +kernel), List.mem_of_getElem? (i := 708) (by decide +kernel), List.mem_of_getElem? (i := 709) (by decide +kernel)⟩
theorem lw_p27 : lw_okq (⟨"ClockWakersModel", "digit", "(III)I"⟩, 30) := ⟨⟨by decide +kernel, by decide +kernel⟩, List.mem_of_getElem? (i := 582) (by decide +kernel), List.mem_of_getElem? (i := 712) (by decide +kernel), List.mem_of_getElem? (i := 713) (by decide +kernel)⟩
theorem lw_p28 : lw_okq (⟨"ClockWakersModel", "readTheHouse", "(I)Z"⟩, 30) := ⟨⟨by decide +kernel, by decide +kernel⟩, List.mem_of_getElem? (i := 582) (by decide +kernel), List.mem_of_getElem? (i := 716) (by decide +kernel), List.mem_of_getElem? (i := 717) (by decide +kernel)⟩
theorem lw_p29 : lw_okq (⟨"ClockWakersModel", "readTheClock", "(I)Z"⟩, 30) := ⟨⟨by decide +kernel, by decide +kernel⟩, List.mem_of_getElem? (i := 582) (by decide +kernel), List.mem_of_getElem? (i := 720) (by decide +kernel), List.mem_of_getElem? (i := 721) (by decide +kernel)⟩
theorem lw_p30 : lw_okq (⟨"ClockWakersModel", "takeStreet", "()V"⟩, 30) := ⟨⟨by decide +kernel, by decide +kernel⟩, List.mem_of_getElem? (i := 582) (by decide +kernel), List.mem_of_getElem? (i := 724) (by decide +kernel), List.mem_of_getElem? (i := 725) (by decide +kernel)⟩
theorem lw_p31 : lw_okq (⟨"ClockWakersModel", "isHouse", "(I)Z"⟩, 30) := ⟨⟨by decide +kernel, by decide +kernel⟩, List.mem_of_getElem? (i := 582) (by decide +kernel), List.mem_of_getElem? (i := 732) (by decide +kernel), List.mem_of_getElem? (i := 733) (by decide +kernel)⟩
def lw_privs_2 : List (MethodName × Nat) := [(⟨"ClockWakers", "nervousTells", "(I)I"⟩, 10), (⟨"ClockWakers", "leave", "(I)V"⟩, 10), (⟨"ClockWakers", "sleeperTells", "(I)I"⟩, 10), (⟨"ClockWakers", "babyTells", "(I)I"⟩, 10), (⟨"ClockWakers", "babyIsCalled", "()I"⟩, 10), (⟨"ClockWakers", "sleeperIsCalled", "(I)I"⟩, 10), (⟨"ClockWakersModel", "against", "(IIII)I"⟩, 30), (⟨"ClockWakersModel", "fails", "(I)I"⟩, 30), (⟨"ClockWakersModel", "readStreet", "(I)Z"⟩, 30), (⟨"ClockWakersModel", "isSign", "(II)Z"⟩, 30), (⟨"ClockWakersModel", "isNext", "(II)Z"⟩, 30), (⟨"ClockWakersModel", "digit", "(III)I"⟩, 30), (⟨"ClockWakersModel", "readTheHouse", "(I)Z"⟩, 30), (⟨"ClockWakersModel", "readTheClock", "(I)Z"⟩, 30), (⟨"ClockWakersModel", "takeStreet", "()V"⟩, 30), (⟨"ClockWakersModel", "isHouse", "(I)Z"⟩, 30)]
theorem lw_r2 : ∀ q ∈ lw_privs_2, lw_okq q := List.forall_mem_cons.mpr ⟨lw_p16, List.forall_mem_cons.mpr ⟨lw_p17, List.forall_mem_cons.mpr ⟨lw_p18, List.forall_mem_cons.mpr ⟨lw_p19, List.forall_mem_cons.mpr ⟨lw_p20, List.forall_mem_cons.mpr ⟨lw_p21, List.forall_mem_cons.mpr ⟨lw_p22, List.forall_mem_cons.mpr ⟨lw_p23, List.forall_mem_cons.mpr ⟨lw_p24, List.forall_mem_cons.mpr ⟨lw_p25, List.forall_mem_cons.mpr ⟨lw_p26, List.forall_mem_cons.mpr ⟨lw_p27, List.forall_mem_cons.mpr ⟨lw_p28, List.forall_mem_cons.mpr ⟨lw_p29, List.forall_mem_cons.mpr ⟨lw_p30, List.forall_mem_cons.mpr ⟨lw_p31, fun _ h => absurd h List.not_mem_nil⟩⟩⟩⟩⟩⟩⟩⟩⟩⟩⟩⟩⟩⟩⟩⟩
theorem lw_p32 : lw_okq (⟨"ClockWakersModel", "needsOf", "(I)I"⟩, 30) := ⟨⟨by decide +kernel, by decide +kernel⟩, List.mem_of_getElem? (i := 582) (by decide +kernel), List.mem_of_getElem? (i := 736) (by decide +kernel), List.mem_of_getElem? (i := 737) (by decide +kernel)⟩
theorem lw_p33 : lw_okq (⟨"ClockWakersModel", "wakesFrom", "(III)Z"⟩, 30) := ⟨⟨by decide +kernel, by decide +kernel⟩, List.mem_of_getElem? (i := 582) (by decide +kernel), List.mem_of_getElem? (i := 740) (by decide +kernel), List.mem_of_getElem? (i := 741) (by decide +kernel)⟩
theorem lw_p34 : lw_okq (⟨"ClockWakersModel", "heardFrom", "(III)I"⟩, 30) := ⟨⟨by decide +kernel, by decide +kernel⟩, List.mem_of_getElem? (i := 582) (by decide +kernel), List.mem_of_getElem? (i := 744) (by decide +kernel), List.mem_of_getElem? (i := 745) (by decide +kernel)⟩
theorem lw_p35 : lw_okq (⟨"ClockWakersModel", "soundOf", "(I)I"⟩, 30) := ⟨⟨by decide +kernel, by decide +kernel⟩, List.mem_of_getElem? (i := 582) (by decide +kernel), List.mem_of_getElem? (i := 748) (by decide +kernel), List.mem_of_getElem? (i := 749) (by decide +kernel)⟩
theorem lw_p36 : lw_okq (⟨"ClockWakersModel", "isClock", "(I)Z"⟩, 30) := ⟨⟨by decide +kernel, by decide +kernel⟩, List.mem_of_getElem? (i := 582) (by decide +kernel), List.mem_of_getElem? (i := 759) (by decide +kernel), List.mem_of_getElem? (i := 760) (by decide +kernel)⟩
theorem lw_p37 : lw_okq (⟨"ClockWakersModel", "wakersOf", "(II)I"⟩, 30) := ⟨⟨by decide +kernel, by decide +kernel⟩, List.mem_of_getElem? (i := 582) (by decide +kernel), List.mem_of_getElem? (i := 763) (by decide +kernel), List.mem_of_getElem? (i := 764) (by decide +kernel)⟩
theorem lw_p38 : lw_okq (⟨"ClockWakersModel", "ownerFrom", "(II)I"⟩, 30) := ⟨⟨by decide +kernel, by decide +kernel⟩, List.mem_of_getElem? (i := 582) (by decide +kernel), List.mem_of_getElem? (i := 767) (by decide +kernel), List.mem_of_getElem? (i := 768) (by decide +kernel)⟩
theorem lw_p39 : lw_okq (⟨"ClockWakersModel", "strikes", "(I)I"⟩, 30) := ⟨⟨by decide +kernel, by decide +kernel⟩, List.mem_of_getElem? (i := 582) (by decide +kernel), List.mem_of_getElem? (i := 792) (by decide +kernel), List.mem_of_getElem? (i := 793) (by decide +kernel)⟩
theorem lw_p40 : lw_okq (⟨"ClockWakersModel", "keep", "()V"⟩, 30) := ⟨⟨by decide +kernel, by decide +kernel⟩, List.mem_of_getElem? (i := 582) (by decide +kernel), List.mem_of_getElem? (i := 800) (by decide +kernel), List.mem_of_getElem? (i := 801) (by decide +kernel)⟩
theorem lw_p41 : lw_okq (⟨"ClockWakersModel", "oneNight", "()V"⟩, 30) := ⟨⟨by decide +kernel, by decide +kernel⟩, List.mem_of_getElem? (i := 582) (by decide +kernel), List.mem_of_getElem? (i := 804) (by decide +kernel), List.mem_of_getElem? (i := 805) (by decide +kernel)⟩
theorem lw_p42 : lw_okq (⟨"ClockWakersModel", "elsewhere", "()I"⟩, 30) := ⟨⟨by decide +kernel, by decide +kernel⟩, List.mem_of_getElem? (i := 582) (by decide +kernel), List.mem_of_getElem? (i := 808) (by decide +kernel), List.mem_of_getElem? (i := 809) (by decide +kernel)⟩
theorem lw_p43 : lw_okq (⟨"ClockWakersModel", "refusesPair", "(II)I"⟩, 30) := ⟨⟨by decide +kernel, by decide +kernel⟩, List.mem_of_getElem? (i := 582) (by decide +kernel), List.mem_of_getElem? (i := 831) (by decide +kernel), List.mem_of_getElem? (i := 832) (by decide +kernel)⟩
theorem lw_p44 : lw_okq (⟨"ClockWakersModel", "goSeason", "(II)I"⟩, 30) := ⟨⟨by decide +kernel, by decide +kernel⟩, List.mem_of_getElem? (i := 582) (by decide +kernel), List.mem_of_getElem? (i := 835) (by decide +kernel), List.mem_of_getElem? (i := 836) (by decide +kernel)⟩
theorem lw_p45 : lw_okq (⟨"ClockWakersModel", "does", "(II)Z"⟩, 30) := ⟨⟨by decide +kernel, by decide +kernel⟩, List.mem_of_getElem? (i := 582) (by decide +kernel), List.mem_of_getElem? (i := 839) (by decide +kernel), List.mem_of_getElem? (i := 840) (by decide +kernel)⟩
theorem lw_p46 : lw_okq (⟨"ClockWakersModel", "tellSeason", "(I)I"⟩, 30) := ⟨⟨by decide +kernel, by decide +kernel⟩, List.mem_of_getElem? (i := 582) (by decide +kernel), List.mem_of_getElem? (i := 843) (by decide +kernel), List.mem_of_getElem? (i := 844) (by decide +kernel)⟩
theorem lw_p47 : lw_okq (⟨"ClockWakersModel", "putBack", "()V"⟩, 30) := ⟨⟨by decide +kernel, by decide +kernel⟩, List.mem_of_getElem? (i := 582) (by decide +kernel), List.mem_of_getElem? (i := 847) (by decide +kernel), List.mem_of_getElem? (i := 848) (by decide +kernel)⟩
def lw_privs_3 : List (MethodName × Nat) := [(⟨"ClockWakersModel", "needsOf", "(I)I"⟩, 30), (⟨"ClockWakersModel", "wakesFrom", "(III)Z"⟩, 30), (⟨"ClockWakersModel", "heardFrom", "(III)I"⟩, 30), (⟨"ClockWakersModel", "soundOf", "(I)I"⟩, 30), (⟨"ClockWakersModel", "isClock", "(I)Z"⟩, 30), (⟨"ClockWakersModel", "wakersOf", "(II)I"⟩, 30), (⟨"ClockWakersModel", "ownerFrom", "(II)I"⟩, 30), (⟨"ClockWakersModel", "strikes", "(I)I"⟩, 30), (⟨"ClockWakersModel", "keep", "()V"⟩, 30), (⟨"ClockWakersModel", "oneNight", "()V"⟩, 30), (⟨"ClockWakersModel", "elsewhere", "()I"⟩, 30), (⟨"ClockWakersModel", "refusesPair", "(II)I"⟩, 30), (⟨"ClockWakersModel", "goSeason", "(II)I"⟩, 30), (⟨"ClockWakersModel", "does", "(II)Z"⟩, 30), (⟨"ClockWakersModel", "tellSeason", "(I)I"⟩, 30), (⟨"ClockWakersModel", "putBack", "()V"⟩, 30)]
theorem lw_r3 : ∀ q ∈ lw_privs_3, lw_okq q := List.forall_mem_cons.mpr ⟨lw_p32, List.forall_mem_cons.mpr ⟨lw_p33, List.forall_mem_cons.mpr ⟨lw_p34, List.forall_mem_cons.mpr ⟨lw_p35, List.forall_mem_cons.mpr ⟨lw_p36, List.forall_mem_cons.mpr ⟨lw_p37, List.forall_mem_cons.mpr ⟨lw_p38, List.forall_mem_cons.mpr ⟨lw_p39, List.forall_mem_cons.mpr ⟨lw_p40, List.forall_mem_cons.mpr ⟨lw_p41, List.forall_mem_cons.mpr ⟨lw_p42, List.forall_mem_cons.mpr ⟨lw_p43, List.forall_mem_cons.mpr ⟨lw_p44, List.forall_mem_cons.mpr ⟨lw_p45, List.forall_mem_cons.mpr ⟨lw_p46, List.forall_mem_cons.mpr ⟨lw_p47, fun _ h => absurd h List.not_mem_nil⟩⟩⟩⟩⟩⟩⟩⟩⟩⟩⟩⟩⟩⟩⟩⟩
theorem lw_p48 : lw_okq (⟨"ClockWakersModel", "nextFrom", "(II)I"⟩, 30) := ⟨⟨by decide +kernel, by decide +kernel⟩, List.mem_of_getElem? (i := 582) (by decide +kernel), List.mem_of_getElem? (i := 855) (by decide +kernel), List.mem_of_getElem? (i := 856) (by decide +kernel)⟩
theorem lw_p49 : lw_okq (⟨"ClockWakersModel", "isSettled", "()Z"⟩, 30) := ⟨⟨by decide +kernel, by decide +kernel⟩, List.mem_of_getElem? (i := 582) (by decide +kernel), List.mem_of_getElem? (i := 867) (by decide +kernel), List.mem_of_getElem? (i := 868) (by decide +kernel)⟩
theorem lw_p50 : lw_okq (⟨"ClockWakersModel", "wakersBy", "(I)I"⟩, 30) := ⟨⟨by decide +kernel, by decide +kernel⟩, List.mem_of_getElem? (i := 582) (by decide +kernel), List.mem_of_getElem? (i := 875) (by decide +kernel), List.mem_of_getElem? (i := 876) (by decide +kernel)⟩
theorem lw_p51 : lw_okq (⟨"ClockWakersModel", "areSo", "()Z"⟩, 30) := ⟨⟨by decide +kernel, by decide +kernel⟩, List.mem_of_getElem? (i := 582) (by decide +kernel), List.mem_of_getElem? (i := 895) (by decide +kernel), List.mem_of_getElem? (i := 896) (by decide +kernel)⟩
theorem lw_p52 : lw_okq (⟨"ClockWakersModel", "lost", "(I)J"⟩, 30) := ⟨⟨by decide +kernel, by decide +kernel⟩, List.mem_of_getElem? (i := 582) (by decide +kernel), List.mem_of_getElem? (i := 934) (by decide +kernel), List.mem_of_getElem? (i := 935) (by decide +kernel)⟩
theorem lw_p53 : lw_okq (⟨"ClockWakersModel", "begins", "(I)V"⟩, 30) := ⟨⟨by decide +kernel, by decide +kernel⟩, List.mem_of_getElem? (i := 582) (by decide +kernel), List.mem_of_getElem? (i := 946) (by decide +kernel), List.mem_of_getElem? (i := 947) (by decide +kernel)⟩
def lw_privs_4 : List (MethodName × Nat) := [(⟨"ClockWakersModel", "nextFrom", "(II)I"⟩, 30), (⟨"ClockWakersModel", "isSettled", "()Z"⟩, 30), (⟨"ClockWakersModel", "wakersBy", "(I)I"⟩, 30), (⟨"ClockWakersModel", "areSo", "()Z"⟩, 30), (⟨"ClockWakersModel", "lost", "(I)J"⟩, 30), (⟨"ClockWakersModel", "begins", "(I)V"⟩, 30)]
theorem lw_r4 : ∀ q ∈ lw_privs_4, lw_okq q := List.forall_mem_cons.mpr ⟨lw_p48, List.forall_mem_cons.mpr ⟨lw_p49, List.forall_mem_cons.mpr ⟨lw_p50, List.forall_mem_cons.mpr ⟨lw_p51, List.forall_mem_cons.mpr ⟨lw_p52, List.forall_mem_cons.mpr ⟨lw_p53, fun _ h => absurd h List.not_mem_nil⟩⟩⟩⟩⟩⟩
def lw_privs : List (MethodName × Nat) := lw_privs_1 ++ (lw_privs_2 ++ (lw_privs_3 ++ (lw_privs_4)))
def lw_tbl : List Cond := k2_sels lw_privs ++ tables_1
theorem lw_privs_ok : ∀ q ∈ lw_privs, lw_okq q := by
  show ∀ q ∈ lw_privs_1 ++ (lw_privs_2 ++ (lw_privs_3 ++ (lw_privs_4))), lw_okq q
  exact List.forall_mem_append.mpr ⟨lw_r1, List.forall_mem_append.mpr ⟨lw_r2, List.forall_mem_append.mpr ⟨lw_r3, lw_r4⟩⟩⟩
-- ===== end of PART A; then your names; then what follows =====
end
section
/-! ===== BEGIN words of one list among another's, by their places ===== -/
theorem goodIn_r {big : List Cond} (ws : List Cond) (ps : List Nat) (hp : ws = ps.filterMap (fun i => big[i]?)) (h : ws.all goodWord = true) : GoodIn big ws := by
  intro w hw
  have h1 := List.all_eq_true.mp h w hw
  rw [hp] at hw
  obtain ⟨i, -, hi⟩ := List.mem_filterMap.mp hw
  have hm : w ∈ big := by first | exact List.mem_of_getElem? hi | exact List.getElem?_mem hi
  exact ⟨hm, good_of_word h1⟩
theorem goodIn_app {big a b : List Cond} (ha : GoodIn big a) (hb : GoodIn big b) : GoodIn big (a ++ b) := fun w h => (List.mem_append.mp h).elim (ha w) (hb w)
theorem goodIn_ca {big a b : List Cond} {c : Cond} (ha : GoodIn big (c :: a)) (hb : GoodIn big b) : GoodIn big (c :: (a ++ b)) := fun w h => (List.mem_cons.mp h).elim (fun e => ha w (List.mem_cons.mpr (Or.inl e))) (fun h => (List.mem_append.mp h).elim (fun h => ha w (List.mem_cons.mpr (Or.inr h))) (hb w))
theorem goodIn_sub {big ws : List Cond} (hm : ∀ w ∈ ws, w ∈ big) (h : ws.all goodWord = true) : GoodIn big ws := fun w hw => ⟨hm w hw, good_of_word (List.all_eq_true.mp h w hw)⟩
/-! ===== END ===== -/


/-! ===== BEGIN printed: names, fields, word lists, decode rows ===== -/
def RX0 : String := "ClockWakers$Arrangement"
def TX0 : u_T := fun k => match k with
  | 0 => ("ClockWakers$Arrangement", "best", "[I", true)
  | 1 => ("ClockWakers$Arrangement", "row", "[I", true)
  | _ => ("ClockWakers$Arrangement", "wakers", "[[I", true)
def tyX0 : Nat → FieldType := fun k => match k with
  | 0 => .array .int
  | 1 => .array .int
  | _ => .array (.array .int)
abbrev wsX00 : List Cond := u_ws RX0 TX0 3
theorem nmX0 : ∀ a, a < 3 → ∀ b, b < 3 → a ≠ b → (TX0 a).2.1 ≠ (TX0 b).2.1 := by decide +kernel
theorem tyX0_ok : ∀ k, k < 3 → parseFieldDescriptor (TX0 k).2.2.1 = some (tyX0 k) := by decide +kernel
abbrev cX0_init : ByteArray := prog_2_method_1_code
def yX0_init : MethodName := ⟨RX0, "<init>", "()V"⟩
abbrev cX0_findStillest : ByteArray := prog_2_method_2_code
def yX0_findStillest : MethodName := ⟨RX0, "findStillest", "(LClockWakers$Street;)I"⟩
abbrev cX0_wakersOfRow : ByteArray := prog_2_method_3_code
def yX0_wakersOfRow : MethodName := ⟨RX0, "wakersOfRow", "(I)I"⟩
abbrev cX0_stepRow : ByteArray := prog_2_method_4_code
def yX0_stepRow : MethodName := ⟨RX0, "stepRow", "(II)V"⟩
def RX1 : String := "ClockWakers$Readings"
def TX1 : u_T := fun k => match k with
  | 0 => ("ClockWakers$Readings", "clock", "[I", true)
  | 1 => ("ClockWakers$Readings", "place", "[I", true)
  | 2 => ("ClockWakers$Readings", "house", "[I", true)
  | 3 => ("ClockWakers$Readings", "woke", "[Z", true)
  | _ => ("ClockWakers$Readings", "count", "I", false)
def tyX1 : Nat → FieldType := fun k => match k with
  | 0 => .array .int
  | 1 => .array .int
  | 2 => .array .int
  | 3 => .array .boolean
  | _ => .int
abbrev wsX10 : List Cond := u_ws RX1 TX1 5
theorem nmX1 : ∀ a, a < 5 → ∀ b, b < 5 → a ≠ b → (TX1 a).2.1 ≠ (TX1 b).2.1 := by decide +kernel
theorem tyX1_ok : ∀ k, k < 5 → parseFieldDescriptor (TX1 k).2.2.1 = some (tyX1 k) := by decide +kernel
abbrev cX1_init : ByteArray := prog_3_method_1_code
def yX1_init : MethodName := ⟨RX1, "<init>", "()V"⟩
abbrev cX1_note : ByteArray := prog_3_method_2_code
def yX1_note : MethodName := ⟨RX1, "note", "(IIIZ)I"⟩
abbrev cX1_bitIfAllHold : ByteArray := prog_3_method_3_code
def yX1_bitIfAllHold : MethodName := ⟨RX1, "bitIfAllHold", "(LClockWakers$Street;I)I"⟩
def RX2 : String := "ClockWakers$Sheet"
def TX2 : u_T := fun k => match k with
  | 0 => ("ClockWakers$Sheet", "cells", "[I", true)
  | 1 => ("ClockWakers$Sheet", "has", "Z", false)
  | 2 => ("ClockWakers$Sheet", "lane", "I", false)
  | _ => ("ClockWakers$Sheet", "length", "I", false)
def tyX2 : Nat → FieldType := fun k => match k with
  | 0 => .array .int
  | 1 => .boolean
  | 2 => .int
  | _ => .int
abbrev wsX20 : List Cond := u_ws RX2 TX2 4
theorem nmX2 : ∀ a, a < 4 → ∀ b, b < 4 → a ≠ b → (TX2 a).2.1 ≠ (TX2 b).2.1 := by decide +kernel
theorem tyX2_ok : ∀ k, k < 4 → parseFieldDescriptor (TX2 k).2.2.1 = some (tyX2 k) := by decide +kernel
abbrev cX2_init : ByteArray := prog_4_method_1_code
def yX2_init : MethodName := ⟨RX2, "<init>", "()V"⟩
abbrev cX2_renew : ByteArray := prog_4_method_2_code
def yX2_renew : MethodName := ⟨RX2, "renew", "(II)V"⟩
abbrev cX2_faultAs : ByteArray := prog_4_method_3_code
def yX2_faultAs : MethodName := ⟨RX2, "faultAs", "(I)I"⟩
abbrev cX2_lacks : ByteArray := prog_4_method_4_code
def yX2_lacks : MethodName := ⟨RX2, "lacks", "(II)Z"⟩
abbrev cX2_cut : ByteArray := prog_4_method_5_code
def yX2_cut : MethodName := ⟨RX2, "cut", "(I)I"⟩
def RX3 : String := "ClockWakers$Street"
def TX3 : u_T := fun k => match k with
  | 0 => ("ClockWakers$Street", "kind", "[I", true)
  | 1 => ("ClockWakers$Street", "depth", "[I", true)
  | 2 => ("ClockWakers$Street", "loud", "[I", true)
  | 3 => ("ClockWakers$Street", "place", "[I", true)
  | 4 => ("ClockWakers$Street", "stuffed", "[Z", true)
  | 5 => ("ClockWakers$Street", "houses", "I", false)
  | 6 => ("ClockWakers$Street", "clocks", "I", false)
  | 7 => ("ClockWakers$Street", "thick", "I", false)
  | 8 => ("ClockWakers$Street", "carried", "I", false)
  | _ => ("ClockWakers$Street", "unheard", "I", false)
def tyX3 : Nat → FieldType := fun k => match k with
  | 0 => .array .int
  | 1 => .array .int
  | 2 => .array .int
  | 3 => .array .int
  | 4 => .array .boolean
  | 5 => .int
  | 6 => .int
  | 7 => .int
  | 8 => .int
  | _ => .int
abbrev wsX30 : List Cond := u_ws RX3 TX3 10
theorem nmX3 : ∀ a, a < 10 → ∀ b, b < 10 → a ≠ b → (TX3 a).2.1 ≠ (TX3 b).2.1 := by decide +kernel
theorem tyX3_ok : ∀ k, k < 10 → parseFieldDescriptor (TX3 k).2.2.1 = some (tyX3 k) := by decide +kernel
abbrev cX3_init : ByteArray := prog_5_method_1_code
def yX3_init : MethodName := ⟨RX3, "<init>", "()V"⟩
abbrev cX3_clear : ByteArray := prog_5_method_2_code
def yX3_clear : MethodName := ⟨RX3, "clear", "()V"⟩
abbrev cX3_become : ByteArray := prog_5_method_3_code
def yX3_become : MethodName := ⟨RX3, "become", "(LClockWakers$Street;)V"⟩
abbrev cX3_addHouse : ByteArray := prog_5_method_4_code
def yX3_addHouse : MethodName := ⟨RX3, "addHouse", "(II)V"⟩
abbrev cX3_addClock : ByteArray := prog_5_method_5_code
def yX3_addClock : MethodName := ⟨RX3, "addClock", "(II)V"⟩
abbrev cX3_stands : ByteArray := prog_5_method_6_code
def yX3_stands : MethodName := ⟨RX3, "stands", "()Z"⟩
abbrev cX3_hasHouse : ByteArray := prog_5_method_7_code
def yX3_hasHouse : MethodName := ⟨RX3, "hasHouse", "(I)Z"⟩
abbrev cX3_hasClock : ByteArray := prog_5_method_8_code
def yX3_hasClock : MethodName := ⟨RX3, "hasClock", "(I)Z"⟩
abbrev cX3_needs : ByteArray := prog_5_method_9_code
def yX3_needs : MethodName := ⟨RX3, "needs", "(I)I"⟩
abbrev cX3_sound : ByteArray := prog_5_method_10_code
def yX3_sound : MethodName := ⟨RX3, "sound", "(I)I"⟩
abbrev cX3_soundIf : ByteArray := prog_5_method_11_code
def yX3_soundIf : MethodName := ⟨RX3, "soundIf", "(IZ)I"⟩
abbrev cX3_heard : ByteArray := prog_5_method_12_code
def yX3_heard : MethodName := ⟨RX3, "heard", "(III)I"⟩
abbrev cX3_spare : ByteArray := prog_5_method_13_code
def yX3_spare : MethodName := ⟨RX3, "spare", "(II)I"⟩
abbrev cX3_wakes : ByteArray := prog_5_method_14_code
def yX3_wakes : MethodName := ⟨RX3, "wakes", "(III)Z"⟩
abbrev cX3_wakers : ByteArray := prog_5_method_15_code
def yX3_wakers : MethodName := ⟨RX3, "wakers", "(II)I"⟩
abbrev cX3_owner : ByteArray := prog_5_method_16_code
def yX3_owner : MethodName := ⟨RX3, "owner", "(II)I"⟩
abbrev cX3_placeAfterStroke : ByteArray := prog_5_method_17_code
def yX3_placeAfterStroke : MethodName := ⟨RX3, "placeAfterStroke", "(II)I"⟩
abbrev cX3_strike : ByteArray := prog_5_method_18_code
def yX3_strike : MethodName := ⟨RX3, "strike", "(I)I"⟩
abbrev cX3_passNights : ByteArray := prog_5_method_19_code
def yX3_passNights : MethodName := ⟨RX3, "passNights", "(I)V"⟩
abbrev cX3_clocksIn : ByteArray := prog_5_method_20_code
def yX3_clocksIn : MethodName := ⟨RX3, "clocksIn", "(I)I"⟩
abbrev cX3_clocksWaking : ByteArray := prog_5_method_21_code
def yX3_clocksWaking : MethodName := ⟨RX3, "clocksWaking", "(I)I"⟩
abbrev cX3_stuffedClocks : ByteArray := prog_5_method_22_code
def yX3_stuffedClocks : MethodName := ⟨RX3, "stuffedClocks", "()I"⟩
abbrev cX3_housesWithClocks : ByteArray := prog_5_method_23_code
def yX3_housesWithClocks : MethodName := ⟨RX3, "housesWithClocks", "()I"⟩
def RX4 : String := "ClockWakers$Text"
def TX4 : u_T := fun k => match k with
  | 0 => ("ClockWakers$Text", "codes", "[I", true)
  | 1 => ("ClockWakers$Text", "count", "I", false)
  | _ => ("ClockWakers$Text", "at", "I", false)
def tyX4 : Nat → FieldType := fun k => match k with
  | 0 => .array .int
  | 1 => .int
  | _ => .int
abbrev wsX40 : List Cond := u_ws RX4 TX4 3
theorem nmX4 : ∀ a, a < 3 → ∀ b, b < 3 → a ≠ b → (TX4 a).2.1 ≠ (TX4 b).2.1 := by decide +kernel
theorem tyX4_ok : ∀ k, k < 3 → parseFieldDescriptor (TX4 k).2.2.1 = some (tyX4 k) := by decide +kernel
abbrev cX4_init : ByteArray := prog_6_method_1_code
def yX4_init : MethodName := ⟨RX4, "<init>", "()V"⟩
abbrev cX4_read : ByteArray := prog_6_method_2_code
def yX4_read : MethodName := ⟨RX4, "read", "(LClockWakers$Sheet;IILClockWakers$Street;)I"⟩
abbrev cX4_readWall : ByteArray := prog_6_method_3_code
def yX4_readWall : MethodName := ⟨RX4, "readWall", "(LClockWakers$Street;)Z"⟩
abbrev cX4_readHouses : ByteArray := prog_6_method_4_code
def yX4_readHouses : MethodName := ⟨RX4, "readHouses", "(LClockWakers$Street;)Z"⟩
abbrev cX4_readClocks : ByteArray := prog_6_method_5_code
def yX4_readClocks : MethodName := ⟨RX4, "readClocks", "(LClockWakers$Street;)Z"⟩
abbrev cX4_takeSign : ByteArray := prog_6_method_6_code
def yX4_takeSign : MethodName := ⟨RX4, "takeSign", "(C)Z"⟩
abbrev cX4_takeDigit : ByteArray := prog_6_method_7_code
def yX4_takeDigit : MethodName := ⟨RX4, "takeDigit", "(II)I"⟩
abbrev cX4_takeKind : ByteArray := prog_6_method_8_code
def yX4_takeKind : MethodName := ⟨RX4, "takeKind", "()I"⟩
def RX5 : String := "ClockWakers"
def TX5 : u_T := fun k => match k with
  | 0 => ("ClockWakers", "now", "LClockWakers$Street;", true)
  | 1 => ("ClockWakers", "trial", "LClockWakers$Street;", true)
  | 2 => ("ClockWakers", "text", "LClockWakers$Text;", true)
  | 3 => ("ClockWakers", "readings", "LClockWakers$Readings;", true)
  | 4 => ("ClockWakers", "arrangement", "LClockWakers$Arrangement;", true)
  | 5 => ("ClockWakers", "sheets", "[LClockWakers$Sheet;", true)
  | 6 => ("ClockWakers", "strokesUntil", "[I", true)
  | 7 => ("ClockWakers", "night", "I", false)
  | 8 => ("ClockWakers", "traceLeft", "I", false)
  | _ => ("ClockWakers", "latestFault", "I", false)
def tyX5 : Nat → FieldType := fun k => match k with
  | 0 => .object "ClockWakers$Street"
  | 1 => .object "ClockWakers$Street"
  | 2 => .object "ClockWakers$Text"
  | 3 => .object "ClockWakers$Readings"
  | 4 => .object "ClockWakers$Arrangement"
  | 5 => .array (.object "ClockWakers$Sheet")
  | 6 => .array .int
  | 7 => .int
  | 8 => .int
  | _ => .int
abbrev wsX50 : List Cond := u_ws RX5 TX5 10
theorem nmX5 : ∀ a, a < 10 → ∀ b, b < 10 → a ≠ b → (TX5 a).2.1 ≠ (TX5 b).2.1 := by decide +kernel
theorem tyX5_ok : ∀ k, k < 10 → parseFieldDescriptor (TX5 k).2.2.1 = some (tyX5 k) := by decide +kernel
abbrev cX5_init : ByteArray := prog_1_method_1_code
def yX5_init : MethodName := ⟨RX5, "<init>", "()V"⟩
abbrev cX5_street : ByteArray := prog_1_method_2_code
def yX5_street : MethodName := ⟨RX5, "street", "(IIII)I"⟩
abbrev cX5_ofHouse : ByteArray := prog_1_method_3_code
def yX5_ofHouse : MethodName := ⟨RX5, "ofHouse", "(II)I"⟩
abbrev cX5_ofClock : ByteArray := prog_1_method_4_code
def yX5_ofClock : MethodName := ⟨RX5, "ofClock", "(II)I"⟩
abbrev cX5_drowse : ByteArray := prog_1_method_5_code
def yX5_drowse : MethodName := ⟨RX5, "drowse", "(II)I"⟩
abbrev cX5_tune : ByteArray := prog_1_method_6_code
def yX5_tune : MethodName := ⟨RX5, "tune", "(II)I"⟩
abbrev cX5_wall : ByteArray := prog_1_method_7_code
def yX5_wall : MethodName := ⟨RX5, "wall", "(I)I"⟩
abbrev cX5_hears : ByteArray := prog_1_method_8_code
def yX5_hears : MethodName := ⟨RX5, "hears", "(II)J"⟩
abbrev cX5_stroke : ByteArray := prog_1_method_9_code
def yX5_stroke : MethodName := ⟨RX5, "stroke", "(I)I"⟩
abbrev cX5_nights : ByteArray := prog_1_method_10_code
def yX5_nights : MethodName := ⟨RX5, "nights", "(I)I"⟩
abbrev cX5_stuff : ByteArray := prog_1_method_11_code
def yX5_stuff : MethodName := ⟨RX5, "stuff", "(I)I"⟩
abbrev cX5_ease : ByteArray := prog_1_method_12_code
def yX5_ease : MethodName := ⟨RX5, "ease", "(I)I"⟩
abbrev cX5_carry : ByteArray := prog_1_method_13_code
def yX5_carry : MethodName := ⟨RX5, "carry", "(II)I"⟩
abbrev cX5_season : ByteArray := prog_1_method_14_code
def yX5_season : MethodName := ⟨RX5, "season", "(IIIII)I"⟩
abbrev cX5_round : ByteArray := prog_1_method_15_code
def yX5_round : MethodName := ⟨RX5, "round", "(II)I"⟩
abbrev cX5_from : ByteArray := prog_1_method_16_code
def yX5_from : MethodName := ⟨RX5, "from", "(II)I"⟩
abbrev cX5_settle : ByteArray := prog_1_method_17_code
def yX5_settle : MethodName := ⟨RX5, "settle", "()I"⟩
abbrev cX5_still : ByteArray := prog_1_method_18_code
def yX5_still : MethodName := ⟨RX5, "still", "(I)I"⟩
abbrev cX5_hush : ByteArray := prog_1_method_19_code
def yX5_hush : MethodName := ⟨RX5, "hush", "(I)I"⟩
abbrev cX5_reading : ByteArray := prog_1_method_20_code
def yX5_reading : MethodName := ⟨RX5, "reading", "(IIII)I"⟩
abbrev cX5_back : ByteArray := prog_1_method_21_code
def yX5_back : MethodName := ⟨RX5, "back", "(I)I"⟩
abbrev cX5_depths : ByteArray := prog_1_method_22_code
def yX5_depths : MethodName := ⟨RX5, "depths", "(I)I"⟩
abbrev cX5_kinds : ByteArray := prog_1_method_23_code
def yX5_kinds : MethodName := ⟨RX5, "kinds", "(I)I"⟩
abbrev cX5_louds : ByteArray := prog_1_method_24_code
def yX5_louds : MethodName := ⟨RX5, "louds", "(I)I"⟩
abbrev cX5_walls : ByteArray := prog_1_method_25_code
def yX5_walls : MethodName := ⟨RX5, "walls", "()I"⟩
abbrev cX5_odds : ByteArray := prog_1_method_26_code
def yX5_odds : MethodName := ⟨RX5, "odds", "(II)J"⟩
abbrev cX5_sheet : ByteArray := prog_1_method_27_code
def yX5_sheet : MethodName := ⟨RX5, "sheet", "(III)I"⟩
abbrev cX5_lose : ByteArray := prog_1_method_28_code
def yX5_lose : MethodName := ⟨RX5, "lose", "(I)I"⟩
abbrev cX5_put : ByteArray := prog_1_method_29_code
def yX5_put : MethodName := ⟨RX5, "put", "(III)I"⟩
abbrev cX5_cell : ByteArray := prog_1_method_30_code
def yX5_cell : MethodName := ⟨RX5, "cell", "(III)J"⟩
abbrev cX5_copy : ByteArray := prog_1_method_31_code
def yX5_copy : MethodName := ⟨RX5, "copy", "(IIIII)I"⟩
abbrev cX5_tell : ByteArray := prog_1_method_32_code
def yX5_tell : MethodName := ⟨RX5, "tell", "(I)I"⟩
abbrev cX5_call : ByteArray := prog_1_method_33_code
def yX5_call : MethodName := ⟨RX5, "call", "(I)I"⟩
abbrev cX5_as : ByteArray := prog_1_method_34_code
def yX5_as : MethodName := ⟨RX5, "as", "(II)I"⟩
abbrev cX5_trace : ByteArray := prog_1_method_35_code
def yX5_trace : MethodName := ⟨RX5, "trace", "()I"⟩
abbrev cX5_fault : ByteArray := prog_1_method_36_code
def yX5_fault : MethodName := ⟨RX5, "fault", "()I"⟩
abbrev cX5_many : ByteArray := prog_1_method_37_code
def yX5_many : MethodName := ⟨RX5, "many", "(I)I"⟩
abbrev cX5_isSheet : ByteArray := prog_1_method_38_code
def yX5_isSheet : MethodName := ⟨RX5, "isSheet", "(I)Z"⟩
abbrev cX5_isLane : ByteArray := prog_1_method_39_code
def yX5_isLane : MethodName := ⟨RX5, "isLane", "(I)Z"⟩
abbrev cX5_faulty : ByteArray := prog_1_method_40_code
def yX5_faulty : MethodName := ⟨RX5, "faulty", "(I)I"⟩
abbrev cX5_commonDivisor : ByteArray := prog_1_method_41_code
def yX5_commonDivisor : MethodName := ⟨RX5, "commonDivisor", "(II)I"⟩
abbrev cX5_isAskedOfSeason : ByteArray := prog_1_method_42_code
def yX5_isAskedOfSeason : MethodName := ⟨RX5, "isAskedOfSeason", "(I)Z"⟩
abbrev cX5_refusalOfActs : ByteArray := prog_1_method_43_code
def yX5_refusalOfActs : MethodName := ⟨RX5, "refusalOfActs", "(LClockWakers$Sheet;II)I"⟩
abbrev cX5_refusalOfAct : ByteArray := prog_1_method_44_code
def yX5_refusalOfAct : MethodName := ⟨RX5, "refusalOfAct", "(II)I"⟩
abbrev cX5_playOnTrial : ByteArray := prog_1_method_45_code
def yX5_playOnTrial : MethodName := ⟨RX5, "playOnTrial", "(LClockWakers$Sheet;II)I"⟩
abbrev cX5_canAct : ByteArray := prog_1_method_46_code
def yX5_canAct : MethodName := ⟨RX5, "canAct", "(II)Z"⟩
abbrev cX5_canTurn : ByteArray := prog_1_method_47_code
def yX5_canTurn : MethodName := ⟨RX5, "canTurn", "(IZ)Z"⟩
abbrev cX5_canCarry : ByteArray := prog_1_method_48_code
def yX5_canCarry : MethodName := ⟨RX5, "canCarry", "(II)Z"⟩
abbrev cX5_answerOfTrial : ByteArray := prog_1_method_49_code
def yX5_answerOfTrial : MethodName := ⟨RX5, "answerOfTrial", "(I)I"⟩
abbrev cX5_leave : ByteArray := prog_1_method_50_code
def yX5_leave : MethodName := ⟨RX5, "leave", "(I)V"⟩
abbrev cX5_sleeperTells : ByteArray := prog_1_method_51_code
def yX5_sleeperTells : MethodName := ⟨RX5, "sleeperTells", "(I)I"⟩
abbrev cX5_nervousTells : ByteArray := prog_1_method_52_code
def yX5_nervousTells : MethodName := ⟨RX5, "nervousTells", "(I)I"⟩
abbrev cX5_babyTells : ByteArray := prog_1_method_53_code
def yX5_babyTells : MethodName := ⟨RX5, "babyTells", "(I)I"⟩
abbrev cX5_sleeperIsCalled : ByteArray := prog_1_method_54_code
def yX5_sleeperIsCalled : MethodName := ⟨RX5, "sleeperIsCalled", "(I)I"⟩
abbrev cX5_babyIsCalled : ByteArray := prog_1_method_55_code
def yX5_babyIsCalled : MethodName := ⟨RX5, "babyIsCalled", "()I"⟩
def RX6 : String := "ClockWakersModel"
def TX6 : u_T := fun k => match k with
  | 0 => ("ClockWakersModel", "fault", "I", false)
  | 1 => ("ClockWakersModel", "trace", "I", false)
  | 2 => ("ClockWakersModel", "sorts", "[I", true)
  | 3 => ("ClockWakersModel", "sheetLong", "[I", true)
  | 4 => ("ClockWakersModel", "cells", "[I", true)
  | 5 => ("ClockWakersModel", "wallThick", "I", false)
  | 6 => ("ClockWakersModel", "houses", "I", false)
  | 7 => ("ClockWakersModel", "clocks", "I", false)
  | 8 => ("ClockWakersModel", "night", "I", false)
  | 9 => ("ClockWakersModel", "stuffed", "I", false)
  | 10 => ("ClockWakersModel", "kind", "[I", true)
  | 11 => ("ClockWakersModel", "depth", "[I", true)
  | 12 => ("ClockWakersModel", "loud", "[I", true)
  | 13 => ("ClockWakersModel", "stands", "[I", true)
  | 14 => ("ClockWakersModel", "at", "I", false)
  | 15 => ("ClockWakersModel", "readWall", "I", false)
  | 16 => ("ClockWakersModel", "readHouses", "I", false)
  | 17 => ("ClockWakersModel", "readClocks", "I", false)
  | 18 => ("ClockWakersModel", "readHouse", "[I", true)
  | 19 => ("ClockWakersModel", "readClock", "[I", true)
  | 20 => ("ClockWakersModel", "moves", "I", false)
  | 21 => ("ClockWakersModel", "unheard", "I", false)
  | 22 => ("ClockWakersModel", "keptStands", "[I", true)
  | 23 => ("ClockWakersModel", "wasAt", "[I", true)
  | 24 => ("ClockWakersModel", "row", "[I", true)
  | 25 => ("ClockWakersModel", "readings", "I", false)
  | 26 => ("ClockWakersModel", "readWhich", "[I", true)
  | 27 => ("ClockWakersModel", "readAt", "[I", true)
  | 28 => ("ClockWakersModel", "readWho", "[I", true)
  | _ => ("ClockWakersModel", "readWoke", "[I", true)
def tyX6 : Nat → FieldType := fun k => match k with
  | 0 => .int
  | 1 => .int
  | 2 => .array .int
  | 3 => .array .int
  | 4 => .array .int
  | 5 => .int
  | 6 => .int
  | 7 => .int
  | 8 => .int
  | 9 => .int
  | 10 => .array .int
  | 11 => .array .int
  | 12 => .array .int
  | 13 => .array .int
  | 14 => .int
  | 15 => .int
  | 16 => .int
  | 17 => .int
  | 18 => .array .int
  | 19 => .array .int
  | 20 => .int
  | 21 => .int
  | 22 => .array .int
  | 23 => .array .int
  | 24 => .array .int
  | 25 => .int
  | 26 => .array .int
  | 27 => .array .int
  | 28 => .array .int
  | _ => .array .int
abbrev wsX60 : List Cond := u_ws RX6 TX6 30
theorem nmX6 : ∀ a, a < 30 → ∀ b, b < 30 → a ≠ b → (TX6 a).2.1 ≠ (TX6 b).2.1 := by decide +kernel
theorem tyX6_ok : ∀ k, k < 30 → parseFieldDescriptor (TX6 k).2.2.1 = some (tyX6 k) := by decide +kernel
abbrev cX6_init : ByteArray := prog_8_method_1_code
def yX6_init : MethodName := ⟨RX6, "<init>", "()V"⟩
abbrev cX6_fails : ByteArray := prog_8_method_3_code
def yX6_fails : MethodName := ⟨RX6, "fails", "(I)I"⟩
abbrev cX6_lost : ByteArray := prog_8_method_4_code
def yX6_lost : MethodName := ⟨RX6, "lost", "(I)J"⟩
abbrev cX6_within : ByteArray := prog_8_method_5_code
def yX6_within : MethodName := ⟨RX6, "within", "(III)Z"⟩
abbrev cX6_isSheet : ByteArray := prog_8_method_6_code
def yX6_isSheet : MethodName := ⟨RX6, "isSheet", "(I)Z"⟩
abbrev cX6_isSort : ByteArray := prog_8_method_7_code
def yX6_isSort : MethodName := ⟨RX6, "isSort", "(I)Z"⟩
abbrev cX6_against : ByteArray := prog_8_method_8_code
def yX6_against : MethodName := ⟨RX6, "against", "(IIII)I"⟩
abbrev cX6_isHouse : ByteArray := prog_8_method_9_code
def yX6_isHouse : MethodName := ⟨RX6, "isHouse", "(I)Z"⟩
abbrev cX6_isClock : ByteArray := prog_8_method_10_code
def yX6_isClock : MethodName := ⟨RX6, "isClock", "(I)Z"⟩
abbrev cX6_isOf : ByteArray := prog_8_method_11_code
def yX6_isOf : MethodName := ⟨RX6, "isOf", "(II)Z"⟩
abbrev cX6_size : ByteArray := prog_8_method_12_code
def yX6_size : MethodName := ⟨RX6, "size", "(I)I"⟩
abbrev cX6_digit : ByteArray := prog_8_method_13_code
def yX6_digit : MethodName := ⟨RX6, "digit", "(III)I"⟩
abbrev cX6_isNext : ByteArray := prog_8_method_14_code
def yX6_isNext : MethodName := ⟨RX6, "isNext", "(II)Z"⟩
abbrev cX6_isSign : ByteArray := prog_8_method_15_code
def yX6_isSign : MethodName := ⟨RX6, "isSign", "(II)Z"⟩
abbrev cX6_street : ByteArray := prog_8_method_16_code
def yX6_street : MethodName := ⟨RX6, "street", "(IIII)I"⟩
abbrev cX6_takeStreet : ByteArray := prog_8_method_17_code
def yX6_takeStreet : MethodName := ⟨RX6, "takeStreet", "()V"⟩
abbrev cX6_readStreet : ByteArray := prog_8_method_18_code
def yX6_readStreet : MethodName := ⟨RX6, "readStreet", "(I)Z"⟩
abbrev cX6_readTheHouse : ByteArray := prog_8_method_19_code
def yX6_readTheHouse : MethodName := ⟨RX6, "readTheHouse", "(I)Z"⟩
abbrev cX6_readTheClock : ByteArray := prog_8_method_20_code
def yX6_readTheClock : MethodName := ⟨RX6, "readTheClock", "(I)Z"⟩
abbrev cX6_needsOf : ByteArray := prog_8_method_21_code
def yX6_needsOf : MethodName := ⟨RX6, "needsOf", "(I)I"⟩
abbrev cX6_soundOf : ByteArray := prog_8_method_22_code
def yX6_soundOf : MethodName := ⟨RX6, "soundOf", "(I)I"⟩
abbrev cX6_heardFrom : ByteArray := prog_8_method_23_code
def yX6_heardFrom : MethodName := ⟨RX6, "heardFrom", "(III)I"⟩
abbrev cX6_wakesFrom : ByteArray := prog_8_method_24_code
def yX6_wakesFrom : MethodName := ⟨RX6, "wakesFrom", "(III)Z"⟩
abbrev cX6_ownerFrom : ByteArray := prog_8_method_25_code
def yX6_ownerFrom : MethodName := ⟨RX6, "ownerFrom", "(II)I"⟩
abbrev cX6_wakersOf : ByteArray := prog_8_method_26_code
def yX6_wakersOf : MethodName := ⟨RX6, "wakersOf", "(II)I"⟩
abbrev cX6_ofHouse : ByteArray := prog_8_method_27_code
def yX6_ofHouse : MethodName := ⟨RX6, "ofHouse", "(II)I"⟩
abbrev cX6_ofClock : ByteArray := prog_8_method_28_code
def yX6_ofClock : MethodName := ⟨RX6, "ofClock", "(II)I"⟩
abbrev cX6_drowse : ByteArray := prog_8_method_29_code
def yX6_drowse : MethodName := ⟨RX6, "drowse", "(II)I"⟩
abbrev cX6_tune : ByteArray := prog_8_method_30_code
def yX6_tune : MethodName := ⟨RX6, "tune", "(II)I"⟩
abbrev cX6_wall : ByteArray := prog_8_method_31_code
def yX6_wall : MethodName := ⟨RX6, "wall", "(I)I"⟩
abbrev cX6_hears : ByteArray := prog_8_method_32_code
def yX6_hears : MethodName := ⟨RX6, "hears", "(II)J"⟩
abbrev cX6_strikes : ByteArray := prog_8_method_33_code
def yX6_strikes : MethodName := ⟨RX6, "strikes", "(I)I"⟩
abbrev cX6_oneNight : ByteArray := prog_8_method_34_code
def yX6_oneNight : MethodName := ⟨RX6, "oneNight", "()V"⟩
abbrev cX6_stroke : ByteArray := prog_8_method_35_code
def yX6_stroke : MethodName := ⟨RX6, "stroke", "(I)I"⟩
abbrev cX6_keep : ByteArray := prog_8_method_36_code
def yX6_keep : MethodName := ⟨RX6, "keep", "()V"⟩
abbrev cX6_putBack : ByteArray := prog_8_method_37_code
def yX6_putBack : MethodName := ⟨RX6, "putBack", "()V"⟩
abbrev cX6_elsewhere : ByteArray := prog_8_method_38_code
def yX6_elsewhere : MethodName := ⟨RX6, "elsewhere", "()I"⟩
abbrev cX6_nights : ByteArray := prog_8_method_39_code
def yX6_nights : MethodName := ⟨RX6, "nights", "(I)I"⟩
abbrev cX6_stuff : ByteArray := prog_8_method_40_code
def yX6_stuff : MethodName := ⟨RX6, "stuff", "(I)I"⟩
abbrev cX6_ease : ByteArray := prog_8_method_41_code
def yX6_ease : MethodName := ⟨RX6, "ease", "(I)I"⟩
abbrev cX6_carry : ByteArray := prog_8_method_42_code
def yX6_carry : MethodName := ⟨RX6, "carry", "(II)I"⟩
abbrev cX6_does : ByteArray := prog_8_method_43_code
def yX6_does : MethodName := ⟨RX6, "does", "(II)Z"⟩
abbrev cX6_goSeason : ByteArray := prog_8_method_44_code
def yX6_goSeason : MethodName := ⟨RX6, "goSeason", "(II)I"⟩
abbrev cX6_refusesPair : ByteArray := prog_8_method_45_code
def yX6_refusesPair : MethodName := ⟨RX6, "refusesPair", "(II)I"⟩
abbrev cX6_season : ByteArray := prog_8_method_46_code
def yX6_season : MethodName := ⟨RX6, "season", "(IIIII)I"⟩
abbrev cX6_tellSeason : ByteArray := prog_8_method_47_code
def yX6_tellSeason : MethodName := ⟨RX6, "tellSeason", "(I)I"⟩
abbrev cX6_nextFrom : ByteArray := prog_8_method_48_code
def yX6_nextFrom : MethodName := ⟨RX6, "nextFrom", "(II)I"⟩
abbrev cX6_round : ByteArray := prog_8_method_49_code
def yX6_round : MethodName := ⟨RX6, "round", "(II)I"⟩
abbrev cX6_from : ByteArray := prog_8_method_50_code
def yX6_from : MethodName := ⟨RX6, "from", "(II)I"⟩
abbrev cX6_isSettled : ByteArray := prog_8_method_51_code
def yX6_isSettled : MethodName := ⟨RX6, "isSettled", "()Z"⟩
abbrev cX6_settle : ByteArray := prog_8_method_52_code
def yX6_settle : MethodName := ⟨RX6, "settle", "()I"⟩
abbrev cX6_wakersBy : ByteArray := prog_8_method_53_code
def yX6_wakersBy : MethodName := ⟨RX6, "wakersBy", "(I)I"⟩
abbrev cX6_still : ByteArray := prog_8_method_54_code
def yX6_still : MethodName := ⟨RX6, "still", "(I)I"⟩
abbrev cX6_hush : ByteArray := prog_8_method_55_code
def yX6_hush : MethodName := ⟨RX6, "hush", "(I)I"⟩
abbrev cX6_reading : ByteArray := prog_8_method_56_code
def yX6_reading : MethodName := ⟨RX6, "reading", "(IIII)I"⟩
abbrev cX6_back : ByteArray := prog_8_method_57_code
def yX6_back : MethodName := ⟨RX6, "back", "(I)I"⟩
abbrev cX6_areSo : ByteArray := prog_8_method_58_code
def yX6_areSo : MethodName := ⟨RX6, "areSo", "()Z"⟩
abbrev cX6_depths : ByteArray := prog_8_method_59_code
def yX6_depths : MethodName := ⟨RX6, "depths", "(I)I"⟩
abbrev cX6_kinds : ByteArray := prog_8_method_60_code
def yX6_kinds : MethodName := ⟨RX6, "kinds", "(I)I"⟩
abbrev cX6_louds : ByteArray := prog_8_method_61_code
def yX6_louds : MethodName := ⟨RX6, "louds", "(I)I"⟩
abbrev cX6_walls : ByteArray := prog_8_method_62_code
def yX6_walls : MethodName := ⟨RX6, "walls", "()I"⟩
abbrev cX6_inLeastTerms : ByteArray := prog_8_method_63_code
def yX6_inLeastTerms : MethodName := ⟨RX6, "inLeastTerms", "(JJI)J"⟩
abbrev cX6_odds : ByteArray := prog_8_method_64_code
def yX6_odds : MethodName := ⟨RX6, "odds", "(II)J"⟩
abbrev cX6_sheet : ByteArray := prog_8_method_65_code
def yX6_sheet : MethodName := ⟨RX6, "sheet", "(III)I"⟩
abbrev cX6_lose : ByteArray := prog_8_method_66_code
def yX6_lose : MethodName := ⟨RX6, "lose", "(I)I"⟩
abbrev cX6_put : ByteArray := prog_8_method_67_code
def yX6_put : MethodName := ⟨RX6, "put", "(III)I"⟩
abbrev cX6_cell : ByteArray := prog_8_method_68_code
def yX6_cell : MethodName := ⟨RX6, "cell", "(III)J"⟩
abbrev cX6_copy : ByteArray := prog_8_method_69_code
def yX6_copy : MethodName := ⟨RX6, "copy", "(IIIII)I"⟩
abbrev cX6_begins : ByteArray := prog_8_method_70_code
def yX6_begins : MethodName := ⟨RX6, "begins", "(I)V"⟩
abbrev cX6_tell : ByteArray := prog_8_method_71_code
def yX6_tell : MethodName := ⟨RX6, "tell", "(I)I"⟩
abbrev cX6_call : ByteArray := prog_8_method_72_code
def yX6_call : MethodName := ⟨RX6, "call", "(I)I"⟩
abbrev cX6_as : ByteArray := prog_8_method_73_code
def yX6_as : MethodName := ⟨RX6, "as", "(II)I"⟩
abbrev cX6_trace : ByteArray := prog_8_method_74_code
def yX6_trace : MethodName := ⟨RX6, "trace", "()I"⟩
abbrev cX6_fault : ByteArray := prog_8_method_75_code
def yX6_fault : MethodName := ⟨RX6, "fault", "()I"⟩
abbrev cX6_many : ByteArray := prog_8_method_76_code
def yX6_many : MethodName := ⟨RX6, "many", "(I)I"⟩
def RJ6 : String := "java/lang/Integer"
def TJ6 : u_T := fun k => match k with
  | _ => ("", "", "", false)
def tyJ6 : Nat → FieldType := fun k => match k with
  | _ => .int
abbrev wsJ60 : List Cond := u_ws RJ6 TJ6 0
theorem nmJ6 : ∀ a, a < 0 → ∀ b, b < 0 → a ≠ b → (TJ6 a).2.1 ≠ (TJ6 b).2.1 := by decide +kernel
theorem tyJ6_ok : ∀ k, k < 0 → parseFieldDescriptor (TJ6 k).2.2.1 = some (tyJ6 k) := by decide +kernel
abbrev cJ6_bitCount_0f7a4 : ByteArray := prog_9_method_49_code
def yJ6_bitCount_0f7a4 : MethodName := ⟨RJ6, "bitCount", "(I)I"⟩
def RJ9 : String := "java/lang/Math"
def TJ9 : u_T := fun k => match k with
  | _ => ("", "", "", false)
def tyJ9 : Nat → FieldType := fun k => match k with
  | _ => .int
abbrev wsJ90 : List Cond := u_ws RJ9 TJ9 0
theorem nmJ9 : ∀ a, a < 0 → ∀ b, b < 0 → a ≠ b → (TJ9 a).2.1 ≠ (TJ9 b).2.1 := by decide +kernel
theorem tyJ9_ok : ∀ k, k < 0 → parseFieldDescriptor (TJ9 k).2.2.1 = some (tyJ9 k) := by decide +kernel
abbrev cJ9_abs_0f7a4 : ByteArray := prog_10_method_59_code
def yJ9_abs_0f7a4 : MethodName := ⟨RJ9, "abs", "(I)I"⟩
def RJ10 : String := "java/lang/System"
def TJ10 : u_T := fun k => match k with
  | _ => ("", "", "", false)
def tyJ10 : Nat → FieldType := fun k => match k with
  | _ => .int
abbrev wsJ100 : List Cond := u_ws RJ10 TJ10 0
theorem nmJ10 : ∀ a, a < 0 → ∀ b, b < 0 → a ≠ b → (TJ10 a).2.1 ≠ (TJ10 b).2.1 := by decide +kernel
theorem tyJ10_ok : ∀ k, k < 0 → parseFieldDescriptor (TJ10 k).2.2.1 = some (tyJ10 k) := by decide +kernel
def RJ7 : String := "java/util/Arrays"
def TJ7 : u_T := fun k => match k with
  | _ => ("", "", "", false)
def tyJ7 : Nat → FieldType := fun k => match k with
  | _ => .int
abbrev wsJ70 : List Cond := u_ws RJ7 TJ7 0
theorem nmJ7 : ∀ a, a < 0 → ∀ b, b < 0 → a ≠ b → (TJ7 a).2.1 ≠ (TJ7 b).2.1 := by decide +kernel
theorem tyJ7_ok : ∀ k, k < 0 → parseFieldDescriptor (TJ7 k).2.2.1 = some (tyJ7 k) := by decide +kernel
abbrev cJ7_fill_53178 : ByteArray := prog_12_method_103_code
def yJ7_fill_53178 : MethodName := ⟨RJ7, "fill", "([II)V"⟩
def RL : String := "ClockWakersLaw"
abbrev cL_law : ByteArray := code
def yL_law : MethodName := ⟨RL, "law", "([I)Z"⟩
def wsX0_init : List Cond := .code yX0_init cX0_init 1 none :: ([.methodLink RX0 3 objectInit, .instanceMethod objectInit, .code objectInit ⟨#[0xb1]⟩ 1 none, .arrayClass .int, .fieldLink RX0 9 "ClockWakers$Arrangement" "best" "[I", .fieldLink RX0 15 "ClockWakers$Arrangement" "row" "[I", .classLink RX0 18 "[[I", .fieldLink RX0 20 "ClockWakers$Arrangement" "wakers" "[[I"] ++ wsX00)
def wsX3_soundIf : List Cond := .code yX3_soundIf cX3_soundIf 3 (some .int) :: ([.fieldLink RX3 18 "ClockWakers$Street" "loud" "[I"] ++ wsX30)
def wsX3_sound : List Cond := .code yX3_sound cX3_sound 2 (some .int) :: ([.fieldLink RX3 24 "ClockWakers$Street" "stuffed" "[Z", .methodLink RX3 47 yX3_soundIf, .instanceMethod yX3_soundIf, .selects RX3 yX3_soundIf yX3_soundIf, .initialized RX3, .code yX3_soundIf cX3_soundIf 3 (some .int), .fieldLink RX3 18 "ClockWakers$Street" "loud" "[I"] ++ wsX30)
def wsX3_heard : List Cond := .code yX3_heard cX3_heard 4 (some .int) :: ([.fieldLink RX3 35 "ClockWakers$Street" "thick" "I", .methodLink RX3 51 Lib.Math.abs.name, .static Lib.Math.abs.name, .initialized "java/lang/Math", .code Lib.Math.abs.name Lib.Math.abs.code 1 (some .int)] ++ wsX30)
def wsX3_needs : List Cond := .code yX3_needs cX3_needs 2 (some .int) :: ([.fieldLink RX3 9 "ClockWakers$Street" "kind" "[I", .fieldLink RX3 15 "ClockWakers$Street" "depth" "[I"] ++ wsX30)
def wsX3_spare : List Cond := .code yX3_spare cX3_spare 2 (some .int) :: ([])
def wsX3_wakes : List Cond := .code yX3_wakes cX3_wakes 4 (some .boolean) :: ([.methodLink RX3 57 yX3_heard, .instanceMethod yX3_heard, .selects RX3 yX3_heard yX3_heard, .initialized RX3, .code yX3_heard cX3_heard 4 (some .int), .fieldLink RX3 35 "ClockWakers$Street" "thick" "I", .methodLink RX3 51 Lib.Math.abs.name, .static Lib.Math.abs.name, .initialized "java/lang/Math", .code Lib.Math.abs.name Lib.Math.abs.code 1 (some .int), .methodLink RX3 61 yX3_needs, .instanceMethod yX3_needs, .selects RX3 yX3_needs yX3_needs, .code yX3_needs cX3_needs 2 (some .int), .fieldLink RX3 9 "ClockWakers$Street" "kind" "[I", .fieldLink RX3 15 "ClockWakers$Street" "depth" "[I", .methodLink RX3 64 yX3_spare, .static yX3_spare, .code yX3_spare cX3_spare 2 (some .int)] ++ wsX30)
def wsX3_wakers_r1 : List Cond := [Cond.fieldLink RX3 28 "ClockWakers$Street" "houses" "I", Cond.methodLink RX3 68 yX3_sound, Cond.instanceMethod yX3_sound, Cond.selects RX3 yX3_sound yX3_sound, Cond.initialized RX3, Cond.code yX3_sound cX3_sound 2 (some .int), Cond.fieldLink RX3 24 "ClockWakers$Street" "stuffed" "[Z", Cond.methodLink RX3 47 yX3_soundIf, Cond.instanceMethod yX3_soundIf, Cond.selects RX3 yX3_soundIf yX3_soundIf, Cond.code yX3_soundIf cX3_soundIf 3 (some .int), Cond.fieldLink RX3 18 "ClockWakers$Street" "loud" "[I", Cond.methodLink RX3 71 yX3_wakes, Cond.instanceMethod yX3_wakes, Cond.selects RX3 yX3_wakes yX3_wakes, Cond.code yX3_wakes cX3_wakes 4 (some .boolean), Cond.methodLink RX3 57 yX3_heard, Cond.instanceMethod yX3_heard, Cond.selects RX3 yX3_heard yX3_heard, Cond.code yX3_heard cX3_heard 4 (some .int), Cond.fieldLink RX3 35 "ClockWakers$Street" "thick" "I", Cond.methodLink RX3 51 Lib.Math.abs.name, Cond.static Lib.Math.abs.name, Cond.initialized "java/lang/Math"]
def wsX3_wakers_r2 : List Cond := [Cond.code Lib.Math.abs.name Lib.Math.abs.code 1 (some .int), Cond.methodLink RX3 61 yX3_needs, Cond.instanceMethod yX3_needs, Cond.selects RX3 yX3_needs yX3_needs, Cond.code yX3_needs cX3_needs 2 (some .int), Cond.fieldLink RX3 9 "ClockWakers$Street" "kind" "[I", Cond.fieldLink RX3 15 "ClockWakers$Street" "depth" "[I", Cond.methodLink RX3 64 yX3_spare, Cond.static yX3_spare, Cond.code yX3_spare cX3_spare 2 (some .int)]
def wsX3_wakers : List Cond := .code yX3_wakers cX3_wakers 6 (some .int) :: ((wsX3_wakers_r1 ++ wsX3_wakers_r2) ++ wsX30)
def wsX0_wakersOfRow : List Cond := .code yX0_wakersOfRow cX0_wakersOfRow 4 (some .int) :: ([.fieldLink RX0 20 "ClockWakers$Arrangement" "wakers" "[[I", .fieldLink RX0 15 "ClockWakers$Arrangement" "row" "[I"] ++ wsX00)
def wsJ6_bitCount_0f7a4 : List Cond := .code yJ6_bitCount_0f7a4 cJ6_bitCount_0f7a4 1 (some .int) :: ([.constant RJ6 265 (1431655765), .constant RJ6 266 (858993459), .constant RJ6 267 (252645135)])
def wsX0_stepRow : List Cond := .code yX0_stepRow cX0_stepRow 4 none :: ([.fieldLink RX0 15 "ClockWakers$Arrangement" "row" "[I"] ++ wsX00)
def wsX0_findStillest_r1 : List Cond := [Cond.fieldLink RX0 23 "ClockWakers$Street" "clocks" "I", Cond.fieldLink RX0 29 "ClockWakers$Street" "houses" "I", Cond.fieldLink RX0 15 "ClockWakers$Arrangement" "row" "[I", Cond.fieldLink RX0 20 "ClockWakers$Arrangement" "wakers" "[[I", Cond.fieldLink RX0 9 "ClockWakers$Arrangement" "best" "[I", Cond.methodLink RX0 44 arraycopyName, Cond.native arraycopyName, Cond.static arraycopyName, Cond.initialized "java/lang/System", Cond.methodLink RX0 32 yX3_wakers, Cond.instanceMethod yX3_wakers, Cond.selects RX3 yX3_wakers yX3_wakers, Cond.initialized RX3, Cond.code yX3_wakers cX3_wakers 6 (some .int), Cond.fieldLink RX3 28 "ClockWakers$Street" "houses" "I", Cond.methodLink RX3 68 yX3_sound, Cond.instanceMethod yX3_sound, Cond.selects RX3 yX3_sound yX3_sound, Cond.code yX3_sound cX3_sound 2 (some .int), Cond.fieldLink RX3 24 "ClockWakers$Street" "stuffed" "[Z", Cond.methodLink RX3 47 yX3_soundIf, Cond.instanceMethod yX3_soundIf, Cond.selects RX3 yX3_soundIf yX3_soundIf, Cond.code yX3_soundIf cX3_soundIf 3 (some .int)]
def wsX0_findStillest_r2 : List Cond := [Cond.fieldLink RX3 18 "ClockWakers$Street" "loud" "[I", Cond.methodLink RX3 71 yX3_wakes, Cond.instanceMethod yX3_wakes, Cond.selects RX3 yX3_wakes yX3_wakes, Cond.code yX3_wakes cX3_wakes 4 (some .boolean), Cond.methodLink RX3 57 yX3_heard, Cond.instanceMethod yX3_heard, Cond.selects RX3 yX3_heard yX3_heard, Cond.code yX3_heard cX3_heard 4 (some .int), Cond.fieldLink RX3 35 "ClockWakers$Street" "thick" "I", Cond.methodLink RX3 51 Lib.Math.abs.name, Cond.static Lib.Math.abs.name, Cond.initialized "java/lang/Math", Cond.code Lib.Math.abs.name Lib.Math.abs.code 1 (some .int), Cond.methodLink RX3 61 yX3_needs, Cond.instanceMethod yX3_needs, Cond.selects RX3 yX3_needs yX3_needs, Cond.code yX3_needs cX3_needs 2 (some .int), Cond.fieldLink RX3 9 "ClockWakers$Street" "kind" "[I", Cond.fieldLink RX3 15 "ClockWakers$Street" "depth" "[I", Cond.methodLink RX3 64 yX3_spare, Cond.static yX3_spare, Cond.code yX3_spare cX3_spare 2 (some .int), Cond.methodLink RX0 35 yX0_wakersOfRow]
def wsX0_findStillest_r3 : List Cond := [Cond.instanceMethod yX0_wakersOfRow, Cond.selects RX0 yX0_wakersOfRow yX0_wakersOfRow, Cond.initialized RX0, Cond.code yX0_wakersOfRow cX0_wakersOfRow 4 (some .int), Cond.methodLink RX0 39 yJ6_bitCount_0f7a4, Cond.static yJ6_bitCount_0f7a4, Cond.initialized RJ6, Cond.code yJ6_bitCount_0f7a4 cJ6_bitCount_0f7a4 1 (some .int), Cond.constant RJ6 265 (1431655765), Cond.constant RJ6 266 (858993459), Cond.constant RJ6 267 (252645135), Cond.methodLink RX0 50 yX0_stepRow, Cond.instanceMethod yX0_stepRow, Cond.selects RX0 yX0_stepRow yX0_stepRow, Cond.code yX0_stepRow cX0_stepRow 4 none]
def wsX0_findStillest : List Cond := .code yX0_findStillest cX0_findStillest 6 (some .int) :: ((wsX0_findStillest_r1 ++ (wsX0_findStillest_r2 ++ wsX0_findStillest_r3)) ++ wsX30 ++ wsX00)
def wsX1_init : List Cond := .code yX1_init cX1_init 1 none :: ([.methodLink RX1 3 objectInit, .instanceMethod objectInit, .code objectInit ⟨#[0xb1]⟩ 1 none, .arrayClass .int, .fieldLink RX1 9 "ClockWakers$Readings" "clock" "[I", .fieldLink RX1 15 "ClockWakers$Readings" "place" "[I", .fieldLink RX1 18 "ClockWakers$Readings" "house" "[I", .arrayClass .boolean, .fieldLink RX1 21 "ClockWakers$Readings" "woke" "[Z"] ++ wsX10)
def wsX1_note : List Cond := .code yX1_note cX1_note 5 (some .int) :: ([.fieldLink RX1 9 "ClockWakers$Readings" "clock" "[I", .fieldLink RX1 25 "ClockWakers$Readings" "count" "I", .fieldLink RX1 15 "ClockWakers$Readings" "place" "[I", .fieldLink RX1 18 "ClockWakers$Readings" "house" "[I", .fieldLink RX1 21 "ClockWakers$Readings" "woke" "[Z"] ++ wsX10)
def wsX1_bitIfAllHold_r1 : List Cond := [Cond.fieldLink RX1 25 "ClockWakers$Readings" "count" "I", Cond.fieldLink RX1 18 "ClockWakers$Readings" "house" "[I", Cond.fieldLink RX1 9 "ClockWakers$Readings" "clock" "[I", Cond.fieldLink RX1 15 "ClockWakers$Readings" "place" "[I", Cond.fieldLink RX1 21 "ClockWakers$Readings" "woke" "[Z", Cond.methodLink RX1 29 yX3_sound, Cond.instanceMethod yX3_sound, Cond.selects RX3 yX3_sound yX3_sound, Cond.initialized RX3, Cond.code yX3_sound cX3_sound 2 (some .int), Cond.fieldLink RX3 24 "ClockWakers$Street" "stuffed" "[Z", Cond.methodLink RX3 47 yX3_soundIf, Cond.instanceMethod yX3_soundIf, Cond.selects RX3 yX3_soundIf yX3_soundIf, Cond.code yX3_soundIf cX3_soundIf 3 (some .int), Cond.fieldLink RX3 18 "ClockWakers$Street" "loud" "[I", Cond.methodLink RX1 35 yX3_wakes, Cond.instanceMethod yX3_wakes, Cond.selects RX3 yX3_wakes yX3_wakes, Cond.code yX3_wakes cX3_wakes 4 (some .boolean), Cond.methodLink RX3 57 yX3_heard, Cond.instanceMethod yX3_heard, Cond.selects RX3 yX3_heard yX3_heard, Cond.code yX3_heard cX3_heard 4 (some .int)]
def wsX1_bitIfAllHold_r2 : List Cond := [Cond.fieldLink RX3 35 "ClockWakers$Street" "thick" "I", Cond.methodLink RX3 51 Lib.Math.abs.name, Cond.static Lib.Math.abs.name, Cond.initialized "java/lang/Math", Cond.code Lib.Math.abs.name Lib.Math.abs.code 1 (some .int), Cond.methodLink RX3 61 yX3_needs, Cond.instanceMethod yX3_needs, Cond.selects RX3 yX3_needs yX3_needs, Cond.code yX3_needs cX3_needs 2 (some .int), Cond.fieldLink RX3 9 "ClockWakers$Street" "kind" "[I", Cond.fieldLink RX3 15 "ClockWakers$Street" "depth" "[I", Cond.methodLink RX3 64 yX3_spare, Cond.static yX3_spare, Cond.code yX3_spare cX3_spare 2 (some .int)]
def wsX1_bitIfAllHold : List Cond := .code yX1_bitIfAllHold cX1_bitIfAllHold 4 (some .int) :: ((wsX1_bitIfAllHold_r1 ++ wsX1_bitIfAllHold_r2) ++ wsX10 ++ wsX30)
def wsX2_init : List Cond := .code yX2_init cX2_init 1 none :: ([.methodLink RX2 3 objectInit, .instanceMethod objectInit, .code objectInit ⟨#[0xb1]⟩ 1 none, .arrayClass .int, .fieldLink RX2 9 "ClockWakers$Sheet" "cells" "[I"] ++ wsX20)
def wsJ7_fill_53178 : List Cond := .code yJ7_fill_53178 cJ7_fill_53178 4 none :: ([])
def wsX2_renew : List Cond := .code yX2_renew cX2_renew 3 none :: ([.fieldLink RX2 15 "ClockWakers$Sheet" "has" "Z", .fieldLink RX2 19 "ClockWakers$Sheet" "lane" "I", .fieldLink RX2 23 "ClockWakers$Sheet" "length" "I", .fieldLink RX2 9 "ClockWakers$Sheet" "cells" "[I", .methodLink RX2 26 yJ7_fill_53178, .static yJ7_fill_53178, .initialized RJ7, .code yJ7_fill_53178 cJ7_fill_53178 4 none] ++ wsX20)
def wsX2_faultAs : List Cond := .code yX2_faultAs cX2_faultAs 2 (some .int) :: ([.fieldLink RX2 15 "ClockWakers$Sheet" "has" "Z", .fieldLink RX2 19 "ClockWakers$Sheet" "lane" "I"] ++ wsX20)
def wsX2_lacks : List Cond := .code yX2_lacks cX2_lacks 3 (some .boolean) :: ([.fieldLink RX2 23 "ClockWakers$Sheet" "length" "I"] ++ wsX20)
def wsX2_cut : List Cond := .code yX2_cut cX2_cut 2 (some .int) :: ([.fieldLink RX2 19 "ClockWakers$Sheet" "lane" "I"] ++ wsX20)
def wsX3_init : List Cond := .code yX3_init cX3_init 1 none :: ([.methodLink RX3 3 objectInit, .instanceMethod objectInit, .code objectInit ⟨#[0xb1]⟩ 1 none, .arrayClass .int, .fieldLink RX3 9 "ClockWakers$Street" "kind" "[I", .fieldLink RX3 15 "ClockWakers$Street" "depth" "[I", .fieldLink RX3 18 "ClockWakers$Street" "loud" "[I", .fieldLink RX3 21 "ClockWakers$Street" "place" "[I", .arrayClass .boolean, .fieldLink RX3 24 "ClockWakers$Street" "stuffed" "[Z"] ++ wsX30)
def wsX3_clear : List Cond := .code yX3_clear cX3_clear 1 none :: ([.fieldLink RX3 28 "ClockWakers$Street" "houses" "I", .fieldLink RX3 32 "ClockWakers$Street" "clocks" "I", .fieldLink RX3 35 "ClockWakers$Street" "thick" "I", .fieldLink RX3 38 "ClockWakers$Street" "carried" "I", .fieldLink RX3 41 "ClockWakers$Street" "unheard" "I"] ++ wsX30)
def wsX3_become : List Cond := .code yX3_become cX3_become 3 none :: ([.fieldLink RX3 28 "ClockWakers$Street" "houses" "I", .fieldLink RX3 32 "ClockWakers$Street" "clocks" "I", .fieldLink RX3 35 "ClockWakers$Street" "thick" "I", .fieldLink RX3 9 "ClockWakers$Street" "kind" "[I", .fieldLink RX3 15 "ClockWakers$Street" "depth" "[I", .fieldLink RX3 18 "ClockWakers$Street" "loud" "[I", .fieldLink RX3 21 "ClockWakers$Street" "place" "[I", .fieldLink RX3 24 "ClockWakers$Street" "stuffed" "[Z", .methodLink RX3 44 yX3_clear, .instanceMethod yX3_clear, .selects RX3 yX3_clear yX3_clear, .initialized RX3, .code yX3_clear cX3_clear 1 none, .fieldLink RX3 38 "ClockWakers$Street" "carried" "I", .fieldLink RX3 41 "ClockWakers$Street" "unheard" "I"] ++ wsX30)
def wsX3_addHouse : List Cond := .code yX3_addHouse cX3_addHouse 3 none :: ([.fieldLink RX3 9 "ClockWakers$Street" "kind" "[I", .fieldLink RX3 28 "ClockWakers$Street" "houses" "I", .fieldLink RX3 15 "ClockWakers$Street" "depth" "[I"] ++ wsX30)
def wsX3_addClock : List Cond := .code yX3_addClock cX3_addClock 3 none :: ([.fieldLink RX3 18 "ClockWakers$Street" "loud" "[I", .fieldLink RX3 32 "ClockWakers$Street" "clocks" "I", .fieldLink RX3 21 "ClockWakers$Street" "place" "[I", .fieldLink RX3 24 "ClockWakers$Street" "stuffed" "[Z"] ++ wsX30)
def wsX3_stands : List Cond := .code yX3_stands cX3_stands 1 (some .boolean) :: ([.fieldLink RX3 28 "ClockWakers$Street" "houses" "I"] ++ wsX30)
def wsX3_hasHouse : List Cond := .code yX3_hasHouse cX3_hasHouse 2 (some .boolean) :: ([.fieldLink RX3 28 "ClockWakers$Street" "houses" "I"] ++ wsX30)
def wsX3_hasClock : List Cond := .code yX3_hasClock cX3_hasClock 2 (some .boolean) :: ([.fieldLink RX3 32 "ClockWakers$Street" "clocks" "I"] ++ wsX30)
def wsX3_owner_r1 : List Cond := [Cond.fieldLink RX3 28 "ClockWakers$Street" "houses" "I", Cond.methodLink RX3 68 yX3_sound, Cond.instanceMethod yX3_sound, Cond.selects RX3 yX3_sound yX3_sound, Cond.initialized RX3, Cond.code yX3_sound cX3_sound 2 (some .int), Cond.fieldLink RX3 24 "ClockWakers$Street" "stuffed" "[Z", Cond.methodLink RX3 47 yX3_soundIf, Cond.instanceMethod yX3_soundIf, Cond.selects RX3 yX3_soundIf yX3_soundIf, Cond.code yX3_soundIf cX3_soundIf 3 (some .int), Cond.fieldLink RX3 18 "ClockWakers$Street" "loud" "[I", Cond.methodLink RX3 57 yX3_heard, Cond.instanceMethod yX3_heard, Cond.selects RX3 yX3_heard yX3_heard, Cond.code yX3_heard cX3_heard 4 (some .int), Cond.fieldLink RX3 35 "ClockWakers$Street" "thick" "I", Cond.methodLink RX3 51 Lib.Math.abs.name, Cond.static Lib.Math.abs.name, Cond.initialized "java/lang/Math", Cond.code Lib.Math.abs.name Lib.Math.abs.code 1 (some .int), Cond.methodLink RX3 61 yX3_needs, Cond.instanceMethod yX3_needs, Cond.selects RX3 yX3_needs yX3_needs]
def wsX3_owner_r2 : List Cond := [Cond.code yX3_needs cX3_needs 2 (some .int), Cond.fieldLink RX3 9 "ClockWakers$Street" "kind" "[I", Cond.fieldLink RX3 15 "ClockWakers$Street" "depth" "[I", Cond.methodLink RX3 64 yX3_spare, Cond.static yX3_spare, Cond.code yX3_spare cX3_spare 2 (some .int)]
def wsX3_owner : List Cond := .code yX3_owner cX3_owner 8 (some .int) :: ((wsX3_owner_r1 ++ wsX3_owner_r2) ++ wsX30)
def wsX3_placeAfterStroke_r1 : List Cond := [Cond.methodLink RX3 75 yX3_owner, Cond.instanceMethod yX3_owner, Cond.selects RX3 yX3_owner yX3_owner, Cond.initialized RX3, Cond.code yX3_owner cX3_owner 8 (some .int), Cond.fieldLink RX3 28 "ClockWakers$Street" "houses" "I", Cond.methodLink RX3 68 yX3_sound, Cond.instanceMethod yX3_sound, Cond.selects RX3 yX3_sound yX3_sound, Cond.code yX3_sound cX3_sound 2 (some .int), Cond.fieldLink RX3 24 "ClockWakers$Street" "stuffed" "[Z", Cond.methodLink RX3 47 yX3_soundIf, Cond.instanceMethod yX3_soundIf, Cond.selects RX3 yX3_soundIf yX3_soundIf, Cond.code yX3_soundIf cX3_soundIf 3 (some .int), Cond.fieldLink RX3 18 "ClockWakers$Street" "loud" "[I", Cond.methodLink RX3 57 yX3_heard, Cond.instanceMethod yX3_heard, Cond.selects RX3 yX3_heard yX3_heard, Cond.code yX3_heard cX3_heard 4 (some .int), Cond.fieldLink RX3 35 "ClockWakers$Street" "thick" "I", Cond.methodLink RX3 51 Lib.Math.abs.name, Cond.static Lib.Math.abs.name, Cond.initialized "java/lang/Math"]
def wsX3_placeAfterStroke_r2 : List Cond := [Cond.code Lib.Math.abs.name Lib.Math.abs.code 1 (some .int), Cond.methodLink RX3 61 yX3_needs, Cond.instanceMethod yX3_needs, Cond.selects RX3 yX3_needs yX3_needs, Cond.code yX3_needs cX3_needs 2 (some .int), Cond.fieldLink RX3 9 "ClockWakers$Street" "kind" "[I", Cond.fieldLink RX3 15 "ClockWakers$Street" "depth" "[I", Cond.methodLink RX3 64 yX3_spare, Cond.static yX3_spare, Cond.code yX3_spare cX3_spare 2 (some .int)]
def wsX3_placeAfterStroke : List Cond := .code yX3_placeAfterStroke cX3_placeAfterStroke 4 (some .int) :: ((wsX3_placeAfterStroke_r1 ++ wsX3_placeAfterStroke_r2) ++ wsX30)
def wsX3_strike_r1 : List Cond := [Cond.fieldLink RX3 21 "ClockWakers$Street" "place" "[I", Cond.fieldLink RX3 41 "ClockWakers$Street" "unheard" "I", Cond.fieldLink RX3 38 "ClockWakers$Street" "carried" "I", Cond.methodLink RX3 75 yX3_owner, Cond.instanceMethod yX3_owner, Cond.selects RX3 yX3_owner yX3_owner, Cond.initialized RX3, Cond.code yX3_owner cX3_owner 8 (some .int), Cond.fieldLink RX3 28 "ClockWakers$Street" "houses" "I", Cond.methodLink RX3 68 yX3_sound, Cond.instanceMethod yX3_sound, Cond.selects RX3 yX3_sound yX3_sound, Cond.code yX3_sound cX3_sound 2 (some .int), Cond.fieldLink RX3 24 "ClockWakers$Street" "stuffed" "[Z", Cond.methodLink RX3 47 yX3_soundIf, Cond.instanceMethod yX3_soundIf, Cond.selects RX3 yX3_soundIf yX3_soundIf, Cond.code yX3_soundIf cX3_soundIf 3 (some .int), Cond.fieldLink RX3 18 "ClockWakers$Street" "loud" "[I", Cond.methodLink RX3 57 yX3_heard, Cond.instanceMethod yX3_heard, Cond.selects RX3 yX3_heard yX3_heard, Cond.code yX3_heard cX3_heard 4 (some .int), Cond.fieldLink RX3 35 "ClockWakers$Street" "thick" "I"]
def wsX3_strike_r2 : List Cond := [Cond.methodLink RX3 51 Lib.Math.abs.name, Cond.static Lib.Math.abs.name, Cond.initialized "java/lang/Math", Cond.code Lib.Math.abs.name Lib.Math.abs.code 1 (some .int), Cond.methodLink RX3 61 yX3_needs, Cond.instanceMethod yX3_needs, Cond.selects RX3 yX3_needs yX3_needs, Cond.code yX3_needs cX3_needs 2 (some .int), Cond.fieldLink RX3 9 "ClockWakers$Street" "kind" "[I", Cond.fieldLink RX3 15 "ClockWakers$Street" "depth" "[I", Cond.methodLink RX3 64 yX3_spare, Cond.static yX3_spare, Cond.code yX3_spare cX3_spare 2 (some .int)]
def wsX3_strike : List Cond := .code yX3_strike cX3_strike 3 (some .int) :: ((wsX3_strike_r1 ++ wsX3_strike_r2) ++ wsX30)
def wsX3_passNights_r1 : List Cond := [Cond.fieldLink RX3 32 "ClockWakers$Street" "clocks" "I", Cond.methodLink RX3 78 yX3_strike, Cond.instanceMethod yX3_strike, Cond.selects RX3 yX3_strike yX3_strike, Cond.initialized RX3, Cond.code yX3_strike cX3_strike 3 (some .int), Cond.fieldLink RX3 21 "ClockWakers$Street" "place" "[I", Cond.fieldLink RX3 41 "ClockWakers$Street" "unheard" "I", Cond.fieldLink RX3 38 "ClockWakers$Street" "carried" "I", Cond.methodLink RX3 75 yX3_owner, Cond.instanceMethod yX3_owner, Cond.selects RX3 yX3_owner yX3_owner, Cond.code yX3_owner cX3_owner 8 (some .int), Cond.fieldLink RX3 28 "ClockWakers$Street" "houses" "I", Cond.methodLink RX3 68 yX3_sound, Cond.instanceMethod yX3_sound, Cond.selects RX3 yX3_sound yX3_sound, Cond.code yX3_sound cX3_sound 2 (some .int), Cond.fieldLink RX3 24 "ClockWakers$Street" "stuffed" "[Z", Cond.methodLink RX3 47 yX3_soundIf, Cond.instanceMethod yX3_soundIf, Cond.selects RX3 yX3_soundIf yX3_soundIf, Cond.code yX3_soundIf cX3_soundIf 3 (some .int), Cond.fieldLink RX3 18 "ClockWakers$Street" "loud" "[I"]
def wsX3_passNights_r2 : List Cond := [Cond.methodLink RX3 57 yX3_heard, Cond.instanceMethod yX3_heard, Cond.selects RX3 yX3_heard yX3_heard, Cond.code yX3_heard cX3_heard 4 (some .int), Cond.fieldLink RX3 35 "ClockWakers$Street" "thick" "I", Cond.methodLink RX3 51 Lib.Math.abs.name, Cond.static Lib.Math.abs.name, Cond.initialized "java/lang/Math", Cond.code Lib.Math.abs.name Lib.Math.abs.code 1 (some .int), Cond.methodLink RX3 61 yX3_needs, Cond.instanceMethod yX3_needs, Cond.selects RX3 yX3_needs yX3_needs, Cond.code yX3_needs cX3_needs 2 (some .int), Cond.fieldLink RX3 9 "ClockWakers$Street" "kind" "[I", Cond.fieldLink RX3 15 "ClockWakers$Street" "depth" "[I", Cond.methodLink RX3 64 yX3_spare, Cond.static yX3_spare, Cond.code yX3_spare cX3_spare 2 (some .int)]
def wsX3_passNights : List Cond := .code yX3_passNights cX3_passNights 4 none :: ((wsX3_passNights_r1 ++ wsX3_passNights_r2) ++ wsX30)
def wsX3_clocksIn : List Cond := .code yX3_clocksIn cX3_clocksIn 4 (some .int) :: ([.fieldLink RX3 32 "ClockWakers$Street" "clocks" "I", .fieldLink RX3 21 "ClockWakers$Street" "place" "[I"] ++ wsX30)
def wsX3_clocksWaking_r1 : List Cond := [Cond.fieldLink RX3 32 "ClockWakers$Street" "clocks" "I", Cond.fieldLink RX3 21 "ClockWakers$Street" "place" "[I", Cond.methodLink RX3 68 yX3_sound, Cond.instanceMethod yX3_sound, Cond.selects RX3 yX3_sound yX3_sound, Cond.initialized RX3, Cond.code yX3_sound cX3_sound 2 (some .int), Cond.fieldLink RX3 24 "ClockWakers$Street" "stuffed" "[Z", Cond.methodLink RX3 47 yX3_soundIf, Cond.instanceMethod yX3_soundIf, Cond.selects RX3 yX3_soundIf yX3_soundIf, Cond.code yX3_soundIf cX3_soundIf 3 (some .int), Cond.fieldLink RX3 18 "ClockWakers$Street" "loud" "[I", Cond.methodLink RX3 71 yX3_wakes, Cond.instanceMethod yX3_wakes, Cond.selects RX3 yX3_wakes yX3_wakes, Cond.code yX3_wakes cX3_wakes 4 (some .boolean), Cond.methodLink RX3 57 yX3_heard, Cond.instanceMethod yX3_heard, Cond.selects RX3 yX3_heard yX3_heard, Cond.code yX3_heard cX3_heard 4 (some .int), Cond.fieldLink RX3 35 "ClockWakers$Street" "thick" "I", Cond.methodLink RX3 51 Lib.Math.abs.name, Cond.static Lib.Math.abs.name]
def wsX3_clocksWaking_r2 : List Cond := [Cond.initialized "java/lang/Math", Cond.code Lib.Math.abs.name Lib.Math.abs.code 1 (some .int), Cond.methodLink RX3 61 yX3_needs, Cond.instanceMethod yX3_needs, Cond.selects RX3 yX3_needs yX3_needs, Cond.code yX3_needs cX3_needs 2 (some .int), Cond.fieldLink RX3 9 "ClockWakers$Street" "kind" "[I", Cond.fieldLink RX3 15 "ClockWakers$Street" "depth" "[I", Cond.methodLink RX3 64 yX3_spare, Cond.static yX3_spare, Cond.code yX3_spare cX3_spare 2 (some .int)]
def wsX3_clocksWaking : List Cond := .code yX3_clocksWaking cX3_clocksWaking 4 (some .int) :: ((wsX3_clocksWaking_r1 ++ wsX3_clocksWaking_r2) ++ wsX30)
def wsX3_stuffedClocks : List Cond := .code yX3_stuffedClocks cX3_stuffedClocks 3 (some .int) :: ([.fieldLink RX3 32 "ClockWakers$Street" "clocks" "I", .fieldLink RX3 24 "ClockWakers$Street" "stuffed" "[Z"] ++ wsX30)
def wsX3_housesWithClocks : List Cond := .code yX3_housesWithClocks cX3_housesWithClocks 3 (some .int) :: ([.fieldLink RX3 32 "ClockWakers$Street" "clocks" "I", .fieldLink RX3 21 "ClockWakers$Street" "place" "[I"] ++ wsX30)
def wsX4_init : List Cond := .code yX4_init cX4_init 1 none :: ([.methodLink RX4 3 objectInit, .instanceMethod objectInit, .code objectInit ⟨#[0xb1]⟩ 1 none, .arrayClass .int, .fieldLink RX4 9 "ClockWakers$Text" "codes" "[I"] ++ wsX40)
def wsX4_takeSign : List Cond := .code yX4_takeSign cX4_takeSign 2 (some .boolean) :: ([.fieldLink RX4 30 "ClockWakers$Text" "at" "I", .fieldLink RX4 26 "ClockWakers$Text" "count" "I", .fieldLink RX4 9 "ClockWakers$Text" "codes" "[I"] ++ wsX40)
def wsX4_takeDigit : List Cond := .code yX4_takeDigit cX4_takeDigit 4 (some .int) :: ([.fieldLink RX4 30 "ClockWakers$Text" "at" "I", .fieldLink RX4 26 "ClockWakers$Text" "count" "I", .fieldLink RX4 9 "ClockWakers$Text" "codes" "[I"] ++ wsX40)
def wsX4_readWall : List Cond := .code yX4_readWall cX4_readWall 2 (some .boolean) :: ([.fieldLink RX4 56 "ClockWakers$Street" "thick" "I", .methodLink RX4 48 yX4_takeSign, .instanceMethod yX4_takeSign, .selects RX4 yX4_takeSign yX4_takeSign, .initialized RX4, .code yX4_takeSign cX4_takeSign 2 (some .boolean), .fieldLink RX4 30 "ClockWakers$Text" "at" "I", .fieldLink RX4 26 "ClockWakers$Text" "count" "I", .fieldLink RX4 9 "ClockWakers$Text" "codes" "[I", .methodLink RX4 52 yX4_takeDigit, .instanceMethod yX4_takeDigit, .selects RX4 yX4_takeDigit yX4_takeDigit, .code yX4_takeDigit cX4_takeDigit 4 (some .int)] ++ wsX30 ++ wsX40)
def wsX4_takeKind : List Cond := .code yX4_takeKind cX4_takeKind 1 (some .int) :: ([.methodLink RX4 48 yX4_takeSign, .instanceMethod yX4_takeSign, .selects RX4 yX4_takeSign yX4_takeSign, .initialized RX4, .code yX4_takeSign cX4_takeSign 2 (some .boolean), .fieldLink RX4 30 "ClockWakers$Text" "at" "I", .fieldLink RX4 26 "ClockWakers$Text" "count" "I", .fieldLink RX4 9 "ClockWakers$Text" "codes" "[I"] ++ wsX40)
def wsX4_readHouses_r1 : List Cond := [Cond.fieldLink RX4 67 "ClockWakers$Street" "houses" "I", Cond.methodLink RX4 48 yX4_takeSign, Cond.instanceMethod yX4_takeSign, Cond.selects RX4 yX4_takeSign yX4_takeSign, Cond.initialized RX4, Cond.code yX4_takeSign cX4_takeSign 2 (some .boolean), Cond.fieldLink RX4 30 "ClockWakers$Text" "at" "I", Cond.fieldLink RX4 26 "ClockWakers$Text" "count" "I", Cond.fieldLink RX4 9 "ClockWakers$Text" "codes" "[I", Cond.methodLink RX4 59 yX4_takeKind, Cond.instanceMethod yX4_takeKind, Cond.selects RX4 yX4_takeKind yX4_takeKind, Cond.code yX4_takeKind cX4_takeKind 1 (some .int), Cond.methodLink RX4 52 yX4_takeDigit, Cond.instanceMethod yX4_takeDigit, Cond.selects RX4 yX4_takeDigit yX4_takeDigit, Cond.code yX4_takeDigit cX4_takeDigit 4 (some .int), Cond.methodLink RX4 63 yX3_addHouse, Cond.instanceMethod yX3_addHouse, Cond.selects RX3 yX3_addHouse yX3_addHouse, Cond.initialized RX3, Cond.code yX3_addHouse cX3_addHouse 3 none, Cond.fieldLink RX3 9 "ClockWakers$Street" "kind" "[I", Cond.fieldLink RX3 28 "ClockWakers$Street" "houses" "I"]
def wsX4_readHouses_r2 : List Cond := [Cond.fieldLink RX3 15 "ClockWakers$Street" "depth" "[I"]
def wsX4_readHouses : List Cond := .code yX4_readHouses cX4_readHouses 5 (some .boolean) :: ((wsX4_readHouses_r1 ++ wsX4_readHouses_r2) ++ wsX30 ++ wsX40)
def wsX4_readClocks : List Cond := .code yX4_readClocks cX4_readClocks 5 (some .boolean) :: ([.fieldLink RX4 67 "ClockWakers$Street" "houses" "I", .fieldLink RX4 73 "ClockWakers$Street" "clocks" "I", .methodLink RX4 48 yX4_takeSign, .instanceMethod yX4_takeSign, .selects RX4 yX4_takeSign yX4_takeSign, .initialized RX4, .code yX4_takeSign cX4_takeSign 2 (some .boolean), .fieldLink RX4 30 "ClockWakers$Text" "at" "I", .fieldLink RX4 26 "ClockWakers$Text" "count" "I", .fieldLink RX4 9 "ClockWakers$Text" "codes" "[I", .methodLink RX4 52 yX4_takeDigit, .instanceMethod yX4_takeDigit, .selects RX4 yX4_takeDigit yX4_takeDigit, .code yX4_takeDigit cX4_takeDigit 4 (some .int), .methodLink RX4 70 yX3_addClock, .instanceMethod yX3_addClock, .selects RX3 yX3_addClock yX3_addClock, .initialized RX3, .code yX3_addClock cX3_addClock 3 none, .fieldLink RX3 18 "ClockWakers$Street" "loud" "[I", .fieldLink RX3 32 "ClockWakers$Street" "clocks" "I", .fieldLink RX3 21 "ClockWakers$Street" "place" "[I", .fieldLink RX3 24 "ClockWakers$Street" "stuffed" "[Z"] ++ wsX30 ++ wsX40)
def wsX4_read_r1 : List Cond := [Cond.fieldLink RX4 15 "ClockWakers$Sheet" "cells" "[I", Cond.fieldLink RX4 9 "ClockWakers$Text" "codes" "[I", Cond.methodLink RX4 20 arraycopyName, Cond.native arraycopyName, Cond.static arraycopyName, Cond.initialized "java/lang/System", Cond.fieldLink RX4 26 "ClockWakers$Text" "count" "I", Cond.fieldLink RX4 30 "ClockWakers$Text" "at" "I", Cond.methodLink RX4 33 yX3_clear, Cond.instanceMethod yX3_clear, Cond.selects RX3 yX3_clear yX3_clear, Cond.initialized RX3, Cond.code yX3_clear cX3_clear 1 none, Cond.fieldLink RX3 28 "ClockWakers$Street" "houses" "I", Cond.fieldLink RX3 32 "ClockWakers$Street" "clocks" "I", Cond.fieldLink RX3 35 "ClockWakers$Street" "thick" "I", Cond.fieldLink RX3 38 "ClockWakers$Street" "carried" "I", Cond.fieldLink RX3 41 "ClockWakers$Street" "unheard" "I", Cond.methodLink RX4 38 yX4_readWall, Cond.instanceMethod yX4_readWall, Cond.selects RX4 yX4_readWall yX4_readWall, Cond.initialized RX4, Cond.code yX4_readWall cX4_readWall 2 (some .boolean), Cond.fieldLink RX4 56 "ClockWakers$Street" "thick" "I"]
def wsX4_read_r2 : List Cond := [Cond.methodLink RX4 48 yX4_takeSign, Cond.instanceMethod yX4_takeSign, Cond.selects RX4 yX4_takeSign yX4_takeSign, Cond.code yX4_takeSign cX4_takeSign 2 (some .boolean), Cond.methodLink RX4 52 yX4_takeDigit, Cond.instanceMethod yX4_takeDigit, Cond.selects RX4 yX4_takeDigit yX4_takeDigit, Cond.code yX4_takeDigit cX4_takeDigit 4 (some .int), Cond.methodLink RX4 42 yX4_readHouses, Cond.instanceMethod yX4_readHouses, Cond.selects RX4 yX4_readHouses yX4_readHouses, Cond.code yX4_readHouses cX4_readHouses 5 (some .boolean), Cond.fieldLink RX4 67 "ClockWakers$Street" "houses" "I", Cond.methodLink RX4 59 yX4_takeKind, Cond.instanceMethod yX4_takeKind, Cond.selects RX4 yX4_takeKind yX4_takeKind, Cond.code yX4_takeKind cX4_takeKind 1 (some .int), Cond.methodLink RX4 63 yX3_addHouse, Cond.instanceMethod yX3_addHouse, Cond.selects RX3 yX3_addHouse yX3_addHouse, Cond.code yX3_addHouse cX3_addHouse 3 none, Cond.fieldLink RX3 9 "ClockWakers$Street" "kind" "[I", Cond.fieldLink RX3 15 "ClockWakers$Street" "depth" "[I", Cond.methodLink RX4 45 yX4_readClocks]
def wsX4_read_r3 : List Cond := [Cond.instanceMethod yX4_readClocks, Cond.selects RX4 yX4_readClocks yX4_readClocks, Cond.code yX4_readClocks cX4_readClocks 5 (some .boolean), Cond.fieldLink RX4 73 "ClockWakers$Street" "clocks" "I", Cond.methodLink RX4 70 yX3_addClock, Cond.instanceMethod yX3_addClock, Cond.selects RX3 yX3_addClock yX3_addClock, Cond.code yX3_addClock cX3_addClock 3 none, Cond.fieldLink RX3 18 "ClockWakers$Street" "loud" "[I", Cond.fieldLink RX3 21 "ClockWakers$Street" "place" "[I", Cond.fieldLink RX3 24 "ClockWakers$Street" "stuffed" "[Z"]
def wsX4_read : List Cond := .code yX4_read cX4_read 6 (some .int) :: ((wsX4_read_r1 ++ (wsX4_read_r2 ++ wsX4_read_r3)) ++ wsX20 ++ wsX40 ++ wsX30)
def wsX5_init_r1 : List Cond := [Cond.methodLink RX5 3 objectInit, Cond.instanceMethod objectInit, Cond.code objectInit ⟨#[0xb1]⟩ 1 none, Cond.classLink RX5 9 RX3, Cond.instantiable RX3 10, Cond.initialized RX3, Cond.fieldLink RX5 12 "ClockWakers" "now" "LClockWakers$Street;", Cond.fieldLink RX5 18 "ClockWakers" "trial" "LClockWakers$Street;", Cond.classLink RX5 21 RX4, Cond.instantiable RX4 3, Cond.initialized RX4, Cond.fieldLink RX5 24 "ClockWakers" "text" "LClockWakers$Text;", Cond.classLink RX5 28 RX1, Cond.instantiable RX1 5, Cond.initialized RX1, Cond.fieldLink RX5 31 "ClockWakers" "readings" "LClockWakers$Readings;", Cond.classLink RX5 35 RX0, Cond.instantiable RX0 3, Cond.initialized RX0, Cond.fieldLink RX5 38 "ClockWakers" "arrangement" "LClockWakers$Arrangement;", Cond.classLink RX5 42 RX2, Cond.instantiable RX2 4, Cond.initialized RX2, Cond.fieldLink RX5 45 "ClockWakers" "sheets" "[LClockWakers$Sheet;"]
def wsX5_init_r2 : List Cond := [Cond.arrayClass .int, Cond.fieldLink RX5 49 "ClockWakers" "strokesUntil" "[I", Cond.instanceMethod yX3_init, Cond.code yX3_init cX3_init 1 none, Cond.methodLink RX3 3 objectInit, Cond.fieldLink RX3 9 "ClockWakers$Street" "kind" "[I", Cond.fieldLink RX3 15 "ClockWakers$Street" "depth" "[I", Cond.fieldLink RX3 18 "ClockWakers$Street" "loud" "[I", Cond.fieldLink RX3 21 "ClockWakers$Street" "place" "[I", Cond.arrayClass .boolean, Cond.fieldLink RX3 24 "ClockWakers$Street" "stuffed" "[Z", Cond.instanceMethod yX4_init, Cond.code yX4_init cX4_init 1 none, Cond.methodLink RX4 3 objectInit, Cond.fieldLink RX4 9 "ClockWakers$Text" "codes" "[I", Cond.instanceMethod yX1_init, Cond.code yX1_init cX1_init 1 none, Cond.methodLink RX1 3 objectInit, Cond.fieldLink RX1 9 "ClockWakers$Readings" "clock" "[I", Cond.fieldLink RX1 15 "ClockWakers$Readings" "place" "[I", Cond.fieldLink RX1 18 "ClockWakers$Readings" "house" "[I", Cond.fieldLink RX1 21 "ClockWakers$Readings" "woke" "[Z", Cond.instanceMethod yX0_init, Cond.code yX0_init cX0_init 1 none]
def wsX5_init_r3 : List Cond := [Cond.methodLink RX0 3 objectInit, Cond.fieldLink RX0 9 "ClockWakers$Arrangement" "best" "[I", Cond.fieldLink RX0 15 "ClockWakers$Arrangement" "row" "[I", Cond.classLink RX0 18 "[[I", Cond.fieldLink RX0 20 "ClockWakers$Arrangement" "wakers" "[[I", Cond.instanceMethod yX2_init, Cond.code yX2_init cX2_init 1 none, Cond.methodLink RX2 3 objectInit, Cond.fieldLink RX2 9 "ClockWakers$Sheet" "cells" "[I"]
def wsX5_init : List Cond := .code yX5_init cX5_init 1 none :: ((wsX5_init_r1 ++ (wsX5_init_r2 ++ wsX5_init_r3)) ++ wsX30 ++ wsX50 ++ wsX40 ++ wsX10 ++ wsX00 ++ wsX20)
def wsX5_isSheet : List Cond := .code yX5_isSheet cX5_isSheet 1 (some .boolean) :: ([])
def wsX5_isLane : List Cond := .code yX5_isLane cX5_isLane 1 (some .boolean) :: ([])
def wsX5_faulty : List Cond := .code yX5_faulty cX5_faulty 2 (some .int) :: ([.fieldLink RX5 53 "ClockWakers" "latestFault" "I"] ++ wsX50)
def wsX5_street_r1 : List Cond := [Cond.fieldLink RX5 53 "ClockWakers" "latestFault" "I", Cond.fieldLink RX5 45 "ClockWakers" "sheets" "[LClockWakers$Sheet;", Cond.fieldLink RX5 24 "ClockWakers" "text" "LClockWakers$Text;", Cond.fieldLink RX5 18 "ClockWakers" "trial" "LClockWakers$Street;", Cond.fieldLink RX5 12 "ClockWakers" "now" "LClockWakers$Street;", Cond.fieldLink RX5 83 "ClockWakers" "night" "I", Cond.fieldLink RX5 31 "ClockWakers" "readings" "LClockWakers$Readings;", Cond.fieldLink RX5 86 "ClockWakers$Readings" "count" "I", Cond.fieldLink RX5 89 "ClockWakers$Street" "clocks" "I", Cond.methodLink RX5 57 yX5_isSheet, Cond.static yX5_isSheet, Cond.initialized RX5, Cond.code yX5_isSheet cX5_isSheet 1 (some .boolean), Cond.methodLink RX5 61 yX5_isLane, Cond.static yX5_isLane, Cond.code yX5_isLane cX5_isLane 1 (some .boolean), Cond.methodLink RX5 64 yX2_faultAs, Cond.instanceMethod yX2_faultAs, Cond.selects RX2 yX2_faultAs yX2_faultAs, Cond.initialized RX2, Cond.code yX2_faultAs cX2_faultAs 2 (some .int), Cond.fieldLink RX2 15 "ClockWakers$Sheet" "has" "Z", Cond.fieldLink RX2 19 "ClockWakers$Sheet" "lane" "I", Cond.methodLink RX5 68 yX2_lacks]
def wsX5_street_r2 : List Cond := [Cond.instanceMethod yX2_lacks, Cond.selects RX2 yX2_lacks yX2_lacks, Cond.code yX2_lacks cX2_lacks 3 (some .boolean), Cond.fieldLink RX2 23 "ClockWakers$Sheet" "length" "I", Cond.methodLink RX5 72 yX5_faulty, Cond.instanceMethod yX5_faulty, Cond.selects RX5 yX5_faulty yX5_faulty, Cond.code yX5_faulty cX5_faulty 2 (some .int), Cond.methodLink RX5 75 yX4_read, Cond.instanceMethod yX4_read, Cond.selects RX4 yX4_read yX4_read, Cond.initialized RX4, Cond.code yX4_read cX4_read 6 (some .int), Cond.fieldLink RX4 15 "ClockWakers$Sheet" "cells" "[I", Cond.fieldLink RX4 9 "ClockWakers$Text" "codes" "[I", Cond.methodLink RX4 20 arraycopyName, Cond.native arraycopyName, Cond.static arraycopyName, Cond.initialized "java/lang/System", Cond.fieldLink RX4 26 "ClockWakers$Text" "count" "I", Cond.fieldLink RX4 30 "ClockWakers$Text" "at" "I", Cond.methodLink RX4 33 yX3_clear, Cond.instanceMethod yX3_clear, Cond.selects RX3 yX3_clear yX3_clear]
def wsX5_street_r3 : List Cond := [Cond.initialized RX3, Cond.code yX3_clear cX3_clear 1 none, Cond.fieldLink RX3 28 "ClockWakers$Street" "houses" "I", Cond.fieldLink RX3 32 "ClockWakers$Street" "clocks" "I", Cond.fieldLink RX3 35 "ClockWakers$Street" "thick" "I", Cond.fieldLink RX3 38 "ClockWakers$Street" "carried" "I", Cond.fieldLink RX3 41 "ClockWakers$Street" "unheard" "I", Cond.methodLink RX4 38 yX4_readWall, Cond.instanceMethod yX4_readWall, Cond.selects RX4 yX4_readWall yX4_readWall, Cond.code yX4_readWall cX4_readWall 2 (some .boolean), Cond.fieldLink RX4 56 "ClockWakers$Street" "thick" "I", Cond.methodLink RX4 48 yX4_takeSign, Cond.instanceMethod yX4_takeSign, Cond.selects RX4 yX4_takeSign yX4_takeSign, Cond.code yX4_takeSign cX4_takeSign 2 (some .boolean), Cond.methodLink RX4 52 yX4_takeDigit, Cond.instanceMethod yX4_takeDigit, Cond.selects RX4 yX4_takeDigit yX4_takeDigit, Cond.code yX4_takeDigit cX4_takeDigit 4 (some .int), Cond.methodLink RX4 42 yX4_readHouses, Cond.instanceMethod yX4_readHouses, Cond.selects RX4 yX4_readHouses yX4_readHouses, Cond.code yX4_readHouses cX4_readHouses 5 (some .boolean)]
def wsX5_street_r4 : List Cond := [Cond.fieldLink RX4 67 "ClockWakers$Street" "houses" "I", Cond.methodLink RX4 59 yX4_takeKind, Cond.instanceMethod yX4_takeKind, Cond.selects RX4 yX4_takeKind yX4_takeKind, Cond.code yX4_takeKind cX4_takeKind 1 (some .int), Cond.methodLink RX4 63 yX3_addHouse, Cond.instanceMethod yX3_addHouse, Cond.selects RX3 yX3_addHouse yX3_addHouse, Cond.code yX3_addHouse cX3_addHouse 3 none, Cond.fieldLink RX3 9 "ClockWakers$Street" "kind" "[I", Cond.fieldLink RX3 15 "ClockWakers$Street" "depth" "[I", Cond.methodLink RX4 45 yX4_readClocks, Cond.instanceMethod yX4_readClocks, Cond.selects RX4 yX4_readClocks yX4_readClocks, Cond.code yX4_readClocks cX4_readClocks 5 (some .boolean), Cond.fieldLink RX4 73 "ClockWakers$Street" "clocks" "I", Cond.methodLink RX4 70 yX3_addClock, Cond.instanceMethod yX3_addClock, Cond.selects RX3 yX3_addClock yX3_addClock, Cond.code yX3_addClock cX3_addClock 3 none, Cond.fieldLink RX3 18 "ClockWakers$Street" "loud" "[I", Cond.fieldLink RX3 21 "ClockWakers$Street" "place" "[I", Cond.fieldLink RX3 24 "ClockWakers$Street" "stuffed" "[Z", Cond.methodLink RX5 79 yX3_become]
def wsX5_street_r5 : List Cond := [Cond.instanceMethod yX3_become, Cond.selects RX3 yX3_become yX3_become, Cond.code yX3_become cX3_become 3 none, Cond.methodLink RX3 44 yX3_clear]
def wsX5_street : List Cond := .code yX5_street cX5_street 8 (some .int) :: ((wsX5_street_r1 ++ (wsX5_street_r2 ++ (wsX5_street_r3 ++ (wsX5_street_r4 ++ wsX5_street_r5)))) ++ wsX50 ++ wsX10 ++ wsX30 ++ wsX20 ++ wsX40)
def wsX5_ofHouse_r1 : List Cond := [Cond.fieldLink RX5 12 "ClockWakers" "now" "LClockWakers$Street;", Cond.fieldLink RX5 95 "ClockWakers$Street" "kind" "[I", Cond.fieldLink RX5 98 "ClockWakers$Street" "depth" "[I", Cond.methodLink RX5 92 yX3_hasHouse, Cond.instanceMethod yX3_hasHouse, Cond.selects RX3 yX3_hasHouse yX3_hasHouse, Cond.initialized RX3, Cond.code yX3_hasHouse cX3_hasHouse 2 (some .boolean), Cond.fieldLink RX3 28 "ClockWakers$Street" "houses" "I", Cond.methodLink RX5 101 yX3_needs, Cond.instanceMethod yX3_needs, Cond.selects RX3 yX3_needs yX3_needs, Cond.code yX3_needs cX3_needs 2 (some .int), Cond.fieldLink RX3 9 "ClockWakers$Street" "kind" "[I", Cond.fieldLink RX3 15 "ClockWakers$Street" "depth" "[I", Cond.methodLink RX5 104 yX3_clocksIn, Cond.instanceMethod yX3_clocksIn, Cond.selects RX3 yX3_clocksIn yX3_clocksIn, Cond.code yX3_clocksIn cX3_clocksIn 4 (some .int), Cond.fieldLink RX3 32 "ClockWakers$Street" "clocks" "I", Cond.fieldLink RX3 21 "ClockWakers$Street" "place" "[I", Cond.methodLink RX5 107 yX3_clocksWaking, Cond.instanceMethod yX3_clocksWaking, Cond.selects RX3 yX3_clocksWaking yX3_clocksWaking]
def wsX5_ofHouse_r2 : List Cond := [Cond.code yX3_clocksWaking cX3_clocksWaking 4 (some .int), Cond.methodLink RX3 68 yX3_sound, Cond.instanceMethod yX3_sound, Cond.selects RX3 yX3_sound yX3_sound, Cond.code yX3_sound cX3_sound 2 (some .int), Cond.fieldLink RX3 24 "ClockWakers$Street" "stuffed" "[Z", Cond.methodLink RX3 47 yX3_soundIf, Cond.instanceMethod yX3_soundIf, Cond.selects RX3 yX3_soundIf yX3_soundIf, Cond.code yX3_soundIf cX3_soundIf 3 (some .int), Cond.fieldLink RX3 18 "ClockWakers$Street" "loud" "[I", Cond.methodLink RX3 71 yX3_wakes, Cond.instanceMethod yX3_wakes, Cond.selects RX3 yX3_wakes yX3_wakes, Cond.code yX3_wakes cX3_wakes 4 (some .boolean), Cond.methodLink RX3 57 yX3_heard, Cond.instanceMethod yX3_heard, Cond.selects RX3 yX3_heard yX3_heard, Cond.code yX3_heard cX3_heard 4 (some .int), Cond.fieldLink RX3 35 "ClockWakers$Street" "thick" "I", Cond.methodLink RX3 51 Lib.Math.abs.name, Cond.static Lib.Math.abs.name, Cond.initialized "java/lang/Math", Cond.code Lib.Math.abs.name Lib.Math.abs.code 1 (some .int)]
def wsX5_ofHouse_r3 : List Cond := [Cond.methodLink RX3 61 yX3_needs, Cond.methodLink RX3 64 yX3_spare, Cond.static yX3_spare, Cond.code yX3_spare cX3_spare 2 (some .int)]
def wsX5_ofHouse : List Cond := .code yX5_ofHouse cX5_ofHouse 3 (some .int) :: ((wsX5_ofHouse_r1 ++ (wsX5_ofHouse_r2 ++ wsX5_ofHouse_r3)) ++ wsX50 ++ wsX30)
def wsX5_ofClock_r1 : List Cond := [Cond.fieldLink RX5 12 "ClockWakers" "now" "LClockWakers$Street;", Cond.fieldLink RX5 113 "ClockWakers$Street" "loud" "[I", Cond.fieldLink RX5 119 "ClockWakers$Street" "place" "[I", Cond.fieldLink RX5 122 "ClockWakers$Street" "stuffed" "[Z", Cond.methodLink RX5 110 yX3_hasClock, Cond.instanceMethod yX3_hasClock, Cond.selects RX3 yX3_hasClock yX3_hasClock, Cond.initialized RX3, Cond.code yX3_hasClock cX3_hasClock 2 (some .boolean), Cond.fieldLink RX3 32 "ClockWakers$Street" "clocks" "I", Cond.methodLink RX5 116 yX3_sound, Cond.instanceMethod yX3_sound, Cond.selects RX3 yX3_sound yX3_sound, Cond.code yX3_sound cX3_sound 2 (some .int), Cond.fieldLink RX3 24 "ClockWakers$Street" "stuffed" "[Z", Cond.methodLink RX3 47 yX3_soundIf, Cond.instanceMethod yX3_soundIf, Cond.selects RX3 yX3_soundIf yX3_soundIf, Cond.code yX3_soundIf cX3_soundIf 3 (some .int), Cond.fieldLink RX3 18 "ClockWakers$Street" "loud" "[I", Cond.methodLink RX5 126 yX3_wakers, Cond.instanceMethod yX3_wakers, Cond.selects RX3 yX3_wakers yX3_wakers, Cond.code yX3_wakers cX3_wakers 6 (some .int)]
def wsX5_ofClock_r2 : List Cond := [Cond.fieldLink RX3 28 "ClockWakers$Street" "houses" "I", Cond.methodLink RX3 68 yX3_sound, Cond.methodLink RX3 71 yX3_wakes, Cond.instanceMethod yX3_wakes, Cond.selects RX3 yX3_wakes yX3_wakes, Cond.code yX3_wakes cX3_wakes 4 (some .boolean), Cond.methodLink RX3 57 yX3_heard, Cond.instanceMethod yX3_heard, Cond.selects RX3 yX3_heard yX3_heard, Cond.code yX3_heard cX3_heard 4 (some .int), Cond.fieldLink RX3 35 "ClockWakers$Street" "thick" "I", Cond.methodLink RX3 51 Lib.Math.abs.name, Cond.static Lib.Math.abs.name, Cond.initialized "java/lang/Math", Cond.code Lib.Math.abs.name Lib.Math.abs.code 1 (some .int), Cond.methodLink RX3 61 yX3_needs, Cond.instanceMethod yX3_needs, Cond.selects RX3 yX3_needs yX3_needs, Cond.code yX3_needs cX3_needs 2 (some .int), Cond.fieldLink RX3 9 "ClockWakers$Street" "kind" "[I", Cond.fieldLink RX3 15 "ClockWakers$Street" "depth" "[I", Cond.methodLink RX3 64 yX3_spare, Cond.static yX3_spare, Cond.code yX3_spare cX3_spare 2 (some .int)]
def wsX5_ofClock_r3 : List Cond := [Cond.methodLink RX5 130 yX3_owner, Cond.instanceMethod yX3_owner, Cond.selects RX3 yX3_owner yX3_owner, Cond.code yX3_owner cX3_owner 8 (some .int)]
def wsX5_ofClock : List Cond := .code yX5_ofClock cX5_ofClock 3 (some .int) :: ((wsX5_ofClock_r1 ++ (wsX5_ofClock_r2 ++ wsX5_ofClock_r3)) ++ wsX50 ++ wsX30)
def wsX5_drowse : List Cond := .code yX5_drowse cX5_drowse 4 (some .int) :: ([.fieldLink RX5 12 "ClockWakers" "now" "LClockWakers$Street;", .fieldLink RX5 98 "ClockWakers$Street" "depth" "[I", .methodLink RX5 92 yX3_hasHouse, .instanceMethod yX3_hasHouse, .selects RX3 yX3_hasHouse yX3_hasHouse, .initialized RX3, .code yX3_hasHouse cX3_hasHouse 2 (some .boolean), .fieldLink RX3 28 "ClockWakers$Street" "houses" "I"] ++ wsX50 ++ wsX30)
def wsX5_tune : List Cond := .code yX5_tune cX5_tune 4 (some .int) :: ([.fieldLink RX5 12 "ClockWakers" "now" "LClockWakers$Street;", .fieldLink RX5 113 "ClockWakers$Street" "loud" "[I", .methodLink RX5 110 yX3_hasClock, .instanceMethod yX3_hasClock, .selects RX3 yX3_hasClock yX3_hasClock, .initialized RX3, .code yX3_hasClock cX3_hasClock 2 (some .boolean), .fieldLink RX3 32 "ClockWakers$Street" "clocks" "I"] ++ wsX50 ++ wsX30)
def wsX5_wall : List Cond := .code yX5_wall cX5_wall 3 (some .int) :: ([.fieldLink RX5 12 "ClockWakers" "now" "LClockWakers$Street;", .fieldLink RX5 137 "ClockWakers$Street" "thick" "I", .methodLink RX5 133 yX3_stands, .instanceMethod yX3_stands, .selects RX3 yX3_stands yX3_stands, .initialized RX3, .code yX3_stands cX3_stands 1 (some .boolean), .fieldLink RX3 28 "ClockWakers$Street" "houses" "I"] ++ wsX50 ++ wsX30)
def wsX5_hears_r1 : List Cond := [Cond.fieldLink RX5 12 "ClockWakers" "now" "LClockWakers$Street;", Cond.constantLong RX5 140 (-9223372036854775808), Cond.fieldLink RX5 119 "ClockWakers$Street" "place" "[I", Cond.methodLink RX5 92 yX3_hasHouse, Cond.instanceMethod yX3_hasHouse, Cond.selects RX3 yX3_hasHouse yX3_hasHouse, Cond.initialized RX3, Cond.code yX3_hasHouse cX3_hasHouse 2 (some .boolean), Cond.fieldLink RX3 28 "ClockWakers$Street" "houses" "I", Cond.methodLink RX5 110 yX3_hasClock, Cond.instanceMethod yX3_hasClock, Cond.selects RX3 yX3_hasClock yX3_hasClock, Cond.code yX3_hasClock cX3_hasClock 2 (some .boolean), Cond.fieldLink RX3 32 "ClockWakers$Street" "clocks" "I", Cond.methodLink RX5 116 yX3_sound, Cond.instanceMethod yX3_sound, Cond.selects RX3 yX3_sound yX3_sound, Cond.code yX3_sound cX3_sound 2 (some .int), Cond.fieldLink RX3 24 "ClockWakers$Street" "stuffed" "[Z", Cond.methodLink RX3 47 yX3_soundIf, Cond.instanceMethod yX3_soundIf, Cond.selects RX3 yX3_soundIf yX3_soundIf, Cond.code yX3_soundIf cX3_soundIf 3 (some .int), Cond.fieldLink RX3 18 "ClockWakers$Street" "loud" "[I"]
def wsX5_hears_r2 : List Cond := [Cond.methodLink RX5 142 yX3_heard, Cond.instanceMethod yX3_heard, Cond.selects RX3 yX3_heard yX3_heard, Cond.code yX3_heard cX3_heard 4 (some .int), Cond.fieldLink RX3 35 "ClockWakers$Street" "thick" "I", Cond.methodLink RX3 51 Lib.Math.abs.name, Cond.static Lib.Math.abs.name, Cond.initialized "java/lang/Math", Cond.code Lib.Math.abs.name Lib.Math.abs.code 1 (some .int)]
def wsX5_hears : List Cond := .code yX5_hears cX5_hears 3 (some .long) :: ((wsX5_hears_r1 ++ wsX5_hears_r2) ++ wsX50 ++ wsX30)
def wsX5_stroke_r1 : List Cond := [Cond.fieldLink RX5 12 "ClockWakers" "now" "LClockWakers$Street;", Cond.methodLink RX5 110 yX3_hasClock, Cond.instanceMethod yX3_hasClock, Cond.selects RX3 yX3_hasClock yX3_hasClock, Cond.initialized RX3, Cond.code yX3_hasClock cX3_hasClock 2 (some .boolean), Cond.fieldLink RX3 32 "ClockWakers$Street" "clocks" "I", Cond.methodLink RX5 146 yX3_strike, Cond.instanceMethod yX3_strike, Cond.selects RX3 yX3_strike yX3_strike, Cond.code yX3_strike cX3_strike 3 (some .int), Cond.fieldLink RX3 21 "ClockWakers$Street" "place" "[I", Cond.fieldLink RX3 41 "ClockWakers$Street" "unheard" "I", Cond.fieldLink RX3 38 "ClockWakers$Street" "carried" "I", Cond.methodLink RX3 75 yX3_owner, Cond.instanceMethod yX3_owner, Cond.selects RX3 yX3_owner yX3_owner, Cond.code yX3_owner cX3_owner 8 (some .int), Cond.fieldLink RX3 28 "ClockWakers$Street" "houses" "I", Cond.methodLink RX3 68 yX3_sound, Cond.instanceMethod yX3_sound, Cond.selects RX3 yX3_sound yX3_sound, Cond.code yX3_sound cX3_sound 2 (some .int), Cond.fieldLink RX3 24 "ClockWakers$Street" "stuffed" "[Z"]
def wsX5_stroke_r2 : List Cond := [Cond.methodLink RX3 47 yX3_soundIf, Cond.instanceMethod yX3_soundIf, Cond.selects RX3 yX3_soundIf yX3_soundIf, Cond.code yX3_soundIf cX3_soundIf 3 (some .int), Cond.fieldLink RX3 18 "ClockWakers$Street" "loud" "[I", Cond.methodLink RX3 57 yX3_heard, Cond.instanceMethod yX3_heard, Cond.selects RX3 yX3_heard yX3_heard, Cond.code yX3_heard cX3_heard 4 (some .int), Cond.fieldLink RX3 35 "ClockWakers$Street" "thick" "I", Cond.methodLink RX3 51 Lib.Math.abs.name, Cond.static Lib.Math.abs.name, Cond.initialized "java/lang/Math", Cond.code Lib.Math.abs.name Lib.Math.abs.code 1 (some .int), Cond.methodLink RX3 61 yX3_needs, Cond.instanceMethod yX3_needs, Cond.selects RX3 yX3_needs yX3_needs, Cond.code yX3_needs cX3_needs 2 (some .int), Cond.fieldLink RX3 9 "ClockWakers$Street" "kind" "[I", Cond.fieldLink RX3 15 "ClockWakers$Street" "depth" "[I", Cond.methodLink RX3 64 yX3_spare, Cond.static yX3_spare, Cond.code yX3_spare cX3_spare 2 (some .int)]
def wsX5_stroke : List Cond := .code yX5_stroke cX5_stroke 2 (some .int) :: ((wsX5_stroke_r1 ++ wsX5_stroke_r2) ++ wsX50 ++ wsX30)
def wsX5_nights_r1 : List Cond := [Cond.fieldLink RX5 12 "ClockWakers" "now" "LClockWakers$Street;", Cond.fieldLink RX5 18 "ClockWakers" "trial" "LClockWakers$Street;", Cond.fieldLink RX5 83 "ClockWakers" "night" "I", Cond.fieldLink RX5 89 "ClockWakers$Street" "clocks" "I", Cond.fieldLink RX5 119 "ClockWakers$Street" "place" "[I", Cond.methodLink RX5 133 yX3_stands, Cond.instanceMethod yX3_stands, Cond.selects RX3 yX3_stands yX3_stands, Cond.initialized RX3, Cond.code yX3_stands cX3_stands 1 (some .boolean), Cond.fieldLink RX3 28 "ClockWakers$Street" "houses" "I", Cond.methodLink RX5 79 yX3_become, Cond.instanceMethod yX3_become, Cond.selects RX3 yX3_become yX3_become, Cond.code yX3_become cX3_become 3 none, Cond.fieldLink RX3 32 "ClockWakers$Street" "clocks" "I", Cond.fieldLink RX3 35 "ClockWakers$Street" "thick" "I", Cond.fieldLink RX3 9 "ClockWakers$Street" "kind" "[I", Cond.fieldLink RX3 15 "ClockWakers$Street" "depth" "[I", Cond.fieldLink RX3 18 "ClockWakers$Street" "loud" "[I", Cond.fieldLink RX3 21 "ClockWakers$Street" "place" "[I", Cond.fieldLink RX3 24 "ClockWakers$Street" "stuffed" "[Z", Cond.methodLink RX3 44 yX3_clear, Cond.instanceMethod yX3_clear]
def wsX5_nights_r2 : List Cond := [Cond.selects RX3 yX3_clear yX3_clear, Cond.code yX3_clear cX3_clear 1 none, Cond.fieldLink RX3 38 "ClockWakers$Street" "carried" "I", Cond.fieldLink RX3 41 "ClockWakers$Street" "unheard" "I", Cond.methodLink RX5 149 yX3_passNights, Cond.instanceMethod yX3_passNights, Cond.selects RX3 yX3_passNights yX3_passNights, Cond.code yX3_passNights cX3_passNights 4 none, Cond.methodLink RX3 78 yX3_strike, Cond.instanceMethod yX3_strike, Cond.selects RX3 yX3_strike yX3_strike, Cond.code yX3_strike cX3_strike 3 (some .int), Cond.methodLink RX3 75 yX3_owner, Cond.instanceMethod yX3_owner, Cond.selects RX3 yX3_owner yX3_owner, Cond.code yX3_owner cX3_owner 8 (some .int), Cond.methodLink RX3 68 yX3_sound, Cond.instanceMethod yX3_sound, Cond.selects RX3 yX3_sound yX3_sound, Cond.code yX3_sound cX3_sound 2 (some .int), Cond.methodLink RX3 47 yX3_soundIf, Cond.instanceMethod yX3_soundIf, Cond.selects RX3 yX3_soundIf yX3_soundIf, Cond.code yX3_soundIf cX3_soundIf 3 (some .int)]
def wsX5_nights_r3 : List Cond := [Cond.methodLink RX3 57 yX3_heard, Cond.instanceMethod yX3_heard, Cond.selects RX3 yX3_heard yX3_heard, Cond.code yX3_heard cX3_heard 4 (some .int), Cond.methodLink RX3 51 Lib.Math.abs.name, Cond.static Lib.Math.abs.name, Cond.initialized "java/lang/Math", Cond.code Lib.Math.abs.name Lib.Math.abs.code 1 (some .int), Cond.methodLink RX3 61 yX3_needs, Cond.instanceMethod yX3_needs, Cond.selects RX3 yX3_needs yX3_needs, Cond.code yX3_needs cX3_needs 2 (some .int), Cond.methodLink RX3 64 yX3_spare, Cond.static yX3_spare, Cond.code yX3_spare cX3_spare 2 (some .int)]
def wsX5_nights : List Cond := .code yX5_nights cX5_nights 4 (some .int) :: ((wsX5_nights_r1 ++ (wsX5_nights_r2 ++ wsX5_nights_r3)) ++ wsX50 ++ wsX30)
def wsX5_stuff : List Cond := .code yX5_stuff cX5_stuff 2 (some .int) :: ([.fieldLink RX5 12 "ClockWakers" "now" "LClockWakers$Street;", .fieldLink RX5 122 "ClockWakers$Street" "stuffed" "[Z", .methodLink RX5 110 yX3_hasClock, .instanceMethod yX3_hasClock, .selects RX3 yX3_hasClock yX3_hasClock, .initialized RX3, .code yX3_hasClock cX3_hasClock 2 (some .boolean), .fieldLink RX3 32 "ClockWakers$Street" "clocks" "I", .methodLink RX5 153 yX3_stuffedClocks, .instanceMethod yX3_stuffedClocks, .selects RX3 yX3_stuffedClocks yX3_stuffedClocks, .code yX3_stuffedClocks cX3_stuffedClocks 3 (some .int), .fieldLink RX3 24 "ClockWakers$Street" "stuffed" "[Z", .methodLink RX5 157 yJ6_bitCount_0f7a4, .static yJ6_bitCount_0f7a4, .initialized RJ6, .code yJ6_bitCount_0f7a4 cJ6_bitCount_0f7a4 1 (some .int), .constant RJ6 265 (1431655765), .constant RJ6 266 (858993459), .constant RJ6 267 (252645135)] ++ wsX50 ++ wsX30)
def wsX5_ease : List Cond := .code yX5_ease cX5_ease 2 (some .int) :: ([.fieldLink RX5 12 "ClockWakers" "now" "LClockWakers$Street;", .fieldLink RX5 122 "ClockWakers$Street" "stuffed" "[Z", .methodLink RX5 110 yX3_hasClock, .instanceMethod yX3_hasClock, .selects RX3 yX3_hasClock yX3_hasClock, .initialized RX3, .code yX3_hasClock cX3_hasClock 2 (some .boolean), .fieldLink RX3 32 "ClockWakers$Street" "clocks" "I", .methodLink RX5 153 yX3_stuffedClocks, .instanceMethod yX3_stuffedClocks, .selects RX3 yX3_stuffedClocks yX3_stuffedClocks, .code yX3_stuffedClocks cX3_stuffedClocks 3 (some .int), .fieldLink RX3 24 "ClockWakers$Street" "stuffed" "[Z", .methodLink RX5 157 yJ6_bitCount_0f7a4, .static yJ6_bitCount_0f7a4, .initialized RJ6, .code yJ6_bitCount_0f7a4 cJ6_bitCount_0f7a4 1 (some .int), .constant RJ6 265 (1431655765), .constant RJ6 266 (858993459), .constant RJ6 267 (252645135)] ++ wsX50 ++ wsX30)
def wsX5_carry : List Cond := .code yX5_carry cX5_carry 4 (some .int) :: ([.fieldLink RX5 12 "ClockWakers" "now" "LClockWakers$Street;", .fieldLink RX5 119 "ClockWakers$Street" "place" "[I", .methodLink RX5 110 yX3_hasClock, .instanceMethod yX3_hasClock, .selects RX3 yX3_hasClock yX3_hasClock, .initialized RX3, .code yX3_hasClock cX3_hasClock 2 (some .boolean), .fieldLink RX3 32 "ClockWakers$Street" "clocks" "I", .methodLink RX5 92 yX3_hasHouse, .instanceMethod yX3_hasHouse, .selects RX3 yX3_hasHouse yX3_hasHouse, .code yX3_hasHouse cX3_hasHouse 2 (some .boolean), .fieldLink RX3 28 "ClockWakers$Street" "houses" "I"] ++ wsX50 ++ wsX30)
def wsX5_isAskedOfSeason : List Cond := .code yX5_isAskedOfSeason cX5_isAskedOfSeason 1 (some .boolean) :: ([])
def wsX5_refusalOfAct : List Cond := .code yX5_refusalOfAct cX5_refusalOfAct 3 (some .int) :: ([.fieldLink RX5 12 "ClockWakers" "now" "LClockWakers$Street;", .methodLink RX5 110 yX3_hasClock, .instanceMethod yX3_hasClock, .selects RX3 yX3_hasClock yX3_hasClock, .initialized RX3, .code yX3_hasClock cX3_hasClock 2 (some .boolean), .fieldLink RX3 32 "ClockWakers$Street" "clocks" "I", .methodLink RX5 92 yX3_hasHouse, .instanceMethod yX3_hasHouse, .selects RX3 yX3_hasHouse yX3_hasHouse, .code yX3_hasHouse cX3_hasHouse 2 (some .boolean), .fieldLink RX3 28 "ClockWakers$Street" "houses" "I"] ++ wsX50 ++ wsX30)
def wsX5_refusalOfActs : List Cond := .code yX5_refusalOfActs cX5_refusalOfActs 6 (some .int) :: ([.fieldLink RX5 224 "ClockWakers$Sheet" "cells" "[I", .methodLink RX5 257 yX5_refusalOfAct, .instanceMethod yX5_refusalOfAct, .selects RX5 yX5_refusalOfAct yX5_refusalOfAct, .initialized RX5, .code yX5_refusalOfAct cX5_refusalOfAct 3 (some .int), .fieldLink RX5 12 "ClockWakers" "now" "LClockWakers$Street;", .methodLink RX5 110 yX3_hasClock, .instanceMethod yX3_hasClock, .selects RX3 yX3_hasClock yX3_hasClock, .initialized RX3, .code yX3_hasClock cX3_hasClock 2 (some .boolean), .fieldLink RX3 32 "ClockWakers$Street" "clocks" "I", .methodLink RX5 92 yX3_hasHouse, .instanceMethod yX3_hasHouse, .selects RX3 yX3_hasHouse yX3_hasHouse, .code yX3_hasHouse cX3_hasHouse 2 (some .boolean), .fieldLink RX3 28 "ClockWakers$Street" "houses" "I"] ++ wsX20 ++ wsX50 ++ wsX30)
def wsX5_canTurn : List Cond := .code yX5_canTurn cX5_canTurn 3 (some .boolean) :: ([.fieldLink RX5 18 "ClockWakers" "trial" "LClockWakers$Street;", .fieldLink RX5 122 "ClockWakers$Street" "stuffed" "[Z"] ++ wsX50 ++ wsX30)
def wsX5_canCarry : List Cond := .code yX5_canCarry cX5_canCarry 3 (some .boolean) :: ([.fieldLink RX5 18 "ClockWakers" "trial" "LClockWakers$Street;", .fieldLink RX5 119 "ClockWakers$Street" "place" "[I", .methodLink RX5 110 yX3_hasClock, .instanceMethod yX3_hasClock, .selects RX3 yX3_hasClock yX3_hasClock, .initialized RX3, .code yX3_hasClock cX3_hasClock 2 (some .boolean), .fieldLink RX3 32 "ClockWakers$Street" "clocks" "I"] ++ wsX50 ++ wsX30)
def wsX5_canAct_r1 : List Cond := [Cond.fieldLink RX5 18 "ClockWakers" "trial" "LClockWakers$Street;", Cond.methodLink RX5 146 yX3_strike, Cond.instanceMethod yX3_strike, Cond.selects RX3 yX3_strike yX3_strike, Cond.initialized RX3, Cond.code yX3_strike cX3_strike 3 (some .int), Cond.fieldLink RX3 21 "ClockWakers$Street" "place" "[I", Cond.fieldLink RX3 41 "ClockWakers$Street" "unheard" "I", Cond.fieldLink RX3 38 "ClockWakers$Street" "carried" "I", Cond.methodLink RX3 75 yX3_owner, Cond.instanceMethod yX3_owner, Cond.selects RX3 yX3_owner yX3_owner, Cond.code yX3_owner cX3_owner 8 (some .int), Cond.fieldLink RX3 28 "ClockWakers$Street" "houses" "I", Cond.methodLink RX3 68 yX3_sound, Cond.instanceMethod yX3_sound, Cond.selects RX3 yX3_sound yX3_sound, Cond.code yX3_sound cX3_sound 2 (some .int), Cond.fieldLink RX3 24 "ClockWakers$Street" "stuffed" "[Z", Cond.methodLink RX3 47 yX3_soundIf, Cond.instanceMethod yX3_soundIf, Cond.selects RX3 yX3_soundIf yX3_soundIf, Cond.code yX3_soundIf cX3_soundIf 3 (some .int), Cond.fieldLink RX3 18 "ClockWakers$Street" "loud" "[I"]
def wsX5_canAct_r2 : List Cond := [Cond.methodLink RX3 57 yX3_heard, Cond.instanceMethod yX3_heard, Cond.selects RX3 yX3_heard yX3_heard, Cond.code yX3_heard cX3_heard 4 (some .int), Cond.fieldLink RX3 35 "ClockWakers$Street" "thick" "I", Cond.methodLink RX3 51 Lib.Math.abs.name, Cond.static Lib.Math.abs.name, Cond.initialized "java/lang/Math", Cond.code Lib.Math.abs.name Lib.Math.abs.code 1 (some .int), Cond.methodLink RX3 61 yX3_needs, Cond.instanceMethod yX3_needs, Cond.selects RX3 yX3_needs yX3_needs, Cond.code yX3_needs cX3_needs 2 (some .int), Cond.fieldLink RX3 9 "ClockWakers$Street" "kind" "[I", Cond.fieldLink RX3 15 "ClockWakers$Street" "depth" "[I", Cond.methodLink RX3 64 yX3_spare, Cond.static yX3_spare, Cond.code yX3_spare cX3_spare 2 (some .int), Cond.methodLink RX5 263 yX5_canTurn, Cond.instanceMethod yX5_canTurn, Cond.selects RX5 yX5_canTurn yX5_canTurn, Cond.initialized RX5, Cond.code yX5_canTurn cX5_canTurn 3 (some .boolean), Cond.fieldLink RX5 122 "ClockWakers$Street" "stuffed" "[Z"]
def wsX5_canAct_r3 : List Cond := [Cond.methodLink RX5 149 yX3_passNights, Cond.instanceMethod yX3_passNights, Cond.selects RX3 yX3_passNights yX3_passNights, Cond.code yX3_passNights cX3_passNights 4 none, Cond.fieldLink RX3 32 "ClockWakers$Street" "clocks" "I", Cond.methodLink RX3 78 yX3_strike, Cond.methodLink RX5 267 yX5_canCarry, Cond.instanceMethod yX5_canCarry, Cond.selects RX5 yX5_canCarry yX5_canCarry, Cond.code yX5_canCarry cX5_canCarry 3 (some .boolean), Cond.fieldLink RX5 119 "ClockWakers$Street" "place" "[I", Cond.methodLink RX5 110 yX3_hasClock, Cond.instanceMethod yX3_hasClock, Cond.selects RX3 yX3_hasClock yX3_hasClock, Cond.code yX3_hasClock cX3_hasClock 2 (some .boolean)]
def wsX5_canAct : List Cond := .code yX5_canAct cX5_canAct 3 (some .boolean) :: ((wsX5_canAct_r1 ++ (wsX5_canAct_r2 ++ wsX5_canAct_r3)) ++ wsX50 ++ wsX30)
def wsX5_playOnTrial_r1 : List Cond := [Cond.fieldLink RX5 18 "ClockWakers" "trial" "LClockWakers$Street;", Cond.fieldLink RX5 12 "ClockWakers" "now" "LClockWakers$Street;", Cond.fieldLink RX5 224 "ClockWakers$Sheet" "cells" "[I", Cond.methodLink RX5 79 yX3_become, Cond.instanceMethod yX3_become, Cond.selects RX3 yX3_become yX3_become, Cond.initialized RX3, Cond.code yX3_become cX3_become 3 none, Cond.fieldLink RX3 28 "ClockWakers$Street" "houses" "I", Cond.fieldLink RX3 32 "ClockWakers$Street" "clocks" "I", Cond.fieldLink RX3 35 "ClockWakers$Street" "thick" "I", Cond.fieldLink RX3 9 "ClockWakers$Street" "kind" "[I", Cond.fieldLink RX3 15 "ClockWakers$Street" "depth" "[I", Cond.fieldLink RX3 18 "ClockWakers$Street" "loud" "[I", Cond.fieldLink RX3 21 "ClockWakers$Street" "place" "[I", Cond.fieldLink RX3 24 "ClockWakers$Street" "stuffed" "[Z", Cond.methodLink RX3 44 yX3_clear, Cond.instanceMethod yX3_clear, Cond.selects RX3 yX3_clear yX3_clear, Cond.code yX3_clear cX3_clear 1 none, Cond.fieldLink RX3 38 "ClockWakers$Street" "carried" "I", Cond.fieldLink RX3 41 "ClockWakers$Street" "unheard" "I", Cond.methodLink RX5 260 yX5_canAct, Cond.instanceMethod yX5_canAct]
def wsX5_playOnTrial_r2 : List Cond := [Cond.selects RX5 yX5_canAct yX5_canAct, Cond.initialized RX5, Cond.code yX5_canAct cX5_canAct 3 (some .boolean), Cond.methodLink RX5 146 yX3_strike, Cond.instanceMethod yX3_strike, Cond.selects RX3 yX3_strike yX3_strike, Cond.code yX3_strike cX3_strike 3 (some .int), Cond.methodLink RX3 75 yX3_owner, Cond.instanceMethod yX3_owner, Cond.selects RX3 yX3_owner yX3_owner, Cond.code yX3_owner cX3_owner 8 (some .int), Cond.methodLink RX3 68 yX3_sound, Cond.instanceMethod yX3_sound, Cond.selects RX3 yX3_sound yX3_sound, Cond.code yX3_sound cX3_sound 2 (some .int), Cond.methodLink RX3 47 yX3_soundIf, Cond.instanceMethod yX3_soundIf, Cond.selects RX3 yX3_soundIf yX3_soundIf, Cond.code yX3_soundIf cX3_soundIf 3 (some .int), Cond.methodLink RX3 57 yX3_heard, Cond.instanceMethod yX3_heard, Cond.selects RX3 yX3_heard yX3_heard, Cond.code yX3_heard cX3_heard 4 (some .int), Cond.methodLink RX3 51 Lib.Math.abs.name]
def wsX5_playOnTrial_r3 : List Cond := [Cond.static Lib.Math.abs.name, Cond.initialized "java/lang/Math", Cond.code Lib.Math.abs.name Lib.Math.abs.code 1 (some .int), Cond.methodLink RX3 61 yX3_needs, Cond.instanceMethod yX3_needs, Cond.selects RX3 yX3_needs yX3_needs, Cond.code yX3_needs cX3_needs 2 (some .int), Cond.methodLink RX3 64 yX3_spare, Cond.static yX3_spare, Cond.code yX3_spare cX3_spare 2 (some .int), Cond.methodLink RX5 263 yX5_canTurn, Cond.instanceMethod yX5_canTurn, Cond.selects RX5 yX5_canTurn yX5_canTurn, Cond.code yX5_canTurn cX5_canTurn 3 (some .boolean), Cond.fieldLink RX5 122 "ClockWakers$Street" "stuffed" "[Z", Cond.methodLink RX5 149 yX3_passNights, Cond.instanceMethod yX3_passNights, Cond.selects RX3 yX3_passNights yX3_passNights, Cond.code yX3_passNights cX3_passNights 4 none, Cond.methodLink RX3 78 yX3_strike, Cond.methodLink RX5 267 yX5_canCarry, Cond.instanceMethod yX5_canCarry, Cond.selects RX5 yX5_canCarry yX5_canCarry, Cond.code yX5_canCarry cX5_canCarry 3 (some .boolean)]
def wsX5_playOnTrial_r4 : List Cond := [Cond.fieldLink RX5 119 "ClockWakers$Street" "place" "[I", Cond.methodLink RX5 110 yX3_hasClock, Cond.instanceMethod yX3_hasClock, Cond.selects RX3 yX3_hasClock yX3_hasClock, Cond.code yX3_hasClock cX3_hasClock 2 (some .boolean)]
def wsX5_playOnTrial : List Cond := .code yX5_playOnTrial cX5_playOnTrial 5 (some .int) :: ((wsX5_playOnTrial_r1 ++ (wsX5_playOnTrial_r2 ++ (wsX5_playOnTrial_r3 ++ wsX5_playOnTrial_r4))) ++ wsX50 ++ wsX20 ++ wsX30)
def wsX5_answerOfTrial : List Cond := .code yX5_answerOfTrial cX5_answerOfTrial 2 (some .int) :: ([.fieldLink RX5 18 "ClockWakers" "trial" "LClockWakers$Street;", .fieldLink RX5 187 "ClockWakers$Street" "carried" "I", .fieldLink RX5 270 "ClockWakers$Street" "unheard" "I", .fieldLink RX5 119 "ClockWakers$Street" "place" "[I", .methodLink RX5 153 yX3_stuffedClocks, .instanceMethod yX3_stuffedClocks, .selects RX3 yX3_stuffedClocks yX3_stuffedClocks, .initialized RX3, .code yX3_stuffedClocks cX3_stuffedClocks 3 (some .int), .fieldLink RX3 32 "ClockWakers$Street" "clocks" "I", .fieldLink RX3 24 "ClockWakers$Street" "stuffed" "[Z", .methodLink RX5 273 yX3_housesWithClocks, .instanceMethod yX3_housesWithClocks, .selects RX3 yX3_housesWithClocks yX3_housesWithClocks, .code yX3_housesWithClocks cX3_housesWithClocks 3 (some .int), .fieldLink RX3 21 "ClockWakers$Street" "place" "[I", .methodLink RX5 110 yX3_hasClock, .instanceMethod yX3_hasClock, .selects RX3 yX3_hasClock yX3_hasClock, .code yX3_hasClock cX3_hasClock 2 (some .boolean)] ++ wsX50 ++ wsX30)
def wsX5_season_r1 : List Cond := [Cond.fieldLink RX5 53 "ClockWakers" "latestFault" "I", Cond.fieldLink RX5 45 "ClockWakers" "sheets" "[LClockWakers$Sheet;", Cond.fieldLink RX5 12 "ClockWakers" "now" "LClockWakers$Street;", Cond.methodLink RX5 57 yX5_isSheet, Cond.static yX5_isSheet, Cond.initialized RX5, Cond.code yX5_isSheet cX5_isSheet 1 (some .boolean), Cond.methodLink RX5 61 yX5_isLane, Cond.static yX5_isLane, Cond.code yX5_isLane cX5_isLane 1 (some .boolean), Cond.methodLink RX5 162 yX5_isAskedOfSeason, Cond.static yX5_isAskedOfSeason, Cond.code yX5_isAskedOfSeason cX5_isAskedOfSeason 1 (some .boolean), Cond.methodLink RX5 64 yX2_faultAs, Cond.instanceMethod yX2_faultAs, Cond.selects RX2 yX2_faultAs yX2_faultAs, Cond.initialized RX2, Cond.code yX2_faultAs cX2_faultAs 2 (some .int), Cond.fieldLink RX2 15 "ClockWakers$Sheet" "has" "Z", Cond.fieldLink RX2 19 "ClockWakers$Sheet" "lane" "I", Cond.methodLink RX5 68 yX2_lacks, Cond.instanceMethod yX2_lacks, Cond.selects RX2 yX2_lacks yX2_lacks, Cond.code yX2_lacks cX2_lacks 3 (some .boolean)]
def wsX5_season_r2 : List Cond := [Cond.fieldLink RX2 23 "ClockWakers$Sheet" "length" "I", Cond.methodLink RX5 72 yX5_faulty, Cond.instanceMethod yX5_faulty, Cond.selects RX5 yX5_faulty yX5_faulty, Cond.code yX5_faulty cX5_faulty 2 (some .int), Cond.methodLink RX5 133 yX3_stands, Cond.instanceMethod yX3_stands, Cond.selects RX3 yX3_stands yX3_stands, Cond.initialized RX3, Cond.code yX3_stands cX3_stands 1 (some .boolean), Cond.fieldLink RX3 28 "ClockWakers$Street" "houses" "I", Cond.methodLink RX5 165 yX5_refusalOfActs, Cond.instanceMethod yX5_refusalOfActs, Cond.selects RX5 yX5_refusalOfActs yX5_refusalOfActs, Cond.code yX5_refusalOfActs cX5_refusalOfActs 6 (some .int), Cond.fieldLink RX5 224 "ClockWakers$Sheet" "cells" "[I", Cond.methodLink RX5 257 yX5_refusalOfAct, Cond.instanceMethod yX5_refusalOfAct, Cond.selects RX5 yX5_refusalOfAct yX5_refusalOfAct, Cond.code yX5_refusalOfAct cX5_refusalOfAct 3 (some .int), Cond.methodLink RX5 110 yX3_hasClock, Cond.instanceMethod yX3_hasClock, Cond.selects RX3 yX3_hasClock yX3_hasClock, Cond.code yX3_hasClock cX3_hasClock 2 (some .boolean)]
def wsX5_season_r3 : List Cond := [Cond.fieldLink RX3 32 "ClockWakers$Street" "clocks" "I", Cond.methodLink RX5 92 yX3_hasHouse, Cond.instanceMethod yX3_hasHouse, Cond.selects RX3 yX3_hasHouse yX3_hasHouse, Cond.code yX3_hasHouse cX3_hasHouse 2 (some .boolean), Cond.methodLink RX5 169 yX5_playOnTrial, Cond.instanceMethod yX5_playOnTrial, Cond.selects RX5 yX5_playOnTrial yX5_playOnTrial, Cond.code yX5_playOnTrial cX5_playOnTrial 5 (some .int), Cond.fieldLink RX5 18 "ClockWakers" "trial" "LClockWakers$Street;", Cond.methodLink RX5 79 yX3_become, Cond.instanceMethod yX3_become, Cond.selects RX3 yX3_become yX3_become, Cond.code yX3_become cX3_become 3 none, Cond.fieldLink RX3 35 "ClockWakers$Street" "thick" "I", Cond.fieldLink RX3 9 "ClockWakers$Street" "kind" "[I", Cond.fieldLink RX3 15 "ClockWakers$Street" "depth" "[I", Cond.fieldLink RX3 18 "ClockWakers$Street" "loud" "[I", Cond.fieldLink RX3 21 "ClockWakers$Street" "place" "[I", Cond.fieldLink RX3 24 "ClockWakers$Street" "stuffed" "[Z", Cond.methodLink RX3 44 yX3_clear, Cond.instanceMethod yX3_clear, Cond.selects RX3 yX3_clear yX3_clear, Cond.code yX3_clear cX3_clear 1 none]
def wsX5_season_r4 : List Cond := [Cond.fieldLink RX3 38 "ClockWakers$Street" "carried" "I", Cond.fieldLink RX3 41 "ClockWakers$Street" "unheard" "I", Cond.methodLink RX5 260 yX5_canAct, Cond.instanceMethod yX5_canAct, Cond.selects RX5 yX5_canAct yX5_canAct, Cond.code yX5_canAct cX5_canAct 3 (some .boolean), Cond.methodLink RX5 146 yX3_strike, Cond.instanceMethod yX3_strike, Cond.selects RX3 yX3_strike yX3_strike, Cond.code yX3_strike cX3_strike 3 (some .int), Cond.methodLink RX3 75 yX3_owner, Cond.instanceMethod yX3_owner, Cond.selects RX3 yX3_owner yX3_owner, Cond.code yX3_owner cX3_owner 8 (some .int), Cond.methodLink RX3 68 yX3_sound, Cond.instanceMethod yX3_sound, Cond.selects RX3 yX3_sound yX3_sound, Cond.code yX3_sound cX3_sound 2 (some .int), Cond.methodLink RX3 47 yX3_soundIf, Cond.instanceMethod yX3_soundIf, Cond.selects RX3 yX3_soundIf yX3_soundIf, Cond.code yX3_soundIf cX3_soundIf 3 (some .int), Cond.methodLink RX3 57 yX3_heard, Cond.instanceMethod yX3_heard]
def wsX5_season_r5 : List Cond := [Cond.selects RX3 yX3_heard yX3_heard, Cond.code yX3_heard cX3_heard 4 (some .int), Cond.methodLink RX3 51 Lib.Math.abs.name, Cond.static Lib.Math.abs.name, Cond.initialized "java/lang/Math", Cond.code Lib.Math.abs.name Lib.Math.abs.code 1 (some .int), Cond.methodLink RX3 61 yX3_needs, Cond.instanceMethod yX3_needs, Cond.selects RX3 yX3_needs yX3_needs, Cond.code yX3_needs cX3_needs 2 (some .int), Cond.methodLink RX3 64 yX3_spare, Cond.static yX3_spare, Cond.code yX3_spare cX3_spare 2 (some .int), Cond.methodLink RX5 263 yX5_canTurn, Cond.instanceMethod yX5_canTurn, Cond.selects RX5 yX5_canTurn yX5_canTurn, Cond.code yX5_canTurn cX5_canTurn 3 (some .boolean), Cond.fieldLink RX5 122 "ClockWakers$Street" "stuffed" "[Z", Cond.methodLink RX5 149 yX3_passNights, Cond.instanceMethod yX3_passNights, Cond.selects RX3 yX3_passNights yX3_passNights, Cond.code yX3_passNights cX3_passNights 4 none, Cond.methodLink RX3 78 yX3_strike, Cond.methodLink RX5 267 yX5_canCarry]
def wsX5_season_r6 : List Cond := [Cond.instanceMethod yX5_canCarry, Cond.selects RX5 yX5_canCarry yX5_canCarry, Cond.code yX5_canCarry cX5_canCarry 3 (some .boolean), Cond.fieldLink RX5 119 "ClockWakers$Street" "place" "[I", Cond.methodLink RX5 172 yX5_answerOfTrial, Cond.instanceMethod yX5_answerOfTrial, Cond.selects RX5 yX5_answerOfTrial yX5_answerOfTrial, Cond.code yX5_answerOfTrial cX5_answerOfTrial 2 (some .int), Cond.fieldLink RX5 187 "ClockWakers$Street" "carried" "I", Cond.fieldLink RX5 270 "ClockWakers$Street" "unheard" "I", Cond.methodLink RX5 153 yX3_stuffedClocks, Cond.instanceMethod yX3_stuffedClocks, Cond.selects RX3 yX3_stuffedClocks yX3_stuffedClocks, Cond.code yX3_stuffedClocks cX3_stuffedClocks 3 (some .int), Cond.methodLink RX5 273 yX3_housesWithClocks, Cond.instanceMethod yX3_housesWithClocks, Cond.selects RX3 yX3_housesWithClocks yX3_housesWithClocks, Cond.code yX3_housesWithClocks cX3_housesWithClocks 3 (some .int)]
def wsX5_season : List Cond := .code yX5_season cX5_season 10 (some .int) :: ((wsX5_season_r1 ++ (wsX5_season_r2 ++ (wsX5_season_r3 ++ (wsX5_season_r4 ++ (wsX5_season_r5 ++ wsX5_season_r6))))) ++ wsX50 ++ wsX20 ++ wsX30)
def wsX5_round_r1 : List Cond := [Cond.fieldLink RX5 12 "ClockWakers" "now" "LClockWakers$Street;", Cond.fieldLink RX5 49 "ClockWakers" "strokesUntil" "[I", Cond.fieldLink RX5 119 "ClockWakers$Street" "place" "[I", Cond.methodLink RX5 110 yX3_hasClock, Cond.instanceMethod yX3_hasClock, Cond.selects RX3 yX3_hasClock yX3_hasClock, Cond.initialized RX3, Cond.code yX3_hasClock cX3_hasClock 2 (some .boolean), Cond.fieldLink RX3 32 "ClockWakers$Street" "clocks" "I", Cond.methodLink RX5 175 yJ7_fill_53178, Cond.static yJ7_fill_53178, Cond.initialized RJ7, Cond.code yJ7_fill_53178 cJ7_fill_53178 4 none, Cond.methodLink RX5 181 yX3_placeAfterStroke, Cond.instanceMethod yX3_placeAfterStroke, Cond.selects RX3 yX3_placeAfterStroke yX3_placeAfterStroke, Cond.code yX3_placeAfterStroke cX3_placeAfterStroke 4 (some .int), Cond.methodLink RX3 75 yX3_owner, Cond.instanceMethod yX3_owner, Cond.selects RX3 yX3_owner yX3_owner, Cond.code yX3_owner cX3_owner 8 (some .int), Cond.fieldLink RX3 28 "ClockWakers$Street" "houses" "I", Cond.methodLink RX3 68 yX3_sound, Cond.instanceMethod yX3_sound]
def wsX5_round_r2 : List Cond := [Cond.selects RX3 yX3_sound yX3_sound, Cond.code yX3_sound cX3_sound 2 (some .int), Cond.fieldLink RX3 24 "ClockWakers$Street" "stuffed" "[Z", Cond.methodLink RX3 47 yX3_soundIf, Cond.instanceMethod yX3_soundIf, Cond.selects RX3 yX3_soundIf yX3_soundIf, Cond.code yX3_soundIf cX3_soundIf 3 (some .int), Cond.fieldLink RX3 18 "ClockWakers$Street" "loud" "[I", Cond.methodLink RX3 57 yX3_heard, Cond.instanceMethod yX3_heard, Cond.selects RX3 yX3_heard yX3_heard, Cond.code yX3_heard cX3_heard 4 (some .int), Cond.fieldLink RX3 35 "ClockWakers$Street" "thick" "I", Cond.methodLink RX3 51 Lib.Math.abs.name, Cond.static Lib.Math.abs.name, Cond.initialized "java/lang/Math", Cond.code Lib.Math.abs.name Lib.Math.abs.code 1 (some .int), Cond.methodLink RX3 61 yX3_needs, Cond.instanceMethod yX3_needs, Cond.selects RX3 yX3_needs yX3_needs, Cond.code yX3_needs cX3_needs 2 (some .int), Cond.fieldLink RX3 9 "ClockWakers$Street" "kind" "[I", Cond.fieldLink RX3 15 "ClockWakers$Street" "depth" "[I", Cond.methodLink RX3 64 yX3_spare]
def wsX5_round_r3 : List Cond := [Cond.static yX3_spare, Cond.code yX3_spare cX3_spare 2 (some .int)]
def wsX5_round : List Cond := .code yX5_round cX5_round 5 (some .int) :: ((wsX5_round_r1 ++ (wsX5_round_r2 ++ wsX5_round_r3)) ++ wsX50 ++ wsX30)
def wsX5_from_r1 : List Cond := [Cond.fieldLink RX5 12 "ClockWakers" "now" "LClockWakers$Street;", Cond.fieldLink RX5 184 "ClockWakers$Street" "houses" "I", Cond.methodLink RX5 92 yX3_hasHouse, Cond.instanceMethod yX3_hasHouse, Cond.selects RX3 yX3_hasHouse yX3_hasHouse, Cond.initialized RX3, Cond.code yX3_hasHouse cX3_hasHouse 2 (some .boolean), Cond.fieldLink RX3 28 "ClockWakers$Street" "houses" "I", Cond.methodLink RX5 110 yX3_hasClock, Cond.instanceMethod yX3_hasClock, Cond.selects RX3 yX3_hasClock yX3_hasClock, Cond.code yX3_hasClock cX3_hasClock 2 (some .boolean), Cond.fieldLink RX3 32 "ClockWakers$Street" "clocks" "I", Cond.methodLink RX5 130 yX3_owner, Cond.instanceMethod yX3_owner, Cond.selects RX3 yX3_owner yX3_owner, Cond.code yX3_owner cX3_owner 8 (some .int), Cond.methodLink RX3 68 yX3_sound, Cond.instanceMethod yX3_sound, Cond.selects RX3 yX3_sound yX3_sound, Cond.code yX3_sound cX3_sound 2 (some .int), Cond.fieldLink RX3 24 "ClockWakers$Street" "stuffed" "[Z", Cond.methodLink RX3 47 yX3_soundIf, Cond.instanceMethod yX3_soundIf]
def wsX5_from_r2 : List Cond := [Cond.selects RX3 yX3_soundIf yX3_soundIf, Cond.code yX3_soundIf cX3_soundIf 3 (some .int), Cond.fieldLink RX3 18 "ClockWakers$Street" "loud" "[I", Cond.methodLink RX3 57 yX3_heard, Cond.instanceMethod yX3_heard, Cond.selects RX3 yX3_heard yX3_heard, Cond.code yX3_heard cX3_heard 4 (some .int), Cond.fieldLink RX3 35 "ClockWakers$Street" "thick" "I", Cond.methodLink RX3 51 Lib.Math.abs.name, Cond.static Lib.Math.abs.name, Cond.initialized "java/lang/Math", Cond.code Lib.Math.abs.name Lib.Math.abs.code 1 (some .int), Cond.methodLink RX3 61 yX3_needs, Cond.instanceMethod yX3_needs, Cond.selects RX3 yX3_needs yX3_needs, Cond.code yX3_needs cX3_needs 2 (some .int), Cond.fieldLink RX3 9 "ClockWakers$Street" "kind" "[I", Cond.fieldLink RX3 15 "ClockWakers$Street" "depth" "[I", Cond.methodLink RX3 64 yX3_spare, Cond.static yX3_spare, Cond.code yX3_spare cX3_spare 2 (some .int)]
def wsX5_from : List Cond := .code yX5_from cX5_from 5 (some .int) :: ((wsX5_from_r1 ++ wsX5_from_r2) ++ wsX50 ++ wsX30)
def wsX5_settle_r1 : List Cond := [Cond.fieldLink RX5 12 "ClockWakers" "now" "LClockWakers$Street;", Cond.fieldLink RX5 18 "ClockWakers" "trial" "LClockWakers$Street;", Cond.fieldLink RX5 187 "ClockWakers$Street" "carried" "I", Cond.methodLink RX5 133 yX3_stands, Cond.instanceMethod yX3_stands, Cond.selects RX3 yX3_stands yX3_stands, Cond.initialized RX3, Cond.code yX3_stands cX3_stands 1 (some .boolean), Cond.fieldLink RX3 28 "ClockWakers$Street" "houses" "I", Cond.methodLink RX5 79 yX3_become, Cond.instanceMethod yX3_become, Cond.selects RX3 yX3_become yX3_become, Cond.code yX3_become cX3_become 3 none, Cond.fieldLink RX3 32 "ClockWakers$Street" "clocks" "I", Cond.fieldLink RX3 35 "ClockWakers$Street" "thick" "I", Cond.fieldLink RX3 9 "ClockWakers$Street" "kind" "[I", Cond.fieldLink RX3 15 "ClockWakers$Street" "depth" "[I", Cond.fieldLink RX3 18 "ClockWakers$Street" "loud" "[I", Cond.fieldLink RX3 21 "ClockWakers$Street" "place" "[I", Cond.fieldLink RX3 24 "ClockWakers$Street" "stuffed" "[Z", Cond.methodLink RX3 44 yX3_clear, Cond.instanceMethod yX3_clear, Cond.selects RX3 yX3_clear yX3_clear, Cond.code yX3_clear cX3_clear 1 none]
def wsX5_settle_r2 : List Cond := [Cond.fieldLink RX3 38 "ClockWakers$Street" "carried" "I", Cond.fieldLink RX3 41 "ClockWakers$Street" "unheard" "I", Cond.methodLink RX5 149 yX3_passNights, Cond.instanceMethod yX3_passNights, Cond.selects RX3 yX3_passNights yX3_passNights, Cond.code yX3_passNights cX3_passNights 4 none, Cond.methodLink RX3 78 yX3_strike, Cond.instanceMethod yX3_strike, Cond.selects RX3 yX3_strike yX3_strike, Cond.code yX3_strike cX3_strike 3 (some .int), Cond.methodLink RX3 75 yX3_owner, Cond.instanceMethod yX3_owner, Cond.selects RX3 yX3_owner yX3_owner, Cond.code yX3_owner cX3_owner 8 (some .int), Cond.methodLink RX3 68 yX3_sound, Cond.instanceMethod yX3_sound, Cond.selects RX3 yX3_sound yX3_sound, Cond.code yX3_sound cX3_sound 2 (some .int), Cond.methodLink RX3 47 yX3_soundIf, Cond.instanceMethod yX3_soundIf, Cond.selects RX3 yX3_soundIf yX3_soundIf, Cond.code yX3_soundIf cX3_soundIf 3 (some .int), Cond.methodLink RX3 57 yX3_heard, Cond.instanceMethod yX3_heard]
def wsX5_settle_r3 : List Cond := [Cond.selects RX3 yX3_heard yX3_heard, Cond.code yX3_heard cX3_heard 4 (some .int), Cond.methodLink RX3 51 Lib.Math.abs.name, Cond.static Lib.Math.abs.name, Cond.initialized "java/lang/Math", Cond.code Lib.Math.abs.name Lib.Math.abs.code 1 (some .int), Cond.methodLink RX3 61 yX3_needs, Cond.instanceMethod yX3_needs, Cond.selects RX3 yX3_needs yX3_needs, Cond.code yX3_needs cX3_needs 2 (some .int), Cond.methodLink RX3 64 yX3_spare, Cond.static yX3_spare, Cond.code yX3_spare cX3_spare 2 (some .int)]
def wsX5_settle : List Cond := .code yX5_settle cX5_settle 3 (some .int) :: ((wsX5_settle_r1 ++ (wsX5_settle_r2 ++ wsX5_settle_r3)) ++ wsX50 ++ wsX30)
def wsX5_still_r1 : List Cond := [Cond.fieldLink RX5 12 "ClockWakers" "now" "LClockWakers$Street;", Cond.fieldLink RX5 89 "ClockWakers$Street" "clocks" "I", Cond.fieldLink RX5 38 "ClockWakers" "arrangement" "LClockWakers$Arrangement;", Cond.fieldLink RX5 194 "ClockWakers$Arrangement" "best" "[I", Cond.methodLink RX5 133 yX3_stands, Cond.instanceMethod yX3_stands, Cond.selects RX3 yX3_stands yX3_stands, Cond.initialized RX3, Cond.code yX3_stands cX3_stands 1 (some .boolean), Cond.fieldLink RX3 28 "ClockWakers$Street" "houses" "I", Cond.methodLink RX5 190 yX0_findStillest, Cond.instanceMethod yX0_findStillest, Cond.selects RX0 yX0_findStillest yX0_findStillest, Cond.initialized RX0, Cond.code yX0_findStillest cX0_findStillest 6 (some .int), Cond.fieldLink RX0 23 "ClockWakers$Street" "clocks" "I", Cond.fieldLink RX0 29 "ClockWakers$Street" "houses" "I", Cond.fieldLink RX0 15 "ClockWakers$Arrangement" "row" "[I", Cond.fieldLink RX0 20 "ClockWakers$Arrangement" "wakers" "[[I", Cond.fieldLink RX0 9 "ClockWakers$Arrangement" "best" "[I", Cond.methodLink RX0 44 arraycopyName, Cond.native arraycopyName, Cond.static arraycopyName, Cond.initialized "java/lang/System"]
def wsX5_still_r2 : List Cond := [Cond.methodLink RX0 32 yX3_wakers, Cond.instanceMethod yX3_wakers, Cond.selects RX3 yX3_wakers yX3_wakers, Cond.code yX3_wakers cX3_wakers 6 (some .int), Cond.methodLink RX3 68 yX3_sound, Cond.instanceMethod yX3_sound, Cond.selects RX3 yX3_sound yX3_sound, Cond.code yX3_sound cX3_sound 2 (some .int), Cond.fieldLink RX3 24 "ClockWakers$Street" "stuffed" "[Z", Cond.methodLink RX3 47 yX3_soundIf, Cond.instanceMethod yX3_soundIf, Cond.selects RX3 yX3_soundIf yX3_soundIf, Cond.code yX3_soundIf cX3_soundIf 3 (some .int), Cond.fieldLink RX3 18 "ClockWakers$Street" "loud" "[I", Cond.methodLink RX3 71 yX3_wakes, Cond.instanceMethod yX3_wakes, Cond.selects RX3 yX3_wakes yX3_wakes, Cond.code yX3_wakes cX3_wakes 4 (some .boolean), Cond.methodLink RX3 57 yX3_heard, Cond.instanceMethod yX3_heard, Cond.selects RX3 yX3_heard yX3_heard, Cond.code yX3_heard cX3_heard 4 (some .int), Cond.fieldLink RX3 35 "ClockWakers$Street" "thick" "I", Cond.methodLink RX3 51 Lib.Math.abs.name]
def wsX5_still_r3 : List Cond := [Cond.static Lib.Math.abs.name, Cond.initialized "java/lang/Math", Cond.code Lib.Math.abs.name Lib.Math.abs.code 1 (some .int), Cond.methodLink RX3 61 yX3_needs, Cond.instanceMethod yX3_needs, Cond.selects RX3 yX3_needs yX3_needs, Cond.code yX3_needs cX3_needs 2 (some .int), Cond.fieldLink RX3 9 "ClockWakers$Street" "kind" "[I", Cond.fieldLink RX3 15 "ClockWakers$Street" "depth" "[I", Cond.methodLink RX3 64 yX3_spare, Cond.static yX3_spare, Cond.code yX3_spare cX3_spare 2 (some .int), Cond.methodLink RX0 35 yX0_wakersOfRow, Cond.instanceMethod yX0_wakersOfRow, Cond.selects RX0 yX0_wakersOfRow yX0_wakersOfRow, Cond.code yX0_wakersOfRow cX0_wakersOfRow 4 (some .int), Cond.methodLink RX0 39 yJ6_bitCount_0f7a4, Cond.static yJ6_bitCount_0f7a4, Cond.initialized RJ6, Cond.code yJ6_bitCount_0f7a4 cJ6_bitCount_0f7a4 1 (some .int), Cond.constant RJ6 265 (1431655765), Cond.constant RJ6 266 (858993459), Cond.constant RJ6 267 (252645135), Cond.methodLink RX0 50 yX0_stepRow]
def wsX5_still_r4 : List Cond := [Cond.instanceMethod yX0_stepRow, Cond.selects RX0 yX0_stepRow yX0_stepRow, Cond.code yX0_stepRow cX0_stepRow 4 none]
def wsX5_still : List Cond := .code yX5_still cX5_still 3 (some .int) :: ((wsX5_still_r1 ++ (wsX5_still_r2 ++ (wsX5_still_r3 ++ wsX5_still_r4))) ++ wsX50 ++ wsX30 ++ wsX00)
def wsX5_hush_r1 : List Cond := [Cond.fieldLink RX5 12 "ClockWakers" "now" "LClockWakers$Street;", Cond.fieldLink RX5 89 "ClockWakers$Street" "clocks" "I", Cond.fieldLink RX5 119 "ClockWakers$Street" "place" "[I", Cond.fieldLink RX5 122 "ClockWakers$Street" "stuffed" "[Z", Cond.methodLink RX5 92 yX3_hasHouse, Cond.instanceMethod yX3_hasHouse, Cond.selects RX3 yX3_hasHouse yX3_hasHouse, Cond.initialized RX3, Cond.code yX3_hasHouse cX3_hasHouse 2 (some .boolean), Cond.fieldLink RX3 28 "ClockWakers$Street" "houses" "I", Cond.methodLink RX5 116 yX3_sound, Cond.instanceMethod yX3_sound, Cond.selects RX3 yX3_sound yX3_sound, Cond.code yX3_sound cX3_sound 2 (some .int), Cond.fieldLink RX3 24 "ClockWakers$Street" "stuffed" "[Z", Cond.methodLink RX3 47 yX3_soundIf, Cond.instanceMethod yX3_soundIf, Cond.selects RX3 yX3_soundIf yX3_soundIf, Cond.code yX3_soundIf cX3_soundIf 3 (some .int), Cond.fieldLink RX3 18 "ClockWakers$Street" "loud" "[I", Cond.methodLink RX5 197 yX3_wakes, Cond.instanceMethod yX3_wakes, Cond.selects RX3 yX3_wakes yX3_wakes, Cond.code yX3_wakes cX3_wakes 4 (some .boolean)]
def wsX5_hush_r2 : List Cond := [Cond.methodLink RX3 57 yX3_heard, Cond.instanceMethod yX3_heard, Cond.selects RX3 yX3_heard yX3_heard, Cond.code yX3_heard cX3_heard 4 (some .int), Cond.fieldLink RX3 35 "ClockWakers$Street" "thick" "I", Cond.methodLink RX3 51 Lib.Math.abs.name, Cond.static Lib.Math.abs.name, Cond.initialized "java/lang/Math", Cond.code Lib.Math.abs.name Lib.Math.abs.code 1 (some .int), Cond.methodLink RX3 61 yX3_needs, Cond.instanceMethod yX3_needs, Cond.selects RX3 yX3_needs yX3_needs, Cond.code yX3_needs cX3_needs 2 (some .int), Cond.fieldLink RX3 9 "ClockWakers$Street" "kind" "[I", Cond.fieldLink RX3 15 "ClockWakers$Street" "depth" "[I", Cond.methodLink RX3 64 yX3_spare, Cond.static yX3_spare, Cond.code yX3_spare cX3_spare 2 (some .int), Cond.methodLink RX5 201 yX3_soundIf]
def wsX5_hush : List Cond := .code yX5_hush cX5_hush 4 (some .int) :: ((wsX5_hush_r1 ++ wsX5_hush_r2) ++ wsX50 ++ wsX30)
def wsX5_reading : List Cond := .code yX5_reading cX5_reading 5 (some .int) :: ([.fieldLink RX5 12 "ClockWakers" "now" "LClockWakers$Street;", .fieldLink RX5 31 "ClockWakers" "readings" "LClockWakers$Readings;", .fieldLink RX5 86 "ClockWakers$Readings" "count" "I", .methodLink RX5 110 yX3_hasClock, .instanceMethod yX3_hasClock, .selects RX3 yX3_hasClock yX3_hasClock, .initialized RX3, .code yX3_hasClock cX3_hasClock 2 (some .boolean), .fieldLink RX3 32 "ClockWakers$Street" "clocks" "I", .methodLink RX5 92 yX3_hasHouse, .instanceMethod yX3_hasHouse, .selects RX3 yX3_hasHouse yX3_hasHouse, .code yX3_hasHouse cX3_hasHouse 2 (some .boolean), .fieldLink RX3 28 "ClockWakers$Street" "houses" "I", .methodLink RX5 205 yX1_note, .instanceMethod yX1_note, .selects RX1 yX1_note yX1_note, .initialized RX1, .code yX1_note cX1_note 5 (some .int), .fieldLink RX1 9 "ClockWakers$Readings" "clock" "[I", .fieldLink RX1 25 "ClockWakers$Readings" "count" "I", .fieldLink RX1 15 "ClockWakers$Readings" "place" "[I", .fieldLink RX1 18 "ClockWakers$Readings" "house" "[I", .fieldLink RX1 21 "ClockWakers$Readings" "woke" "[Z"] ++ wsX50 ++ wsX10 ++ wsX30)
def wsX5_back : List Cond := .code yX5_back cX5_back 2 (some .int) :: ([.fieldLink RX5 31 "ClockWakers" "readings" "LClockWakers$Readings;", .fieldLink RX5 86 "ClockWakers$Readings" "count" "I"] ++ wsX50 ++ wsX10)
def wsX5_depths_r1 : List Cond := [Cond.fieldLink RX5 12 "ClockWakers" "now" "LClockWakers$Street;", Cond.fieldLink RX5 18 "ClockWakers" "trial" "LClockWakers$Street;", Cond.fieldLink RX5 98 "ClockWakers$Street" "depth" "[I", Cond.fieldLink RX5 31 "ClockWakers" "readings" "LClockWakers$Readings;", Cond.methodLink RX5 92 yX3_hasHouse, Cond.instanceMethod yX3_hasHouse, Cond.selects RX3 yX3_hasHouse yX3_hasHouse, Cond.initialized RX3, Cond.code yX3_hasHouse cX3_hasHouse 2 (some .boolean), Cond.fieldLink RX3 28 "ClockWakers$Street" "houses" "I", Cond.methodLink RX5 79 yX3_become, Cond.instanceMethod yX3_become, Cond.selects RX3 yX3_become yX3_become, Cond.code yX3_become cX3_become 3 none, Cond.fieldLink RX3 32 "ClockWakers$Street" "clocks" "I", Cond.fieldLink RX3 35 "ClockWakers$Street" "thick" "I", Cond.fieldLink RX3 9 "ClockWakers$Street" "kind" "[I", Cond.fieldLink RX3 15 "ClockWakers$Street" "depth" "[I", Cond.fieldLink RX3 18 "ClockWakers$Street" "loud" "[I", Cond.fieldLink RX3 21 "ClockWakers$Street" "place" "[I", Cond.fieldLink RX3 24 "ClockWakers$Street" "stuffed" "[Z", Cond.methodLink RX3 44 yX3_clear, Cond.instanceMethod yX3_clear, Cond.selects RX3 yX3_clear yX3_clear]
def wsX5_depths_r2 : List Cond := [Cond.code yX3_clear cX3_clear 1 none, Cond.fieldLink RX3 38 "ClockWakers$Street" "carried" "I", Cond.fieldLink RX3 41 "ClockWakers$Street" "unheard" "I", Cond.methodLink RX5 209 yX1_bitIfAllHold, Cond.instanceMethod yX1_bitIfAllHold, Cond.selects RX1 yX1_bitIfAllHold yX1_bitIfAllHold, Cond.initialized RX1, Cond.code yX1_bitIfAllHold cX1_bitIfAllHold 4 (some .int), Cond.fieldLink RX1 25 "ClockWakers$Readings" "count" "I", Cond.fieldLink RX1 18 "ClockWakers$Readings" "house" "[I", Cond.fieldLink RX1 9 "ClockWakers$Readings" "clock" "[I", Cond.fieldLink RX1 15 "ClockWakers$Readings" "place" "[I", Cond.fieldLink RX1 21 "ClockWakers$Readings" "woke" "[Z", Cond.methodLink RX1 29 yX3_sound, Cond.instanceMethod yX3_sound, Cond.selects RX3 yX3_sound yX3_sound, Cond.code yX3_sound cX3_sound 2 (some .int), Cond.methodLink RX3 47 yX3_soundIf, Cond.instanceMethod yX3_soundIf, Cond.selects RX3 yX3_soundIf yX3_soundIf, Cond.code yX3_soundIf cX3_soundIf 3 (some .int), Cond.methodLink RX1 35 yX3_wakes, Cond.instanceMethod yX3_wakes, Cond.selects RX3 yX3_wakes yX3_wakes]
def wsX5_depths_r3 : List Cond := [Cond.code yX3_wakes cX3_wakes 4 (some .boolean), Cond.methodLink RX3 57 yX3_heard, Cond.instanceMethod yX3_heard, Cond.selects RX3 yX3_heard yX3_heard, Cond.code yX3_heard cX3_heard 4 (some .int), Cond.methodLink RX3 51 Lib.Math.abs.name, Cond.static Lib.Math.abs.name, Cond.initialized "java/lang/Math", Cond.code Lib.Math.abs.name Lib.Math.abs.code 1 (some .int), Cond.methodLink RX3 61 yX3_needs, Cond.instanceMethod yX3_needs, Cond.selects RX3 yX3_needs yX3_needs, Cond.code yX3_needs cX3_needs 2 (some .int), Cond.methodLink RX3 64 yX3_spare, Cond.static yX3_spare, Cond.code yX3_spare cX3_spare 2 (some .int)]
def wsX5_depths : List Cond := .code yX5_depths cX5_depths 4 (some .int) :: ((wsX5_depths_r1 ++ (wsX5_depths_r2 ++ wsX5_depths_r3)) ++ wsX50 ++ wsX30 ++ wsX10)
def wsX5_kinds_r1 : List Cond := [Cond.fieldLink RX5 12 "ClockWakers" "now" "LClockWakers$Street;", Cond.fieldLink RX5 18 "ClockWakers" "trial" "LClockWakers$Street;", Cond.fieldLink RX5 95 "ClockWakers$Street" "kind" "[I", Cond.fieldLink RX5 31 "ClockWakers" "readings" "LClockWakers$Readings;", Cond.methodLink RX5 92 yX3_hasHouse, Cond.instanceMethod yX3_hasHouse, Cond.selects RX3 yX3_hasHouse yX3_hasHouse, Cond.initialized RX3, Cond.code yX3_hasHouse cX3_hasHouse 2 (some .boolean), Cond.fieldLink RX3 28 "ClockWakers$Street" "houses" "I", Cond.methodLink RX5 79 yX3_become, Cond.instanceMethod yX3_become, Cond.selects RX3 yX3_become yX3_become, Cond.code yX3_become cX3_become 3 none, Cond.fieldLink RX3 32 "ClockWakers$Street" "clocks" "I", Cond.fieldLink RX3 35 "ClockWakers$Street" "thick" "I", Cond.fieldLink RX3 9 "ClockWakers$Street" "kind" "[I", Cond.fieldLink RX3 15 "ClockWakers$Street" "depth" "[I", Cond.fieldLink RX3 18 "ClockWakers$Street" "loud" "[I", Cond.fieldLink RX3 21 "ClockWakers$Street" "place" "[I", Cond.fieldLink RX3 24 "ClockWakers$Street" "stuffed" "[Z", Cond.methodLink RX3 44 yX3_clear, Cond.instanceMethod yX3_clear, Cond.selects RX3 yX3_clear yX3_clear]
def wsX5_kinds_r2 : List Cond := [Cond.code yX3_clear cX3_clear 1 none, Cond.fieldLink RX3 38 "ClockWakers$Street" "carried" "I", Cond.fieldLink RX3 41 "ClockWakers$Street" "unheard" "I", Cond.methodLink RX5 209 yX1_bitIfAllHold, Cond.instanceMethod yX1_bitIfAllHold, Cond.selects RX1 yX1_bitIfAllHold yX1_bitIfAllHold, Cond.initialized RX1, Cond.code yX1_bitIfAllHold cX1_bitIfAllHold 4 (some .int), Cond.fieldLink RX1 25 "ClockWakers$Readings" "count" "I", Cond.fieldLink RX1 18 "ClockWakers$Readings" "house" "[I", Cond.fieldLink RX1 9 "ClockWakers$Readings" "clock" "[I", Cond.fieldLink RX1 15 "ClockWakers$Readings" "place" "[I", Cond.fieldLink RX1 21 "ClockWakers$Readings" "woke" "[Z", Cond.methodLink RX1 29 yX3_sound, Cond.instanceMethod yX3_sound, Cond.selects RX3 yX3_sound yX3_sound, Cond.code yX3_sound cX3_sound 2 (some .int), Cond.methodLink RX3 47 yX3_soundIf, Cond.instanceMethod yX3_soundIf, Cond.selects RX3 yX3_soundIf yX3_soundIf, Cond.code yX3_soundIf cX3_soundIf 3 (some .int), Cond.methodLink RX1 35 yX3_wakes, Cond.instanceMethod yX3_wakes, Cond.selects RX3 yX3_wakes yX3_wakes]
def wsX5_kinds_r3 : List Cond := [Cond.code yX3_wakes cX3_wakes 4 (some .boolean), Cond.methodLink RX3 57 yX3_heard, Cond.instanceMethod yX3_heard, Cond.selects RX3 yX3_heard yX3_heard, Cond.code yX3_heard cX3_heard 4 (some .int), Cond.methodLink RX3 51 Lib.Math.abs.name, Cond.static Lib.Math.abs.name, Cond.initialized "java/lang/Math", Cond.code Lib.Math.abs.name Lib.Math.abs.code 1 (some .int), Cond.methodLink RX3 61 yX3_needs, Cond.instanceMethod yX3_needs, Cond.selects RX3 yX3_needs yX3_needs, Cond.code yX3_needs cX3_needs 2 (some .int), Cond.methodLink RX3 64 yX3_spare, Cond.static yX3_spare, Cond.code yX3_spare cX3_spare 2 (some .int)]
def wsX5_kinds : List Cond := .code yX5_kinds cX5_kinds 4 (some .int) :: ((wsX5_kinds_r1 ++ (wsX5_kinds_r2 ++ wsX5_kinds_r3)) ++ wsX50 ++ wsX30 ++ wsX10)
def wsX5_louds_r1 : List Cond := [Cond.fieldLink RX5 12 "ClockWakers" "now" "LClockWakers$Street;", Cond.fieldLink RX5 18 "ClockWakers" "trial" "LClockWakers$Street;", Cond.fieldLink RX5 113 "ClockWakers$Street" "loud" "[I", Cond.fieldLink RX5 31 "ClockWakers" "readings" "LClockWakers$Readings;", Cond.methodLink RX5 110 yX3_hasClock, Cond.instanceMethod yX3_hasClock, Cond.selects RX3 yX3_hasClock yX3_hasClock, Cond.initialized RX3, Cond.code yX3_hasClock cX3_hasClock 2 (some .boolean), Cond.fieldLink RX3 32 "ClockWakers$Street" "clocks" "I", Cond.methodLink RX5 79 yX3_become, Cond.instanceMethod yX3_become, Cond.selects RX3 yX3_become yX3_become, Cond.code yX3_become cX3_become 3 none, Cond.fieldLink RX3 28 "ClockWakers$Street" "houses" "I", Cond.fieldLink RX3 35 "ClockWakers$Street" "thick" "I", Cond.fieldLink RX3 9 "ClockWakers$Street" "kind" "[I", Cond.fieldLink RX3 15 "ClockWakers$Street" "depth" "[I", Cond.fieldLink RX3 18 "ClockWakers$Street" "loud" "[I", Cond.fieldLink RX3 21 "ClockWakers$Street" "place" "[I", Cond.fieldLink RX3 24 "ClockWakers$Street" "stuffed" "[Z", Cond.methodLink RX3 44 yX3_clear, Cond.instanceMethod yX3_clear, Cond.selects RX3 yX3_clear yX3_clear]
def wsX5_louds_r2 : List Cond := [Cond.code yX3_clear cX3_clear 1 none, Cond.fieldLink RX3 38 "ClockWakers$Street" "carried" "I", Cond.fieldLink RX3 41 "ClockWakers$Street" "unheard" "I", Cond.methodLink RX5 209 yX1_bitIfAllHold, Cond.instanceMethod yX1_bitIfAllHold, Cond.selects RX1 yX1_bitIfAllHold yX1_bitIfAllHold, Cond.initialized RX1, Cond.code yX1_bitIfAllHold cX1_bitIfAllHold 4 (some .int), Cond.fieldLink RX1 25 "ClockWakers$Readings" "count" "I", Cond.fieldLink RX1 18 "ClockWakers$Readings" "house" "[I", Cond.fieldLink RX1 9 "ClockWakers$Readings" "clock" "[I", Cond.fieldLink RX1 15 "ClockWakers$Readings" "place" "[I", Cond.fieldLink RX1 21 "ClockWakers$Readings" "woke" "[Z", Cond.methodLink RX1 29 yX3_sound, Cond.instanceMethod yX3_sound, Cond.selects RX3 yX3_sound yX3_sound, Cond.code yX3_sound cX3_sound 2 (some .int), Cond.methodLink RX3 47 yX3_soundIf, Cond.instanceMethod yX3_soundIf, Cond.selects RX3 yX3_soundIf yX3_soundIf, Cond.code yX3_soundIf cX3_soundIf 3 (some .int), Cond.methodLink RX1 35 yX3_wakes, Cond.instanceMethod yX3_wakes, Cond.selects RX3 yX3_wakes yX3_wakes]
def wsX5_louds_r3 : List Cond := [Cond.code yX3_wakes cX3_wakes 4 (some .boolean), Cond.methodLink RX3 57 yX3_heard, Cond.instanceMethod yX3_heard, Cond.selects RX3 yX3_heard yX3_heard, Cond.code yX3_heard cX3_heard 4 (some .int), Cond.methodLink RX3 51 Lib.Math.abs.name, Cond.static Lib.Math.abs.name, Cond.initialized "java/lang/Math", Cond.code Lib.Math.abs.name Lib.Math.abs.code 1 (some .int), Cond.methodLink RX3 61 yX3_needs, Cond.instanceMethod yX3_needs, Cond.selects RX3 yX3_needs yX3_needs, Cond.code yX3_needs cX3_needs 2 (some .int), Cond.methodLink RX3 64 yX3_spare, Cond.static yX3_spare, Cond.code yX3_spare cX3_spare 2 (some .int)]
def wsX5_louds : List Cond := .code yX5_louds cX5_louds 4 (some .int) :: ((wsX5_louds_r1 ++ (wsX5_louds_r2 ++ wsX5_louds_r3)) ++ wsX50 ++ wsX30 ++ wsX10)
def wsX5_walls_r1 : List Cond := [Cond.fieldLink RX5 12 "ClockWakers" "now" "LClockWakers$Street;", Cond.fieldLink RX5 18 "ClockWakers" "trial" "LClockWakers$Street;", Cond.fieldLink RX5 137 "ClockWakers$Street" "thick" "I", Cond.fieldLink RX5 31 "ClockWakers" "readings" "LClockWakers$Readings;", Cond.methodLink RX5 133 yX3_stands, Cond.instanceMethod yX3_stands, Cond.selects RX3 yX3_stands yX3_stands, Cond.initialized RX3, Cond.code yX3_stands cX3_stands 1 (some .boolean), Cond.fieldLink RX3 28 "ClockWakers$Street" "houses" "I", Cond.methodLink RX5 79 yX3_become, Cond.instanceMethod yX3_become, Cond.selects RX3 yX3_become yX3_become, Cond.code yX3_become cX3_become 3 none, Cond.fieldLink RX3 32 "ClockWakers$Street" "clocks" "I", Cond.fieldLink RX3 35 "ClockWakers$Street" "thick" "I", Cond.fieldLink RX3 9 "ClockWakers$Street" "kind" "[I", Cond.fieldLink RX3 15 "ClockWakers$Street" "depth" "[I", Cond.fieldLink RX3 18 "ClockWakers$Street" "loud" "[I", Cond.fieldLink RX3 21 "ClockWakers$Street" "place" "[I", Cond.fieldLink RX3 24 "ClockWakers$Street" "stuffed" "[Z", Cond.methodLink RX3 44 yX3_clear, Cond.instanceMethod yX3_clear, Cond.selects RX3 yX3_clear yX3_clear]
def wsX5_walls_r2 : List Cond := [Cond.code yX3_clear cX3_clear 1 none, Cond.fieldLink RX3 38 "ClockWakers$Street" "carried" "I", Cond.fieldLink RX3 41 "ClockWakers$Street" "unheard" "I", Cond.methodLink RX5 209 yX1_bitIfAllHold, Cond.instanceMethod yX1_bitIfAllHold, Cond.selects RX1 yX1_bitIfAllHold yX1_bitIfAllHold, Cond.initialized RX1, Cond.code yX1_bitIfAllHold cX1_bitIfAllHold 4 (some .int), Cond.fieldLink RX1 25 "ClockWakers$Readings" "count" "I", Cond.fieldLink RX1 18 "ClockWakers$Readings" "house" "[I", Cond.fieldLink RX1 9 "ClockWakers$Readings" "clock" "[I", Cond.fieldLink RX1 15 "ClockWakers$Readings" "place" "[I", Cond.fieldLink RX1 21 "ClockWakers$Readings" "woke" "[Z", Cond.methodLink RX1 29 yX3_sound, Cond.instanceMethod yX3_sound, Cond.selects RX3 yX3_sound yX3_sound, Cond.code yX3_sound cX3_sound 2 (some .int), Cond.methodLink RX3 47 yX3_soundIf, Cond.instanceMethod yX3_soundIf, Cond.selects RX3 yX3_soundIf yX3_soundIf, Cond.code yX3_soundIf cX3_soundIf 3 (some .int), Cond.methodLink RX1 35 yX3_wakes, Cond.instanceMethod yX3_wakes, Cond.selects RX3 yX3_wakes yX3_wakes]
def wsX5_walls_r3 : List Cond := [Cond.code yX3_wakes cX3_wakes 4 (some .boolean), Cond.methodLink RX3 57 yX3_heard, Cond.instanceMethod yX3_heard, Cond.selects RX3 yX3_heard yX3_heard, Cond.code yX3_heard cX3_heard 4 (some .int), Cond.methodLink RX3 51 Lib.Math.abs.name, Cond.static Lib.Math.abs.name, Cond.initialized "java/lang/Math", Cond.code Lib.Math.abs.name Lib.Math.abs.code 1 (some .int), Cond.methodLink RX3 61 yX3_needs, Cond.instanceMethod yX3_needs, Cond.selects RX3 yX3_needs yX3_needs, Cond.code yX3_needs cX3_needs 2 (some .int), Cond.methodLink RX3 64 yX3_spare, Cond.static yX3_spare, Cond.code yX3_spare cX3_spare 2 (some .int)]
def wsX5_walls : List Cond := .code yX5_walls cX5_walls 3 (some .int) :: ((wsX5_walls_r1 ++ (wsX5_walls_r2 ++ wsX5_walls_r3)) ++ wsX50 ++ wsX30 ++ wsX10)
def wsX5_commonDivisor : List Cond := .code yX5_commonDivisor cX5_commonDivisor 3 (some .int) :: ([])
def wsX5_odds_r1 : List Cond := [Cond.fieldLink RX5 12 "ClockWakers" "now" "LClockWakers$Street;", Cond.constantLong RX5 140 (-9223372036854775808), Cond.fieldLink RX5 89 "ClockWakers$Street" "clocks" "I", Cond.fieldLink RX5 184 "ClockWakers$Street" "houses" "I", Cond.methodLink RX5 92 yX3_hasHouse, Cond.instanceMethod yX3_hasHouse, Cond.selects RX3 yX3_hasHouse yX3_hasHouse, Cond.initialized RX3, Cond.code yX3_hasHouse cX3_hasHouse 2 (some .boolean), Cond.fieldLink RX3 28 "ClockWakers$Street" "houses" "I", Cond.methodLink RX5 116 yX3_sound, Cond.instanceMethod yX3_sound, Cond.selects RX3 yX3_sound yX3_sound, Cond.code yX3_sound cX3_sound 2 (some .int), Cond.fieldLink RX3 24 "ClockWakers$Street" "stuffed" "[Z", Cond.methodLink RX3 47 yX3_soundIf, Cond.instanceMethod yX3_soundIf, Cond.selects RX3 yX3_soundIf yX3_soundIf, Cond.code yX3_soundIf cX3_soundIf 3 (some .int), Cond.fieldLink RX3 18 "ClockWakers$Street" "loud" "[I", Cond.methodLink RX5 197 yX3_wakes, Cond.instanceMethod yX3_wakes, Cond.selects RX3 yX3_wakes yX3_wakes, Cond.code yX3_wakes cX3_wakes 4 (some .boolean)]
def wsX5_odds_r2 : List Cond := [Cond.methodLink RX3 57 yX3_heard, Cond.instanceMethod yX3_heard, Cond.selects RX3 yX3_heard yX3_heard, Cond.code yX3_heard cX3_heard 4 (some .int), Cond.fieldLink RX3 35 "ClockWakers$Street" "thick" "I", Cond.methodLink RX3 51 Lib.Math.abs.name, Cond.static Lib.Math.abs.name, Cond.initialized "java/lang/Math", Cond.code Lib.Math.abs.name Lib.Math.abs.code 1 (some .int), Cond.methodLink RX3 61 yX3_needs, Cond.instanceMethod yX3_needs, Cond.selects RX3 yX3_needs yX3_needs, Cond.code yX3_needs cX3_needs 2 (some .int), Cond.fieldLink RX3 9 "ClockWakers$Street" "kind" "[I", Cond.fieldLink RX3 15 "ClockWakers$Street" "depth" "[I", Cond.methodLink RX3 64 yX3_spare, Cond.static yX3_spare, Cond.code yX3_spare cX3_spare 2 (some .int), Cond.methodLink RX5 213 yX5_commonDivisor, Cond.static yX5_commonDivisor, Cond.initialized RX5, Cond.code yX5_commonDivisor cX5_commonDivisor 3 (some .int)]
def wsX5_odds : List Cond := .code yX5_odds cX5_odds 6 (some .long) :: ((wsX5_odds_r1 ++ wsX5_odds_r2) ++ wsX50 ++ wsX30)
def wsX5_sheet_r1 : List Cond := [Cond.fieldLink RX5 53 "ClockWakers" "latestFault" "I", Cond.fieldLink RX5 45 "ClockWakers" "sheets" "[LClockWakers$Sheet;", Cond.methodLink RX5 57 yX5_isSheet, Cond.static yX5_isSheet, Cond.initialized RX5, Cond.code yX5_isSheet cX5_isSheet 1 (some .boolean), Cond.methodLink RX5 61 yX5_isLane, Cond.static yX5_isLane, Cond.code yX5_isLane cX5_isLane 1 (some .boolean), Cond.methodLink RX5 72 yX5_faulty, Cond.instanceMethod yX5_faulty, Cond.selects RX5 yX5_faulty yX5_faulty, Cond.code yX5_faulty cX5_faulty 2 (some .int), Cond.methodLink RX5 216 yX2_renew, Cond.instanceMethod yX2_renew, Cond.selects RX2 yX2_renew yX2_renew, Cond.initialized RX2, Cond.code yX2_renew cX2_renew 3 none, Cond.fieldLink RX2 15 "ClockWakers$Sheet" "has" "Z", Cond.fieldLink RX2 19 "ClockWakers$Sheet" "lane" "I", Cond.fieldLink RX2 23 "ClockWakers$Sheet" "length" "I", Cond.fieldLink RX2 9 "ClockWakers$Sheet" "cells" "[I", Cond.methodLink RX2 26 yJ7_fill_53178, Cond.static yJ7_fill_53178]
def wsX5_sheet_r2 : List Cond := [Cond.initialized RJ7, Cond.code yJ7_fill_53178 cJ7_fill_53178 4 none]
def wsX5_sheet : List Cond := .code yX5_sheet cX5_sheet 4 (some .int) :: ((wsX5_sheet_r1 ++ wsX5_sheet_r2) ++ wsX50 ++ wsX20)
def wsX5_lose : List Cond := .code yX5_lose cX5_lose 3 (some .int) :: ([.fieldLink RX5 45 "ClockWakers" "sheets" "[LClockWakers$Sheet;", .fieldLink RX5 220 "ClockWakers$Sheet" "has" "Z", .methodLink RX5 57 yX5_isSheet, .static yX5_isSheet, .initialized RX5, .code yX5_isSheet cX5_isSheet 1 (some .boolean)] ++ wsX50 ++ wsX20)
def wsX5_put : List Cond := .code yX5_put cX5_put 5 (some .int) :: ([.fieldLink RX5 53 "ClockWakers" "latestFault" "I", .fieldLink RX5 45 "ClockWakers" "sheets" "[LClockWakers$Sheet;", .fieldLink RX5 220 "ClockWakers$Sheet" "has" "Z", .fieldLink RX5 224 "ClockWakers$Sheet" "cells" "[I", .methodLink RX5 57 yX5_isSheet, .static yX5_isSheet, .initialized RX5, .code yX5_isSheet cX5_isSheet 1 (some .boolean), .methodLink RX5 72 yX5_faulty, .instanceMethod yX5_faulty, .selects RX5 yX5_faulty yX5_faulty, .code yX5_faulty cX5_faulty 2 (some .int), .methodLink RX5 68 yX2_lacks, .instanceMethod yX2_lacks, .selects RX2 yX2_lacks yX2_lacks, .initialized RX2, .code yX2_lacks cX2_lacks 3 (some .boolean), .fieldLink RX2 23 "ClockWakers$Sheet" "length" "I", .methodLink RX5 227 yX2_cut, .instanceMethod yX2_cut, .selects RX2 yX2_cut yX2_cut, .code yX2_cut cX2_cut 2 (some .int), .fieldLink RX2 19 "ClockWakers$Sheet" "lane" "I"] ++ wsX50 ++ wsX20)
def wsX5_cell : List Cond := .code yX5_cell cX5_cell 5 (some .long) :: ([.fieldLink RX5 53 "ClockWakers" "latestFault" "I", .constantLong RX5 140 (-9223372036854775808), .fieldLink RX5 45 "ClockWakers" "sheets" "[LClockWakers$Sheet;", .fieldLink RX5 224 "ClockWakers$Sheet" "cells" "[I", .methodLink RX5 57 yX5_isSheet, .static yX5_isSheet, .initialized RX5, .code yX5_isSheet cX5_isSheet 1 (some .boolean), .methodLink RX5 61 yX5_isLane, .static yX5_isLane, .code yX5_isLane cX5_isLane 1 (some .boolean), .methodLink RX5 64 yX2_faultAs, .instanceMethod yX2_faultAs, .selects RX2 yX2_faultAs yX2_faultAs, .initialized RX2, .code yX2_faultAs cX2_faultAs 2 (some .int), .fieldLink RX2 15 "ClockWakers$Sheet" "has" "Z", .fieldLink RX2 19 "ClockWakers$Sheet" "lane" "I", .methodLink RX5 68 yX2_lacks, .instanceMethod yX2_lacks, .selects RX2 yX2_lacks yX2_lacks, .code yX2_lacks cX2_lacks 3 (some .boolean), .fieldLink RX2 23 "ClockWakers$Sheet" "length" "I"] ++ wsX50 ++ wsX20)
def wsX5_copy : List Cond := .code yX5_copy cX5_copy 8 (some .int) :: ([.fieldLink RX5 53 "ClockWakers" "latestFault" "I", .fieldLink RX5 45 "ClockWakers" "sheets" "[LClockWakers$Sheet;", .fieldLink RX5 220 "ClockWakers$Sheet" "has" "Z", .fieldLink RX5 230 "ClockWakers$Sheet" "lane" "I", .fieldLink RX5 224 "ClockWakers$Sheet" "cells" "[I", .methodLink RX5 233 arraycopyName, .native arraycopyName, .static arraycopyName, .initialized "java/lang/System", .methodLink RX5 57 yX5_isSheet, .static yX5_isSheet, .initialized RX5, .code yX5_isSheet cX5_isSheet 1 (some .boolean), .methodLink RX5 72 yX5_faulty, .instanceMethod yX5_faulty, .selects RX5 yX5_faulty yX5_faulty, .code yX5_faulty cX5_faulty 2 (some .int), .methodLink RX5 68 yX2_lacks, .instanceMethod yX2_lacks, .selects RX2 yX2_lacks yX2_lacks, .initialized RX2, .code yX2_lacks cX2_lacks 3 (some .boolean), .fieldLink RX2 23 "ClockWakers$Sheet" "length" "I"] ++ wsX50 ++ wsX20)
def wsX5_leave : List Cond := .code yX5_leave cX5_leave 2 none :: ([.fieldLink RX5 254 "ClockWakers" "traceLeft" "I"] ++ wsX50)
def wsX5_sleeperTells : List Cond := .code yX5_sleeperTells cX5_sleeperTells 2 (some .int) :: ([.fieldLink RX5 12 "ClockWakers" "now" "LClockWakers$Street;", .fieldLink RX5 98 "ClockWakers$Street" "depth" "[I", .methodLink RX5 276 yX5_leave, .instanceMethod yX5_leave, .selects RX5 yX5_leave yX5_leave, .initialized RX5, .code yX5_leave cX5_leave 2 none, .fieldLink RX5 254 "ClockWakers" "traceLeft" "I"] ++ wsX50 ++ wsX30)
def wsX5_nervousTells : List Cond := .code yX5_nervousTells cX5_nervousTells 2 (some .int) :: ([.methodLink RX5 276 yX5_leave, .instanceMethod yX5_leave, .selects RX5 yX5_leave yX5_leave, .initialized RX5, .code yX5_leave cX5_leave 2 none, .fieldLink RX5 254 "ClockWakers" "traceLeft" "I", .methodLink RX5 245 yX5_sleeperTells, .instanceMethod yX5_sleeperTells, .selects RX5 yX5_sleeperTells yX5_sleeperTells, .code yX5_sleeperTells cX5_sleeperTells 2 (some .int), .fieldLink RX5 12 "ClockWakers" "now" "LClockWakers$Street;", .fieldLink RX5 98 "ClockWakers$Street" "depth" "[I"] ++ wsX50 ++ wsX30)
def wsX5_babyTells : List Cond := .code yX5_babyTells cX5_babyTells 3 (some .int) :: ([.methodLink RX5 276 yX5_leave, .instanceMethod yX5_leave, .selects RX5 yX5_leave yX5_leave, .initialized RX5, .code yX5_leave cX5_leave 2 none, .fieldLink RX5 254 "ClockWakers" "traceLeft" "I", .methodLink RX5 239 yX5_nervousTells, .instanceMethod yX5_nervousTells, .selects RX5 yX5_nervousTells yX5_nervousTells, .code yX5_nervousTells cX5_nervousTells 2 (some .int), .methodLink RX5 245 yX5_sleeperTells, .instanceMethod yX5_sleeperTells, .selects RX5 yX5_sleeperTells yX5_sleeperTells, .code yX5_sleeperTells cX5_sleeperTells 2 (some .int), .fieldLink RX5 12 "ClockWakers" "now" "LClockWakers$Street;", .fieldLink RX5 98 "ClockWakers$Street" "depth" "[I"] ++ wsX50 ++ wsX30)
def wsX5_tell_r1 : List Cond := [Cond.fieldLink RX5 12 "ClockWakers" "now" "LClockWakers$Street;", Cond.fieldLink RX5 95 "ClockWakers$Street" "kind" "[I", Cond.methodLink RX5 92 yX3_hasHouse, Cond.instanceMethod yX3_hasHouse, Cond.selects RX3 yX3_hasHouse yX3_hasHouse, Cond.initialized RX3, Cond.code yX3_hasHouse cX3_hasHouse 2 (some .boolean), Cond.fieldLink RX3 28 "ClockWakers$Street" "houses" "I", Cond.methodLink RX5 239 yX5_nervousTells, Cond.instanceMethod yX5_nervousTells, Cond.selects RX5 yX5_nervousTells yX5_nervousTells, Cond.initialized RX5, Cond.code yX5_nervousTells cX5_nervousTells 2 (some .int), Cond.methodLink RX5 276 yX5_leave, Cond.instanceMethod yX5_leave, Cond.selects RX5 yX5_leave yX5_leave, Cond.code yX5_leave cX5_leave 2 none, Cond.fieldLink RX5 254 "ClockWakers" "traceLeft" "I", Cond.methodLink RX5 245 yX5_sleeperTells, Cond.instanceMethod yX5_sleeperTells, Cond.selects RX5 yX5_sleeperTells yX5_sleeperTells, Cond.code yX5_sleeperTells cX5_sleeperTells 2 (some .int), Cond.fieldLink RX5 98 "ClockWakers$Street" "depth" "[I", Cond.methodLink RX5 242 yX5_babyTells]
def wsX5_tell_r2 : List Cond := [Cond.instanceMethod yX5_babyTells, Cond.selects RX5 yX5_babyTells yX5_babyTells, Cond.code yX5_babyTells cX5_babyTells 3 (some .int)]
def wsX5_tell : List Cond := .code yX5_tell cX5_tell 2 (some .int) :: ((wsX5_tell_r1 ++ wsX5_tell_r2) ++ wsX50 ++ wsX30)
def wsX5_babyIsCalled : List Cond := .code yX5_babyIsCalled cX5_babyIsCalled 1 (some .int) :: ([.methodLink RX5 276 yX5_leave, .instanceMethod yX5_leave, .selects RX5 yX5_leave yX5_leave, .initialized RX5, .code yX5_leave cX5_leave 2 none, .fieldLink RX5 254 "ClockWakers" "traceLeft" "I"] ++ wsX50)
def wsX5_sleeperIsCalled : List Cond := .code yX5_sleeperIsCalled cX5_sleeperIsCalled 2 (some .int) :: ([.methodLink RX5 276 yX5_leave, .instanceMethod yX5_leave, .selects RX5 yX5_leave yX5_leave, .initialized RX5, .code yX5_leave cX5_leave 2 none, .fieldLink RX5 254 "ClockWakers" "traceLeft" "I"] ++ wsX50)
def wsX5_call : List Cond := .code yX5_call cX5_call 2 (some .int) :: ([.fieldLink RX5 12 "ClockWakers" "now" "LClockWakers$Street;", .fieldLink RX5 95 "ClockWakers$Street" "kind" "[I", .methodLink RX5 92 yX3_hasHouse, .instanceMethod yX3_hasHouse, .selects RX3 yX3_hasHouse yX3_hasHouse, .initialized RX3, .code yX3_hasHouse cX3_hasHouse 2 (some .boolean), .fieldLink RX3 28 "ClockWakers$Street" "houses" "I", .methodLink RX5 248 yX5_babyIsCalled, .instanceMethod yX5_babyIsCalled, .selects RX5 yX5_babyIsCalled yX5_babyIsCalled, .initialized RX5, .code yX5_babyIsCalled cX5_babyIsCalled 1 (some .int), .methodLink RX5 276 yX5_leave, .instanceMethod yX5_leave, .selects RX5 yX5_leave yX5_leave, .code yX5_leave cX5_leave 2 none, .fieldLink RX5 254 "ClockWakers" "traceLeft" "I", .methodLink RX5 251 yX5_sleeperIsCalled, .instanceMethod yX5_sleeperIsCalled, .selects RX5 yX5_sleeperIsCalled yX5_sleeperIsCalled, .code yX5_sleeperIsCalled cX5_sleeperIsCalled 2 (some .int)] ++ wsX50 ++ wsX30)
def wsX5_as : List Cond := .code yX5_as cX5_as 3 (some .int) :: ([.fieldLink RX5 53 "ClockWakers" "latestFault" "I", .fieldLink RX5 12 "ClockWakers" "now" "LClockWakers$Street;", .fieldLink RX5 95 "ClockWakers$Street" "kind" "[I", .methodLink RX5 92 yX3_hasHouse, .instanceMethod yX3_hasHouse, .selects RX3 yX3_hasHouse yX3_hasHouse, .initialized RX3, .code yX3_hasHouse cX3_hasHouse 2 (some .boolean), .fieldLink RX3 28 "ClockWakers$Street" "houses" "I", .methodLink RX5 72 yX5_faulty, .instanceMethod yX5_faulty, .selects RX5 yX5_faulty yX5_faulty, .initialized RX5, .code yX5_faulty cX5_faulty 2 (some .int)] ++ wsX50 ++ wsX30)
def wsX5_trace : List Cond := .code yX5_trace cX5_trace 1 (some .int) :: ([.fieldLink RX5 254 "ClockWakers" "traceLeft" "I"] ++ wsX50)
def wsX5_fault : List Cond := .code yX5_fault cX5_fault 1 (some .int) :: ([.fieldLink RX5 53 "ClockWakers" "latestFault" "I"] ++ wsX50)
def wsX5_many : List Cond := .code yX5_many cX5_many 2 (some .int) :: ([.fieldLink RX5 12 "ClockWakers" "now" "LClockWakers$Street;", .fieldLink RX5 184 "ClockWakers$Street" "houses" "I", .fieldLink RX5 89 "ClockWakers$Street" "clocks" "I", .fieldLink RX5 137 "ClockWakers$Street" "thick" "I", .fieldLink RX5 83 "ClockWakers" "night" "I", .fieldLink RX5 31 "ClockWakers" "readings" "LClockWakers$Readings;", .fieldLink RX5 86 "ClockWakers$Readings" "count" "I"] ++ wsX50 ++ wsX30 ++ wsX10)
def wsX6_init : List Cond := .code yX6_init cX6_init 1 none :: ([.methodLink RX6 1 objectInit, .instanceMethod objectInit, .code objectInit ⟨#[0xb1]⟩ 1 none, .arrayClass .int, .fieldLink RX6 9 "ClockWakersModel" "sorts" "[I", .fieldLink RX6 13 "ClockWakersModel" "sheetLong" "[I", .fieldLink RX6 16 "ClockWakersModel" "cells" "[I", .fieldLink RX6 19 "ClockWakersModel" "kind" "[I", .fieldLink RX6 22 "ClockWakersModel" "depth" "[I", .fieldLink RX6 25 "ClockWakersModel" "loud" "[I", .fieldLink RX6 28 "ClockWakersModel" "stands" "[I", .fieldLink RX6 31 "ClockWakersModel" "readHouse" "[I", .fieldLink RX6 34 "ClockWakersModel" "readClock" "[I", .fieldLink RX6 37 "ClockWakersModel" "keptStands" "[I", .fieldLink RX6 40 "ClockWakersModel" "wasAt" "[I", .fieldLink RX6 43 "ClockWakersModel" "row" "[I", .fieldLink RX6 46 "ClockWakersModel" "readWhich" "[I", .fieldLink RX6 49 "ClockWakersModel" "readAt" "[I", .fieldLink RX6 52 "ClockWakersModel" "readWho" "[I", .fieldLink RX6 55 "ClockWakersModel" "readWoke" "[I"] ++ wsX60)
def wsX6_fails : List Cond := .code yX6_fails cX6_fails 2 (some .int) :: ([.fieldLink RX6 58 "ClockWakersModel" "fault" "I"] ++ wsX60)
def wsX6_lost : List Cond := .code yX6_lost cX6_lost 2 (some .long) :: ([.fieldLink RX6 58 "ClockWakersModel" "fault" "I", .constantLong RX6 62 (-9223372036854775808)] ++ wsX60)
def wsX6_within : List Cond := .code yX6_within cX6_within 3 (some .boolean) :: ([])
def wsX6_isSheet : List Cond := .code yX6_isSheet cX6_isSheet 1 (some .boolean) :: ([.methodLink RX6 64 yX6_within, .static yX6_within, .initialized RX6, .code yX6_within cX6_within 3 (some .boolean)])
def wsX6_isSort : List Cond := .code yX6_isSort cX6_isSort 1 (some .boolean) :: ([.methodLink RX6 64 yX6_within, .static yX6_within, .initialized RX6, .code yX6_within cX6_within 3 (some .boolean)])
def wsX6_against : List Cond := .code yX6_against cX6_against 5 (some .int) :: ([.fieldLink RX6 9 "ClockWakersModel" "sorts" "[I", .fieldLink RX6 13 "ClockWakersModel" "sheetLong" "[I"] ++ wsX60)
def wsX6_isHouse : List Cond := .code yX6_isHouse cX6_isHouse 2 (some .boolean) :: ([.fieldLink RX6 68 "ClockWakersModel" "houses" "I"] ++ wsX60)
def wsX6_isClock : List Cond := .code yX6_isClock cX6_isClock 2 (some .boolean) :: ([.fieldLink RX6 71 "ClockWakersModel" "clocks" "I"] ++ wsX60)
def wsX6_isOf : List Cond := .code yX6_isOf cX6_isOf 2 (some .boolean) :: ([])
def wsX6_size : List Cond := .code yX6_size cX6_size 3 (some .int) :: ([])
def wsX6_digit : List Cond := .code yX6_digit cX6_digit 4 (some .int) :: ([.fieldLink RX6 74 "ClockWakersModel" "at" "I", .fieldLink RX6 16 "ClockWakersModel" "cells" "[I", .methodLink RX6 64 yX6_within, .static yX6_within, .initialized RX6, .code yX6_within cX6_within 3 (some .boolean)] ++ wsX60)
def wsX6_isNext : List Cond := .code yX6_isNext cX6_isNext 3 (some .boolean) :: ([.fieldLink RX6 74 "ClockWakersModel" "at" "I", .fieldLink RX6 16 "ClockWakersModel" "cells" "[I"] ++ wsX60)
def wsX6_isSign : List Cond := .code yX6_isSign cX6_isSign 3 (some .boolean) :: ([.fieldLink RX6 74 "ClockWakersModel" "at" "I", .methodLink RX6 77 yX6_isNext, .instanceMethod yX6_isNext, .selects RX6 yX6_isNext yX6_isNext, .initialized RX6, .code yX6_isNext cX6_isNext 3 (some .boolean), .fieldLink RX6 16 "ClockWakersModel" "cells" "[I"] ++ wsX60)
def wsX6_readTheHouse : List Cond := .code yX6_readTheHouse cX6_readTheHouse 4 (some .boolean) :: ([.fieldLink RX6 74 "ClockWakersModel" "at" "I", .fieldLink RX6 16 "ClockWakersModel" "cells" "[I", .fieldLink RX6 108 "ClockWakersModel" "readHouses" "I", .fieldLink RX6 31 "ClockWakersModel" "readHouse" "[I", .methodLink RX6 126 yX6_digit, .instanceMethod yX6_digit, .selects RX6 yX6_digit yX6_digit, .initialized RX6, .code yX6_digit cX6_digit 4 (some .int), .methodLink RX6 64 yX6_within, .static yX6_within, .code yX6_within cX6_within 3 (some .boolean)] ++ wsX60)
def wsX6_readTheClock : List Cond := .code yX6_readTheClock cX6_readTheClock 3 (some .boolean) :: ([.fieldLink RX6 111 "ClockWakersModel" "readClocks" "I", .fieldLink RX6 34 "ClockWakersModel" "readClock" "[I", .fieldLink RX6 108 "ClockWakersModel" "readHouses" "I", .methodLink RX6 126 yX6_digit, .instanceMethod yX6_digit, .selects RX6 yX6_digit yX6_digit, .initialized RX6, .code yX6_digit cX6_digit 4 (some .int), .fieldLink RX6 74 "ClockWakersModel" "at" "I", .fieldLink RX6 16 "ClockWakersModel" "cells" "[I", .methodLink RX6 64 yX6_within, .static yX6_within, .code yX6_within cX6_within 3 (some .boolean)] ++ wsX60)
def wsX6_readStreet_r1 : List Cond := [Cond.fieldLink RX6 108 "ClockWakersModel" "readHouses" "I", Cond.fieldLink RX6 111 "ClockWakersModel" "readClocks" "I", Cond.fieldLink RX6 102 "ClockWakersModel" "readWall" "I", Cond.fieldLink RX6 74 "ClockWakersModel" "at" "I", Cond.methodLink RX6 123 yX6_isSign, Cond.instanceMethod yX6_isSign, Cond.selects RX6 yX6_isSign yX6_isSign, Cond.initialized RX6, Cond.code yX6_isSign cX6_isSign 3 (some .boolean), Cond.methodLink RX6 77 yX6_isNext, Cond.instanceMethod yX6_isNext, Cond.selects RX6 yX6_isNext yX6_isNext, Cond.code yX6_isNext cX6_isNext 3 (some .boolean), Cond.fieldLink RX6 16 "ClockWakersModel" "cells" "[I", Cond.methodLink RX6 126 yX6_digit, Cond.instanceMethod yX6_digit, Cond.selects RX6 yX6_digit yX6_digit, Cond.code yX6_digit cX6_digit 4 (some .int), Cond.methodLink RX6 64 yX6_within, Cond.static yX6_within, Cond.code yX6_within cX6_within 3 (some .boolean), Cond.methodLink RX6 130 yX6_readTheHouse, Cond.instanceMethod yX6_readTheHouse, Cond.selects RX6 yX6_readTheHouse yX6_readTheHouse]
def wsX6_readStreet_r2 : List Cond := [Cond.code yX6_readTheHouse cX6_readTheHouse 4 (some .boolean), Cond.fieldLink RX6 31 "ClockWakersModel" "readHouse" "[I", Cond.methodLink RX6 133 yX6_readTheClock, Cond.instanceMethod yX6_readTheClock, Cond.selects RX6 yX6_readTheClock yX6_readTheClock, Cond.code yX6_readTheClock cX6_readTheClock 3 (some .boolean), Cond.fieldLink RX6 34 "ClockWakersModel" "readClock" "[I"]
def wsX6_readStreet : List Cond := .code yX6_readStreet cX6_readStreet 2 (some .boolean) :: ((wsX6_readStreet_r1 ++ wsX6_readStreet_r2) ++ wsX60)
def wsX6_takeStreet : List Cond := .code yX6_takeStreet cX6_takeStreet 2 none :: ([.fieldLink RX6 102 "ClockWakersModel" "readWall" "I", .fieldLink RX6 105 "ClockWakersModel" "wallThick" "I", .fieldLink RX6 108 "ClockWakersModel" "readHouses" "I", .fieldLink RX6 68 "ClockWakersModel" "houses" "I", .fieldLink RX6 19 "ClockWakersModel" "kind" "[I", .fieldLink RX6 31 "ClockWakersModel" "readHouse" "[I", .fieldLink RX6 22 "ClockWakersModel" "depth" "[I", .fieldLink RX6 111 "ClockWakersModel" "readClocks" "I", .fieldLink RX6 71 "ClockWakersModel" "clocks" "I", .fieldLink RX6 25 "ClockWakersModel" "loud" "[I", .fieldLink RX6 34 "ClockWakersModel" "readClock" "[I", .fieldLink RX6 28 "ClockWakersModel" "stands" "[I", .fieldLink RX6 114 "ClockWakersModel" "stuffed" "I", .fieldLink RX6 117 "ClockWakersModel" "night" "I", .fieldLink RX6 120 "ClockWakersModel" "readings" "I"] ++ wsX60)
def wsX6_street_r1 : List Cond := [Cond.fieldLink RX6 58 "ClockWakersModel" "fault" "I", Cond.fieldLink RX6 74 "ClockWakersModel" "at" "I", Cond.fieldLink RX6 71 "ClockWakersModel" "clocks" "I", Cond.methodLink RX6 81 yX6_isSheet, Cond.static yX6_isSheet, Cond.initialized RX6, Cond.code yX6_isSheet cX6_isSheet 1 (some .boolean), Cond.methodLink RX6 64 yX6_within, Cond.static yX6_within, Cond.code yX6_within cX6_within 3 (some .boolean), Cond.methodLink RX6 85 yX6_isSort, Cond.static yX6_isSort, Cond.code yX6_isSort cX6_isSort 1 (some .boolean), Cond.methodLink RX6 88 yX6_against, Cond.instanceMethod yX6_against, Cond.selects RX6 yX6_against yX6_against, Cond.code yX6_against cX6_against 5 (some .int), Cond.fieldLink RX6 9 "ClockWakersModel" "sorts" "[I", Cond.fieldLink RX6 13 "ClockWakersModel" "sheetLong" "[I", Cond.methodLink RX6 92 yX6_fails, Cond.instanceMethod yX6_fails, Cond.selects RX6 yX6_fails yX6_fails, Cond.code yX6_fails cX6_fails 2 (some .int), Cond.methodLink RX6 96 yX6_readStreet]
def wsX6_street_r2 : List Cond := [Cond.instanceMethod yX6_readStreet, Cond.selects RX6 yX6_readStreet yX6_readStreet, Cond.code yX6_readStreet cX6_readStreet 2 (some .boolean), Cond.fieldLink RX6 108 "ClockWakersModel" "readHouses" "I", Cond.fieldLink RX6 111 "ClockWakersModel" "readClocks" "I", Cond.fieldLink RX6 102 "ClockWakersModel" "readWall" "I", Cond.methodLink RX6 123 yX6_isSign, Cond.instanceMethod yX6_isSign, Cond.selects RX6 yX6_isSign yX6_isSign, Cond.code yX6_isSign cX6_isSign 3 (some .boolean), Cond.methodLink RX6 77 yX6_isNext, Cond.instanceMethod yX6_isNext, Cond.selects RX6 yX6_isNext yX6_isNext, Cond.code yX6_isNext cX6_isNext 3 (some .boolean), Cond.fieldLink RX6 16 "ClockWakersModel" "cells" "[I", Cond.methodLink RX6 126 yX6_digit, Cond.instanceMethod yX6_digit, Cond.selects RX6 yX6_digit yX6_digit, Cond.code yX6_digit cX6_digit 4 (some .int), Cond.methodLink RX6 130 yX6_readTheHouse, Cond.instanceMethod yX6_readTheHouse, Cond.selects RX6 yX6_readTheHouse yX6_readTheHouse, Cond.code yX6_readTheHouse cX6_readTheHouse 4 (some .boolean), Cond.fieldLink RX6 31 "ClockWakersModel" "readHouse" "[I"]
def wsX6_street_r3 : List Cond := [Cond.methodLink RX6 133 yX6_readTheClock, Cond.instanceMethod yX6_readTheClock, Cond.selects RX6 yX6_readTheClock yX6_readTheClock, Cond.code yX6_readTheClock cX6_readTheClock 3 (some .boolean), Cond.fieldLink RX6 34 "ClockWakersModel" "readClock" "[I", Cond.methodLink RX6 99 yX6_takeStreet, Cond.instanceMethod yX6_takeStreet, Cond.selects RX6 yX6_takeStreet yX6_takeStreet, Cond.code yX6_takeStreet cX6_takeStreet 2 none, Cond.fieldLink RX6 105 "ClockWakersModel" "wallThick" "I", Cond.fieldLink RX6 68 "ClockWakersModel" "houses" "I", Cond.fieldLink RX6 19 "ClockWakersModel" "kind" "[I", Cond.fieldLink RX6 22 "ClockWakersModel" "depth" "[I", Cond.fieldLink RX6 25 "ClockWakersModel" "loud" "[I", Cond.fieldLink RX6 28 "ClockWakersModel" "stands" "[I", Cond.fieldLink RX6 114 "ClockWakersModel" "stuffed" "I", Cond.fieldLink RX6 117 "ClockWakersModel" "night" "I", Cond.fieldLink RX6 120 "ClockWakersModel" "readings" "I"]
def wsX6_street : List Cond := .code yX6_street cX6_street 7 (some .int) :: ((wsX6_street_r1 ++ (wsX6_street_r2 ++ wsX6_street_r3)) ++ wsX60)
def wsX6_needsOf : List Cond := .code yX6_needsOf cX6_needsOf 2 (some .int) :: ([.fieldLink RX6 19 "ClockWakersModel" "kind" "[I", .fieldLink RX6 22 "ClockWakersModel" "depth" "[I"] ++ wsX60)
def wsX6_soundOf : List Cond := .code yX6_soundOf cX6_soundOf 2 (some .int) :: ([.fieldLink RX6 114 "ClockWakersModel" "stuffed" "I", .fieldLink RX6 25 "ClockWakersModel" "loud" "[I", .methodLink RX6 136 yX6_isOf, .static yX6_isOf, .initialized RX6, .code yX6_isOf cX6_isOf 2 (some .boolean)] ++ wsX60)
def wsX6_heardFrom : List Cond := .code yX6_heardFrom cX6_heardFrom 4 (some .int) :: ([.fieldLink RX6 105 "ClockWakersModel" "wallThick" "I", .methodLink RX6 139 yX6_soundOf, .instanceMethod yX6_soundOf, .selects RX6 yX6_soundOf yX6_soundOf, .initialized RX6, .code yX6_soundOf cX6_soundOf 2 (some .int), .fieldLink RX6 114 "ClockWakersModel" "stuffed" "I", .fieldLink RX6 25 "ClockWakersModel" "loud" "[I", .methodLink RX6 136 yX6_isOf, .static yX6_isOf, .code yX6_isOf cX6_isOf 2 (some .boolean)] ++ wsX60)
def wsX6_wakesFrom : List Cond := .code yX6_wakesFrom cX6_wakesFrom 5 (some .boolean) :: ([.methodLink RX6 142 yX6_heardFrom, .instanceMethod yX6_heardFrom, .selects RX6 yX6_heardFrom yX6_heardFrom, .initialized RX6, .code yX6_heardFrom cX6_heardFrom 4 (some .int), .fieldLink RX6 105 "ClockWakersModel" "wallThick" "I", .methodLink RX6 139 yX6_soundOf, .instanceMethod yX6_soundOf, .selects RX6 yX6_soundOf yX6_soundOf, .code yX6_soundOf cX6_soundOf 2 (some .int), .fieldLink RX6 114 "ClockWakersModel" "stuffed" "I", .fieldLink RX6 25 "ClockWakersModel" "loud" "[I", .methodLink RX6 136 yX6_isOf, .static yX6_isOf, .code yX6_isOf cX6_isOf 2 (some .boolean), .methodLink RX6 145 yX6_needsOf, .instanceMethod yX6_needsOf, .selects RX6 yX6_needsOf yX6_needsOf, .code yX6_needsOf cX6_needsOf 2 (some .int), .fieldLink RX6 19 "ClockWakersModel" "kind" "[I", .fieldLink RX6 22 "ClockWakersModel" "depth" "[I"] ++ wsX60)
def wsX6_ownerFrom_r1 : List Cond := [Cond.fieldLink RX6 68 "ClockWakersModel" "houses" "I", Cond.methodLink RX6 148 yX6_wakesFrom, Cond.instanceMethod yX6_wakesFrom, Cond.selects RX6 yX6_wakesFrom yX6_wakesFrom, Cond.initialized RX6, Cond.code yX6_wakesFrom cX6_wakesFrom 5 (some .boolean), Cond.methodLink RX6 142 yX6_heardFrom, Cond.instanceMethod yX6_heardFrom, Cond.selects RX6 yX6_heardFrom yX6_heardFrom, Cond.code yX6_heardFrom cX6_heardFrom 4 (some .int), Cond.fieldLink RX6 105 "ClockWakersModel" "wallThick" "I", Cond.methodLink RX6 139 yX6_soundOf, Cond.instanceMethod yX6_soundOf, Cond.selects RX6 yX6_soundOf yX6_soundOf, Cond.code yX6_soundOf cX6_soundOf 2 (some .int), Cond.fieldLink RX6 114 "ClockWakersModel" "stuffed" "I", Cond.fieldLink RX6 25 "ClockWakersModel" "loud" "[I", Cond.methodLink RX6 136 yX6_isOf, Cond.static yX6_isOf, Cond.code yX6_isOf cX6_isOf 2 (some .boolean), Cond.methodLink RX6 145 yX6_needsOf, Cond.instanceMethod yX6_needsOf, Cond.selects RX6 yX6_needsOf yX6_needsOf, Cond.code yX6_needsOf cX6_needsOf 2 (some .int)]
def wsX6_ownerFrom_r2 : List Cond := [Cond.fieldLink RX6 19 "ClockWakersModel" "kind" "[I", Cond.fieldLink RX6 22 "ClockWakersModel" "depth" "[I"]
def wsX6_ownerFrom : List Cond := .code yX6_ownerFrom cX6_ownerFrom 6 (some .int) :: ((wsX6_ownerFrom_r1 ++ wsX6_ownerFrom_r2) ++ wsX60)
def wsX6_wakersOf_r1 : List Cond := [Cond.fieldLink RX6 68 "ClockWakersModel" "houses" "I", Cond.methodLink RX6 148 yX6_wakesFrom, Cond.instanceMethod yX6_wakesFrom, Cond.selects RX6 yX6_wakesFrom yX6_wakesFrom, Cond.initialized RX6, Cond.code yX6_wakesFrom cX6_wakesFrom 5 (some .boolean), Cond.methodLink RX6 142 yX6_heardFrom, Cond.instanceMethod yX6_heardFrom, Cond.selects RX6 yX6_heardFrom yX6_heardFrom, Cond.code yX6_heardFrom cX6_heardFrom 4 (some .int), Cond.fieldLink RX6 105 "ClockWakersModel" "wallThick" "I", Cond.methodLink RX6 139 yX6_soundOf, Cond.instanceMethod yX6_soundOf, Cond.selects RX6 yX6_soundOf yX6_soundOf, Cond.code yX6_soundOf cX6_soundOf 2 (some .int), Cond.fieldLink RX6 114 "ClockWakersModel" "stuffed" "I", Cond.fieldLink RX6 25 "ClockWakersModel" "loud" "[I", Cond.methodLink RX6 136 yX6_isOf, Cond.static yX6_isOf, Cond.code yX6_isOf cX6_isOf 2 (some .boolean), Cond.methodLink RX6 145 yX6_needsOf, Cond.instanceMethod yX6_needsOf, Cond.selects RX6 yX6_needsOf yX6_needsOf, Cond.code yX6_needsOf cX6_needsOf 2 (some .int)]
def wsX6_wakersOf_r2 : List Cond := [Cond.fieldLink RX6 19 "ClockWakersModel" "kind" "[I", Cond.fieldLink RX6 22 "ClockWakersModel" "depth" "[I"]
def wsX6_wakersOf : List Cond := .code yX6_wakersOf cX6_wakersOf 5 (some .int) :: ((wsX6_wakersOf_r1 ++ wsX6_wakersOf_r2) ++ wsX60)
def wsX6_ofHouse_r1 : List Cond := [Cond.fieldLink RX6 19 "ClockWakersModel" "kind" "[I", Cond.fieldLink RX6 22 "ClockWakersModel" "depth" "[I", Cond.fieldLink RX6 71 "ClockWakersModel" "clocks" "I", Cond.fieldLink RX6 28 "ClockWakersModel" "stands" "[I", Cond.methodLink RX6 151 yX6_isHouse, Cond.instanceMethod yX6_isHouse, Cond.selects RX6 yX6_isHouse yX6_isHouse, Cond.initialized RX6, Cond.code yX6_isHouse cX6_isHouse 2 (some .boolean), Cond.fieldLink RX6 68 "ClockWakersModel" "houses" "I", Cond.methodLink RX6 64 yX6_within, Cond.static yX6_within, Cond.code yX6_within cX6_within 3 (some .boolean), Cond.methodLink RX6 145 yX6_needsOf, Cond.instanceMethod yX6_needsOf, Cond.selects RX6 yX6_needsOf yX6_needsOf, Cond.code yX6_needsOf cX6_needsOf 2 (some .int), Cond.methodLink RX6 148 yX6_wakesFrom, Cond.instanceMethod yX6_wakesFrom, Cond.selects RX6 yX6_wakesFrom yX6_wakesFrom, Cond.code yX6_wakesFrom cX6_wakesFrom 5 (some .boolean), Cond.methodLink RX6 142 yX6_heardFrom, Cond.instanceMethod yX6_heardFrom, Cond.selects RX6 yX6_heardFrom yX6_heardFrom]
def wsX6_ofHouse_r2 : List Cond := [Cond.code yX6_heardFrom cX6_heardFrom 4 (some .int), Cond.fieldLink RX6 105 "ClockWakersModel" "wallThick" "I", Cond.methodLink RX6 139 yX6_soundOf, Cond.instanceMethod yX6_soundOf, Cond.selects RX6 yX6_soundOf yX6_soundOf, Cond.code yX6_soundOf cX6_soundOf 2 (some .int), Cond.fieldLink RX6 114 "ClockWakersModel" "stuffed" "I", Cond.fieldLink RX6 25 "ClockWakersModel" "loud" "[I", Cond.methodLink RX6 136 yX6_isOf, Cond.static yX6_isOf, Cond.code yX6_isOf cX6_isOf 2 (some .boolean)]
def wsX6_ofHouse : List Cond := .code yX6_ofHouse cX6_ofHouse 6 (some .int) :: ((wsX6_ofHouse_r1 ++ wsX6_ofHouse_r2) ++ wsX60)
def wsX6_ofClock_r1 : List Cond := [Cond.fieldLink RX6 25 "ClockWakersModel" "loud" "[I", Cond.fieldLink RX6 28 "ClockWakersModel" "stands" "[I", Cond.fieldLink RX6 114 "ClockWakersModel" "stuffed" "I", Cond.methodLink RX6 154 yX6_isClock, Cond.instanceMethod yX6_isClock, Cond.selects RX6 yX6_isClock yX6_isClock, Cond.initialized RX6, Cond.code yX6_isClock cX6_isClock 2 (some .boolean), Cond.fieldLink RX6 71 "ClockWakersModel" "clocks" "I", Cond.methodLink RX6 139 yX6_soundOf, Cond.instanceMethod yX6_soundOf, Cond.selects RX6 yX6_soundOf yX6_soundOf, Cond.code yX6_soundOf cX6_soundOf 2 (some .int), Cond.methodLink RX6 136 yX6_isOf, Cond.static yX6_isOf, Cond.code yX6_isOf cX6_isOf 2 (some .boolean), Cond.methodLink RX6 157 yX6_wakersOf, Cond.instanceMethod yX6_wakersOf, Cond.selects RX6 yX6_wakersOf yX6_wakersOf, Cond.code yX6_wakersOf cX6_wakersOf 5 (some .int), Cond.fieldLink RX6 68 "ClockWakersModel" "houses" "I", Cond.methodLink RX6 148 yX6_wakesFrom, Cond.instanceMethod yX6_wakesFrom, Cond.selects RX6 yX6_wakesFrom yX6_wakesFrom]
def wsX6_ofClock_r2 : List Cond := [Cond.code yX6_wakesFrom cX6_wakesFrom 5 (some .boolean), Cond.methodLink RX6 142 yX6_heardFrom, Cond.instanceMethod yX6_heardFrom, Cond.selects RX6 yX6_heardFrom yX6_heardFrom, Cond.code yX6_heardFrom cX6_heardFrom 4 (some .int), Cond.fieldLink RX6 105 "ClockWakersModel" "wallThick" "I", Cond.methodLink RX6 145 yX6_needsOf, Cond.instanceMethod yX6_needsOf, Cond.selects RX6 yX6_needsOf yX6_needsOf, Cond.code yX6_needsOf cX6_needsOf 2 (some .int), Cond.fieldLink RX6 19 "ClockWakersModel" "kind" "[I", Cond.fieldLink RX6 22 "ClockWakersModel" "depth" "[I", Cond.methodLink RX6 161 yX6_ownerFrom, Cond.instanceMethod yX6_ownerFrom, Cond.selects RX6 yX6_ownerFrom yX6_ownerFrom, Cond.code yX6_ownerFrom cX6_ownerFrom 6 (some .int)]
def wsX6_ofClock : List Cond := .code yX6_ofClock cX6_ofClock 3 (some .int) :: ((wsX6_ofClock_r1 ++ wsX6_ofClock_r2) ++ wsX60)
def wsX6_drowse : List Cond := .code yX6_drowse cX6_drowse 4 (some .int) :: ([.fieldLink RX6 22 "ClockWakersModel" "depth" "[I", .methodLink RX6 151 yX6_isHouse, .instanceMethod yX6_isHouse, .selects RX6 yX6_isHouse yX6_isHouse, .initialized RX6, .code yX6_isHouse cX6_isHouse 2 (some .boolean), .fieldLink RX6 68 "ClockWakersModel" "houses" "I", .methodLink RX6 64 yX6_within, .static yX6_within, .code yX6_within cX6_within 3 (some .boolean)] ++ wsX60)
def wsX6_tune : List Cond := .code yX6_tune cX6_tune 4 (some .int) :: ([.fieldLink RX6 25 "ClockWakersModel" "loud" "[I", .methodLink RX6 154 yX6_isClock, .instanceMethod yX6_isClock, .selects RX6 yX6_isClock yX6_isClock, .initialized RX6, .code yX6_isClock cX6_isClock 2 (some .boolean), .fieldLink RX6 71 "ClockWakersModel" "clocks" "I", .methodLink RX6 64 yX6_within, .static yX6_within, .code yX6_within cX6_within 3 (some .boolean)] ++ wsX60)
def wsX6_wall : List Cond := .code yX6_wall cX6_wall 3 (some .int) :: ([.fieldLink RX6 68 "ClockWakersModel" "houses" "I", .fieldLink RX6 105 "ClockWakersModel" "wallThick" "I", .methodLink RX6 64 yX6_within, .static yX6_within, .initialized RX6, .code yX6_within cX6_within 3 (some .boolean)] ++ wsX60)
def wsX6_hears_r1 : List Cond := [Cond.fieldLink RX6 28 "ClockWakersModel" "stands" "[I", Cond.constantLong RX6 62 (-9223372036854775808), Cond.methodLink RX6 151 yX6_isHouse, Cond.instanceMethod yX6_isHouse, Cond.selects RX6 yX6_isHouse yX6_isHouse, Cond.initialized RX6, Cond.code yX6_isHouse cX6_isHouse 2 (some .boolean), Cond.fieldLink RX6 68 "ClockWakersModel" "houses" "I", Cond.methodLink RX6 154 yX6_isClock, Cond.instanceMethod yX6_isClock, Cond.selects RX6 yX6_isClock yX6_isClock, Cond.code yX6_isClock cX6_isClock 2 (some .boolean), Cond.fieldLink RX6 71 "ClockWakersModel" "clocks" "I", Cond.methodLink RX6 142 yX6_heardFrom, Cond.instanceMethod yX6_heardFrom, Cond.selects RX6 yX6_heardFrom yX6_heardFrom, Cond.code yX6_heardFrom cX6_heardFrom 4 (some .int), Cond.fieldLink RX6 105 "ClockWakersModel" "wallThick" "I", Cond.methodLink RX6 139 yX6_soundOf, Cond.instanceMethod yX6_soundOf, Cond.selects RX6 yX6_soundOf yX6_soundOf, Cond.code yX6_soundOf cX6_soundOf 2 (some .int), Cond.fieldLink RX6 114 "ClockWakersModel" "stuffed" "I", Cond.fieldLink RX6 25 "ClockWakersModel" "loud" "[I"]
def wsX6_hears_r2 : List Cond := [Cond.methodLink RX6 136 yX6_isOf, Cond.static yX6_isOf, Cond.code yX6_isOf cX6_isOf 2 (some .boolean)]
def wsX6_hears : List Cond := .code yX6_hears cX6_hears 3 (some .long) :: ((wsX6_hears_r1 ++ wsX6_hears_r2) ++ wsX60)
def wsX6_strikes_r1 : List Cond := [Cond.fieldLink RX6 28 "ClockWakersModel" "stands" "[I", Cond.fieldLink RX6 164 "ClockWakersModel" "unheard" "I", Cond.fieldLink RX6 167 "ClockWakersModel" "moves" "I", Cond.methodLink RX6 161 yX6_ownerFrom, Cond.instanceMethod yX6_ownerFrom, Cond.selects RX6 yX6_ownerFrom yX6_ownerFrom, Cond.initialized RX6, Cond.code yX6_ownerFrom cX6_ownerFrom 6 (some .int), Cond.fieldLink RX6 68 "ClockWakersModel" "houses" "I", Cond.methodLink RX6 148 yX6_wakesFrom, Cond.instanceMethod yX6_wakesFrom, Cond.selects RX6 yX6_wakesFrom yX6_wakesFrom, Cond.code yX6_wakesFrom cX6_wakesFrom 5 (some .boolean), Cond.methodLink RX6 142 yX6_heardFrom, Cond.instanceMethod yX6_heardFrom, Cond.selects RX6 yX6_heardFrom yX6_heardFrom, Cond.code yX6_heardFrom cX6_heardFrom 4 (some .int), Cond.fieldLink RX6 105 "ClockWakersModel" "wallThick" "I", Cond.methodLink RX6 139 yX6_soundOf, Cond.instanceMethod yX6_soundOf, Cond.selects RX6 yX6_soundOf yX6_soundOf, Cond.code yX6_soundOf cX6_soundOf 2 (some .int), Cond.fieldLink RX6 114 "ClockWakersModel" "stuffed" "I", Cond.fieldLink RX6 25 "ClockWakersModel" "loud" "[I"]
def wsX6_strikes_r2 : List Cond := [Cond.methodLink RX6 136 yX6_isOf, Cond.static yX6_isOf, Cond.code yX6_isOf cX6_isOf 2 (some .boolean), Cond.methodLink RX6 145 yX6_needsOf, Cond.instanceMethod yX6_needsOf, Cond.selects RX6 yX6_needsOf yX6_needsOf, Cond.code yX6_needsOf cX6_needsOf 2 (some .int), Cond.fieldLink RX6 19 "ClockWakersModel" "kind" "[I", Cond.fieldLink RX6 22 "ClockWakersModel" "depth" "[I"]
def wsX6_strikes : List Cond := .code yX6_strikes cX6_strikes 3 (some .int) :: ((wsX6_strikes_r1 ++ wsX6_strikes_r2) ++ wsX60)
def wsX6_oneNight_r1 : List Cond := [Cond.fieldLink RX6 71 "ClockWakersModel" "clocks" "I", Cond.methodLink RX6 170 yX6_strikes, Cond.instanceMethod yX6_strikes, Cond.selects RX6 yX6_strikes yX6_strikes, Cond.initialized RX6, Cond.code yX6_strikes cX6_strikes 3 (some .int), Cond.fieldLink RX6 28 "ClockWakersModel" "stands" "[I", Cond.fieldLink RX6 164 "ClockWakersModel" "unheard" "I", Cond.fieldLink RX6 167 "ClockWakersModel" "moves" "I", Cond.methodLink RX6 161 yX6_ownerFrom, Cond.instanceMethod yX6_ownerFrom, Cond.selects RX6 yX6_ownerFrom yX6_ownerFrom, Cond.code yX6_ownerFrom cX6_ownerFrom 6 (some .int), Cond.fieldLink RX6 68 "ClockWakersModel" "houses" "I", Cond.methodLink RX6 148 yX6_wakesFrom, Cond.instanceMethod yX6_wakesFrom, Cond.selects RX6 yX6_wakesFrom yX6_wakesFrom, Cond.code yX6_wakesFrom cX6_wakesFrom 5 (some .boolean), Cond.methodLink RX6 142 yX6_heardFrom, Cond.instanceMethod yX6_heardFrom, Cond.selects RX6 yX6_heardFrom yX6_heardFrom, Cond.code yX6_heardFrom cX6_heardFrom 4 (some .int), Cond.fieldLink RX6 105 "ClockWakersModel" "wallThick" "I", Cond.methodLink RX6 139 yX6_soundOf]
def wsX6_oneNight_r2 : List Cond := [Cond.instanceMethod yX6_soundOf, Cond.selects RX6 yX6_soundOf yX6_soundOf, Cond.code yX6_soundOf cX6_soundOf 2 (some .int), Cond.fieldLink RX6 114 "ClockWakersModel" "stuffed" "I", Cond.fieldLink RX6 25 "ClockWakersModel" "loud" "[I", Cond.methodLink RX6 136 yX6_isOf, Cond.static yX6_isOf, Cond.code yX6_isOf cX6_isOf 2 (some .boolean), Cond.methodLink RX6 145 yX6_needsOf, Cond.instanceMethod yX6_needsOf, Cond.selects RX6 yX6_needsOf yX6_needsOf, Cond.code yX6_needsOf cX6_needsOf 2 (some .int), Cond.fieldLink RX6 19 "ClockWakersModel" "kind" "[I", Cond.fieldLink RX6 22 "ClockWakersModel" "depth" "[I"]
def wsX6_oneNight : List Cond := .code yX6_oneNight cX6_oneNight 2 none :: ((wsX6_oneNight_r1 ++ wsX6_oneNight_r2) ++ wsX60)
def wsX6_stroke_r1 : List Cond := [Cond.methodLink RX6 154 yX6_isClock, Cond.instanceMethod yX6_isClock, Cond.selects RX6 yX6_isClock yX6_isClock, Cond.initialized RX6, Cond.code yX6_isClock cX6_isClock 2 (some .boolean), Cond.fieldLink RX6 71 "ClockWakersModel" "clocks" "I", Cond.methodLink RX6 170 yX6_strikes, Cond.instanceMethod yX6_strikes, Cond.selects RX6 yX6_strikes yX6_strikes, Cond.code yX6_strikes cX6_strikes 3 (some .int), Cond.fieldLink RX6 28 "ClockWakersModel" "stands" "[I", Cond.fieldLink RX6 164 "ClockWakersModel" "unheard" "I", Cond.fieldLink RX6 167 "ClockWakersModel" "moves" "I", Cond.methodLink RX6 161 yX6_ownerFrom, Cond.instanceMethod yX6_ownerFrom, Cond.selects RX6 yX6_ownerFrom yX6_ownerFrom, Cond.code yX6_ownerFrom cX6_ownerFrom 6 (some .int), Cond.fieldLink RX6 68 "ClockWakersModel" "houses" "I", Cond.methodLink RX6 148 yX6_wakesFrom, Cond.instanceMethod yX6_wakesFrom, Cond.selects RX6 yX6_wakesFrom yX6_wakesFrom, Cond.code yX6_wakesFrom cX6_wakesFrom 5 (some .boolean), Cond.methodLink RX6 142 yX6_heardFrom, Cond.instanceMethod yX6_heardFrom]
def wsX6_stroke_r2 : List Cond := [Cond.selects RX6 yX6_heardFrom yX6_heardFrom, Cond.code yX6_heardFrom cX6_heardFrom 4 (some .int), Cond.fieldLink RX6 105 "ClockWakersModel" "wallThick" "I", Cond.methodLink RX6 139 yX6_soundOf, Cond.instanceMethod yX6_soundOf, Cond.selects RX6 yX6_soundOf yX6_soundOf, Cond.code yX6_soundOf cX6_soundOf 2 (some .int), Cond.fieldLink RX6 114 "ClockWakersModel" "stuffed" "I", Cond.fieldLink RX6 25 "ClockWakersModel" "loud" "[I", Cond.methodLink RX6 136 yX6_isOf, Cond.static yX6_isOf, Cond.code yX6_isOf cX6_isOf 2 (some .boolean), Cond.methodLink RX6 145 yX6_needsOf, Cond.instanceMethod yX6_needsOf, Cond.selects RX6 yX6_needsOf yX6_needsOf, Cond.code yX6_needsOf cX6_needsOf 2 (some .int), Cond.fieldLink RX6 19 "ClockWakersModel" "kind" "[I", Cond.fieldLink RX6 22 "ClockWakersModel" "depth" "[I"]
def wsX6_stroke : List Cond := .code yX6_stroke cX6_stroke 2 (some .int) :: ((wsX6_stroke_r1 ++ wsX6_stroke_r2) ++ wsX60)
def wsX6_keep : List Cond := .code yX6_keep cX6_keep 2 none :: ([.fieldLink RX6 71 "ClockWakersModel" "clocks" "I", .fieldLink RX6 37 "ClockWakersModel" "keptStands" "[I", .fieldLink RX6 28 "ClockWakersModel" "stands" "[I"] ++ wsX60)
def wsX6_putBack : List Cond := .code yX6_putBack cX6_putBack 2 none :: ([.fieldLink RX6 71 "ClockWakersModel" "clocks" "I", .fieldLink RX6 28 "ClockWakersModel" "stands" "[I", .fieldLink RX6 37 "ClockWakersModel" "keptStands" "[I"] ++ wsX60)
def wsX6_elsewhere : List Cond := .code yX6_elsewhere cX6_elsewhere 3 (some .int) :: ([.fieldLink RX6 71 "ClockWakersModel" "clocks" "I", .fieldLink RX6 28 "ClockWakersModel" "stands" "[I", .fieldLink RX6 37 "ClockWakersModel" "keptStands" "[I"] ++ wsX60)
def wsX6_nights_r1 : List Cond := [Cond.fieldLink RX6 68 "ClockWakersModel" "houses" "I", Cond.fieldLink RX6 117 "ClockWakersModel" "night" "I", Cond.methodLink RX6 64 yX6_within, Cond.static yX6_within, Cond.initialized RX6, Cond.code yX6_within cX6_within 3 (some .boolean), Cond.methodLink RX6 173 yX6_keep, Cond.instanceMethod yX6_keep, Cond.selects RX6 yX6_keep yX6_keep, Cond.code yX6_keep cX6_keep 2 none, Cond.fieldLink RX6 71 "ClockWakersModel" "clocks" "I", Cond.fieldLink RX6 37 "ClockWakersModel" "keptStands" "[I", Cond.fieldLink RX6 28 "ClockWakersModel" "stands" "[I", Cond.methodLink RX6 176 yX6_oneNight, Cond.instanceMethod yX6_oneNight, Cond.selects RX6 yX6_oneNight yX6_oneNight, Cond.code yX6_oneNight cX6_oneNight 2 none, Cond.methodLink RX6 170 yX6_strikes, Cond.instanceMethod yX6_strikes, Cond.selects RX6 yX6_strikes yX6_strikes, Cond.code yX6_strikes cX6_strikes 3 (some .int), Cond.fieldLink RX6 164 "ClockWakersModel" "unheard" "I", Cond.fieldLink RX6 167 "ClockWakersModel" "moves" "I", Cond.methodLink RX6 161 yX6_ownerFrom]
def wsX6_nights_r2 : List Cond := [Cond.instanceMethod yX6_ownerFrom, Cond.selects RX6 yX6_ownerFrom yX6_ownerFrom, Cond.code yX6_ownerFrom cX6_ownerFrom 6 (some .int), Cond.methodLink RX6 148 yX6_wakesFrom, Cond.instanceMethod yX6_wakesFrom, Cond.selects RX6 yX6_wakesFrom yX6_wakesFrom, Cond.code yX6_wakesFrom cX6_wakesFrom 5 (some .boolean), Cond.methodLink RX6 142 yX6_heardFrom, Cond.instanceMethod yX6_heardFrom, Cond.selects RX6 yX6_heardFrom yX6_heardFrom, Cond.code yX6_heardFrom cX6_heardFrom 4 (some .int), Cond.fieldLink RX6 105 "ClockWakersModel" "wallThick" "I", Cond.methodLink RX6 139 yX6_soundOf, Cond.instanceMethod yX6_soundOf, Cond.selects RX6 yX6_soundOf yX6_soundOf, Cond.code yX6_soundOf cX6_soundOf 2 (some .int), Cond.fieldLink RX6 114 "ClockWakersModel" "stuffed" "I", Cond.fieldLink RX6 25 "ClockWakersModel" "loud" "[I", Cond.methodLink RX6 136 yX6_isOf, Cond.static yX6_isOf, Cond.code yX6_isOf cX6_isOf 2 (some .boolean), Cond.methodLink RX6 145 yX6_needsOf, Cond.instanceMethod yX6_needsOf, Cond.selects RX6 yX6_needsOf yX6_needsOf]
def wsX6_nights_r3 : List Cond := [Cond.code yX6_needsOf cX6_needsOf 2 (some .int), Cond.fieldLink RX6 19 "ClockWakersModel" "kind" "[I", Cond.fieldLink RX6 22 "ClockWakersModel" "depth" "[I", Cond.methodLink RX6 179 yX6_elsewhere, Cond.instanceMethod yX6_elsewhere, Cond.selects RX6 yX6_elsewhere yX6_elsewhere, Cond.code yX6_elsewhere cX6_elsewhere 3 (some .int)]
def wsX6_nights : List Cond := .code yX6_nights cX6_nights 3 (some .int) :: ((wsX6_nights_r1 ++ (wsX6_nights_r2 ++ wsX6_nights_r3)) ++ wsX60)
def wsX6_stuff : List Cond := .code yX6_stuff cX6_stuff 2 (some .int) :: ([.fieldLink RX6 114 "ClockWakersModel" "stuffed" "I", .methodLink RX6 154 yX6_isClock, .instanceMethod yX6_isClock, .selects RX6 yX6_isClock yX6_isClock, .initialized RX6, .code yX6_isClock cX6_isClock 2 (some .boolean), .fieldLink RX6 71 "ClockWakersModel" "clocks" "I", .methodLink RX6 136 yX6_isOf, .static yX6_isOf, .code yX6_isOf cX6_isOf 2 (some .boolean), .methodLink RX6 183 yX6_size, .static yX6_size, .code yX6_size cX6_size 3 (some .int)] ++ wsX60)
def wsX6_ease : List Cond := .code yX6_ease cX6_ease 2 (some .int) :: ([.fieldLink RX6 114 "ClockWakersModel" "stuffed" "I", .methodLink RX6 154 yX6_isClock, .instanceMethod yX6_isClock, .selects RX6 yX6_isClock yX6_isClock, .initialized RX6, .code yX6_isClock cX6_isClock 2 (some .boolean), .fieldLink RX6 71 "ClockWakersModel" "clocks" "I", .methodLink RX6 136 yX6_isOf, .static yX6_isOf, .code yX6_isOf cX6_isOf 2 (some .boolean), .methodLink RX6 183 yX6_size, .static yX6_size, .code yX6_size cX6_size 3 (some .int)] ++ wsX60)
def wsX6_carry : List Cond := .code yX6_carry cX6_carry 4 (some .int) :: ([.fieldLink RX6 28 "ClockWakersModel" "stands" "[I", .methodLink RX6 154 yX6_isClock, .instanceMethod yX6_isClock, .selects RX6 yX6_isClock yX6_isClock, .initialized RX6, .code yX6_isClock cX6_isClock 2 (some .boolean), .fieldLink RX6 71 "ClockWakersModel" "clocks" "I", .methodLink RX6 151 yX6_isHouse, .instanceMethod yX6_isHouse, .selects RX6 yX6_isHouse yX6_isHouse, .code yX6_isHouse cX6_isHouse 2 (some .boolean), .fieldLink RX6 68 "ClockWakersModel" "houses" "I"] ++ wsX60)
def wsX6_does_r1 : List Cond := [Cond.fieldLink RX6 28 "ClockWakersModel" "stands" "[I", Cond.fieldLink RX6 114 "ClockWakersModel" "stuffed" "I", Cond.methodLink RX6 176 yX6_oneNight, Cond.instanceMethod yX6_oneNight, Cond.selects RX6 yX6_oneNight yX6_oneNight, Cond.initialized RX6, Cond.code yX6_oneNight cX6_oneNight 2 none, Cond.fieldLink RX6 71 "ClockWakersModel" "clocks" "I", Cond.methodLink RX6 170 yX6_strikes, Cond.instanceMethod yX6_strikes, Cond.selects RX6 yX6_strikes yX6_strikes, Cond.code yX6_strikes cX6_strikes 3 (some .int), Cond.fieldLink RX6 164 "ClockWakersModel" "unheard" "I", Cond.fieldLink RX6 167 "ClockWakersModel" "moves" "I", Cond.methodLink RX6 161 yX6_ownerFrom, Cond.instanceMethod yX6_ownerFrom, Cond.selects RX6 yX6_ownerFrom yX6_ownerFrom, Cond.code yX6_ownerFrom cX6_ownerFrom 6 (some .int), Cond.fieldLink RX6 68 "ClockWakersModel" "houses" "I", Cond.methodLink RX6 148 yX6_wakesFrom, Cond.instanceMethod yX6_wakesFrom, Cond.selects RX6 yX6_wakesFrom yX6_wakesFrom, Cond.code yX6_wakesFrom cX6_wakesFrom 5 (some .boolean), Cond.methodLink RX6 142 yX6_heardFrom]
def wsX6_does_r2 : List Cond := [Cond.instanceMethod yX6_heardFrom, Cond.selects RX6 yX6_heardFrom yX6_heardFrom, Cond.code yX6_heardFrom cX6_heardFrom 4 (some .int), Cond.fieldLink RX6 105 "ClockWakersModel" "wallThick" "I", Cond.methodLink RX6 139 yX6_soundOf, Cond.instanceMethod yX6_soundOf, Cond.selects RX6 yX6_soundOf yX6_soundOf, Cond.code yX6_soundOf cX6_soundOf 2 (some .int), Cond.fieldLink RX6 25 "ClockWakersModel" "loud" "[I", Cond.methodLink RX6 136 yX6_isOf, Cond.static yX6_isOf, Cond.code yX6_isOf cX6_isOf 2 (some .boolean), Cond.methodLink RX6 145 yX6_needsOf, Cond.instanceMethod yX6_needsOf, Cond.selects RX6 yX6_needsOf yX6_needsOf, Cond.code yX6_needsOf cX6_needsOf 2 (some .int), Cond.fieldLink RX6 19 "ClockWakersModel" "kind" "[I", Cond.fieldLink RX6 22 "ClockWakersModel" "depth" "[I", Cond.methodLink RX6 154 yX6_isClock, Cond.instanceMethod yX6_isClock, Cond.selects RX6 yX6_isClock yX6_isClock, Cond.code yX6_isClock cX6_isClock 2 (some .boolean)]
def wsX6_does : List Cond := .code yX6_does cX6_does 4 (some .boolean) :: ((wsX6_does_r1 ++ wsX6_does_r2) ++ wsX60)
def wsX6_goSeason_r1 : List Cond := [Cond.fieldLink RX6 167 "ClockWakersModel" "moves" "I", Cond.fieldLink RX6 164 "ClockWakersModel" "unheard" "I", Cond.fieldLink RX6 16 "ClockWakersModel" "cells" "[I", Cond.methodLink RX6 186 yX6_does, Cond.instanceMethod yX6_does, Cond.selects RX6 yX6_does yX6_does, Cond.initialized RX6, Cond.code yX6_does cX6_does 4 (some .boolean), Cond.fieldLink RX6 28 "ClockWakersModel" "stands" "[I", Cond.fieldLink RX6 114 "ClockWakersModel" "stuffed" "I", Cond.methodLink RX6 176 yX6_oneNight, Cond.instanceMethod yX6_oneNight, Cond.selects RX6 yX6_oneNight yX6_oneNight, Cond.code yX6_oneNight cX6_oneNight 2 none, Cond.fieldLink RX6 71 "ClockWakersModel" "clocks" "I", Cond.methodLink RX6 170 yX6_strikes, Cond.instanceMethod yX6_strikes, Cond.selects RX6 yX6_strikes yX6_strikes, Cond.code yX6_strikes cX6_strikes 3 (some .int), Cond.methodLink RX6 161 yX6_ownerFrom, Cond.instanceMethod yX6_ownerFrom, Cond.selects RX6 yX6_ownerFrom yX6_ownerFrom, Cond.code yX6_ownerFrom cX6_ownerFrom 6 (some .int), Cond.fieldLink RX6 68 "ClockWakersModel" "houses" "I"]
def wsX6_goSeason_r2 : List Cond := [Cond.methodLink RX6 148 yX6_wakesFrom, Cond.instanceMethod yX6_wakesFrom, Cond.selects RX6 yX6_wakesFrom yX6_wakesFrom, Cond.code yX6_wakesFrom cX6_wakesFrom 5 (some .boolean), Cond.methodLink RX6 142 yX6_heardFrom, Cond.instanceMethod yX6_heardFrom, Cond.selects RX6 yX6_heardFrom yX6_heardFrom, Cond.code yX6_heardFrom cX6_heardFrom 4 (some .int), Cond.fieldLink RX6 105 "ClockWakersModel" "wallThick" "I", Cond.methodLink RX6 139 yX6_soundOf, Cond.instanceMethod yX6_soundOf, Cond.selects RX6 yX6_soundOf yX6_soundOf, Cond.code yX6_soundOf cX6_soundOf 2 (some .int), Cond.fieldLink RX6 25 "ClockWakersModel" "loud" "[I", Cond.methodLink RX6 136 yX6_isOf, Cond.static yX6_isOf, Cond.code yX6_isOf cX6_isOf 2 (some .boolean), Cond.methodLink RX6 145 yX6_needsOf, Cond.instanceMethod yX6_needsOf, Cond.selects RX6 yX6_needsOf yX6_needsOf, Cond.code yX6_needsOf cX6_needsOf 2 (some .int), Cond.fieldLink RX6 19 "ClockWakersModel" "kind" "[I", Cond.fieldLink RX6 22 "ClockWakersModel" "depth" "[I", Cond.methodLink RX6 154 yX6_isClock]
def wsX6_goSeason_r3 : List Cond := [Cond.instanceMethod yX6_isClock, Cond.selects RX6 yX6_isClock yX6_isClock, Cond.code yX6_isClock cX6_isClock 2 (some .boolean)]
def wsX6_goSeason : List Cond := .code yX6_goSeason cX6_goSeason 4 (some .int) :: ((wsX6_goSeason_r1 ++ (wsX6_goSeason_r2 ++ wsX6_goSeason_r3)) ++ wsX60)
def wsX6_refusesPair : List Cond := .code yX6_refusesPair cX6_refusesPair 4 (some .int) :: ([.methodLink RX6 64 yX6_within, .static yX6_within, .initialized RX6, .code yX6_within cX6_within 3 (some .boolean), .methodLink RX6 151 yX6_isHouse, .instanceMethod yX6_isHouse, .selects RX6 yX6_isHouse yX6_isHouse, .code yX6_isHouse cX6_isHouse 2 (some .boolean), .fieldLink RX6 68 "ClockWakersModel" "houses" "I", .methodLink RX6 154 yX6_isClock, .instanceMethod yX6_isClock, .selects RX6 yX6_isClock yX6_isClock, .code yX6_isClock cX6_isClock 2 (some .boolean), .fieldLink RX6 71 "ClockWakersModel" "clocks" "I"] ++ wsX60)
def wsX6_tellSeason : List Cond := .code yX6_tellSeason cX6_tellSeason 4 (some .int) :: ([.fieldLink RX6 28 "ClockWakersModel" "stands" "[I", .fieldLink RX6 114 "ClockWakersModel" "stuffed" "I", .fieldLink RX6 167 "ClockWakersModel" "moves" "I", .fieldLink RX6 164 "ClockWakersModel" "unheard" "I", .fieldLink RX6 71 "ClockWakersModel" "clocks" "I", .methodLink RX6 154 yX6_isClock, .instanceMethod yX6_isClock, .selects RX6 yX6_isClock yX6_isClock, .initialized RX6, .code yX6_isClock cX6_isClock 2 (some .boolean)] ++ wsX60)
def wsX6_season_r1 : List Cond := [Cond.fieldLink RX6 58 "ClockWakersModel" "fault" "I", Cond.fieldLink RX6 68 "ClockWakersModel" "houses" "I", Cond.fieldLink RX6 16 "ClockWakersModel" "cells" "[I", Cond.fieldLink RX6 114 "ClockWakersModel" "stuffed" "I", Cond.methodLink RX6 81 yX6_isSheet, Cond.static yX6_isSheet, Cond.initialized RX6, Cond.code yX6_isSheet cX6_isSheet 1 (some .boolean), Cond.methodLink RX6 64 yX6_within, Cond.static yX6_within, Cond.code yX6_within cX6_within 3 (some .boolean), Cond.methodLink RX6 85 yX6_isSort, Cond.static yX6_isSort, Cond.code yX6_isSort cX6_isSort 1 (some .boolean), Cond.methodLink RX6 88 yX6_against, Cond.instanceMethod yX6_against, Cond.selects RX6 yX6_against yX6_against, Cond.code yX6_against cX6_against 5 (some .int), Cond.fieldLink RX6 9 "ClockWakersModel" "sorts" "[I", Cond.fieldLink RX6 13 "ClockWakersModel" "sheetLong" "[I", Cond.methodLink RX6 92 yX6_fails, Cond.instanceMethod yX6_fails, Cond.selects RX6 yX6_fails yX6_fails, Cond.code yX6_fails cX6_fails 2 (some .int)]
def wsX6_season_r2 : List Cond := [Cond.methodLink RX6 189 yX6_refusesPair, Cond.instanceMethod yX6_refusesPair, Cond.selects RX6 yX6_refusesPair yX6_refusesPair, Cond.code yX6_refusesPair cX6_refusesPair 4 (some .int), Cond.methodLink RX6 151 yX6_isHouse, Cond.instanceMethod yX6_isHouse, Cond.selects RX6 yX6_isHouse yX6_isHouse, Cond.code yX6_isHouse cX6_isHouse 2 (some .boolean), Cond.methodLink RX6 154 yX6_isClock, Cond.instanceMethod yX6_isClock, Cond.selects RX6 yX6_isClock yX6_isClock, Cond.code yX6_isClock cX6_isClock 2 (some .boolean), Cond.fieldLink RX6 71 "ClockWakersModel" "clocks" "I", Cond.methodLink RX6 173 yX6_keep, Cond.instanceMethod yX6_keep, Cond.selects RX6 yX6_keep yX6_keep, Cond.code yX6_keep cX6_keep 2 none, Cond.fieldLink RX6 37 "ClockWakersModel" "keptStands" "[I", Cond.fieldLink RX6 28 "ClockWakersModel" "stands" "[I", Cond.methodLink RX6 192 yX6_goSeason, Cond.instanceMethod yX6_goSeason, Cond.selects RX6 yX6_goSeason yX6_goSeason, Cond.code yX6_goSeason cX6_goSeason 4 (some .int), Cond.fieldLink RX6 167 "ClockWakersModel" "moves" "I"]
def wsX6_season_r3 : List Cond := [Cond.fieldLink RX6 164 "ClockWakersModel" "unheard" "I", Cond.methodLink RX6 186 yX6_does, Cond.instanceMethod yX6_does, Cond.selects RX6 yX6_does yX6_does, Cond.code yX6_does cX6_does 4 (some .boolean), Cond.methodLink RX6 176 yX6_oneNight, Cond.instanceMethod yX6_oneNight, Cond.selects RX6 yX6_oneNight yX6_oneNight, Cond.code yX6_oneNight cX6_oneNight 2 none, Cond.methodLink RX6 170 yX6_strikes, Cond.instanceMethod yX6_strikes, Cond.selects RX6 yX6_strikes yX6_strikes, Cond.code yX6_strikes cX6_strikes 3 (some .int), Cond.methodLink RX6 161 yX6_ownerFrom, Cond.instanceMethod yX6_ownerFrom, Cond.selects RX6 yX6_ownerFrom yX6_ownerFrom, Cond.code yX6_ownerFrom cX6_ownerFrom 6 (some .int), Cond.methodLink RX6 148 yX6_wakesFrom, Cond.instanceMethod yX6_wakesFrom, Cond.selects RX6 yX6_wakesFrom yX6_wakesFrom, Cond.code yX6_wakesFrom cX6_wakesFrom 5 (some .boolean), Cond.methodLink RX6 142 yX6_heardFrom, Cond.instanceMethod yX6_heardFrom, Cond.selects RX6 yX6_heardFrom yX6_heardFrom]
def wsX6_season_r4 : List Cond := [Cond.code yX6_heardFrom cX6_heardFrom 4 (some .int), Cond.fieldLink RX6 105 "ClockWakersModel" "wallThick" "I", Cond.methodLink RX6 139 yX6_soundOf, Cond.instanceMethod yX6_soundOf, Cond.selects RX6 yX6_soundOf yX6_soundOf, Cond.code yX6_soundOf cX6_soundOf 2 (some .int), Cond.fieldLink RX6 25 "ClockWakersModel" "loud" "[I", Cond.methodLink RX6 136 yX6_isOf, Cond.static yX6_isOf, Cond.code yX6_isOf cX6_isOf 2 (some .boolean), Cond.methodLink RX6 145 yX6_needsOf, Cond.instanceMethod yX6_needsOf, Cond.selects RX6 yX6_needsOf yX6_needsOf, Cond.code yX6_needsOf cX6_needsOf 2 (some .int), Cond.fieldLink RX6 19 "ClockWakersModel" "kind" "[I", Cond.fieldLink RX6 22 "ClockWakersModel" "depth" "[I", Cond.methodLink RX6 195 yX6_tellSeason, Cond.instanceMethod yX6_tellSeason, Cond.selects RX6 yX6_tellSeason yX6_tellSeason, Cond.code yX6_tellSeason cX6_tellSeason 4 (some .int), Cond.methodLink RX6 198 yX6_putBack, Cond.instanceMethod yX6_putBack, Cond.selects RX6 yX6_putBack yX6_putBack, Cond.code yX6_putBack cX6_putBack 2 none]
def wsX6_season : List Cond := .code yX6_season cX6_season 11 (some .int) :: ((wsX6_season_r1 ++ (wsX6_season_r2 ++ (wsX6_season_r3 ++ wsX6_season_r4))) ++ wsX60)
def wsX6_nextFrom_r1 : List Cond := [Cond.methodLink RX6 161 yX6_ownerFrom, Cond.instanceMethod yX6_ownerFrom, Cond.selects RX6 yX6_ownerFrom yX6_ownerFrom, Cond.initialized RX6, Cond.code yX6_ownerFrom cX6_ownerFrom 6 (some .int), Cond.fieldLink RX6 68 "ClockWakersModel" "houses" "I", Cond.methodLink RX6 148 yX6_wakesFrom, Cond.instanceMethod yX6_wakesFrom, Cond.selects RX6 yX6_wakesFrom yX6_wakesFrom, Cond.code yX6_wakesFrom cX6_wakesFrom 5 (some .boolean), Cond.methodLink RX6 142 yX6_heardFrom, Cond.instanceMethod yX6_heardFrom, Cond.selects RX6 yX6_heardFrom yX6_heardFrom, Cond.code yX6_heardFrom cX6_heardFrom 4 (some .int), Cond.fieldLink RX6 105 "ClockWakersModel" "wallThick" "I", Cond.methodLink RX6 139 yX6_soundOf, Cond.instanceMethod yX6_soundOf, Cond.selects RX6 yX6_soundOf yX6_soundOf, Cond.code yX6_soundOf cX6_soundOf 2 (some .int), Cond.fieldLink RX6 114 "ClockWakersModel" "stuffed" "I", Cond.fieldLink RX6 25 "ClockWakersModel" "loud" "[I", Cond.methodLink RX6 136 yX6_isOf, Cond.static yX6_isOf, Cond.code yX6_isOf cX6_isOf 2 (some .boolean)]
def wsX6_nextFrom_r2 : List Cond := [Cond.methodLink RX6 145 yX6_needsOf, Cond.instanceMethod yX6_needsOf, Cond.selects RX6 yX6_needsOf yX6_needsOf, Cond.code yX6_needsOf cX6_needsOf 2 (some .int), Cond.fieldLink RX6 19 "ClockWakersModel" "kind" "[I", Cond.fieldLink RX6 22 "ClockWakersModel" "depth" "[I"]
def wsX6_nextFrom : List Cond := .code yX6_nextFrom cX6_nextFrom 4 (some .int) :: ((wsX6_nextFrom_r1 ++ wsX6_nextFrom_r2) ++ wsX60)
def wsX6_round_r1 : List Cond := [Cond.fieldLink RX6 28 "ClockWakersModel" "stands" "[I", Cond.fieldLink RX6 68 "ClockWakersModel" "houses" "I", Cond.methodLink RX6 154 yX6_isClock, Cond.instanceMethod yX6_isClock, Cond.selects RX6 yX6_isClock yX6_isClock, Cond.initialized RX6, Cond.code yX6_isClock cX6_isClock 2 (some .boolean), Cond.fieldLink RX6 71 "ClockWakersModel" "clocks" "I", Cond.methodLink RX6 64 yX6_within, Cond.static yX6_within, Cond.code yX6_within cX6_within 3 (some .boolean), Cond.methodLink RX6 201 yX6_nextFrom, Cond.instanceMethod yX6_nextFrom, Cond.selects RX6 yX6_nextFrom yX6_nextFrom, Cond.code yX6_nextFrom cX6_nextFrom 4 (some .int), Cond.methodLink RX6 161 yX6_ownerFrom, Cond.instanceMethod yX6_ownerFrom, Cond.selects RX6 yX6_ownerFrom yX6_ownerFrom, Cond.code yX6_ownerFrom cX6_ownerFrom 6 (some .int), Cond.methodLink RX6 148 yX6_wakesFrom, Cond.instanceMethod yX6_wakesFrom, Cond.selects RX6 yX6_wakesFrom yX6_wakesFrom, Cond.code yX6_wakesFrom cX6_wakesFrom 5 (some .boolean), Cond.methodLink RX6 142 yX6_heardFrom]
def wsX6_round_r2 : List Cond := [Cond.instanceMethod yX6_heardFrom, Cond.selects RX6 yX6_heardFrom yX6_heardFrom, Cond.code yX6_heardFrom cX6_heardFrom 4 (some .int), Cond.fieldLink RX6 105 "ClockWakersModel" "wallThick" "I", Cond.methodLink RX6 139 yX6_soundOf, Cond.instanceMethod yX6_soundOf, Cond.selects RX6 yX6_soundOf yX6_soundOf, Cond.code yX6_soundOf cX6_soundOf 2 (some .int), Cond.fieldLink RX6 114 "ClockWakersModel" "stuffed" "I", Cond.fieldLink RX6 25 "ClockWakersModel" "loud" "[I", Cond.methodLink RX6 136 yX6_isOf, Cond.static yX6_isOf, Cond.code yX6_isOf cX6_isOf 2 (some .boolean), Cond.methodLink RX6 145 yX6_needsOf, Cond.instanceMethod yX6_needsOf, Cond.selects RX6 yX6_needsOf yX6_needsOf, Cond.code yX6_needsOf cX6_needsOf 2 (some .int), Cond.fieldLink RX6 19 "ClockWakersModel" "kind" "[I", Cond.fieldLink RX6 22 "ClockWakersModel" "depth" "[I"]
def wsX6_round : List Cond := .code yX6_round cX6_round 8 (some .int) :: ((wsX6_round_r1 ++ wsX6_round_r2) ++ wsX60)
def wsX6_from_r1 : List Cond := [Cond.fieldLink RX6 68 "ClockWakersModel" "houses" "I", Cond.methodLink RX6 151 yX6_isHouse, Cond.instanceMethod yX6_isHouse, Cond.selects RX6 yX6_isHouse yX6_isHouse, Cond.initialized RX6, Cond.code yX6_isHouse cX6_isHouse 2 (some .boolean), Cond.methodLink RX6 154 yX6_isClock, Cond.instanceMethod yX6_isClock, Cond.selects RX6 yX6_isClock yX6_isClock, Cond.code yX6_isClock cX6_isClock 2 (some .boolean), Cond.fieldLink RX6 71 "ClockWakersModel" "clocks" "I", Cond.methodLink RX6 161 yX6_ownerFrom, Cond.instanceMethod yX6_ownerFrom, Cond.selects RX6 yX6_ownerFrom yX6_ownerFrom, Cond.code yX6_ownerFrom cX6_ownerFrom 6 (some .int), Cond.methodLink RX6 148 yX6_wakesFrom, Cond.instanceMethod yX6_wakesFrom, Cond.selects RX6 yX6_wakesFrom yX6_wakesFrom, Cond.code yX6_wakesFrom cX6_wakesFrom 5 (some .boolean), Cond.methodLink RX6 142 yX6_heardFrom, Cond.instanceMethod yX6_heardFrom, Cond.selects RX6 yX6_heardFrom yX6_heardFrom, Cond.code yX6_heardFrom cX6_heardFrom 4 (some .int), Cond.fieldLink RX6 105 "ClockWakersModel" "wallThick" "I"]
def wsX6_from_r2 : List Cond := [Cond.methodLink RX6 139 yX6_soundOf, Cond.instanceMethod yX6_soundOf, Cond.selects RX6 yX6_soundOf yX6_soundOf, Cond.code yX6_soundOf cX6_soundOf 2 (some .int), Cond.fieldLink RX6 114 "ClockWakersModel" "stuffed" "I", Cond.fieldLink RX6 25 "ClockWakersModel" "loud" "[I", Cond.methodLink RX6 136 yX6_isOf, Cond.static yX6_isOf, Cond.code yX6_isOf cX6_isOf 2 (some .boolean), Cond.methodLink RX6 145 yX6_needsOf, Cond.instanceMethod yX6_needsOf, Cond.selects RX6 yX6_needsOf yX6_needsOf, Cond.code yX6_needsOf cX6_needsOf 2 (some .int), Cond.fieldLink RX6 19 "ClockWakersModel" "kind" "[I", Cond.fieldLink RX6 22 "ClockWakersModel" "depth" "[I"]
def wsX6_from : List Cond := .code yX6_from cX6_from 5 (some .int) :: ((wsX6_from_r1 ++ wsX6_from_r2) ++ wsX60)
def wsX6_isSettled_r1 : List Cond := [Cond.fieldLink RX6 71 "ClockWakersModel" "clocks" "I", Cond.fieldLink RX6 40 "ClockWakersModel" "wasAt" "[I", Cond.fieldLink RX6 28 "ClockWakersModel" "stands" "[I", Cond.methodLink RX6 176 yX6_oneNight, Cond.instanceMethod yX6_oneNight, Cond.selects RX6 yX6_oneNight yX6_oneNight, Cond.initialized RX6, Cond.code yX6_oneNight cX6_oneNight 2 none, Cond.methodLink RX6 170 yX6_strikes, Cond.instanceMethod yX6_strikes, Cond.selects RX6 yX6_strikes yX6_strikes, Cond.code yX6_strikes cX6_strikes 3 (some .int), Cond.fieldLink RX6 164 "ClockWakersModel" "unheard" "I", Cond.fieldLink RX6 167 "ClockWakersModel" "moves" "I", Cond.methodLink RX6 161 yX6_ownerFrom, Cond.instanceMethod yX6_ownerFrom, Cond.selects RX6 yX6_ownerFrom yX6_ownerFrom, Cond.code yX6_ownerFrom cX6_ownerFrom 6 (some .int), Cond.fieldLink RX6 68 "ClockWakersModel" "houses" "I", Cond.methodLink RX6 148 yX6_wakesFrom, Cond.instanceMethod yX6_wakesFrom, Cond.selects RX6 yX6_wakesFrom yX6_wakesFrom, Cond.code yX6_wakesFrom cX6_wakesFrom 5 (some .boolean), Cond.methodLink RX6 142 yX6_heardFrom]
def wsX6_isSettled_r2 : List Cond := [Cond.instanceMethod yX6_heardFrom, Cond.selects RX6 yX6_heardFrom yX6_heardFrom, Cond.code yX6_heardFrom cX6_heardFrom 4 (some .int), Cond.fieldLink RX6 105 "ClockWakersModel" "wallThick" "I", Cond.methodLink RX6 139 yX6_soundOf, Cond.instanceMethod yX6_soundOf, Cond.selects RX6 yX6_soundOf yX6_soundOf, Cond.code yX6_soundOf cX6_soundOf 2 (some .int), Cond.fieldLink RX6 114 "ClockWakersModel" "stuffed" "I", Cond.fieldLink RX6 25 "ClockWakersModel" "loud" "[I", Cond.methodLink RX6 136 yX6_isOf, Cond.static yX6_isOf, Cond.code yX6_isOf cX6_isOf 2 (some .boolean), Cond.methodLink RX6 145 yX6_needsOf, Cond.instanceMethod yX6_needsOf, Cond.selects RX6 yX6_needsOf yX6_needsOf, Cond.code yX6_needsOf cX6_needsOf 2 (some .int), Cond.fieldLink RX6 19 "ClockWakersModel" "kind" "[I", Cond.fieldLink RX6 22 "ClockWakersModel" "depth" "[I"]
def wsX6_isSettled : List Cond := .code yX6_isSettled cX6_isSettled 2 (some .boolean) :: ((wsX6_isSettled_r1 ++ wsX6_isSettled_r2) ++ wsX60)
def wsX6_settle_r1 : List Cond := [Cond.fieldLink RX6 68 "ClockWakersModel" "houses" "I", Cond.methodLink RX6 173 yX6_keep, Cond.instanceMethod yX6_keep, Cond.selects RX6 yX6_keep yX6_keep, Cond.initialized RX6, Cond.code yX6_keep cX6_keep 2 none, Cond.fieldLink RX6 71 "ClockWakersModel" "clocks" "I", Cond.fieldLink RX6 37 "ClockWakersModel" "keptStands" "[I", Cond.fieldLink RX6 28 "ClockWakersModel" "stands" "[I", Cond.methodLink RX6 204 yX6_isSettled, Cond.instanceMethod yX6_isSettled, Cond.selects RX6 yX6_isSettled yX6_isSettled, Cond.code yX6_isSettled cX6_isSettled 2 (some .boolean), Cond.fieldLink RX6 40 "ClockWakersModel" "wasAt" "[I", Cond.methodLink RX6 176 yX6_oneNight, Cond.instanceMethod yX6_oneNight, Cond.selects RX6 yX6_oneNight yX6_oneNight, Cond.code yX6_oneNight cX6_oneNight 2 none, Cond.methodLink RX6 170 yX6_strikes, Cond.instanceMethod yX6_strikes, Cond.selects RX6 yX6_strikes yX6_strikes, Cond.code yX6_strikes cX6_strikes 3 (some .int), Cond.fieldLink RX6 164 "ClockWakersModel" "unheard" "I", Cond.fieldLink RX6 167 "ClockWakersModel" "moves" "I"]
def wsX6_settle_r2 : List Cond := [Cond.methodLink RX6 161 yX6_ownerFrom, Cond.instanceMethod yX6_ownerFrom, Cond.selects RX6 yX6_ownerFrom yX6_ownerFrom, Cond.code yX6_ownerFrom cX6_ownerFrom 6 (some .int), Cond.methodLink RX6 148 yX6_wakesFrom, Cond.instanceMethod yX6_wakesFrom, Cond.selects RX6 yX6_wakesFrom yX6_wakesFrom, Cond.code yX6_wakesFrom cX6_wakesFrom 5 (some .boolean), Cond.methodLink RX6 142 yX6_heardFrom, Cond.instanceMethod yX6_heardFrom, Cond.selects RX6 yX6_heardFrom yX6_heardFrom, Cond.code yX6_heardFrom cX6_heardFrom 4 (some .int), Cond.fieldLink RX6 105 "ClockWakersModel" "wallThick" "I", Cond.methodLink RX6 139 yX6_soundOf, Cond.instanceMethod yX6_soundOf, Cond.selects RX6 yX6_soundOf yX6_soundOf, Cond.code yX6_soundOf cX6_soundOf 2 (some .int), Cond.fieldLink RX6 114 "ClockWakersModel" "stuffed" "I", Cond.fieldLink RX6 25 "ClockWakersModel" "loud" "[I", Cond.methodLink RX6 136 yX6_isOf, Cond.static yX6_isOf, Cond.code yX6_isOf cX6_isOf 2 (some .boolean), Cond.methodLink RX6 145 yX6_needsOf, Cond.instanceMethod yX6_needsOf]
def wsX6_settle_r3 : List Cond := [Cond.selects RX6 yX6_needsOf yX6_needsOf, Cond.code yX6_needsOf cX6_needsOf 2 (some .int), Cond.fieldLink RX6 19 "ClockWakersModel" "kind" "[I", Cond.fieldLink RX6 22 "ClockWakersModel" "depth" "[I", Cond.methodLink RX6 198 yX6_putBack, Cond.instanceMethod yX6_putBack, Cond.selects RX6 yX6_putBack yX6_putBack, Cond.code yX6_putBack cX6_putBack 2 none]
def wsX6_settle : List Cond := .code yX6_settle cX6_settle 3 (some .int) :: ((wsX6_settle_r1 ++ (wsX6_settle_r2 ++ wsX6_settle_r3)) ++ wsX60)
def wsX6_wakersBy_r1 : List Cond := [Cond.fieldLink RX6 71 "ClockWakersModel" "clocks" "I", Cond.fieldLink RX6 43 "ClockWakersModel" "row" "[I", Cond.fieldLink RX6 68 "ClockWakersModel" "houses" "I", Cond.methodLink RX6 157 yX6_wakersOf, Cond.instanceMethod yX6_wakersOf, Cond.selects RX6 yX6_wakersOf yX6_wakersOf, Cond.initialized RX6, Cond.code yX6_wakersOf cX6_wakersOf 5 (some .int), Cond.methodLink RX6 148 yX6_wakesFrom, Cond.instanceMethod yX6_wakesFrom, Cond.selects RX6 yX6_wakesFrom yX6_wakesFrom, Cond.code yX6_wakesFrom cX6_wakesFrom 5 (some .boolean), Cond.methodLink RX6 142 yX6_heardFrom, Cond.instanceMethod yX6_heardFrom, Cond.selects RX6 yX6_heardFrom yX6_heardFrom, Cond.code yX6_heardFrom cX6_heardFrom 4 (some .int), Cond.fieldLink RX6 105 "ClockWakersModel" "wallThick" "I", Cond.methodLink RX6 139 yX6_soundOf, Cond.instanceMethod yX6_soundOf, Cond.selects RX6 yX6_soundOf yX6_soundOf, Cond.code yX6_soundOf cX6_soundOf 2 (some .int), Cond.fieldLink RX6 114 "ClockWakersModel" "stuffed" "I", Cond.fieldLink RX6 25 "ClockWakersModel" "loud" "[I", Cond.methodLink RX6 136 yX6_isOf]
def wsX6_wakersBy_r2 : List Cond := [Cond.static yX6_isOf, Cond.code yX6_isOf cX6_isOf 2 (some .boolean), Cond.methodLink RX6 145 yX6_needsOf, Cond.instanceMethod yX6_needsOf, Cond.selects RX6 yX6_needsOf yX6_needsOf, Cond.code yX6_needsOf cX6_needsOf 2 (some .int), Cond.fieldLink RX6 19 "ClockWakersModel" "kind" "[I", Cond.fieldLink RX6 22 "ClockWakersModel" "depth" "[I"]
def wsX6_wakersBy : List Cond := .code yX6_wakersBy cX6_wakersBy 5 (some .int) :: ((wsX6_wakersBy_r1 ++ wsX6_wakersBy_r2) ++ wsX60)
def wsX6_still_r1 : List Cond := [Cond.fieldLink RX6 68 "ClockWakersModel" "houses" "I", Cond.fieldLink RX6 71 "ClockWakersModel" "clocks" "I", Cond.fieldLink RX6 43 "ClockWakersModel" "row" "[I", Cond.methodLink RX6 64 yX6_within, Cond.static yX6_within, Cond.initialized RX6, Cond.code yX6_within cX6_within 3 (some .boolean), Cond.methodLink RX6 208 yX6_wakersBy, Cond.instanceMethod yX6_wakersBy, Cond.selects RX6 yX6_wakersBy yX6_wakersBy, Cond.code yX6_wakersBy cX6_wakersBy 5 (some .int), Cond.methodLink RX6 157 yX6_wakersOf, Cond.instanceMethod yX6_wakersOf, Cond.selects RX6 yX6_wakersOf yX6_wakersOf, Cond.code yX6_wakersOf cX6_wakersOf 5 (some .int), Cond.methodLink RX6 148 yX6_wakesFrom, Cond.instanceMethod yX6_wakesFrom, Cond.selects RX6 yX6_wakesFrom yX6_wakesFrom, Cond.code yX6_wakesFrom cX6_wakesFrom 5 (some .boolean), Cond.methodLink RX6 142 yX6_heardFrom, Cond.instanceMethod yX6_heardFrom, Cond.selects RX6 yX6_heardFrom yX6_heardFrom, Cond.code yX6_heardFrom cX6_heardFrom 4 (some .int), Cond.fieldLink RX6 105 "ClockWakersModel" "wallThick" "I"]
def wsX6_still_r2 : List Cond := [Cond.methodLink RX6 139 yX6_soundOf, Cond.instanceMethod yX6_soundOf, Cond.selects RX6 yX6_soundOf yX6_soundOf, Cond.code yX6_soundOf cX6_soundOf 2 (some .int), Cond.fieldLink RX6 114 "ClockWakersModel" "stuffed" "I", Cond.fieldLink RX6 25 "ClockWakersModel" "loud" "[I", Cond.methodLink RX6 136 yX6_isOf, Cond.static yX6_isOf, Cond.code yX6_isOf cX6_isOf 2 (some .boolean), Cond.methodLink RX6 145 yX6_needsOf, Cond.instanceMethod yX6_needsOf, Cond.selects RX6 yX6_needsOf yX6_needsOf, Cond.code yX6_needsOf cX6_needsOf 2 (some .int), Cond.fieldLink RX6 19 "ClockWakersModel" "kind" "[I", Cond.fieldLink RX6 22 "ClockWakersModel" "depth" "[I", Cond.methodLink RX6 183 yX6_size, Cond.static yX6_size, Cond.code yX6_size cX6_size 3 (some .int), Cond.methodLink RX6 154 yX6_isClock, Cond.instanceMethod yX6_isClock, Cond.selects RX6 yX6_isClock yX6_isClock, Cond.code yX6_isClock cX6_isClock 2 (some .boolean)]
def wsX6_still : List Cond := .code yX6_still cX6_still 7 (some .int) :: ((wsX6_still_r1 ++ wsX6_still_r2) ++ wsX60)
def wsX6_hush_r1 : List Cond := [Cond.fieldLink RX6 114 "ClockWakersModel" "stuffed" "I", Cond.fieldLink RX6 71 "ClockWakersModel" "clocks" "I", Cond.fieldLink RX6 28 "ClockWakersModel" "stands" "[I", Cond.methodLink RX6 151 yX6_isHouse, Cond.instanceMethod yX6_isHouse, Cond.selects RX6 yX6_isHouse yX6_isHouse, Cond.initialized RX6, Cond.code yX6_isHouse cX6_isHouse 2 (some .boolean), Cond.fieldLink RX6 68 "ClockWakersModel" "houses" "I", Cond.methodLink RX6 148 yX6_wakesFrom, Cond.instanceMethod yX6_wakesFrom, Cond.selects RX6 yX6_wakesFrom yX6_wakesFrom, Cond.code yX6_wakesFrom cX6_wakesFrom 5 (some .boolean), Cond.methodLink RX6 142 yX6_heardFrom, Cond.instanceMethod yX6_heardFrom, Cond.selects RX6 yX6_heardFrom yX6_heardFrom, Cond.code yX6_heardFrom cX6_heardFrom 4 (some .int), Cond.fieldLink RX6 105 "ClockWakersModel" "wallThick" "I", Cond.methodLink RX6 139 yX6_soundOf, Cond.instanceMethod yX6_soundOf, Cond.selects RX6 yX6_soundOf yX6_soundOf, Cond.code yX6_soundOf cX6_soundOf 2 (some .int), Cond.fieldLink RX6 25 "ClockWakersModel" "loud" "[I", Cond.methodLink RX6 136 yX6_isOf]
def wsX6_hush_r2 : List Cond := [Cond.static yX6_isOf, Cond.code yX6_isOf cX6_isOf 2 (some .boolean), Cond.methodLink RX6 145 yX6_needsOf, Cond.instanceMethod yX6_needsOf, Cond.selects RX6 yX6_needsOf yX6_needsOf, Cond.code yX6_needsOf cX6_needsOf 2 (some .int), Cond.fieldLink RX6 19 "ClockWakersModel" "kind" "[I", Cond.fieldLink RX6 22 "ClockWakersModel" "depth" "[I"]
def wsX6_hush : List Cond := .code yX6_hush cX6_hush 6 (some .int) :: ((wsX6_hush_r1 ++ wsX6_hush_r2) ++ wsX60)
def wsX6_reading : List Cond := .code yX6_reading cX6_reading 5 (some .int) :: ([.fieldLink RX6 120 "ClockWakersModel" "readings" "I", .fieldLink RX6 46 "ClockWakersModel" "readWhich" "[I", .fieldLink RX6 49 "ClockWakersModel" "readAt" "[I", .fieldLink RX6 52 "ClockWakersModel" "readWho" "[I", .fieldLink RX6 55 "ClockWakersModel" "readWoke" "[I", .methodLink RX6 154 yX6_isClock, .instanceMethod yX6_isClock, .selects RX6 yX6_isClock yX6_isClock, .initialized RX6, .code yX6_isClock cX6_isClock 2 (some .boolean), .fieldLink RX6 71 "ClockWakersModel" "clocks" "I", .methodLink RX6 151 yX6_isHouse, .instanceMethod yX6_isHouse, .selects RX6 yX6_isHouse yX6_isHouse, .code yX6_isHouse cX6_isHouse 2 (some .boolean), .fieldLink RX6 68 "ClockWakersModel" "houses" "I", .methodLink RX6 64 yX6_within, .static yX6_within, .code yX6_within cX6_within 3 (some .boolean)] ++ wsX60)
def wsX6_back : List Cond := .code yX6_back cX6_back 2 (some .int) :: ([.fieldLink RX6 120 "ClockWakersModel" "readings" "I", .methodLink RX6 64 yX6_within, .static yX6_within, .initialized RX6, .code yX6_within cX6_within 3 (some .boolean)] ++ wsX60)
def wsX6_areSo_r1 : List Cond := [Cond.fieldLink RX6 120 "ClockWakersModel" "readings" "I", Cond.fieldLink RX6 52 "ClockWakersModel" "readWho" "[I", Cond.fieldLink RX6 46 "ClockWakersModel" "readWhich" "[I", Cond.fieldLink RX6 49 "ClockWakersModel" "readAt" "[I", Cond.fieldLink RX6 55 "ClockWakersModel" "readWoke" "[I", Cond.methodLink RX6 148 yX6_wakesFrom, Cond.instanceMethod yX6_wakesFrom, Cond.selects RX6 yX6_wakesFrom yX6_wakesFrom, Cond.initialized RX6, Cond.code yX6_wakesFrom cX6_wakesFrom 5 (some .boolean), Cond.methodLink RX6 142 yX6_heardFrom, Cond.instanceMethod yX6_heardFrom, Cond.selects RX6 yX6_heardFrom yX6_heardFrom, Cond.code yX6_heardFrom cX6_heardFrom 4 (some .int), Cond.fieldLink RX6 105 "ClockWakersModel" "wallThick" "I", Cond.methodLink RX6 139 yX6_soundOf, Cond.instanceMethod yX6_soundOf, Cond.selects RX6 yX6_soundOf yX6_soundOf, Cond.code yX6_soundOf cX6_soundOf 2 (some .int), Cond.fieldLink RX6 114 "ClockWakersModel" "stuffed" "I", Cond.fieldLink RX6 25 "ClockWakersModel" "loud" "[I", Cond.methodLink RX6 136 yX6_isOf, Cond.static yX6_isOf, Cond.code yX6_isOf cX6_isOf 2 (some .boolean)]
def wsX6_areSo_r2 : List Cond := [Cond.methodLink RX6 145 yX6_needsOf, Cond.instanceMethod yX6_needsOf, Cond.selects RX6 yX6_needsOf yX6_needsOf, Cond.code yX6_needsOf cX6_needsOf 2 (some .int), Cond.fieldLink RX6 19 "ClockWakersModel" "kind" "[I", Cond.fieldLink RX6 22 "ClockWakersModel" "depth" "[I"]
def wsX6_areSo : List Cond := .code yX6_areSo cX6_areSo 3 (some .boolean) :: ((wsX6_areSo_r1 ++ wsX6_areSo_r2) ++ wsX60)
def wsX6_depths_r1 : List Cond := [Cond.fieldLink RX6 22 "ClockWakersModel" "depth" "[I", Cond.methodLink RX6 151 yX6_isHouse, Cond.instanceMethod yX6_isHouse, Cond.selects RX6 yX6_isHouse yX6_isHouse, Cond.initialized RX6, Cond.code yX6_isHouse cX6_isHouse 2 (some .boolean), Cond.fieldLink RX6 68 "ClockWakersModel" "houses" "I", Cond.methodLink RX6 211 yX6_areSo, Cond.instanceMethod yX6_areSo, Cond.selects RX6 yX6_areSo yX6_areSo, Cond.code yX6_areSo cX6_areSo 3 (some .boolean), Cond.fieldLink RX6 120 "ClockWakersModel" "readings" "I", Cond.fieldLink RX6 52 "ClockWakersModel" "readWho" "[I", Cond.fieldLink RX6 46 "ClockWakersModel" "readWhich" "[I", Cond.fieldLink RX6 49 "ClockWakersModel" "readAt" "[I", Cond.fieldLink RX6 55 "ClockWakersModel" "readWoke" "[I", Cond.methodLink RX6 148 yX6_wakesFrom, Cond.instanceMethod yX6_wakesFrom, Cond.selects RX6 yX6_wakesFrom yX6_wakesFrom, Cond.code yX6_wakesFrom cX6_wakesFrom 5 (some .boolean), Cond.methodLink RX6 142 yX6_heardFrom, Cond.instanceMethod yX6_heardFrom, Cond.selects RX6 yX6_heardFrom yX6_heardFrom, Cond.code yX6_heardFrom cX6_heardFrom 4 (some .int)]
def wsX6_depths_r2 : List Cond := [Cond.fieldLink RX6 105 "ClockWakersModel" "wallThick" "I", Cond.methodLink RX6 139 yX6_soundOf, Cond.instanceMethod yX6_soundOf, Cond.selects RX6 yX6_soundOf yX6_soundOf, Cond.code yX6_soundOf cX6_soundOf 2 (some .int), Cond.fieldLink RX6 114 "ClockWakersModel" "stuffed" "I", Cond.fieldLink RX6 25 "ClockWakersModel" "loud" "[I", Cond.methodLink RX6 136 yX6_isOf, Cond.static yX6_isOf, Cond.code yX6_isOf cX6_isOf 2 (some .boolean), Cond.methodLink RX6 145 yX6_needsOf, Cond.instanceMethod yX6_needsOf, Cond.selects RX6 yX6_needsOf yX6_needsOf, Cond.code yX6_needsOf cX6_needsOf 2 (some .int), Cond.fieldLink RX6 19 "ClockWakersModel" "kind" "[I"]
def wsX6_depths : List Cond := .code yX6_depths cX6_depths 5 (some .int) :: ((wsX6_depths_r1 ++ wsX6_depths_r2) ++ wsX60)
def wsX6_kinds_r1 : List Cond := [Cond.fieldLink RX6 19 "ClockWakersModel" "kind" "[I", Cond.methodLink RX6 151 yX6_isHouse, Cond.instanceMethod yX6_isHouse, Cond.selects RX6 yX6_isHouse yX6_isHouse, Cond.initialized RX6, Cond.code yX6_isHouse cX6_isHouse 2 (some .boolean), Cond.fieldLink RX6 68 "ClockWakersModel" "houses" "I", Cond.methodLink RX6 211 yX6_areSo, Cond.instanceMethod yX6_areSo, Cond.selects RX6 yX6_areSo yX6_areSo, Cond.code yX6_areSo cX6_areSo 3 (some .boolean), Cond.fieldLink RX6 120 "ClockWakersModel" "readings" "I", Cond.fieldLink RX6 52 "ClockWakersModel" "readWho" "[I", Cond.fieldLink RX6 46 "ClockWakersModel" "readWhich" "[I", Cond.fieldLink RX6 49 "ClockWakersModel" "readAt" "[I", Cond.fieldLink RX6 55 "ClockWakersModel" "readWoke" "[I", Cond.methodLink RX6 148 yX6_wakesFrom, Cond.instanceMethod yX6_wakesFrom, Cond.selects RX6 yX6_wakesFrom yX6_wakesFrom, Cond.code yX6_wakesFrom cX6_wakesFrom 5 (some .boolean), Cond.methodLink RX6 142 yX6_heardFrom, Cond.instanceMethod yX6_heardFrom, Cond.selects RX6 yX6_heardFrom yX6_heardFrom, Cond.code yX6_heardFrom cX6_heardFrom 4 (some .int)]
def wsX6_kinds_r2 : List Cond := [Cond.fieldLink RX6 105 "ClockWakersModel" "wallThick" "I", Cond.methodLink RX6 139 yX6_soundOf, Cond.instanceMethod yX6_soundOf, Cond.selects RX6 yX6_soundOf yX6_soundOf, Cond.code yX6_soundOf cX6_soundOf 2 (some .int), Cond.fieldLink RX6 114 "ClockWakersModel" "stuffed" "I", Cond.fieldLink RX6 25 "ClockWakersModel" "loud" "[I", Cond.methodLink RX6 136 yX6_isOf, Cond.static yX6_isOf, Cond.code yX6_isOf cX6_isOf 2 (some .boolean), Cond.methodLink RX6 145 yX6_needsOf, Cond.instanceMethod yX6_needsOf, Cond.selects RX6 yX6_needsOf yX6_needsOf, Cond.code yX6_needsOf cX6_needsOf 2 (some .int), Cond.fieldLink RX6 22 "ClockWakersModel" "depth" "[I"]
def wsX6_kinds : List Cond := .code yX6_kinds cX6_kinds 5 (some .int) :: ((wsX6_kinds_r1 ++ wsX6_kinds_r2) ++ wsX60)
def wsX6_louds_r1 : List Cond := [Cond.fieldLink RX6 25 "ClockWakersModel" "loud" "[I", Cond.methodLink RX6 154 yX6_isClock, Cond.instanceMethod yX6_isClock, Cond.selects RX6 yX6_isClock yX6_isClock, Cond.initialized RX6, Cond.code yX6_isClock cX6_isClock 2 (some .boolean), Cond.fieldLink RX6 71 "ClockWakersModel" "clocks" "I", Cond.methodLink RX6 211 yX6_areSo, Cond.instanceMethod yX6_areSo, Cond.selects RX6 yX6_areSo yX6_areSo, Cond.code yX6_areSo cX6_areSo 3 (some .boolean), Cond.fieldLink RX6 120 "ClockWakersModel" "readings" "I", Cond.fieldLink RX6 52 "ClockWakersModel" "readWho" "[I", Cond.fieldLink RX6 46 "ClockWakersModel" "readWhich" "[I", Cond.fieldLink RX6 49 "ClockWakersModel" "readAt" "[I", Cond.fieldLink RX6 55 "ClockWakersModel" "readWoke" "[I", Cond.methodLink RX6 148 yX6_wakesFrom, Cond.instanceMethod yX6_wakesFrom, Cond.selects RX6 yX6_wakesFrom yX6_wakesFrom, Cond.code yX6_wakesFrom cX6_wakesFrom 5 (some .boolean), Cond.methodLink RX6 142 yX6_heardFrom, Cond.instanceMethod yX6_heardFrom, Cond.selects RX6 yX6_heardFrom yX6_heardFrom, Cond.code yX6_heardFrom cX6_heardFrom 4 (some .int)]
def wsX6_louds_r2 : List Cond := [Cond.fieldLink RX6 105 "ClockWakersModel" "wallThick" "I", Cond.methodLink RX6 139 yX6_soundOf, Cond.instanceMethod yX6_soundOf, Cond.selects RX6 yX6_soundOf yX6_soundOf, Cond.code yX6_soundOf cX6_soundOf 2 (some .int), Cond.fieldLink RX6 114 "ClockWakersModel" "stuffed" "I", Cond.methodLink RX6 136 yX6_isOf, Cond.static yX6_isOf, Cond.code yX6_isOf cX6_isOf 2 (some .boolean), Cond.methodLink RX6 145 yX6_needsOf, Cond.instanceMethod yX6_needsOf, Cond.selects RX6 yX6_needsOf yX6_needsOf, Cond.code yX6_needsOf cX6_needsOf 2 (some .int), Cond.fieldLink RX6 19 "ClockWakersModel" "kind" "[I", Cond.fieldLink RX6 22 "ClockWakersModel" "depth" "[I"]
def wsX6_louds : List Cond := .code yX6_louds cX6_louds 5 (some .int) :: ((wsX6_louds_r1 ++ wsX6_louds_r2) ++ wsX60)
def wsX6_walls_r1 : List Cond := [Cond.fieldLink RX6 68 "ClockWakersModel" "houses" "I", Cond.fieldLink RX6 105 "ClockWakersModel" "wallThick" "I", Cond.methodLink RX6 211 yX6_areSo, Cond.instanceMethod yX6_areSo, Cond.selects RX6 yX6_areSo yX6_areSo, Cond.initialized RX6, Cond.code yX6_areSo cX6_areSo 3 (some .boolean), Cond.fieldLink RX6 120 "ClockWakersModel" "readings" "I", Cond.fieldLink RX6 52 "ClockWakersModel" "readWho" "[I", Cond.fieldLink RX6 46 "ClockWakersModel" "readWhich" "[I", Cond.fieldLink RX6 49 "ClockWakersModel" "readAt" "[I", Cond.fieldLink RX6 55 "ClockWakersModel" "readWoke" "[I", Cond.methodLink RX6 148 yX6_wakesFrom, Cond.instanceMethod yX6_wakesFrom, Cond.selects RX6 yX6_wakesFrom yX6_wakesFrom, Cond.code yX6_wakesFrom cX6_wakesFrom 5 (some .boolean), Cond.methodLink RX6 142 yX6_heardFrom, Cond.instanceMethod yX6_heardFrom, Cond.selects RX6 yX6_heardFrom yX6_heardFrom, Cond.code yX6_heardFrom cX6_heardFrom 4 (some .int), Cond.methodLink RX6 139 yX6_soundOf, Cond.instanceMethod yX6_soundOf, Cond.selects RX6 yX6_soundOf yX6_soundOf, Cond.code yX6_soundOf cX6_soundOf 2 (some .int)]
def wsX6_walls_r2 : List Cond := [Cond.fieldLink RX6 114 "ClockWakersModel" "stuffed" "I", Cond.fieldLink RX6 25 "ClockWakersModel" "loud" "[I", Cond.methodLink RX6 136 yX6_isOf, Cond.static yX6_isOf, Cond.code yX6_isOf cX6_isOf 2 (some .boolean), Cond.methodLink RX6 145 yX6_needsOf, Cond.instanceMethod yX6_needsOf, Cond.selects RX6 yX6_needsOf yX6_needsOf, Cond.code yX6_needsOf cX6_needsOf 2 (some .int), Cond.fieldLink RX6 19 "ClockWakersModel" "kind" "[I", Cond.fieldLink RX6 22 "ClockWakersModel" "depth" "[I"]
def wsX6_walls : List Cond := .code yX6_walls cX6_walls 4 (some .int) :: ((wsX6_walls_r1 ++ wsX6_walls_r2) ++ wsX60)
def wsX6_inLeastTerms : List Cond := .code yX6_inLeastTerms cX6_inLeastTerms 11 (some .long) :: ([])
def wsX6_odds_r1 : List Cond := [Cond.constantLong RX6 62 (-9223372036854775808), Cond.fieldLink RX6 71 "ClockWakersModel" "clocks" "I", Cond.fieldLink RX6 68 "ClockWakersModel" "houses" "I", Cond.methodLink RX6 151 yX6_isHouse, Cond.instanceMethod yX6_isHouse, Cond.selects RX6 yX6_isHouse yX6_isHouse, Cond.initialized RX6, Cond.code yX6_isHouse cX6_isHouse 2 (some .boolean), Cond.methodLink RX6 64 yX6_within, Cond.static yX6_within, Cond.code yX6_within cX6_within 3 (some .boolean), Cond.methodLink RX6 148 yX6_wakesFrom, Cond.instanceMethod yX6_wakesFrom, Cond.selects RX6 yX6_wakesFrom yX6_wakesFrom, Cond.code yX6_wakesFrom cX6_wakesFrom 5 (some .boolean), Cond.methodLink RX6 142 yX6_heardFrom, Cond.instanceMethod yX6_heardFrom, Cond.selects RX6 yX6_heardFrom yX6_heardFrom, Cond.code yX6_heardFrom cX6_heardFrom 4 (some .int), Cond.fieldLink RX6 105 "ClockWakersModel" "wallThick" "I", Cond.methodLink RX6 139 yX6_soundOf, Cond.instanceMethod yX6_soundOf, Cond.selects RX6 yX6_soundOf yX6_soundOf, Cond.code yX6_soundOf cX6_soundOf 2 (some .int)]
def wsX6_odds_r2 : List Cond := [Cond.fieldLink RX6 114 "ClockWakersModel" "stuffed" "I", Cond.fieldLink RX6 25 "ClockWakersModel" "loud" "[I", Cond.methodLink RX6 136 yX6_isOf, Cond.static yX6_isOf, Cond.code yX6_isOf cX6_isOf 2 (some .boolean), Cond.methodLink RX6 145 yX6_needsOf, Cond.instanceMethod yX6_needsOf, Cond.selects RX6 yX6_needsOf yX6_needsOf, Cond.code yX6_needsOf cX6_needsOf 2 (some .int), Cond.fieldLink RX6 19 "ClockWakersModel" "kind" "[I", Cond.fieldLink RX6 22 "ClockWakersModel" "depth" "[I", Cond.methodLink RX6 214 yX6_inLeastTerms, Cond.static yX6_inLeastTerms, Cond.code yX6_inLeastTerms cX6_inLeastTerms 11 (some .long)]
def wsX6_odds : List Cond := .code yX6_odds cX6_odds 6 (some .long) :: ((wsX6_odds_r1 ++ wsX6_odds_r2) ++ wsX60)
def wsX6_sheet : List Cond := .code yX6_sheet cX6_sheet 5 (some .int) :: ([.fieldLink RX6 58 "ClockWakersModel" "fault" "I", .fieldLink RX6 9 "ClockWakersModel" "sorts" "[I", .fieldLink RX6 13 "ClockWakersModel" "sheetLong" "[I", .fieldLink RX6 16 "ClockWakersModel" "cells" "[I", .methodLink RX6 81 yX6_isSheet, .static yX6_isSheet, .initialized RX6, .code yX6_isSheet cX6_isSheet 1 (some .boolean), .methodLink RX6 64 yX6_within, .static yX6_within, .code yX6_within cX6_within 3 (some .boolean), .methodLink RX6 85 yX6_isSort, .static yX6_isSort, .code yX6_isSort cX6_isSort 1 (some .boolean), .methodLink RX6 92 yX6_fails, .instanceMethod yX6_fails, .selects RX6 yX6_fails yX6_fails, .code yX6_fails cX6_fails 2 (some .int)] ++ wsX60)
def wsX6_lose : List Cond := .code yX6_lose cX6_lose 3 (some .int) :: ([.fieldLink RX6 9 "ClockWakersModel" "sorts" "[I", .methodLink RX6 81 yX6_isSheet, .static yX6_isSheet, .initialized RX6, .code yX6_isSheet cX6_isSheet 1 (some .boolean), .methodLink RX6 64 yX6_within, .static yX6_within, .code yX6_within cX6_within 3 (some .boolean)] ++ wsX60)
def wsX6_put : List Cond := .code yX6_put cX6_put 4 (some .int) :: ([.fieldLink RX6 58 "ClockWakersModel" "fault" "I", .fieldLink RX6 9 "ClockWakersModel" "sorts" "[I", .fieldLink RX6 13 "ClockWakersModel" "sheetLong" "[I", .fieldLink RX6 16 "ClockWakersModel" "cells" "[I", .methodLink RX6 81 yX6_isSheet, .static yX6_isSheet, .initialized RX6, .code yX6_isSheet cX6_isSheet 1 (some .boolean), .methodLink RX6 64 yX6_within, .static yX6_within, .code yX6_within cX6_within 3 (some .boolean), .methodLink RX6 92 yX6_fails, .instanceMethod yX6_fails, .selects RX6 yX6_fails yX6_fails, .code yX6_fails cX6_fails 2 (some .int)] ++ wsX60)
def wsX6_cell : List Cond := .code yX6_cell cX6_cell 4 (some .long) :: ([.fieldLink RX6 58 "ClockWakersModel" "fault" "I", .constantLong RX6 62 (-9223372036854775808), .fieldLink RX6 9 "ClockWakersModel" "sorts" "[I", .fieldLink RX6 13 "ClockWakersModel" "sheetLong" "[I", .fieldLink RX6 16 "ClockWakersModel" "cells" "[I", .methodLink RX6 81 yX6_isSheet, .static yX6_isSheet, .initialized RX6, .code yX6_isSheet cX6_isSheet 1 (some .boolean), .methodLink RX6 64 yX6_within, .static yX6_within, .code yX6_within cX6_within 3 (some .boolean), .methodLink RX6 85 yX6_isSort, .static yX6_isSort, .code yX6_isSort cX6_isSort 1 (some .boolean), .methodLink RX6 218 yX6_lost, .instanceMethod yX6_lost, .selects RX6 yX6_lost yX6_lost, .code yX6_lost cX6_lost 2 (some .long)] ++ wsX60)
def wsX6_copy : List Cond := .code yX6_copy cX6_copy 10 (some .int) :: ([.fieldLink RX6 58 "ClockWakersModel" "fault" "I", .fieldLink RX6 9 "ClockWakersModel" "sorts" "[I", .fieldLink RX6 13 "ClockWakersModel" "sheetLong" "[I", .fieldLink RX6 16 "ClockWakersModel" "cells" "[I", .methodLink RX6 81 yX6_isSheet, .static yX6_isSheet, .initialized RX6, .code yX6_isSheet cX6_isSheet 1 (some .boolean), .methodLink RX6 64 yX6_within, .static yX6_within, .code yX6_within cX6_within 3 (some .boolean), .methodLink RX6 92 yX6_fails, .instanceMethod yX6_fails, .selects RX6 yX6_fails yX6_fails, .code yX6_fails cX6_fails 2 (some .int)] ++ wsX60)
def wsX6_begins : List Cond := .code yX6_begins cX6_begins 2 none :: ([.fieldLink RX6 222 "ClockWakersModel" "trace" "I"] ++ wsX60)
def wsX6_tell : List Cond := .code yX6_tell cX6_tell 3 (some .int) :: ([.fieldLink RX6 22 "ClockWakersModel" "depth" "[I", .fieldLink RX6 19 "ClockWakersModel" "kind" "[I", .methodLink RX6 151 yX6_isHouse, .instanceMethod yX6_isHouse, .selects RX6 yX6_isHouse yX6_isHouse, .initialized RX6, .code yX6_isHouse cX6_isHouse 2 (some .boolean), .fieldLink RX6 68 "ClockWakersModel" "houses" "I", .methodLink RX6 225 yX6_begins, .instanceMethod yX6_begins, .selects RX6 yX6_begins yX6_begins, .code yX6_begins cX6_begins 2 none, .fieldLink RX6 222 "ClockWakersModel" "trace" "I"] ++ wsX60)
def wsX6_call : List Cond := .code yX6_call cX6_call 2 (some .int) :: ([.fieldLink RX6 19 "ClockWakersModel" "kind" "[I", .methodLink RX6 151 yX6_isHouse, .instanceMethod yX6_isHouse, .selects RX6 yX6_isHouse yX6_isHouse, .initialized RX6, .code yX6_isHouse cX6_isHouse 2 (some .boolean), .fieldLink RX6 68 "ClockWakersModel" "houses" "I", .methodLink RX6 225 yX6_begins, .instanceMethod yX6_begins, .selects RX6 yX6_begins yX6_begins, .code yX6_begins cX6_begins 2 none, .fieldLink RX6 222 "ClockWakersModel" "trace" "I"] ++ wsX60)
def wsX6_as : List Cond := .code yX6_as cX6_as 3 (some .int) :: ([.fieldLink RX6 58 "ClockWakersModel" "fault" "I", .fieldLink RX6 19 "ClockWakersModel" "kind" "[I", .methodLink RX6 151 yX6_isHouse, .instanceMethod yX6_isHouse, .selects RX6 yX6_isHouse yX6_isHouse, .initialized RX6, .code yX6_isHouse cX6_isHouse 2 (some .boolean), .fieldLink RX6 68 "ClockWakersModel" "houses" "I", .methodLink RX6 64 yX6_within, .static yX6_within, .code yX6_within cX6_within 3 (some .boolean), .methodLink RX6 92 yX6_fails, .instanceMethod yX6_fails, .selects RX6 yX6_fails yX6_fails, .code yX6_fails cX6_fails 2 (some .int)] ++ wsX60)
def wsX6_trace : List Cond := .code yX6_trace cX6_trace 1 (some .int) :: ([.fieldLink RX6 222 "ClockWakersModel" "trace" "I"] ++ wsX60)
def wsX6_fault : List Cond := .code yX6_fault cX6_fault 1 (some .int) :: ([.fieldLink RX6 58 "ClockWakersModel" "fault" "I"] ++ wsX60)
def wsX6_many : List Cond := .code yX6_many cX6_many 2 (some .int) :: ([.fieldLink RX6 68 "ClockWakersModel" "houses" "I", .fieldLink RX6 71 "ClockWakersModel" "clocks" "I", .fieldLink RX6 105 "ClockWakersModel" "wallThick" "I", .fieldLink RX6 117 "ClockWakersModel" "night" "I", .fieldLink RX6 120 "ClockWakersModel" "readings" "I"] ++ wsX60)
def wsJ9_abs_0f7a4 : List Cond := .code yJ9_abs_0f7a4 cJ9_abs_0f7a4 1 (some .int) :: ([])
abbrev vwCl : List vw_C := [(RX0, TX0, 3), (RX1, TX1, 5), (RX2, TX2, 4), (RX3, TX3, 10), (RX4, TX4, 3), (RX5, TX5, 10), (RX6, TX6, 30)]
end
section
theorem dX0_init_0 : decode cX0_init 0 = .ok (.aload_n 0, 1) := by decide +kernel
theorem dX0_init_1 : decode cX0_init 1 = .ok (.invokespecial 3, 3) := by decide +kernel
theorem dX0_init_4 : decode cX0_init 4 = .ok (.aload_n 0, 1) := by decide +kernel
theorem dX0_init_5 : decode cX0_init 5 = .ok (.iconst 4, 1) := by decide +kernel
theorem dX0_init_6 : decode cX0_init 6 = .ok (.newarray .int, 2) := by decide +kernel
theorem dX0_init_8 : decode cX0_init 8 = .ok (.putfield 9, 3) := by decide +kernel
theorem dX0_init_11 : decode cX0_init 11 = .ok (.aload_n 0, 1) := by decide +kernel
theorem dX0_init_12 : decode cX0_init 12 = .ok (.iconst 4, 1) := by decide +kernel
theorem dX0_init_13 : decode cX0_init 13 = .ok (.newarray .int, 2) := by decide +kernel
theorem dX0_init_15 : decode cX0_init 15 = .ok (.putfield 15, 3) := by decide +kernel
theorem dX0_init_18 : decode cX0_init 18 = .ok (.aload_n 0, 1) := by decide +kernel
theorem dX0_init_19 : decode cX0_init 19 = .ok (.iconst 4, 1) := by decide +kernel
theorem dX0_init_20 : decode cX0_init 20 = .ok (.bipush 6, 2) := by decide +kernel
theorem dX0_init_22 : decode cX0_init 22 = .ok (.multianewarray 18 2, 4) := by decide +kernel
theorem dX0_init_26 : decode cX0_init 26 = .ok (.putfield 20, 3) := by decide +kernel
theorem dX0_init_29 : decode cX0_init 29 = .ok (.return_, 1) := by decide +kernel
set_option maxRecDepth 20000 in
theorem ggX0_findStillest_X3_wakers : GoodIn wsX0_findStillest wsX3_wakers := goodIn_r _ [14, 15, 16, 17, 18, 13, 19, 20, 21, 22, 23, 24, 25, 26, 27, 28, 29, 30, 31, 32, 33, 34, 35, 36, 37, 38, 39, 40, 41, 42, 43, 44, 45, 46, 47, 64, 65, 66, 67, 68, 69, 70, 71, 72, 73] (by decide +kernel) (by decide +kernel)
set_option maxRecDepth 20000 in
theorem gX0_findStillest_X3_wakers : GoodIn wsX0_findStillest (wsV RX0 32 RX3 yX3_wakers wsX3_wakers) := goodIn_app (goodIn_of _ (by decide +kernel)) ggX0_findStillest_X3_wakers
set_option maxRecDepth 20000 in
theorem ggX0_findStillest_X0_wakersOfRow : GoodIn wsX0_findStillest wsX0_wakersOfRow := goodIn_r _ [52, 4, 3, 74, 75, 76] (by decide +kernel) (by decide +kernel)
set_option maxRecDepth 20000 in
theorem gX0_findStillest_X0_wakersOfRow : GoodIn wsX0_findStillest (wsV RX0 35 RX0 yX0_wakersOfRow wsX0_wakersOfRow) := goodIn_app (goodIn_of _ (by decide +kernel)) ggX0_findStillest_X0_wakersOfRow
set_option maxRecDepth 20000 in
theorem ggX0_findStillest_J6_bitCount_0f7a4 : GoodIn wsX0_findStillest wsJ6_bitCount_0f7a4 := goodIn_r _ [56, 57, 58, 59] (by decide +kernel) (by decide +kernel)
set_option maxRecDepth 20000 in
theorem gX0_findStillest_J6_bitCount_0f7a4 : GoodIn wsX0_findStillest (va_wsS RX0 39 yJ6_bitCount_0f7a4 wsJ6_bitCount_0f7a4) := goodIn_app (goodIn_of _ (by decide +kernel)) ggX0_findStillest_J6_bitCount_0f7a4
set_option maxRecDepth 20000 in
theorem ggX0_findStillest_X0_stepRow : GoodIn wsX0_findStillest wsX0_stepRow := goodIn_r _ [63, 3, 74, 75, 76] (by decide +kernel) (by decide +kernel)
set_option maxRecDepth 20000 in
theorem gX0_findStillest_X0_stepRow : GoodIn wsX0_findStillest (wsV RX0 50 RX0 yX0_stepRow wsX0_stepRow) := goodIn_app (goodIn_of _ (by decide +kernel)) ggX0_findStillest_X0_stepRow
theorem dX0_findStillest_0 : decode cX0_findStillest 0 = .ok (.iconst 1, 1) := by decide +kernel
theorem dX0_findStillest_1 : decode cX0_findStillest 1 = .ok (.istore_n 2, 1) := by decide +kernel
theorem dX0_findStillest_2 : decode cX0_findStillest 2 = .ok (.iconst 0, 1) := by decide +kernel
theorem dX0_findStillest_3 : decode cX0_findStillest 3 = .ok (.istore_n 3, 1) := by decide +kernel
theorem dX0_findStillest_4 : decode cX0_findStillest 4 = .ok (.iload_n 3, 1) := by decide +kernel
theorem dX0_findStillest_5 : decode cX0_findStillest 5 = .ok (.aload_n 1, 1) := by decide +kernel
theorem dX0_findStillest_6 : decode cX0_findStillest 6 = .ok (.getfield 23, 3) := by decide +kernel
theorem dX0_findStillest_9 : decode cX0_findStillest 9 = .ok (.if_icmp .ge 57, 3) := by decide +kernel
theorem dX0_findStillest_12 : decode cX0_findStillest 12 = .ok (.iload_n 2, 1) := by decide +kernel
theorem dX0_findStillest_13 : decode cX0_findStillest 13 = .ok (.aload_n 1, 1) := by decide +kernel
theorem dX0_findStillest_14 : decode cX0_findStillest 14 = .ok (.getfield 29, 3) := by decide +kernel
theorem dX0_findStillest_17 : decode cX0_findStillest 17 = .ok (.imul, 1) := by decide +kernel
theorem dX0_findStillest_18 : decode cX0_findStillest 18 = .ok (.istore_n 2, 1) := by decide +kernel
theorem dX0_findStillest_19 : decode cX0_findStillest 19 = .ok (.aload_n 0, 1) := by decide +kernel
theorem dX0_findStillest_20 : decode cX0_findStillest 20 = .ok (.getfield 15, 3) := by decide +kernel
theorem dX0_findStillest_23 : decode cX0_findStillest 23 = .ok (.iload_n 3, 1) := by decide +kernel
theorem dX0_findStillest_24 : decode cX0_findStillest 24 = .ok (.iconst 0, 1) := by decide +kernel
theorem dX0_findStillest_25 : decode cX0_findStillest 25 = .ok (.iastore, 1) := by decide +kernel
theorem dX0_findStillest_26 : decode cX0_findStillest 26 = .ok (.iconst 0, 1) := by decide +kernel
theorem dX0_findStillest_27 : decode cX0_findStillest 27 = .ok (.istore 4, 2) := by decide +kernel
theorem dX0_findStillest_29 : decode cX0_findStillest 29 = .ok (.iload 4, 2) := by decide +kernel
theorem dX0_findStillest_31 : decode cX0_findStillest 31 = .ok (.aload_n 1, 1) := by decide +kernel
theorem dX0_findStillest_32 : decode cX0_findStillest 32 = .ok (.getfield 29, 3) := by decide +kernel
theorem dX0_findStillest_35 : decode cX0_findStillest 35 = .ok (.if_icmp .ge 25, 3) := by decide +kernel
theorem dX0_findStillest_38 : decode cX0_findStillest 38 = .ok (.aload_n 0, 1) := by decide +kernel
theorem dX0_findStillest_39 : decode cX0_findStillest 39 = .ok (.getfield 20, 3) := by decide +kernel
theorem dX0_findStillest_42 : decode cX0_findStillest 42 = .ok (.iload_n 3, 1) := by decide +kernel
theorem dX0_findStillest_43 : decode cX0_findStillest 43 = .ok (.aaload, 1) := by decide +kernel
theorem dX0_findStillest_44 : decode cX0_findStillest 44 = .ok (.iload 4, 2) := by decide +kernel
theorem dX0_findStillest_46 : decode cX0_findStillest 46 = .ok (.aload_n 1, 1) := by decide +kernel
theorem dX0_findStillest_47 : decode cX0_findStillest 47 = .ok (.iload_n 3, 1) := by decide +kernel
theorem dX0_findStillest_48 : decode cX0_findStillest 48 = .ok (.iload 4, 2) := by decide +kernel
theorem dX0_findStillest_50 : decode cX0_findStillest 50 = .ok (.invokevirtual 32, 3) := by decide +kernel
theorem dX0_findStillest_53 : decode cX0_findStillest 53 = .ok (.iastore, 1) := by decide +kernel
theorem dX0_findStillest_54 : decode cX0_findStillest 54 = .ok (.iinc 4 1, 3) := by decide +kernel
theorem dX0_findStillest_57 : decode cX0_findStillest 57 = .ok (.goto (-28), 3) := by decide +kernel
theorem dX0_findStillest_60 : decode cX0_findStillest 60 = .ok (.iinc 3 1, 3) := by decide +kernel
theorem dX0_findStillest_63 : decode cX0_findStillest 63 = .ok (.goto (-59), 3) := by decide +kernel
theorem dX0_findStillest_66 : decode cX0_findStillest 66 = .ok (.aload_n 1, 1) := by decide +kernel
theorem dX0_findStillest_67 : decode cX0_findStillest 67 = .ok (.getfield 29, 3) := by decide +kernel
theorem dX0_findStillest_70 : decode cX0_findStillest 70 = .ok (.iconst 1, 1) := by decide +kernel
theorem dX0_findStillest_71 : decode cX0_findStillest 71 = .ok (.iadd, 1) := by decide +kernel
theorem dX0_findStillest_72 : decode cX0_findStillest 72 = .ok (.istore_n 3, 1) := by decide +kernel
theorem dX0_findStillest_73 : decode cX0_findStillest 73 = .ok (.iconst 0, 1) := by decide +kernel
theorem dX0_findStillest_74 : decode cX0_findStillest 74 = .ok (.istore 4, 2) := by decide +kernel
theorem dX0_findStillest_76 : decode cX0_findStillest 76 = .ok (.iload 4, 2) := by decide +kernel
theorem dX0_findStillest_78 : decode cX0_findStillest 78 = .ok (.iload_n 2, 1) := by decide +kernel
theorem dX0_findStillest_79 : decode cX0_findStillest 79 = .ok (.if_icmp .ge 60, 3) := by decide +kernel
theorem dX0_findStillest_82 : decode cX0_findStillest 82 = .ok (.aload_n 0, 1) := by decide +kernel
theorem dX0_findStillest_83 : decode cX0_findStillest 83 = .ok (.aload_n 1, 1) := by decide +kernel
theorem dX0_findStillest_84 : decode cX0_findStillest 84 = .ok (.getfield 23, 3) := by decide +kernel
theorem dX0_findStillest_87 : decode cX0_findStillest 87 = .ok (.invokevirtual 35, 3) := by decide +kernel
theorem dX0_findStillest_90 : decode cX0_findStillest 90 = .ok (.invokestatic 39, 3) := by decide +kernel
theorem dX0_findStillest_93 : decode cX0_findStillest 93 = .ok (.istore 5, 2) := by decide +kernel
theorem dX0_findStillest_95 : decode cX0_findStillest 95 = .ok (.iload 5, 2) := by decide +kernel
theorem dX0_findStillest_97 : decode cX0_findStillest 97 = .ok (.iload_n 3, 1) := by decide +kernel
theorem dX0_findStillest_98 : decode cX0_findStillest 98 = .ok (.if_icmp .ge 23, 3) := by decide +kernel
theorem dX0_findStillest_101 : decode cX0_findStillest 101 = .ok (.iload 5, 2) := by decide +kernel
theorem dX0_findStillest_103 : decode cX0_findStillest 103 = .ok (.istore_n 3, 1) := by decide +kernel
theorem dX0_findStillest_104 : decode cX0_findStillest 104 = .ok (.aload_n 0, 1) := by decide +kernel
theorem dX0_findStillest_105 : decode cX0_findStillest 105 = .ok (.getfield 15, 3) := by decide +kernel
theorem dX0_findStillest_108 : decode cX0_findStillest 108 = .ok (.iconst 0, 1) := by decide +kernel
theorem dX0_findStillest_109 : decode cX0_findStillest 109 = .ok (.aload_n 0, 1) := by decide +kernel
theorem dX0_findStillest_110 : decode cX0_findStillest 110 = .ok (.getfield 9, 3) := by decide +kernel
theorem dX0_findStillest_113 : decode cX0_findStillest 113 = .ok (.iconst 0, 1) := by decide +kernel
theorem dX0_findStillest_114 : decode cX0_findStillest 114 = .ok (.aload_n 1, 1) := by decide +kernel
theorem dX0_findStillest_115 : decode cX0_findStillest 115 = .ok (.getfield 23, 3) := by decide +kernel
theorem dX0_findStillest_118 : decode cX0_findStillest 118 = .ok (.invokestatic 44, 3) := by decide +kernel
theorem dX0_findStillest_121 : decode cX0_findStillest 121 = .ok (.aload_n 0, 1) := by decide +kernel
theorem dX0_findStillest_122 : decode cX0_findStillest 122 = .ok (.aload_n 1, 1) := by decide +kernel
theorem dX0_findStillest_123 : decode cX0_findStillest 123 = .ok (.getfield 23, 3) := by decide +kernel
theorem dX0_findStillest_126 : decode cX0_findStillest 126 = .ok (.aload_n 1, 1) := by decide +kernel
theorem dX0_findStillest_127 : decode cX0_findStillest 127 = .ok (.getfield 29, 3) := by decide +kernel
theorem dX0_findStillest_130 : decode cX0_findStillest 130 = .ok (.invokevirtual 50, 3) := by decide +kernel
theorem dX0_findStillest_133 : decode cX0_findStillest 133 = .ok (.iinc 4 1, 3) := by decide +kernel
theorem dX0_findStillest_136 : decode cX0_findStillest 136 = .ok (.goto (-60), 3) := by decide +kernel
theorem dX0_findStillest_139 : decode cX0_findStillest 139 = .ok (.iload_n 3, 1) := by decide +kernel
theorem dX0_findStillest_140 : decode cX0_findStillest 140 = .ok (.ireturn, 1) := by decide +kernel
theorem dX0_wakersOfRow_0 : decode cX0_wakersOfRow 0 = .ok (.iconst 0, 1) := by decide +kernel
theorem dX0_wakersOfRow_1 : decode cX0_wakersOfRow 1 = .ok (.istore_n 2, 1) := by decide +kernel
theorem dX0_wakersOfRow_2 : decode cX0_wakersOfRow 2 = .ok (.iconst 0, 1) := by decide +kernel
theorem dX0_wakersOfRow_3 : decode cX0_wakersOfRow 3 = .ok (.istore_n 3, 1) := by decide +kernel
theorem dX0_wakersOfRow_4 : decode cX0_wakersOfRow 4 = .ok (.iload_n 3, 1) := by decide +kernel
theorem dX0_wakersOfRow_5 : decode cX0_wakersOfRow 5 = .ok (.iload_n 1, 1) := by decide +kernel
theorem dX0_wakersOfRow_6 : decode cX0_wakersOfRow 6 = .ok (.if_icmp .ge 25, 3) := by decide +kernel
theorem dX0_wakersOfRow_9 : decode cX0_wakersOfRow 9 = .ok (.iload_n 2, 1) := by decide +kernel
theorem dX0_wakersOfRow_10 : decode cX0_wakersOfRow 10 = .ok (.aload_n 0, 1) := by decide +kernel
theorem dX0_wakersOfRow_11 : decode cX0_wakersOfRow 11 = .ok (.getfield 20, 3) := by decide +kernel
theorem dX0_wakersOfRow_14 : decode cX0_wakersOfRow 14 = .ok (.iload_n 3, 1) := by decide +kernel
theorem dX0_wakersOfRow_15 : decode cX0_wakersOfRow 15 = .ok (.aaload, 1) := by decide +kernel
theorem dX0_wakersOfRow_16 : decode cX0_wakersOfRow 16 = .ok (.aload_n 0, 1) := by decide +kernel
theorem dX0_wakersOfRow_17 : decode cX0_wakersOfRow 17 = .ok (.getfield 15, 3) := by decide +kernel
theorem dX0_wakersOfRow_20 : decode cX0_wakersOfRow 20 = .ok (.iload_n 3, 1) := by decide +kernel
theorem dX0_wakersOfRow_21 : decode cX0_wakersOfRow 21 = .ok (.iaload, 1) := by decide +kernel
theorem dX0_wakersOfRow_22 : decode cX0_wakersOfRow 22 = .ok (.iaload, 1) := by decide +kernel
theorem dX0_wakersOfRow_23 : decode cX0_wakersOfRow 23 = .ok (.ior, 1) := by decide +kernel
theorem dX0_wakersOfRow_24 : decode cX0_wakersOfRow 24 = .ok (.istore_n 2, 1) := by decide +kernel
theorem dX0_wakersOfRow_25 : decode cX0_wakersOfRow 25 = .ok (.iinc 3 1, 3) := by decide +kernel
theorem dX0_wakersOfRow_28 : decode cX0_wakersOfRow 28 = .ok (.goto (-24), 3) := by decide +kernel
theorem dX0_wakersOfRow_31 : decode cX0_wakersOfRow 31 = .ok (.iload_n 2, 1) := by decide +kernel
theorem dX0_wakersOfRow_32 : decode cX0_wakersOfRow 32 = .ok (.ireturn, 1) := by decide +kernel
theorem dX0_stepRow_0 : decode cX0_stepRow 0 = .ok (.iload_n 1, 1) := by decide +kernel
theorem dX0_stepRow_1 : decode cX0_stepRow 1 = .ok (.iconst 1, 1) := by decide +kernel
theorem dX0_stepRow_2 : decode cX0_stepRow 2 = .ok (.isub, 1) := by decide +kernel
theorem dX0_stepRow_3 : decode cX0_stepRow 3 = .ok (.istore_n 3, 1) := by decide +kernel
theorem dX0_stepRow_4 : decode cX0_stepRow 4 = .ok (.iload_n 3, 1) := by decide +kernel
theorem dX0_stepRow_5 : decode cX0_stepRow 5 = .ok (.ifCond .lt 37, 3) := by decide +kernel
theorem dX0_stepRow_8 : decode cX0_stepRow 8 = .ok (.aload_n 0, 1) := by decide +kernel
theorem dX0_stepRow_9 : decode cX0_stepRow 9 = .ok (.getfield 15, 3) := by decide +kernel
theorem dX0_stepRow_12 : decode cX0_stepRow 12 = .ok (.iload_n 3, 1) := by decide +kernel
theorem dX0_stepRow_13 : decode cX0_stepRow 13 = .ok (.dup2, 1) := by decide +kernel
theorem dX0_stepRow_14 : decode cX0_stepRow 14 = .ok (.iaload, 1) := by decide +kernel
theorem dX0_stepRow_15 : decode cX0_stepRow 15 = .ok (.iconst 1, 1) := by decide +kernel
theorem dX0_stepRow_16 : decode cX0_stepRow 16 = .ok (.iadd, 1) := by decide +kernel
theorem dX0_stepRow_17 : decode cX0_stepRow 17 = .ok (.iastore, 1) := by decide +kernel
theorem dX0_stepRow_18 : decode cX0_stepRow 18 = .ok (.aload_n 0, 1) := by decide +kernel
theorem dX0_stepRow_19 : decode cX0_stepRow 19 = .ok (.getfield 15, 3) := by decide +kernel
theorem dX0_stepRow_22 : decode cX0_stepRow 22 = .ok (.iload_n 3, 1) := by decide +kernel
theorem dX0_stepRow_23 : decode cX0_stepRow 23 = .ok (.iaload, 1) := by decide +kernel
theorem dX0_stepRow_24 : decode cX0_stepRow 24 = .ok (.iload_n 2, 1) := by decide +kernel
theorem dX0_stepRow_25 : decode cX0_stepRow 25 = .ok (.if_icmp .ge 4, 3) := by decide +kernel
theorem dX0_stepRow_28 : decode cX0_stepRow 28 = .ok (.return_, 1) := by decide +kernel
theorem dX0_stepRow_29 : decode cX0_stepRow 29 = .ok (.aload_n 0, 1) := by decide +kernel
theorem dX0_stepRow_30 : decode cX0_stepRow 30 = .ok (.getfield 15, 3) := by decide +kernel
theorem dX0_stepRow_33 : decode cX0_stepRow 33 = .ok (.iload_n 3, 1) := by decide +kernel
theorem dX0_stepRow_34 : decode cX0_stepRow 34 = .ok (.iconst 0, 1) := by decide +kernel
theorem dX0_stepRow_35 : decode cX0_stepRow 35 = .ok (.iastore, 1) := by decide +kernel
theorem dX0_stepRow_36 : decode cX0_stepRow 36 = .ok (.iinc 3 (-1), 3) := by decide +kernel
theorem dX0_stepRow_39 : decode cX0_stepRow 39 = .ok (.goto (-35), 3) := by decide +kernel
theorem dX0_stepRow_42 : decode cX0_stepRow 42 = .ok (.return_, 1) := by decide +kernel
theorem dX1_init_0 : decode cX1_init 0 = .ok (.aload_n 0, 1) := by decide +kernel
theorem dX1_init_1 : decode cX1_init 1 = .ok (.invokespecial 3, 3) := by decide +kernel
theorem dX1_init_4 : decode cX1_init 4 = .ok (.aload_n 0, 1) := by decide +kernel
theorem dX1_init_5 : decode cX1_init 5 = .ok (.bipush 8, 2) := by decide +kernel
theorem dX1_init_7 : decode cX1_init 7 = .ok (.newarray .int, 2) := by decide +kernel
theorem dX1_init_9 : decode cX1_init 9 = .ok (.putfield 9, 3) := by decide +kernel
theorem dX1_init_12 : decode cX1_init 12 = .ok (.aload_n 0, 1) := by decide +kernel
theorem dX1_init_13 : decode cX1_init 13 = .ok (.bipush 8, 2) := by decide +kernel
theorem dX1_init_15 : decode cX1_init 15 = .ok (.newarray .int, 2) := by decide +kernel
theorem dX1_init_17 : decode cX1_init 17 = .ok (.putfield 15, 3) := by decide +kernel
theorem dX1_init_20 : decode cX1_init 20 = .ok (.aload_n 0, 1) := by decide +kernel
theorem dX1_init_21 : decode cX1_init 21 = .ok (.bipush 8, 2) := by decide +kernel
theorem dX1_init_23 : decode cX1_init 23 = .ok (.newarray .int, 2) := by decide +kernel
theorem dX1_init_25 : decode cX1_init 25 = .ok (.putfield 18, 3) := by decide +kernel
theorem dX1_init_28 : decode cX1_init 28 = .ok (.aload_n 0, 1) := by decide +kernel
theorem dX1_init_29 : decode cX1_init 29 = .ok (.bipush 8, 2) := by decide +kernel
theorem dX1_init_31 : decode cX1_init 31 = .ok (.newarray .boolean, 2) := by decide +kernel
theorem dX1_init_33 : decode cX1_init 33 = .ok (.putfield 21, 3) := by decide +kernel
theorem dX1_init_36 : decode cX1_init 36 = .ok (.return_, 1) := by decide +kernel
theorem dX1_note_0 : decode cX1_note 0 = .ok (.aload_n 0, 1) := by decide +kernel
theorem dX1_note_1 : decode cX1_note 1 = .ok (.getfield 9, 3) := by decide +kernel
theorem dX1_note_4 : decode cX1_note 4 = .ok (.aload_n 0, 1) := by decide +kernel
theorem dX1_note_5 : decode cX1_note 5 = .ok (.getfield 25, 3) := by decide +kernel
theorem dX1_note_8 : decode cX1_note 8 = .ok (.iload_n 1, 1) := by decide +kernel
theorem dX1_note_9 : decode cX1_note 9 = .ok (.iastore, 1) := by decide +kernel
theorem dX1_note_10 : decode cX1_note 10 = .ok (.aload_n 0, 1) := by decide +kernel
theorem dX1_note_11 : decode cX1_note 11 = .ok (.getfield 15, 3) := by decide +kernel
theorem dX1_note_14 : decode cX1_note 14 = .ok (.aload_n 0, 1) := by decide +kernel
theorem dX1_note_15 : decode cX1_note 15 = .ok (.getfield 25, 3) := by decide +kernel
theorem dX1_note_18 : decode cX1_note 18 = .ok (.iload_n 2, 1) := by decide +kernel
theorem dX1_note_19 : decode cX1_note 19 = .ok (.iastore, 1) := by decide +kernel
theorem dX1_note_20 : decode cX1_note 20 = .ok (.aload_n 0, 1) := by decide +kernel
theorem dX1_note_21 : decode cX1_note 21 = .ok (.getfield 18, 3) := by decide +kernel
theorem dX1_note_24 : decode cX1_note 24 = .ok (.aload_n 0, 1) := by decide +kernel
theorem dX1_note_25 : decode cX1_note 25 = .ok (.getfield 25, 3) := by decide +kernel
theorem dX1_note_28 : decode cX1_note 28 = .ok (.iload_n 3, 1) := by decide +kernel
theorem dX1_note_29 : decode cX1_note 29 = .ok (.iastore, 1) := by decide +kernel
theorem dX1_note_30 : decode cX1_note 30 = .ok (.aload_n 0, 1) := by decide +kernel
theorem dX1_note_31 : decode cX1_note 31 = .ok (.getfield 21, 3) := by decide +kernel
theorem dX1_note_34 : decode cX1_note 34 = .ok (.aload_n 0, 1) := by decide +kernel
theorem dX1_note_35 : decode cX1_note 35 = .ok (.getfield 25, 3) := by decide +kernel
theorem dX1_note_38 : decode cX1_note 38 = .ok (.iload 4, 2) := by decide +kernel
theorem dX1_note_40 : decode cX1_note 40 = .ok (.bastore, 1) := by decide +kernel
theorem dX1_note_41 : decode cX1_note 41 = .ok (.aload_n 0, 1) := by decide +kernel
theorem dX1_note_42 : decode cX1_note 42 = .ok (.dup, 1) := by decide +kernel
theorem dX1_note_43 : decode cX1_note 43 = .ok (.getfield 25, 3) := by decide +kernel
theorem dX1_note_46 : decode cX1_note 46 = .ok (.dup_x1, 1) := by decide +kernel
theorem dX1_note_47 : decode cX1_note 47 = .ok (.iconst 1, 1) := by decide +kernel
theorem dX1_note_48 : decode cX1_note 48 = .ok (.iadd, 1) := by decide +kernel
theorem dX1_note_49 : decode cX1_note 49 = .ok (.putfield 25, 3) := by decide +kernel
theorem dX1_note_52 : decode cX1_note 52 = .ok (.ireturn, 1) := by decide +kernel
set_option maxRecDepth 20000 in
theorem ggX1_bitIfAllHold_X3_sound : GoodIn wsX1_bitIfAllHold wsX3_sound := goodIn_r _ [10, 11, 12, 13, 14, 9, 15, 16, 44, 45, 46, 47, 48, 49, 50, 51, 52, 53] (by decide +kernel) (by decide +kernel)
set_option maxRecDepth 20000 in
theorem gX1_bitIfAllHold_X3_sound : GoodIn wsX1_bitIfAllHold (wsV RX1 29 RX3 yX3_sound wsX3_sound) := goodIn_app (goodIn_of _ (by decide +kernel)) ggX1_bitIfAllHold_X3_sound
set_option maxRecDepth 20000 in
theorem ggX1_bitIfAllHold_X3_wakes : GoodIn wsX1_bitIfAllHold wsX3_wakes := goodIn_r _ [20, 21, 22, 23, 9, 24, 25, 26, 27, 28, 29, 30, 31, 32, 33, 34, 35, 36, 37, 38, 44, 45, 46, 47, 48, 49, 50, 51, 52, 53] (by decide +kernel) (by decide +kernel)
set_option maxRecDepth 20000 in
theorem gX1_bitIfAllHold_X3_wakes : GoodIn wsX1_bitIfAllHold (wsV RX1 35 RX3 yX3_wakes wsX3_wakes) := goodIn_app (goodIn_of _ (by decide +kernel)) ggX1_bitIfAllHold_X3_wakes
theorem dX1_bitIfAllHold_0 : decode cX1_bitIfAllHold 0 = .ok (.iconst 0, 1) := by decide +kernel
theorem dX1_bitIfAllHold_1 : decode cX1_bitIfAllHold 1 = .ok (.istore_n 3, 1) := by decide +kernel
theorem dX1_bitIfAllHold_2 : decode cX1_bitIfAllHold 2 = .ok (.iload_n 3, 1) := by decide +kernel
theorem dX1_bitIfAllHold_3 : decode cX1_bitIfAllHold 3 = .ok (.aload_n 0, 1) := by decide +kernel
theorem dX1_bitIfAllHold_4 : decode cX1_bitIfAllHold 4 = .ok (.getfield 25, 3) := by decide +kernel
theorem dX1_bitIfAllHold_7 : decode cX1_bitIfAllHold 7 = .ok (.if_icmp .ge 46, 3) := by decide +kernel
theorem dX1_bitIfAllHold_10 : decode cX1_bitIfAllHold 10 = .ok (.aload_n 1, 1) := by decide +kernel
theorem dX1_bitIfAllHold_11 : decode cX1_bitIfAllHold 11 = .ok (.aload_n 0, 1) := by decide +kernel
theorem dX1_bitIfAllHold_12 : decode cX1_bitIfAllHold 12 = .ok (.getfield 18, 3) := by decide +kernel
theorem dX1_bitIfAllHold_15 : decode cX1_bitIfAllHold 15 = .ok (.iload_n 3, 1) := by decide +kernel
theorem dX1_bitIfAllHold_16 : decode cX1_bitIfAllHold 16 = .ok (.iaload, 1) := by decide +kernel
theorem dX1_bitIfAllHold_17 : decode cX1_bitIfAllHold 17 = .ok (.aload_n 1, 1) := by decide +kernel
theorem dX1_bitIfAllHold_18 : decode cX1_bitIfAllHold 18 = .ok (.aload_n 0, 1) := by decide +kernel
theorem dX1_bitIfAllHold_19 : decode cX1_bitIfAllHold 19 = .ok (.getfield 9, 3) := by decide +kernel
theorem dX1_bitIfAllHold_22 : decode cX1_bitIfAllHold 22 = .ok (.iload_n 3, 1) := by decide +kernel
theorem dX1_bitIfAllHold_23 : decode cX1_bitIfAllHold 23 = .ok (.iaload, 1) := by decide +kernel
theorem dX1_bitIfAllHold_24 : decode cX1_bitIfAllHold 24 = .ok (.invokevirtual 29, 3) := by decide +kernel
theorem dX1_bitIfAllHold_27 : decode cX1_bitIfAllHold 27 = .ok (.aload_n 0, 1) := by decide +kernel
theorem dX1_bitIfAllHold_28 : decode cX1_bitIfAllHold 28 = .ok (.getfield 15, 3) := by decide +kernel
theorem dX1_bitIfAllHold_31 : decode cX1_bitIfAllHold 31 = .ok (.iload_n 3, 1) := by decide +kernel
theorem dX1_bitIfAllHold_32 : decode cX1_bitIfAllHold 32 = .ok (.iaload, 1) := by decide +kernel
theorem dX1_bitIfAllHold_33 : decode cX1_bitIfAllHold 33 = .ok (.invokevirtual 35, 3) := by decide +kernel
theorem dX1_bitIfAllHold_36 : decode cX1_bitIfAllHold 36 = .ok (.aload_n 0, 1) := by decide +kernel
theorem dX1_bitIfAllHold_37 : decode cX1_bitIfAllHold 37 = .ok (.getfield 21, 3) := by decide +kernel
theorem dX1_bitIfAllHold_40 : decode cX1_bitIfAllHold 40 = .ok (.iload_n 3, 1) := by decide +kernel
theorem dX1_bitIfAllHold_41 : decode cX1_bitIfAllHold 41 = .ok (.baload, 1) := by decide +kernel
theorem dX1_bitIfAllHold_42 : decode cX1_bitIfAllHold 42 = .ok (.if_icmp .eq 5, 3) := by decide +kernel
theorem dX1_bitIfAllHold_45 : decode cX1_bitIfAllHold 45 = .ok (.iconst 0, 1) := by decide +kernel
theorem dX1_bitIfAllHold_46 : decode cX1_bitIfAllHold 46 = .ok (.ireturn, 1) := by decide +kernel
theorem dX1_bitIfAllHold_47 : decode cX1_bitIfAllHold 47 = .ok (.iinc 3 1, 3) := by decide +kernel
theorem dX1_bitIfAllHold_50 : decode cX1_bitIfAllHold 50 = .ok (.goto (-48), 3) := by decide +kernel
theorem dX1_bitIfAllHold_53 : decode cX1_bitIfAllHold 53 = .ok (.iconst 1, 1) := by decide +kernel
theorem dX1_bitIfAllHold_54 : decode cX1_bitIfAllHold 54 = .ok (.iload_n 2, 1) := by decide +kernel
theorem dX1_bitIfAllHold_55 : decode cX1_bitIfAllHold 55 = .ok (.ishl, 1) := by decide +kernel
theorem dX1_bitIfAllHold_56 : decode cX1_bitIfAllHold 56 = .ok (.ireturn, 1) := by decide +kernel
theorem dX2_init_0 : decode cX2_init 0 = .ok (.aload_n 0, 1) := by decide +kernel
theorem dX2_init_1 : decode cX2_init 1 = .ok (.invokespecial 3, 3) := by decide +kernel
theorem dX2_init_4 : decode cX2_init 4 = .ok (.aload_n 0, 1) := by decide +kernel
theorem dX2_init_5 : decode cX2_init 5 = .ok (.bipush 60, 2) := by decide +kernel
theorem dX2_init_7 : decode cX2_init 7 = .ok (.newarray .int, 2) := by decide +kernel
theorem dX2_init_9 : decode cX2_init 9 = .ok (.putfield 9, 3) := by decide +kernel
theorem dX2_init_12 : decode cX2_init 12 = .ok (.return_, 1) := by decide +kernel
set_option maxRecDepth 20000 in
theorem ggX2_renew_J7_fill_53178 : GoodIn wsX2_renew wsJ7_fill_53178 := goodIn_r _ [8] (by decide +kernel) (by decide +kernel)
set_option maxRecDepth 20000 in
theorem gX2_renew_J7_fill_53178 : GoodIn wsX2_renew (va_wsS RX2 26 yJ7_fill_53178 wsJ7_fill_53178) := goodIn_app (goodIn_of _ (by decide +kernel)) ggX2_renew_J7_fill_53178
theorem dX2_renew_0 : decode cX2_renew 0 = .ok (.aload_n 0, 1) := by decide +kernel
theorem dX2_renew_1 : decode cX2_renew 1 = .ok (.iconst 1, 1) := by decide +kernel
theorem dX2_renew_2 : decode cX2_renew 2 = .ok (.putfield 15, 3) := by decide +kernel
theorem dX2_renew_5 : decode cX2_renew 5 = .ok (.aload_n 0, 1) := by decide +kernel
theorem dX2_renew_6 : decode cX2_renew 6 = .ok (.iload_n 1, 1) := by decide +kernel
theorem dX2_renew_7 : decode cX2_renew 7 = .ok (.putfield 19, 3) := by decide +kernel
theorem dX2_renew_10 : decode cX2_renew 10 = .ok (.aload_n 0, 1) := by decide +kernel
theorem dX2_renew_11 : decode cX2_renew 11 = .ok (.iload_n 2, 1) := by decide +kernel
theorem dX2_renew_12 : decode cX2_renew 12 = .ok (.putfield 23, 3) := by decide +kernel
theorem dX2_renew_15 : decode cX2_renew 15 = .ok (.aload_n 0, 1) := by decide +kernel
theorem dX2_renew_16 : decode cX2_renew 16 = .ok (.getfield 9, 3) := by decide +kernel
theorem dX2_renew_19 : decode cX2_renew 19 = .ok (.iconst 0, 1) := by decide +kernel
theorem dX2_renew_20 : decode cX2_renew 20 = .ok (.invokestatic 26, 3) := by decide +kernel
theorem dX2_renew_23 : decode cX2_renew 23 = .ok (.return_, 1) := by decide +kernel
theorem dX2_faultAs_0 : decode cX2_faultAs 0 = .ok (.aload_n 0, 1) := by decide +kernel
theorem dX2_faultAs_1 : decode cX2_faultAs 1 = .ok (.getfield 15, 3) := by decide +kernel
theorem dX2_faultAs_4 : decode cX2_faultAs 4 = .ok (.ifCond .ne 5, 3) := by decide +kernel
theorem dX2_faultAs_7 : decode cX2_faultAs 7 = .ok (.iconst 1, 1) := by decide +kernel
theorem dX2_faultAs_8 : decode cX2_faultAs 8 = .ok (.ireturn, 1) := by decide +kernel
theorem dX2_faultAs_9 : decode cX2_faultAs 9 = .ok (.aload_n 0, 1) := by decide +kernel
theorem dX2_faultAs_10 : decode cX2_faultAs 10 = .ok (.getfield 19, 3) := by decide +kernel
theorem dX2_faultAs_13 : decode cX2_faultAs 13 = .ok (.iload_n 1, 1) := by decide +kernel
theorem dX2_faultAs_14 : decode cX2_faultAs 14 = .ok (.if_icmp .ne 7, 3) := by decide +kernel
theorem dX2_faultAs_17 : decode cX2_faultAs 17 = .ok (.iconst 0, 1) := by decide +kernel
theorem dX2_faultAs_18 : decode cX2_faultAs 18 = .ok (.goto 4, 3) := by decide +kernel
theorem dX2_faultAs_21 : decode cX2_faultAs 21 = .ok (.iconst 2, 1) := by decide +kernel
theorem dX2_faultAs_22 : decode cX2_faultAs 22 = .ok (.ireturn, 1) := by decide +kernel
theorem dX2_lacks_0 : decode cX2_lacks 0 = .ok (.iload_n 1, 1) := by decide +kernel
theorem dX2_lacks_1 : decode cX2_lacks 1 = .ok (.ifCond .lt 25, 3) := by decide +kernel
theorem dX2_lacks_4 : decode cX2_lacks 4 = .ok (.iload_n 1, 1) := by decide +kernel
theorem dX2_lacks_5 : decode cX2_lacks 5 = .ok (.aload_n 0, 1) := by decide +kernel
theorem dX2_lacks_6 : decode cX2_lacks 6 = .ok (.getfield 23, 3) := by decide +kernel
theorem dX2_lacks_9 : decode cX2_lacks 9 = .ok (.if_icmp .gt 17, 3) := by decide +kernel
theorem dX2_lacks_12 : decode cX2_lacks 12 = .ok (.iload_n 2, 1) := by decide +kernel
theorem dX2_lacks_13 : decode cX2_lacks 13 = .ok (.ifCond .lt 13, 3) := by decide +kernel
theorem dX2_lacks_16 : decode cX2_lacks 16 = .ok (.iload_n 2, 1) := by decide +kernel
theorem dX2_lacks_17 : decode cX2_lacks 17 = .ok (.aload_n 0, 1) := by decide +kernel
theorem dX2_lacks_18 : decode cX2_lacks 18 = .ok (.getfield 23, 3) := by decide +kernel
theorem dX2_lacks_21 : decode cX2_lacks 21 = .ok (.iload_n 1, 1) := by decide +kernel
theorem dX2_lacks_22 : decode cX2_lacks 22 = .ok (.isub, 1) := by decide +kernel
theorem dX2_lacks_23 : decode cX2_lacks 23 = .ok (.if_icmp .le 7, 3) := by decide +kernel
theorem dX2_lacks_26 : decode cX2_lacks 26 = .ok (.iconst 1, 1) := by decide +kernel
theorem dX2_lacks_27 : decode cX2_lacks 27 = .ok (.goto 4, 3) := by decide +kernel
theorem dX2_lacks_30 : decode cX2_lacks 30 = .ok (.iconst 0, 1) := by decide +kernel
theorem dX2_lacks_31 : decode cX2_lacks 31 = .ok (.ireturn, 1) := by decide +kernel
theorem dX2_cut_0 : decode cX2_cut 0 = .ok (.aload_n 0, 1) := by decide +kernel
theorem dX2_cut_1 : decode cX2_cut 1 = .ok (.getfield 19, 3) := by decide +kernel
theorem dX2_cut_4 : decode cX2_cut 4 = .ok (.lookupswitch 34 #[(0, 28), (1, 31)], 28) := by decide +kernel
theorem dX2_cut_32 : decode cX2_cut 32 = .ok (.iload_n 1, 1) := by decide +kernel
theorem dX2_cut_33 : decode cX2_cut 33 = .ok (.i2b, 1) := by decide +kernel
theorem dX2_cut_34 : decode cX2_cut 34 = .ok (.ireturn, 1) := by decide +kernel
theorem dX2_cut_35 : decode cX2_cut 35 = .ok (.iload_n 1, 1) := by decide +kernel
theorem dX2_cut_36 : decode cX2_cut 36 = .ok (.i2s, 1) := by decide +kernel
theorem dX2_cut_37 : decode cX2_cut 37 = .ok (.ireturn, 1) := by decide +kernel
theorem dX2_cut_38 : decode cX2_cut 38 = .ok (.iload_n 1, 1) := by decide +kernel
theorem dX2_cut_39 : decode cX2_cut 39 = .ok (.ireturn, 1) := by decide +kernel
theorem dX3_init_0 : decode cX3_init 0 = .ok (.aload_n 0, 1) := by decide +kernel
theorem dX3_init_1 : decode cX3_init 1 = .ok (.invokespecial 3, 3) := by decide +kernel
theorem dX3_init_4 : decode cX3_init 4 = .ok (.aload_n 0, 1) := by decide +kernel
theorem dX3_init_5 : decode cX3_init 5 = .ok (.bipush 6, 2) := by decide +kernel
theorem dX3_init_7 : decode cX3_init 7 = .ok (.newarray .int, 2) := by decide +kernel
theorem dX3_init_9 : decode cX3_init 9 = .ok (.putfield 9, 3) := by decide +kernel
theorem dX3_init_12 : decode cX3_init 12 = .ok (.aload_n 0, 1) := by decide +kernel
theorem dX3_init_13 : decode cX3_init 13 = .ok (.bipush 6, 2) := by decide +kernel
theorem dX3_init_15 : decode cX3_init 15 = .ok (.newarray .int, 2) := by decide +kernel
theorem dX3_init_17 : decode cX3_init 17 = .ok (.putfield 15, 3) := by decide +kernel
theorem dX3_init_20 : decode cX3_init 20 = .ok (.aload_n 0, 1) := by decide +kernel
theorem dX3_init_21 : decode cX3_init 21 = .ok (.iconst 4, 1) := by decide +kernel
theorem dX3_init_22 : decode cX3_init 22 = .ok (.newarray .int, 2) := by decide +kernel
theorem dX3_init_24 : decode cX3_init 24 = .ok (.putfield 18, 3) := by decide +kernel
theorem dX3_init_27 : decode cX3_init 27 = .ok (.aload_n 0, 1) := by decide +kernel
theorem dX3_init_28 : decode cX3_init 28 = .ok (.iconst 4, 1) := by decide +kernel
theorem dX3_init_29 : decode cX3_init 29 = .ok (.newarray .int, 2) := by decide +kernel
theorem dX3_init_31 : decode cX3_init 31 = .ok (.putfield 21, 3) := by decide +kernel
theorem dX3_init_34 : decode cX3_init 34 = .ok (.aload_n 0, 1) := by decide +kernel
theorem dX3_init_35 : decode cX3_init 35 = .ok (.iconst 4, 1) := by decide +kernel
theorem dX3_init_36 : decode cX3_init 36 = .ok (.newarray .boolean, 2) := by decide +kernel
theorem dX3_init_38 : decode cX3_init 38 = .ok (.putfield 24, 3) := by decide +kernel
theorem dX3_init_41 : decode cX3_init 41 = .ok (.return_, 1) := by decide +kernel
theorem dX3_clear_0 : decode cX3_clear 0 = .ok (.aload_n 0, 1) := by decide +kernel
theorem dX3_clear_1 : decode cX3_clear 1 = .ok (.iconst 0, 1) := by decide +kernel
theorem dX3_clear_2 : decode cX3_clear 2 = .ok (.putfield 28, 3) := by decide +kernel
theorem dX3_clear_5 : decode cX3_clear 5 = .ok (.aload_n 0, 1) := by decide +kernel
theorem dX3_clear_6 : decode cX3_clear 6 = .ok (.iconst 0, 1) := by decide +kernel
theorem dX3_clear_7 : decode cX3_clear 7 = .ok (.putfield 32, 3) := by decide +kernel
theorem dX3_clear_10 : decode cX3_clear 10 = .ok (.aload_n 0, 1) := by decide +kernel
theorem dX3_clear_11 : decode cX3_clear 11 = .ok (.iconst 0, 1) := by decide +kernel
theorem dX3_clear_12 : decode cX3_clear 12 = .ok (.putfield 35, 3) := by decide +kernel
theorem dX3_clear_15 : decode cX3_clear 15 = .ok (.aload_n 0, 1) := by decide +kernel
theorem dX3_clear_16 : decode cX3_clear 16 = .ok (.iconst 0, 1) := by decide +kernel
theorem dX3_clear_17 : decode cX3_clear 17 = .ok (.putfield 38, 3) := by decide +kernel
theorem dX3_clear_20 : decode cX3_clear 20 = .ok (.aload_n 0, 1) := by decide +kernel
theorem dX3_clear_21 : decode cX3_clear 21 = .ok (.iconst 0, 1) := by decide +kernel
theorem dX3_clear_22 : decode cX3_clear 22 = .ok (.putfield 41, 3) := by decide +kernel
theorem dX3_clear_25 : decode cX3_clear 25 = .ok (.return_, 1) := by decide +kernel
set_option maxRecDepth 20000 in
theorem ggX3_become_X3_clear : GoodIn wsX3_become wsX3_clear := goodIn_r _ [13, 1, 2, 3, 14, 15, 16, 17, 18, 19, 20, 21, 22, 23, 24, 25] (by decide +kernel) (by decide +kernel)
set_option maxRecDepth 20000 in
theorem gX3_become_X3_clear : GoodIn wsX3_become (wsV RX3 44 RX3 yX3_clear wsX3_clear) := goodIn_app (goodIn_of _ (by decide +kernel)) ggX3_become_X3_clear
theorem dX3_become_0 : decode cX3_become 0 = .ok (.aload_n 0, 1) := by decide +kernel
theorem dX3_become_1 : decode cX3_become 1 = .ok (.invokevirtual 44, 3) := by decide +kernel
theorem dX3_become_4 : decode cX3_become 4 = .ok (.aload_n 0, 1) := by decide +kernel
theorem dX3_become_5 : decode cX3_become 5 = .ok (.aload_n 1, 1) := by decide +kernel
theorem dX3_become_6 : decode cX3_become 6 = .ok (.getfield 28, 3) := by decide +kernel
theorem dX3_become_9 : decode cX3_become 9 = .ok (.putfield 28, 3) := by decide +kernel
theorem dX3_become_12 : decode cX3_become 12 = .ok (.aload_n 0, 1) := by decide +kernel
theorem dX3_become_13 : decode cX3_become 13 = .ok (.aload_n 1, 1) := by decide +kernel
theorem dX3_become_14 : decode cX3_become 14 = .ok (.getfield 32, 3) := by decide +kernel
theorem dX3_become_17 : decode cX3_become 17 = .ok (.putfield 32, 3) := by decide +kernel
theorem dX3_become_20 : decode cX3_become 20 = .ok (.aload_n 0, 1) := by decide +kernel
theorem dX3_become_21 : decode cX3_become 21 = .ok (.aload_n 1, 1) := by decide +kernel
theorem dX3_become_22 : decode cX3_become 22 = .ok (.getfield 35, 3) := by decide +kernel
theorem dX3_become_25 : decode cX3_become 25 = .ok (.putfield 35, 3) := by decide +kernel
theorem dX3_become_28 : decode cX3_become 28 = .ok (.iconst 0, 1) := by decide +kernel
theorem dX3_become_29 : decode cX3_become 29 = .ok (.istore_n 2, 1) := by decide +kernel
theorem dX3_become_30 : decode cX3_become 30 = .ok (.iload_n 2, 1) := by decide +kernel
theorem dX3_become_31 : decode cX3_become 31 = .ok (.aload_n 0, 1) := by decide +kernel
theorem dX3_become_32 : decode cX3_become 32 = .ok (.getfield 28, 3) := by decide +kernel
theorem dX3_become_35 : decode cX3_become 35 = .ok (.if_icmp .ge 33, 3) := by decide +kernel
theorem dX3_become_38 : decode cX3_become 38 = .ok (.aload_n 0, 1) := by decide +kernel
theorem dX3_become_39 : decode cX3_become 39 = .ok (.getfield 9, 3) := by decide +kernel
theorem dX3_become_42 : decode cX3_become 42 = .ok (.iload_n 2, 1) := by decide +kernel
theorem dX3_become_43 : decode cX3_become 43 = .ok (.aload_n 1, 1) := by decide +kernel
theorem dX3_become_44 : decode cX3_become 44 = .ok (.getfield 9, 3) := by decide +kernel
theorem dX3_become_47 : decode cX3_become 47 = .ok (.iload_n 2, 1) := by decide +kernel
theorem dX3_become_48 : decode cX3_become 48 = .ok (.iaload, 1) := by decide +kernel
theorem dX3_become_49 : decode cX3_become 49 = .ok (.iastore, 1) := by decide +kernel
theorem dX3_become_50 : decode cX3_become 50 = .ok (.aload_n 0, 1) := by decide +kernel
theorem dX3_become_51 : decode cX3_become 51 = .ok (.getfield 15, 3) := by decide +kernel
theorem dX3_become_54 : decode cX3_become 54 = .ok (.iload_n 2, 1) := by decide +kernel
theorem dX3_become_55 : decode cX3_become 55 = .ok (.aload_n 1, 1) := by decide +kernel
theorem dX3_become_56 : decode cX3_become 56 = .ok (.getfield 15, 3) := by decide +kernel
theorem dX3_become_59 : decode cX3_become 59 = .ok (.iload_n 2, 1) := by decide +kernel
theorem dX3_become_60 : decode cX3_become 60 = .ok (.iaload, 1) := by decide +kernel
theorem dX3_become_61 : decode cX3_become 61 = .ok (.iastore, 1) := by decide +kernel
theorem dX3_become_62 : decode cX3_become 62 = .ok (.iinc 2 1, 3) := by decide +kernel
theorem dX3_become_65 : decode cX3_become 65 = .ok (.goto (-35), 3) := by decide +kernel
theorem dX3_become_68 : decode cX3_become 68 = .ok (.iconst 0, 1) := by decide +kernel
theorem dX3_become_69 : decode cX3_become 69 = .ok (.istore_n 2, 1) := by decide +kernel
theorem dX3_become_70 : decode cX3_become 70 = .ok (.iload_n 2, 1) := by decide +kernel
theorem dX3_become_71 : decode cX3_become 71 = .ok (.aload_n 0, 1) := by decide +kernel
theorem dX3_become_72 : decode cX3_become 72 = .ok (.getfield 32, 3) := by decide +kernel
theorem dX3_become_75 : decode cX3_become 75 = .ok (.if_icmp .ge 45, 3) := by decide +kernel
theorem dX3_become_78 : decode cX3_become 78 = .ok (.aload_n 0, 1) := by decide +kernel
theorem dX3_become_79 : decode cX3_become 79 = .ok (.getfield 18, 3) := by decide +kernel
theorem dX3_become_82 : decode cX3_become 82 = .ok (.iload_n 2, 1) := by decide +kernel
theorem dX3_become_83 : decode cX3_become 83 = .ok (.aload_n 1, 1) := by decide +kernel
theorem dX3_become_84 : decode cX3_become 84 = .ok (.getfield 18, 3) := by decide +kernel
theorem dX3_become_87 : decode cX3_become 87 = .ok (.iload_n 2, 1) := by decide +kernel
theorem dX3_become_88 : decode cX3_become 88 = .ok (.iaload, 1) := by decide +kernel
theorem dX3_become_89 : decode cX3_become 89 = .ok (.iastore, 1) := by decide +kernel
theorem dX3_become_90 : decode cX3_become 90 = .ok (.aload_n 0, 1) := by decide +kernel
theorem dX3_become_91 : decode cX3_become 91 = .ok (.getfield 21, 3) := by decide +kernel
theorem dX3_become_94 : decode cX3_become 94 = .ok (.iload_n 2, 1) := by decide +kernel
theorem dX3_become_95 : decode cX3_become 95 = .ok (.aload_n 1, 1) := by decide +kernel
theorem dX3_become_96 : decode cX3_become 96 = .ok (.getfield 21, 3) := by decide +kernel
theorem dX3_become_99 : decode cX3_become 99 = .ok (.iload_n 2, 1) := by decide +kernel
theorem dX3_become_100 : decode cX3_become 100 = .ok (.iaload, 1) := by decide +kernel
theorem dX3_become_101 : decode cX3_become 101 = .ok (.iastore, 1) := by decide +kernel
theorem dX3_become_102 : decode cX3_become 102 = .ok (.aload_n 0, 1) := by decide +kernel
theorem dX3_become_103 : decode cX3_become 103 = .ok (.getfield 24, 3) := by decide +kernel
theorem dX3_become_106 : decode cX3_become 106 = .ok (.iload_n 2, 1) := by decide +kernel
theorem dX3_become_107 : decode cX3_become 107 = .ok (.aload_n 1, 1) := by decide +kernel
theorem dX3_become_108 : decode cX3_become 108 = .ok (.getfield 24, 3) := by decide +kernel
theorem dX3_become_111 : decode cX3_become 111 = .ok (.iload_n 2, 1) := by decide +kernel
theorem dX3_become_112 : decode cX3_become 112 = .ok (.baload, 1) := by decide +kernel
theorem dX3_become_113 : decode cX3_become 113 = .ok (.bastore, 1) := by decide +kernel
theorem dX3_become_114 : decode cX3_become 114 = .ok (.iinc 2 1, 3) := by decide +kernel
theorem dX3_become_117 : decode cX3_become 117 = .ok (.goto (-47), 3) := by decide +kernel
theorem dX3_become_120 : decode cX3_become 120 = .ok (.return_, 1) := by decide +kernel
theorem dX3_addHouse_0 : decode cX3_addHouse 0 = .ok (.aload_n 0, 1) := by decide +kernel
theorem dX3_addHouse_1 : decode cX3_addHouse 1 = .ok (.getfield 9, 3) := by decide +kernel
theorem dX3_addHouse_4 : decode cX3_addHouse 4 = .ok (.aload_n 0, 1) := by decide +kernel
theorem dX3_addHouse_5 : decode cX3_addHouse 5 = .ok (.getfield 28, 3) := by decide +kernel
theorem dX3_addHouse_8 : decode cX3_addHouse 8 = .ok (.iload_n 1, 1) := by decide +kernel
theorem dX3_addHouse_9 : decode cX3_addHouse 9 = .ok (.iastore, 1) := by decide +kernel
theorem dX3_addHouse_10 : decode cX3_addHouse 10 = .ok (.aload_n 0, 1) := by decide +kernel
theorem dX3_addHouse_11 : decode cX3_addHouse 11 = .ok (.getfield 15, 3) := by decide +kernel
theorem dX3_addHouse_14 : decode cX3_addHouse 14 = .ok (.aload_n 0, 1) := by decide +kernel
theorem dX3_addHouse_15 : decode cX3_addHouse 15 = .ok (.getfield 28, 3) := by decide +kernel
theorem dX3_addHouse_18 : decode cX3_addHouse 18 = .ok (.iload_n 2, 1) := by decide +kernel
theorem dX3_addHouse_19 : decode cX3_addHouse 19 = .ok (.iastore, 1) := by decide +kernel
theorem dX3_addHouse_20 : decode cX3_addHouse 20 = .ok (.aload_n 0, 1) := by decide +kernel
theorem dX3_addHouse_21 : decode cX3_addHouse 21 = .ok (.dup, 1) := by decide +kernel
theorem dX3_addHouse_22 : decode cX3_addHouse 22 = .ok (.getfield 28, 3) := by decide +kernel
theorem dX3_addHouse_25 : decode cX3_addHouse 25 = .ok (.iconst 1, 1) := by decide +kernel
theorem dX3_addHouse_26 : decode cX3_addHouse 26 = .ok (.iadd, 1) := by decide +kernel
theorem dX3_addHouse_27 : decode cX3_addHouse 27 = .ok (.putfield 28, 3) := by decide +kernel
theorem dX3_addHouse_30 : decode cX3_addHouse 30 = .ok (.return_, 1) := by decide +kernel
theorem dX3_addClock_0 : decode cX3_addClock 0 = .ok (.aload_n 0, 1) := by decide +kernel
theorem dX3_addClock_1 : decode cX3_addClock 1 = .ok (.getfield 18, 3) := by decide +kernel
theorem dX3_addClock_4 : decode cX3_addClock 4 = .ok (.aload_n 0, 1) := by decide +kernel
theorem dX3_addClock_5 : decode cX3_addClock 5 = .ok (.getfield 32, 3) := by decide +kernel
theorem dX3_addClock_8 : decode cX3_addClock 8 = .ok (.iload_n 1, 1) := by decide +kernel
theorem dX3_addClock_9 : decode cX3_addClock 9 = .ok (.iastore, 1) := by decide +kernel
theorem dX3_addClock_10 : decode cX3_addClock 10 = .ok (.aload_n 0, 1) := by decide +kernel
theorem dX3_addClock_11 : decode cX3_addClock 11 = .ok (.getfield 21, 3) := by decide +kernel
theorem dX3_addClock_14 : decode cX3_addClock 14 = .ok (.aload_n 0, 1) := by decide +kernel
theorem dX3_addClock_15 : decode cX3_addClock 15 = .ok (.getfield 32, 3) := by decide +kernel
theorem dX3_addClock_18 : decode cX3_addClock 18 = .ok (.iload_n 2, 1) := by decide +kernel
theorem dX3_addClock_19 : decode cX3_addClock 19 = .ok (.iastore, 1) := by decide +kernel
theorem dX3_addClock_20 : decode cX3_addClock 20 = .ok (.aload_n 0, 1) := by decide +kernel
theorem dX3_addClock_21 : decode cX3_addClock 21 = .ok (.getfield 24, 3) := by decide +kernel
theorem dX3_addClock_24 : decode cX3_addClock 24 = .ok (.aload_n 0, 1) := by decide +kernel
theorem dX3_addClock_25 : decode cX3_addClock 25 = .ok (.getfield 32, 3) := by decide +kernel
theorem dX3_addClock_28 : decode cX3_addClock 28 = .ok (.iconst 0, 1) := by decide +kernel
theorem dX3_addClock_29 : decode cX3_addClock 29 = .ok (.bastore, 1) := by decide +kernel
theorem dX3_addClock_30 : decode cX3_addClock 30 = .ok (.aload_n 0, 1) := by decide +kernel
theorem dX3_addClock_31 : decode cX3_addClock 31 = .ok (.dup, 1) := by decide +kernel
theorem dX3_addClock_32 : decode cX3_addClock 32 = .ok (.getfield 32, 3) := by decide +kernel
theorem dX3_addClock_35 : decode cX3_addClock 35 = .ok (.iconst 1, 1) := by decide +kernel
theorem dX3_addClock_36 : decode cX3_addClock 36 = .ok (.iadd, 1) := by decide +kernel
theorem dX3_addClock_37 : decode cX3_addClock 37 = .ok (.putfield 32, 3) := by decide +kernel
theorem dX3_addClock_40 : decode cX3_addClock 40 = .ok (.return_, 1) := by decide +kernel
theorem dX3_stands_0 : decode cX3_stands 0 = .ok (.aload_n 0, 1) := by decide +kernel
theorem dX3_stands_1 : decode cX3_stands 1 = .ok (.getfield 28, 3) := by decide +kernel
theorem dX3_stands_4 : decode cX3_stands 4 = .ok (.ifCond .le 7, 3) := by decide +kernel
theorem dX3_stands_7 : decode cX3_stands 7 = .ok (.iconst 1, 1) := by decide +kernel
theorem dX3_stands_8 : decode cX3_stands 8 = .ok (.goto 4, 3) := by decide +kernel
theorem dX3_stands_11 : decode cX3_stands 11 = .ok (.iconst 0, 1) := by decide +kernel
theorem dX3_stands_12 : decode cX3_stands 12 = .ok (.ireturn, 1) := by decide +kernel
theorem dX3_hasHouse_0 : decode cX3_hasHouse 0 = .ok (.iload_n 1, 1) := by decide +kernel
theorem dX3_hasHouse_1 : decode cX3_hasHouse 1 = .ok (.ifCond .lt 15, 3) := by decide +kernel
theorem dX3_hasHouse_4 : decode cX3_hasHouse 4 = .ok (.iload_n 1, 1) := by decide +kernel
theorem dX3_hasHouse_5 : decode cX3_hasHouse 5 = .ok (.aload_n 0, 1) := by decide +kernel
theorem dX3_hasHouse_6 : decode cX3_hasHouse 6 = .ok (.getfield 28, 3) := by decide +kernel
theorem dX3_hasHouse_9 : decode cX3_hasHouse 9 = .ok (.if_icmp .ge 7, 3) := by decide +kernel
theorem dX3_hasHouse_12 : decode cX3_hasHouse 12 = .ok (.iconst 1, 1) := by decide +kernel
theorem dX3_hasHouse_13 : decode cX3_hasHouse 13 = .ok (.goto 4, 3) := by decide +kernel
theorem dX3_hasHouse_16 : decode cX3_hasHouse 16 = .ok (.iconst 0, 1) := by decide +kernel
theorem dX3_hasHouse_17 : decode cX3_hasHouse 17 = .ok (.ireturn, 1) := by decide +kernel
theorem dX3_hasClock_0 : decode cX3_hasClock 0 = .ok (.iload_n 1, 1) := by decide +kernel
theorem dX3_hasClock_1 : decode cX3_hasClock 1 = .ok (.ifCond .lt 15, 3) := by decide +kernel
theorem dX3_hasClock_4 : decode cX3_hasClock 4 = .ok (.iload_n 1, 1) := by decide +kernel
theorem dX3_hasClock_5 : decode cX3_hasClock 5 = .ok (.aload_n 0, 1) := by decide +kernel
theorem dX3_hasClock_6 : decode cX3_hasClock 6 = .ok (.getfield 32, 3) := by decide +kernel
theorem dX3_hasClock_9 : decode cX3_hasClock 9 = .ok (.if_icmp .ge 7, 3) := by decide +kernel
theorem dX3_hasClock_12 : decode cX3_hasClock 12 = .ok (.iconst 1, 1) := by decide +kernel
theorem dX3_hasClock_13 : decode cX3_hasClock 13 = .ok (.goto 4, 3) := by decide +kernel
theorem dX3_hasClock_16 : decode cX3_hasClock 16 = .ok (.iconst 0, 1) := by decide +kernel
theorem dX3_hasClock_17 : decode cX3_hasClock 17 = .ok (.ireturn, 1) := by decide +kernel
theorem dX3_needs_0 : decode cX3_needs 0 = .ok (.aload_n 0, 1) := by decide +kernel
theorem dX3_needs_1 : decode cX3_needs 1 = .ok (.getfield 9, 3) := by decide +kernel
theorem dX3_needs_4 : decode cX3_needs 4 = .ok (.iload_n 1, 1) := by decide +kernel
theorem dX3_needs_5 : decode cX3_needs 5 = .ok (.iaload, 1) := by decide +kernel
theorem dX3_needs_6 : decode cX3_needs 6 = .ok (.lookupswitch 44 #[(1, 26), (2, 35)], 26) := by decide +kernel
theorem dX3_needs_32 : decode cX3_needs 32 = .ok (.aload_n 0, 1) := by decide +kernel
theorem dX3_needs_33 : decode cX3_needs 33 = .ok (.getfield 15, 3) := by decide +kernel
theorem dX3_needs_36 : decode cX3_needs 36 = .ok (.iload_n 1, 1) := by decide +kernel
theorem dX3_needs_37 : decode cX3_needs 37 = .ok (.iaload, 1) := by decide +kernel
theorem dX3_needs_38 : decode cX3_needs 38 = .ok (.iconst 1, 1) := by decide +kernel
theorem dX3_needs_39 : decode cX3_needs 39 = .ok (.isub, 1) := by decide +kernel
theorem dX3_needs_40 : decode cX3_needs 40 = .ok (.ireturn, 1) := by decide +kernel
theorem dX3_needs_41 : decode cX3_needs 41 = .ok (.aload_n 0, 1) := by decide +kernel
theorem dX3_needs_42 : decode cX3_needs 42 = .ok (.getfield 15, 3) := by decide +kernel
theorem dX3_needs_45 : decode cX3_needs 45 = .ok (.iload_n 1, 1) := by decide +kernel
theorem dX3_needs_46 : decode cX3_needs 46 = .ok (.iaload, 1) := by decide +kernel
theorem dX3_needs_47 : decode cX3_needs 47 = .ok (.iconst 2, 1) := by decide +kernel
theorem dX3_needs_48 : decode cX3_needs 48 = .ok (.idiv, 1) := by decide +kernel
theorem dX3_needs_49 : decode cX3_needs 49 = .ok (.ireturn, 1) := by decide +kernel
theorem dX3_needs_50 : decode cX3_needs 50 = .ok (.aload_n 0, 1) := by decide +kernel
theorem dX3_needs_51 : decode cX3_needs 51 = .ok (.getfield 15, 3) := by decide +kernel
theorem dX3_needs_54 : decode cX3_needs 54 = .ok (.iload_n 1, 1) := by decide +kernel
theorem dX3_needs_55 : decode cX3_needs 55 = .ok (.iaload, 1) := by decide +kernel
theorem dX3_needs_56 : decode cX3_needs 56 = .ok (.ireturn, 1) := by decide +kernel
set_option maxRecDepth 20000 in
theorem ggX3_sound_X3_soundIf : GoodIn wsX3_sound wsX3_soundIf := goodIn_r _ [6, 7, 8, 9, 10, 11, 12, 13, 14, 15, 16, 17] (by decide +kernel) (by decide +kernel)
set_option maxRecDepth 20000 in
theorem gX3_sound_X3_soundIf : GoodIn wsX3_sound (wsV RX3 47 RX3 yX3_soundIf wsX3_soundIf) := goodIn_app (goodIn_of _ (by decide +kernel)) ggX3_sound_X3_soundIf
theorem dX3_sound_0 : decode cX3_sound 0 = .ok (.aload_n 0, 1) := by decide +kernel
theorem dX3_sound_1 : decode cX3_sound 1 = .ok (.iload_n 1, 1) := by decide +kernel
theorem dX3_sound_2 : decode cX3_sound 2 = .ok (.aload_n 0, 1) := by decide +kernel
theorem dX3_sound_3 : decode cX3_sound 3 = .ok (.getfield 24, 3) := by decide +kernel
theorem dX3_sound_6 : decode cX3_sound 6 = .ok (.iload_n 1, 1) := by decide +kernel
theorem dX3_sound_7 : decode cX3_sound 7 = .ok (.baload, 1) := by decide +kernel
theorem dX3_sound_8 : decode cX3_sound 8 = .ok (.invokevirtual 47, 3) := by decide +kernel
theorem dX3_sound_11 : decode cX3_sound 11 = .ok (.ireturn, 1) := by decide +kernel
theorem dX3_soundIf_0 : decode cX3_soundIf 0 = .ok (.iload_n 2, 1) := by decide +kernel
theorem dX3_soundIf_1 : decode cX3_soundIf 1 = .ok (.ifCond .eq 14, 3) := by decide +kernel
theorem dX3_soundIf_4 : decode cX3_soundIf 4 = .ok (.aload_n 0, 1) := by decide +kernel
theorem dX3_soundIf_5 : decode cX3_soundIf 5 = .ok (.getfield 18, 3) := by decide +kernel
theorem dX3_soundIf_8 : decode cX3_soundIf 8 = .ok (.iload_n 1, 1) := by decide +kernel
theorem dX3_soundIf_9 : decode cX3_soundIf 9 = .ok (.iaload, 1) := by decide +kernel
theorem dX3_soundIf_10 : decode cX3_soundIf 10 = .ok (.iconst 2, 1) := by decide +kernel
theorem dX3_soundIf_11 : decode cX3_soundIf 11 = .ok (.idiv, 1) := by decide +kernel
theorem dX3_soundIf_12 : decode cX3_soundIf 12 = .ok (.goto 9, 3) := by decide +kernel
theorem dX3_soundIf_15 : decode cX3_soundIf 15 = .ok (.aload_n 0, 1) := by decide +kernel
theorem dX3_soundIf_16 : decode cX3_soundIf 16 = .ok (.getfield 18, 3) := by decide +kernel
theorem dX3_soundIf_19 : decode cX3_soundIf 19 = .ok (.iload_n 1, 1) := by decide +kernel
theorem dX3_soundIf_20 : decode cX3_soundIf 20 = .ok (.iaload, 1) := by decide +kernel
theorem dX3_soundIf_21 : decode cX3_soundIf 21 = .ok (.ireturn, 1) := by decide +kernel
theorem dX3_heard_0 : decode cX3_heard 0 = .ok (.iload_n 2, 1) := by decide +kernel
theorem dX3_heard_1 : decode cX3_heard 1 = .ok (.aload_n 0, 1) := by decide +kernel
theorem dX3_heard_2 : decode cX3_heard 2 = .ok (.getfield 35, 3) := by decide +kernel
theorem dX3_heard_5 : decode cX3_heard 5 = .ok (.iload_n 1, 1) := by decide +kernel
theorem dX3_heard_6 : decode cX3_heard 6 = .ok (.iload_n 3, 1) := by decide +kernel
theorem dX3_heard_7 : decode cX3_heard 7 = .ok (.isub, 1) := by decide +kernel
theorem dX3_heard_8 : decode cX3_heard 8 = .ok (.invokestatic 51, 3) := by decide +kernel
theorem dX3_heard_11 : decode cX3_heard 11 = .ok (.imul, 1) := by decide +kernel
theorem dX3_heard_12 : decode cX3_heard 12 = .ok (.isub, 1) := by decide +kernel
theorem dX3_heard_13 : decode cX3_heard 13 = .ok (.ireturn, 1) := by decide +kernel
theorem dX3_spare_0 : decode cX3_spare 0 = .ok (.iload_n 0, 1) := by decide +kernel
theorem dX3_spare_1 : decode cX3_spare 1 = .ok (.ifCond .le 14, 3) := by decide +kernel
theorem dX3_spare_4 : decode cX3_spare 4 = .ok (.iload_n 0, 1) := by decide +kernel
theorem dX3_spare_5 : decode cX3_spare 5 = .ok (.iload_n 1, 1) := by decide +kernel
theorem dX3_spare_6 : decode cX3_spare 6 = .ok (.if_icmp .lt 9, 3) := by decide +kernel
theorem dX3_spare_9 : decode cX3_spare 9 = .ok (.iload_n 0, 1) := by decide +kernel
theorem dX3_spare_10 : decode cX3_spare 10 = .ok (.iload_n 1, 1) := by decide +kernel
theorem dX3_spare_11 : decode cX3_spare 11 = .ok (.isub, 1) := by decide +kernel
theorem dX3_spare_12 : decode cX3_spare 12 = .ok (.goto 4, 3) := by decide +kernel
theorem dX3_spare_15 : decode cX3_spare 15 = .ok (.iconst (-1), 1) := by decide +kernel
theorem dX3_spare_16 : decode cX3_spare 16 = .ok (.ireturn, 1) := by decide +kernel
set_option maxRecDepth 20000 in
theorem ggX3_wakes_X3_heard : GoodIn wsX3_wakes wsX3_heard := goodIn_r _ [5, 6, 7, 8, 9, 10, 20, 21, 22, 23, 24, 25, 26, 27, 28, 29] (by decide +kernel) (by decide +kernel)
set_option maxRecDepth 20000 in
theorem gX3_wakes_X3_heard : GoodIn wsX3_wakes (wsV RX3 57 RX3 yX3_heard wsX3_heard) := goodIn_app (goodIn_of _ (by decide +kernel)) ggX3_wakes_X3_heard
set_option maxRecDepth 20000 in
theorem ggX3_wakes_X3_needs : GoodIn wsX3_wakes wsX3_needs := goodIn_r _ [14, 15, 16, 20, 21, 22, 23, 24, 25, 26, 27, 28, 29] (by decide +kernel) (by decide +kernel)
set_option maxRecDepth 20000 in
theorem gX3_wakes_X3_needs : GoodIn wsX3_wakes (wsV RX3 61 RX3 yX3_needs wsX3_needs) := goodIn_app (goodIn_of _ (by decide +kernel)) ggX3_wakes_X3_needs
set_option maxRecDepth 20000 in
theorem ggX3_wakes_X3_spare : GoodIn wsX3_wakes wsX3_spare := goodIn_r _ [19] (by decide +kernel) (by decide +kernel)
set_option maxRecDepth 20000 in
theorem gX3_wakes_X3_spare : GoodIn wsX3_wakes (va_wsS RX3 64 yX3_spare wsX3_spare) := goodIn_app (goodIn_of _ (by decide +kernel)) ggX3_wakes_X3_spare
theorem dX3_wakes_0 : decode cX3_wakes 0 = .ok (.aload_n 0, 1) := by decide +kernel
theorem dX3_wakes_1 : decode cX3_wakes 1 = .ok (.iload_n 1, 1) := by decide +kernel
theorem dX3_wakes_2 : decode cX3_wakes 2 = .ok (.iload_n 2, 1) := by decide +kernel
theorem dX3_wakes_3 : decode cX3_wakes 3 = .ok (.iload_n 3, 1) := by decide +kernel
theorem dX3_wakes_4 : decode cX3_wakes 4 = .ok (.invokevirtual 57, 3) := by decide +kernel
theorem dX3_wakes_7 : decode cX3_wakes 7 = .ok (.aload_n 0, 1) := by decide +kernel
theorem dX3_wakes_8 : decode cX3_wakes 8 = .ok (.iload_n 1, 1) := by decide +kernel
theorem dX3_wakes_9 : decode cX3_wakes 9 = .ok (.invokevirtual 61, 3) := by decide +kernel
theorem dX3_wakes_12 : decode cX3_wakes 12 = .ok (.invokestatic 64, 3) := by decide +kernel
theorem dX3_wakes_15 : decode cX3_wakes 15 = .ok (.iconst (-1), 1) := by decide +kernel
theorem dX3_wakes_16 : decode cX3_wakes 16 = .ok (.if_icmp .eq 7, 3) := by decide +kernel
theorem dX3_wakes_19 : decode cX3_wakes 19 = .ok (.iconst 1, 1) := by decide +kernel
theorem dX3_wakes_20 : decode cX3_wakes 20 = .ok (.goto 4, 3) := by decide +kernel
theorem dX3_wakes_23 : decode cX3_wakes 23 = .ok (.iconst 0, 1) := by decide +kernel
theorem dX3_wakes_24 : decode cX3_wakes 24 = .ok (.ireturn, 1) := by decide +kernel
set_option maxRecDepth 20000 in
theorem ggX3_wakers_X3_sound : GoodIn wsX3_wakers wsX3_sound := goodIn_r _ [6, 7, 8, 9, 10, 5, 11, 12, 35, 36, 37, 38, 39, 40, 41, 42, 43, 44] (by decide +kernel) (by decide +kernel)
set_option maxRecDepth 20000 in
theorem gX3_wakers_X3_sound : GoodIn wsX3_wakers (wsV RX3 68 RX3 yX3_sound wsX3_sound) := goodIn_app (goodIn_of _ (by decide +kernel)) ggX3_wakers_X3_sound
set_option maxRecDepth 20000 in
theorem ggX3_wakers_X3_wakes : GoodIn wsX3_wakers wsX3_wakes := goodIn_r _ [16, 17, 18, 19, 5, 20, 21, 22, 23, 24, 25, 26, 27, 28, 29, 30, 31, 32, 33, 34, 35, 36, 37, 38, 39, 40, 41, 42, 43, 44] (by decide +kernel) (by decide +kernel)
set_option maxRecDepth 20000 in
theorem gX3_wakers_X3_wakes : GoodIn wsX3_wakers (wsV RX3 71 RX3 yX3_wakes wsX3_wakes) := goodIn_app (goodIn_of _ (by decide +kernel)) ggX3_wakers_X3_wakes
theorem dX3_wakers_0 : decode cX3_wakers 0 = .ok (.aload_n 0, 1) := by decide +kernel
theorem dX3_wakers_1 : decode cX3_wakers 1 = .ok (.iload_n 1, 1) := by decide +kernel
theorem dX3_wakers_2 : decode cX3_wakers 2 = .ok (.invokevirtual 68, 3) := by decide +kernel
theorem dX3_wakers_5 : decode cX3_wakers 5 = .ok (.istore_n 3, 1) := by decide +kernel
theorem dX3_wakers_6 : decode cX3_wakers 6 = .ok (.iconst 0, 1) := by decide +kernel
theorem dX3_wakers_7 : decode cX3_wakers 7 = .ok (.istore 4, 2) := by decide +kernel
theorem dX3_wakers_9 : decode cX3_wakers 9 = .ok (.iconst 0, 1) := by decide +kernel
theorem dX3_wakers_10 : decode cX3_wakers 10 = .ok (.istore 5, 2) := by decide +kernel
theorem dX3_wakers_12 : decode cX3_wakers 12 = .ok (.iload 5, 2) := by decide +kernel
theorem dX3_wakers_14 : decode cX3_wakers 14 = .ok (.aload_n 0, 1) := by decide +kernel
theorem dX3_wakers_15 : decode cX3_wakers 15 = .ok (.getfield 28, 3) := by decide +kernel
theorem dX3_wakers_18 : decode cX3_wakers 18 = .ok (.if_icmp .ge 29, 3) := by decide +kernel
theorem dX3_wakers_21 : decode cX3_wakers 21 = .ok (.aload_n 0, 1) := by decide +kernel
theorem dX3_wakers_22 : decode cX3_wakers 22 = .ok (.iload 5, 2) := by decide +kernel
theorem dX3_wakers_24 : decode cX3_wakers 24 = .ok (.iload_n 3, 1) := by decide +kernel
theorem dX3_wakers_25 : decode cX3_wakers 25 = .ok (.iload_n 2, 1) := by decide +kernel
theorem dX3_wakers_26 : decode cX3_wakers 26 = .ok (.invokevirtual 71, 3) := by decide +kernel
theorem dX3_wakers_29 : decode cX3_wakers 29 = .ok (.ifCond .eq 12, 3) := by decide +kernel
theorem dX3_wakers_32 : decode cX3_wakers 32 = .ok (.iload 4, 2) := by decide +kernel
theorem dX3_wakers_34 : decode cX3_wakers 34 = .ok (.iconst 1, 1) := by decide +kernel
theorem dX3_wakers_35 : decode cX3_wakers 35 = .ok (.iload 5, 2) := by decide +kernel
theorem dX3_wakers_37 : decode cX3_wakers 37 = .ok (.ishl, 1) := by decide +kernel
theorem dX3_wakers_38 : decode cX3_wakers 38 = .ok (.ior, 1) := by decide +kernel
theorem dX3_wakers_39 : decode cX3_wakers 39 = .ok (.istore 4, 2) := by decide +kernel
theorem dX3_wakers_41 : decode cX3_wakers 41 = .ok (.iinc 5 1, 3) := by decide +kernel
theorem dX3_wakers_44 : decode cX3_wakers 44 = .ok (.goto (-32), 3) := by decide +kernel
theorem dX3_wakers_47 : decode cX3_wakers 47 = .ok (.iload 4, 2) := by decide +kernel
theorem dX3_wakers_49 : decode cX3_wakers 49 = .ok (.ireturn, 1) := by decide +kernel
set_option maxRecDepth 20000 in
theorem ggX3_owner_X3_sound : GoodIn wsX3_owner wsX3_sound := goodIn_r _ [6, 7, 8, 9, 10, 5, 11, 12, 31, 32, 33, 34, 35, 36, 37, 38, 39, 40] (by decide +kernel) (by decide +kernel)
set_option maxRecDepth 20000 in
theorem gX3_owner_X3_sound : GoodIn wsX3_owner (wsV RX3 68 RX3 yX3_sound wsX3_sound) := goodIn_app (goodIn_of _ (by decide +kernel)) ggX3_owner_X3_sound
set_option maxRecDepth 20000 in
theorem ggX3_owner_X3_heard : GoodIn wsX3_owner wsX3_heard := goodIn_r _ [16, 17, 18, 19, 20, 21, 31, 32, 33, 34, 35, 36, 37, 38, 39, 40] (by decide +kernel) (by decide +kernel)
set_option maxRecDepth 20000 in
theorem gX3_owner_X3_heard : GoodIn wsX3_owner (wsV RX3 57 RX3 yX3_heard wsX3_heard) := goodIn_app (goodIn_of _ (by decide +kernel)) ggX3_owner_X3_heard
set_option maxRecDepth 20000 in
theorem ggX3_owner_X3_needs : GoodIn wsX3_owner wsX3_needs := goodIn_r _ [25, 26, 27, 31, 32, 33, 34, 35, 36, 37, 38, 39, 40] (by decide +kernel) (by decide +kernel)
set_option maxRecDepth 20000 in
theorem gX3_owner_X3_needs : GoodIn wsX3_owner (wsV RX3 61 RX3 yX3_needs wsX3_needs) := goodIn_app (goodIn_of _ (by decide +kernel)) ggX3_owner_X3_needs
set_option maxRecDepth 20000 in
theorem ggX3_owner_X3_spare : GoodIn wsX3_owner wsX3_spare := goodIn_r _ [30] (by decide +kernel) (by decide +kernel)
set_option maxRecDepth 20000 in
theorem gX3_owner_X3_spare : GoodIn wsX3_owner (va_wsS RX3 64 yX3_spare wsX3_spare) := goodIn_app (goodIn_of _ (by decide +kernel)) ggX3_owner_X3_spare
theorem dX3_owner_0 : decode cX3_owner 0 = .ok (.aload_n 0, 1) := by decide +kernel
theorem dX3_owner_1 : decode cX3_owner 1 = .ok (.iload_n 1, 1) := by decide +kernel
theorem dX3_owner_2 : decode cX3_owner 2 = .ok (.invokevirtual 68, 3) := by decide +kernel
theorem dX3_owner_5 : decode cX3_owner 5 = .ok (.istore_n 3, 1) := by decide +kernel
theorem dX3_owner_6 : decode cX3_owner 6 = .ok (.bipush (-9), 2) := by decide +kernel
theorem dX3_owner_8 : decode cX3_owner 8 = .ok (.istore 4, 2) := by decide +kernel
theorem dX3_owner_10 : decode cX3_owner 10 = .ok (.iconst (-1), 1) := by decide +kernel
theorem dX3_owner_11 : decode cX3_owner 11 = .ok (.istore 5, 2) := by decide +kernel
theorem dX3_owner_13 : decode cX3_owner 13 = .ok (.iconst 0, 1) := by decide +kernel
theorem dX3_owner_14 : decode cX3_owner 14 = .ok (.istore 6, 2) := by decide +kernel
theorem dX3_owner_16 : decode cX3_owner 16 = .ok (.iload 6, 2) := by decide +kernel
theorem dX3_owner_18 : decode cX3_owner 18 = .ok (.aload_n 0, 1) := by decide +kernel
theorem dX3_owner_19 : decode cX3_owner 19 = .ok (.getfield 28, 3) := by decide +kernel
theorem dX3_owner_22 : decode cX3_owner 22 = .ok (.if_icmp .ge 43, 3) := by decide +kernel
theorem dX3_owner_25 : decode cX3_owner 25 = .ok (.aload_n 0, 1) := by decide +kernel
theorem dX3_owner_26 : decode cX3_owner 26 = .ok (.iload 6, 2) := by decide +kernel
theorem dX3_owner_28 : decode cX3_owner 28 = .ok (.iload_n 3, 1) := by decide +kernel
theorem dX3_owner_29 : decode cX3_owner 29 = .ok (.iload_n 2, 1) := by decide +kernel
theorem dX3_owner_30 : decode cX3_owner 30 = .ok (.invokevirtual 57, 3) := by decide +kernel
theorem dX3_owner_33 : decode cX3_owner 33 = .ok (.aload_n 0, 1) := by decide +kernel
theorem dX3_owner_34 : decode cX3_owner 34 = .ok (.iload 6, 2) := by decide +kernel
theorem dX3_owner_36 : decode cX3_owner 36 = .ok (.invokevirtual 61, 3) := by decide +kernel
theorem dX3_owner_39 : decode cX3_owner 39 = .ok (.invokestatic 64, 3) := by decide +kernel
theorem dX3_owner_42 : decode cX3_owner 42 = .ok (.istore 7, 2) := by decide +kernel
theorem dX3_owner_44 : decode cX3_owner 44 = .ok (.iload 7, 2) := by decide +kernel
theorem dX3_owner_46 : decode cX3_owner 46 = .ok (.iload 5, 2) := by decide +kernel
theorem dX3_owner_48 : decode cX3_owner 48 = .ok (.if_icmp .le 11, 3) := by decide +kernel
theorem dX3_owner_51 : decode cX3_owner 51 = .ok (.iload 7, 2) := by decide +kernel
theorem dX3_owner_53 : decode cX3_owner 53 = .ok (.istore 5, 2) := by decide +kernel
theorem dX3_owner_55 : decode cX3_owner 55 = .ok (.iload 6, 2) := by decide +kernel
theorem dX3_owner_57 : decode cX3_owner 57 = .ok (.istore 4, 2) := by decide +kernel
theorem dX3_owner_59 : decode cX3_owner 59 = .ok (.iinc 6 1, 3) := by decide +kernel
theorem dX3_owner_62 : decode cX3_owner 62 = .ok (.goto (-46), 3) := by decide +kernel
theorem dX3_owner_65 : decode cX3_owner 65 = .ok (.iload 4, 2) := by decide +kernel
theorem dX3_owner_67 : decode cX3_owner 67 = .ok (.ireturn, 1) := by decide +kernel
set_option maxRecDepth 20000 in
theorem ggX3_placeAfterStroke_X3_owner : GoodIn wsX3_placeAfterStroke wsX3_owner := goodIn_r _ [5, 6, 7, 8, 9, 4, 10, 11, 12, 13, 14, 15, 16, 17, 18, 19, 20, 21, 22, 23, 24, 25, 26, 27, 28, 29, 30, 31, 32, 33, 34, 35, 36, 37, 38, 39, 40, 41, 42, 43, 44] (by decide +kernel) (by decide +kernel)
set_option maxRecDepth 20000 in
theorem gX3_placeAfterStroke_X3_owner : GoodIn wsX3_placeAfterStroke (wsV RX3 75 RX3 yX3_owner wsX3_owner) := goodIn_app (goodIn_of _ (by decide +kernel)) ggX3_placeAfterStroke_X3_owner
theorem dX3_placeAfterStroke_0 : decode cX3_placeAfterStroke 0 = .ok (.aload_n 0, 1) := by decide +kernel
theorem dX3_placeAfterStroke_1 : decode cX3_placeAfterStroke 1 = .ok (.iload_n 1, 1) := by decide +kernel
theorem dX3_placeAfterStroke_2 : decode cX3_placeAfterStroke 2 = .ok (.iload_n 2, 1) := by decide +kernel
theorem dX3_placeAfterStroke_3 : decode cX3_placeAfterStroke 3 = .ok (.invokevirtual 75, 3) := by decide +kernel
theorem dX3_placeAfterStroke_6 : decode cX3_placeAfterStroke 6 = .ok (.istore_n 3, 1) := by decide +kernel
theorem dX3_placeAfterStroke_7 : decode cX3_placeAfterStroke 7 = .ok (.iload_n 3, 1) := by decide +kernel
theorem dX3_placeAfterStroke_8 : decode cX3_placeAfterStroke 8 = .ok (.bipush (-9), 2) := by decide +kernel
theorem dX3_placeAfterStroke_10 : decode cX3_placeAfterStroke 10 = .ok (.if_icmp .ne 7, 3) := by decide +kernel
theorem dX3_placeAfterStroke_13 : decode cX3_placeAfterStroke 13 = .ok (.iload_n 2, 1) := by decide +kernel
theorem dX3_placeAfterStroke_14 : decode cX3_placeAfterStroke 14 = .ok (.goto 4, 3) := by decide +kernel
theorem dX3_placeAfterStroke_17 : decode cX3_placeAfterStroke 17 = .ok (.iload_n 3, 1) := by decide +kernel
theorem dX3_placeAfterStroke_18 : decode cX3_placeAfterStroke 18 = .ok (.ireturn, 1) := by decide +kernel
set_option maxRecDepth 20000 in
theorem ggX3_strike_X3_owner : GoodIn wsX3_strike wsX3_owner := goodIn_r _ [8, 9, 10, 11, 12, 7, 13, 14, 15, 16, 17, 18, 19, 20, 21, 22, 23, 24, 25, 26, 27, 28, 29, 30, 31, 32, 33, 34, 35, 36, 37, 38, 39, 40, 41, 42, 43, 44, 45, 46, 47] (by decide +kernel) (by decide +kernel)
set_option maxRecDepth 20000 in
theorem gX3_strike_X3_owner : GoodIn wsX3_strike (wsV RX3 75 RX3 yX3_owner wsX3_owner) := goodIn_app (goodIn_of _ (by decide +kernel)) ggX3_strike_X3_owner
theorem dX3_strike_0 : decode cX3_strike 0 = .ok (.aload_n 0, 1) := by decide +kernel
theorem dX3_strike_1 : decode cX3_strike 1 = .ok (.iload_n 1, 1) := by decide +kernel
theorem dX3_strike_2 : decode cX3_strike 2 = .ok (.aload_n 0, 1) := by decide +kernel
theorem dX3_strike_3 : decode cX3_strike 3 = .ok (.getfield 21, 3) := by decide +kernel
theorem dX3_strike_6 : decode cX3_strike 6 = .ok (.iload_n 1, 1) := by decide +kernel
theorem dX3_strike_7 : decode cX3_strike 7 = .ok (.iaload, 1) := by decide +kernel
theorem dX3_strike_8 : decode cX3_strike 8 = .ok (.invokevirtual 75, 3) := by decide +kernel
theorem dX3_strike_11 : decode cX3_strike 11 = .ok (.istore_n 2, 1) := by decide +kernel
theorem dX3_strike_12 : decode cX3_strike 12 = .ok (.iload_n 2, 1) := by decide +kernel
theorem dX3_strike_13 : decode cX3_strike 13 = .ok (.bipush (-9), 2) := by decide +kernel
theorem dX3_strike_15 : decode cX3_strike 15 = .ok (.if_icmp .ne 16, 3) := by decide +kernel
theorem dX3_strike_18 : decode cX3_strike 18 = .ok (.aload_n 0, 1) := by decide +kernel
theorem dX3_strike_19 : decode cX3_strike 19 = .ok (.dup, 1) := by decide +kernel
theorem dX3_strike_20 : decode cX3_strike 20 = .ok (.getfield 41, 3) := by decide +kernel
theorem dX3_strike_23 : decode cX3_strike 23 = .ok (.iconst 1, 1) := by decide +kernel
theorem dX3_strike_24 : decode cX3_strike 24 = .ok (.iadd, 1) := by decide +kernel
theorem dX3_strike_25 : decode cX3_strike 25 = .ok (.putfield 41, 3) := by decide +kernel
theorem dX3_strike_28 : decode cX3_strike 28 = .ok (.goto 30, 3) := by decide +kernel
theorem dX3_strike_31 : decode cX3_strike 31 = .ok (.iload_n 2, 1) := by decide +kernel
theorem dX3_strike_32 : decode cX3_strike 32 = .ok (.aload_n 0, 1) := by decide +kernel
theorem dX3_strike_33 : decode cX3_strike 33 = .ok (.getfield 21, 3) := by decide +kernel
theorem dX3_strike_36 : decode cX3_strike 36 = .ok (.iload_n 1, 1) := by decide +kernel
theorem dX3_strike_37 : decode cX3_strike 37 = .ok (.iaload, 1) := by decide +kernel
theorem dX3_strike_38 : decode cX3_strike 38 = .ok (.if_icmp .eq 20, 3) := by decide +kernel
theorem dX3_strike_41 : decode cX3_strike 41 = .ok (.aload_n 0, 1) := by decide +kernel
theorem dX3_strike_42 : decode cX3_strike 42 = .ok (.getfield 21, 3) := by decide +kernel
theorem dX3_strike_45 : decode cX3_strike 45 = .ok (.iload_n 1, 1) := by decide +kernel
theorem dX3_strike_46 : decode cX3_strike 46 = .ok (.iload_n 2, 1) := by decide +kernel
theorem dX3_strike_47 : decode cX3_strike 47 = .ok (.iastore, 1) := by decide +kernel
theorem dX3_strike_48 : decode cX3_strike 48 = .ok (.aload_n 0, 1) := by decide +kernel
theorem dX3_strike_49 : decode cX3_strike 49 = .ok (.dup, 1) := by decide +kernel
theorem dX3_strike_50 : decode cX3_strike 50 = .ok (.getfield 38, 3) := by decide +kernel
theorem dX3_strike_53 : decode cX3_strike 53 = .ok (.iconst 1, 1) := by decide +kernel
theorem dX3_strike_54 : decode cX3_strike 54 = .ok (.iadd, 1) := by decide +kernel
theorem dX3_strike_55 : decode cX3_strike 55 = .ok (.putfield 38, 3) := by decide +kernel
theorem dX3_strike_58 : decode cX3_strike 58 = .ok (.iload_n 2, 1) := by decide +kernel
theorem dX3_strike_59 : decode cX3_strike 59 = .ok (.ireturn, 1) := by decide +kernel
set_option maxRecDepth 20000 in
theorem ggX3_passNights_X3_strike : GoodIn wsX3_passNights wsX3_strike := goodIn_r _ [6, 7, 8, 9, 10, 11, 12, 5, 13, 14, 15, 16, 17, 18, 19, 20, 21, 22, 23, 24, 25, 26, 27, 28, 29, 30, 31, 32, 33, 34, 35, 36, 37, 38, 39, 40, 41, 42, 43, 44, 45, 46, 47, 48, 49, 50, 51, 52] (by decide +kernel) (by decide +kernel)
set_option maxRecDepth 20000 in
theorem gX3_passNights_X3_strike : GoodIn wsX3_passNights (wsV RX3 78 RX3 yX3_strike wsX3_strike) := goodIn_app (goodIn_of _ (by decide +kernel)) ggX3_passNights_X3_strike
theorem dX3_passNights_0 : decode cX3_passNights 0 = .ok (.iconst 0, 1) := by decide +kernel
theorem dX3_passNights_1 : decode cX3_passNights 1 = .ok (.istore_n 2, 1) := by decide +kernel
theorem dX3_passNights_2 : decode cX3_passNights 2 = .ok (.iload_n 2, 1) := by decide +kernel
theorem dX3_passNights_3 : decode cX3_passNights 3 = .ok (.iload_n 1, 1) := by decide +kernel
theorem dX3_passNights_4 : decode cX3_passNights 4 = .ok (.if_icmp .ge 31, 3) := by decide +kernel
theorem dX3_passNights_7 : decode cX3_passNights 7 = .ok (.iconst 0, 1) := by decide +kernel
theorem dX3_passNights_8 : decode cX3_passNights 8 = .ok (.istore_n 3, 1) := by decide +kernel
theorem dX3_passNights_9 : decode cX3_passNights 9 = .ok (.iload_n 3, 1) := by decide +kernel
theorem dX3_passNights_10 : decode cX3_passNights 10 = .ok (.aload_n 0, 1) := by decide +kernel
theorem dX3_passNights_11 : decode cX3_passNights 11 = .ok (.getfield 32, 3) := by decide +kernel
theorem dX3_passNights_14 : decode cX3_passNights 14 = .ok (.if_icmp .ge 15, 3) := by decide +kernel
theorem dX3_passNights_17 : decode cX3_passNights 17 = .ok (.aload_n 0, 1) := by decide +kernel
theorem dX3_passNights_18 : decode cX3_passNights 18 = .ok (.iload_n 3, 1) := by decide +kernel
theorem dX3_passNights_19 : decode cX3_passNights 19 = .ok (.invokevirtual 78, 3) := by decide +kernel
theorem dX3_passNights_22 : decode cX3_passNights 22 = .ok (.pop, 1) := by decide +kernel
theorem dX3_passNights_23 : decode cX3_passNights 23 = .ok (.iinc 3 1, 3) := by decide +kernel
theorem dX3_passNights_26 : decode cX3_passNights 26 = .ok (.goto (-17), 3) := by decide +kernel
theorem dX3_passNights_29 : decode cX3_passNights 29 = .ok (.iinc 2 1, 3) := by decide +kernel
theorem dX3_passNights_32 : decode cX3_passNights 32 = .ok (.goto (-30), 3) := by decide +kernel
theorem dX3_passNights_35 : decode cX3_passNights 35 = .ok (.return_, 1) := by decide +kernel
theorem dX3_clocksIn_0 : decode cX3_clocksIn 0 = .ok (.iconst 0, 1) := by decide +kernel
theorem dX3_clocksIn_1 : decode cX3_clocksIn 1 = .ok (.istore_n 2, 1) := by decide +kernel
theorem dX3_clocksIn_2 : decode cX3_clocksIn 2 = .ok (.iconst 0, 1) := by decide +kernel
theorem dX3_clocksIn_3 : decode cX3_clocksIn 3 = .ok (.istore_n 3, 1) := by decide +kernel
theorem dX3_clocksIn_4 : decode cX3_clocksIn 4 = .ok (.iload_n 3, 1) := by decide +kernel
theorem dX3_clocksIn_5 : decode cX3_clocksIn 5 = .ok (.aload_n 0, 1) := by decide +kernel
theorem dX3_clocksIn_6 : decode cX3_clocksIn 6 = .ok (.getfield 32, 3) := by decide +kernel
theorem dX3_clocksIn_9 : decode cX3_clocksIn 9 = .ok (.if_icmp .ge 25, 3) := by decide +kernel
theorem dX3_clocksIn_12 : decode cX3_clocksIn 12 = .ok (.aload_n 0, 1) := by decide +kernel
theorem dX3_clocksIn_13 : decode cX3_clocksIn 13 = .ok (.getfield 21, 3) := by decide +kernel
theorem dX3_clocksIn_16 : decode cX3_clocksIn 16 = .ok (.iload_n 3, 1) := by decide +kernel
theorem dX3_clocksIn_17 : decode cX3_clocksIn 17 = .ok (.iaload, 1) := by decide +kernel
theorem dX3_clocksIn_18 : decode cX3_clocksIn 18 = .ok (.iload_n 1, 1) := by decide +kernel
theorem dX3_clocksIn_19 : decode cX3_clocksIn 19 = .ok (.if_icmp .ne 9, 3) := by decide +kernel
theorem dX3_clocksIn_22 : decode cX3_clocksIn 22 = .ok (.iload_n 2, 1) := by decide +kernel
theorem dX3_clocksIn_23 : decode cX3_clocksIn 23 = .ok (.iconst 1, 1) := by decide +kernel
theorem dX3_clocksIn_24 : decode cX3_clocksIn 24 = .ok (.iload_n 3, 1) := by decide +kernel
theorem dX3_clocksIn_25 : decode cX3_clocksIn 25 = .ok (.ishl, 1) := by decide +kernel
theorem dX3_clocksIn_26 : decode cX3_clocksIn 26 = .ok (.ior, 1) := by decide +kernel
theorem dX3_clocksIn_27 : decode cX3_clocksIn 27 = .ok (.istore_n 2, 1) := by decide +kernel
theorem dX3_clocksIn_28 : decode cX3_clocksIn 28 = .ok (.iinc 3 1, 3) := by decide +kernel
theorem dX3_clocksIn_31 : decode cX3_clocksIn 31 = .ok (.goto (-27), 3) := by decide +kernel
theorem dX3_clocksIn_34 : decode cX3_clocksIn 34 = .ok (.iload_n 2, 1) := by decide +kernel
theorem dX3_clocksIn_35 : decode cX3_clocksIn 35 = .ok (.ireturn, 1) := by decide +kernel
set_option maxRecDepth 20000 in
theorem ggX3_clocksWaking_X3_sound : GoodIn wsX3_clocksWaking wsX3_sound := goodIn_r _ [7, 8, 9, 10, 11, 6, 12, 13, 36, 37, 38, 39, 40, 41, 42, 43, 44, 45] (by decide +kernel) (by decide +kernel)
set_option maxRecDepth 20000 in
theorem gX3_clocksWaking_X3_sound : GoodIn wsX3_clocksWaking (wsV RX3 68 RX3 yX3_sound wsX3_sound) := goodIn_app (goodIn_of _ (by decide +kernel)) ggX3_clocksWaking_X3_sound
set_option maxRecDepth 20000 in
theorem ggX3_clocksWaking_X3_wakes : GoodIn wsX3_clocksWaking wsX3_wakes := goodIn_r _ [17, 18, 19, 20, 6, 21, 22, 23, 24, 25, 26, 27, 28, 29, 30, 31, 32, 33, 34, 35, 36, 37, 38, 39, 40, 41, 42, 43, 44, 45] (by decide +kernel) (by decide +kernel)
set_option maxRecDepth 20000 in
theorem gX3_clocksWaking_X3_wakes : GoodIn wsX3_clocksWaking (wsV RX3 71 RX3 yX3_wakes wsX3_wakes) := goodIn_app (goodIn_of _ (by decide +kernel)) ggX3_clocksWaking_X3_wakes
theorem dX3_clocksWaking_0 : decode cX3_clocksWaking 0 = .ok (.iconst 0, 1) := by decide +kernel
theorem dX3_clocksWaking_1 : decode cX3_clocksWaking 1 = .ok (.istore_n 2, 1) := by decide +kernel
theorem dX3_clocksWaking_2 : decode cX3_clocksWaking 2 = .ok (.iconst 0, 1) := by decide +kernel
theorem dX3_clocksWaking_3 : decode cX3_clocksWaking 3 = .ok (.istore_n 3, 1) := by decide +kernel
theorem dX3_clocksWaking_4 : decode cX3_clocksWaking 4 = .ok (.iload_n 3, 1) := by decide +kernel
theorem dX3_clocksWaking_5 : decode cX3_clocksWaking 5 = .ok (.aload_n 0, 1) := by decide +kernel
theorem dX3_clocksWaking_6 : decode cX3_clocksWaking 6 = .ok (.getfield 32, 3) := by decide +kernel
theorem dX3_clocksWaking_9 : decode cX3_clocksWaking 9 = .ok (.if_icmp .ge 34, 3) := by decide +kernel
theorem dX3_clocksWaking_12 : decode cX3_clocksWaking 12 = .ok (.aload_n 0, 1) := by decide +kernel
theorem dX3_clocksWaking_13 : decode cX3_clocksWaking 13 = .ok (.iload_n 1, 1) := by decide +kernel
theorem dX3_clocksWaking_14 : decode cX3_clocksWaking 14 = .ok (.aload_n 0, 1) := by decide +kernel
theorem dX3_clocksWaking_15 : decode cX3_clocksWaking 15 = .ok (.iload_n 3, 1) := by decide +kernel
theorem dX3_clocksWaking_16 : decode cX3_clocksWaking 16 = .ok (.invokevirtual 68, 3) := by decide +kernel
theorem dX3_clocksWaking_19 : decode cX3_clocksWaking 19 = .ok (.aload_n 0, 1) := by decide +kernel
theorem dX3_clocksWaking_20 : decode cX3_clocksWaking 20 = .ok (.getfield 21, 3) := by decide +kernel
theorem dX3_clocksWaking_23 : decode cX3_clocksWaking 23 = .ok (.iload_n 3, 1) := by decide +kernel
theorem dX3_clocksWaking_24 : decode cX3_clocksWaking 24 = .ok (.iaload, 1) := by decide +kernel
theorem dX3_clocksWaking_25 : decode cX3_clocksWaking 25 = .ok (.invokevirtual 71, 3) := by decide +kernel
theorem dX3_clocksWaking_28 : decode cX3_clocksWaking 28 = .ok (.ifCond .eq 9, 3) := by decide +kernel
theorem dX3_clocksWaking_31 : decode cX3_clocksWaking 31 = .ok (.iload_n 2, 1) := by decide +kernel
theorem dX3_clocksWaking_32 : decode cX3_clocksWaking 32 = .ok (.iconst 1, 1) := by decide +kernel
theorem dX3_clocksWaking_33 : decode cX3_clocksWaking 33 = .ok (.iload_n 3, 1) := by decide +kernel
theorem dX3_clocksWaking_34 : decode cX3_clocksWaking 34 = .ok (.ishl, 1) := by decide +kernel
theorem dX3_clocksWaking_35 : decode cX3_clocksWaking 35 = .ok (.ior, 1) := by decide +kernel
theorem dX3_clocksWaking_36 : decode cX3_clocksWaking 36 = .ok (.istore_n 2, 1) := by decide +kernel
theorem dX3_clocksWaking_37 : decode cX3_clocksWaking 37 = .ok (.iinc 3 1, 3) := by decide +kernel
theorem dX3_clocksWaking_40 : decode cX3_clocksWaking 40 = .ok (.goto (-36), 3) := by decide +kernel
theorem dX3_clocksWaking_43 : decode cX3_clocksWaking 43 = .ok (.iload_n 2, 1) := by decide +kernel
theorem dX3_clocksWaking_44 : decode cX3_clocksWaking 44 = .ok (.ireturn, 1) := by decide +kernel
theorem dX3_stuffedClocks_0 : decode cX3_stuffedClocks 0 = .ok (.iconst 0, 1) := by decide +kernel
theorem dX3_stuffedClocks_1 : decode cX3_stuffedClocks 1 = .ok (.istore_n 1, 1) := by decide +kernel
theorem dX3_stuffedClocks_2 : decode cX3_stuffedClocks 2 = .ok (.iconst 0, 1) := by decide +kernel
theorem dX3_stuffedClocks_3 : decode cX3_stuffedClocks 3 = .ok (.istore_n 2, 1) := by decide +kernel
theorem dX3_stuffedClocks_4 : decode cX3_stuffedClocks 4 = .ok (.iload_n 2, 1) := by decide +kernel
theorem dX3_stuffedClocks_5 : decode cX3_stuffedClocks 5 = .ok (.aload_n 0, 1) := by decide +kernel
theorem dX3_stuffedClocks_6 : decode cX3_stuffedClocks 6 = .ok (.getfield 32, 3) := by decide +kernel
theorem dX3_stuffedClocks_9 : decode cX3_stuffedClocks 9 = .ok (.if_icmp .ge 24, 3) := by decide +kernel
theorem dX3_stuffedClocks_12 : decode cX3_stuffedClocks 12 = .ok (.aload_n 0, 1) := by decide +kernel
theorem dX3_stuffedClocks_13 : decode cX3_stuffedClocks 13 = .ok (.getfield 24, 3) := by decide +kernel
theorem dX3_stuffedClocks_16 : decode cX3_stuffedClocks 16 = .ok (.iload_n 2, 1) := by decide +kernel
theorem dX3_stuffedClocks_17 : decode cX3_stuffedClocks 17 = .ok (.baload, 1) := by decide +kernel
theorem dX3_stuffedClocks_18 : decode cX3_stuffedClocks 18 = .ok (.ifCond .eq 9, 3) := by decide +kernel
theorem dX3_stuffedClocks_21 : decode cX3_stuffedClocks 21 = .ok (.iload_n 1, 1) := by decide +kernel
theorem dX3_stuffedClocks_22 : decode cX3_stuffedClocks 22 = .ok (.iconst 1, 1) := by decide +kernel
theorem dX3_stuffedClocks_23 : decode cX3_stuffedClocks 23 = .ok (.iload_n 2, 1) := by decide +kernel
theorem dX3_stuffedClocks_24 : decode cX3_stuffedClocks 24 = .ok (.ishl, 1) := by decide +kernel
theorem dX3_stuffedClocks_25 : decode cX3_stuffedClocks 25 = .ok (.ior, 1) := by decide +kernel
theorem dX3_stuffedClocks_26 : decode cX3_stuffedClocks 26 = .ok (.istore_n 1, 1) := by decide +kernel
theorem dX3_stuffedClocks_27 : decode cX3_stuffedClocks 27 = .ok (.iinc 2 1, 3) := by decide +kernel
theorem dX3_stuffedClocks_30 : decode cX3_stuffedClocks 30 = .ok (.goto (-26), 3) := by decide +kernel
theorem dX3_stuffedClocks_33 : decode cX3_stuffedClocks 33 = .ok (.iload_n 1, 1) := by decide +kernel
theorem dX3_stuffedClocks_34 : decode cX3_stuffedClocks 34 = .ok (.ireturn, 1) := by decide +kernel
theorem dX3_housesWithClocks_0 : decode cX3_housesWithClocks 0 = .ok (.iconst 0, 1) := by decide +kernel
theorem dX3_housesWithClocks_1 : decode cX3_housesWithClocks 1 = .ok (.istore_n 1, 1) := by decide +kernel
theorem dX3_housesWithClocks_2 : decode cX3_housesWithClocks 2 = .ok (.iconst 0, 1) := by decide +kernel
theorem dX3_housesWithClocks_3 : decode cX3_housesWithClocks 3 = .ok (.istore_n 2, 1) := by decide +kernel
theorem dX3_housesWithClocks_4 : decode cX3_housesWithClocks 4 = .ok (.iload_n 2, 1) := by decide +kernel
theorem dX3_housesWithClocks_5 : decode cX3_housesWithClocks 5 = .ok (.aload_n 0, 1) := by decide +kernel
theorem dX3_housesWithClocks_6 : decode cX3_housesWithClocks 6 = .ok (.getfield 32, 3) := by decide +kernel
theorem dX3_housesWithClocks_9 : decode cX3_housesWithClocks 9 = .ok (.if_icmp .ge 20, 3) := by decide +kernel
theorem dX3_housesWithClocks_12 : decode cX3_housesWithClocks 12 = .ok (.iload_n 1, 1) := by decide +kernel
theorem dX3_housesWithClocks_13 : decode cX3_housesWithClocks 13 = .ok (.iconst 1, 1) := by decide +kernel
theorem dX3_housesWithClocks_14 : decode cX3_housesWithClocks 14 = .ok (.aload_n 0, 1) := by decide +kernel
theorem dX3_housesWithClocks_15 : decode cX3_housesWithClocks 15 = .ok (.getfield 21, 3) := by decide +kernel
theorem dX3_housesWithClocks_18 : decode cX3_housesWithClocks 18 = .ok (.iload_n 2, 1) := by decide +kernel
theorem dX3_housesWithClocks_19 : decode cX3_housesWithClocks 19 = .ok (.iaload, 1) := by decide +kernel
theorem dX3_housesWithClocks_20 : decode cX3_housesWithClocks 20 = .ok (.ishl, 1) := by decide +kernel
theorem dX3_housesWithClocks_21 : decode cX3_housesWithClocks 21 = .ok (.ior, 1) := by decide +kernel
theorem dX3_housesWithClocks_22 : decode cX3_housesWithClocks 22 = .ok (.istore_n 1, 1) := by decide +kernel
theorem dX3_housesWithClocks_23 : decode cX3_housesWithClocks 23 = .ok (.iinc 2 1, 3) := by decide +kernel
theorem dX3_housesWithClocks_26 : decode cX3_housesWithClocks 26 = .ok (.goto (-22), 3) := by decide +kernel
theorem dX3_housesWithClocks_29 : decode cX3_housesWithClocks 29 = .ok (.iload_n 1, 1) := by decide +kernel
theorem dX3_housesWithClocks_30 : decode cX3_housesWithClocks 30 = .ok (.ireturn, 1) := by decide +kernel
theorem dX4_init_0 : decode cX4_init 0 = .ok (.aload_n 0, 1) := by decide +kernel
theorem dX4_init_1 : decode cX4_init 1 = .ok (.invokespecial 3, 3) := by decide +kernel
theorem dX4_init_4 : decode cX4_init 4 = .ok (.aload_n 0, 1) := by decide +kernel
theorem dX4_init_5 : decode cX4_init 5 = .ok (.bipush 60, 2) := by decide +kernel
theorem dX4_init_7 : decode cX4_init 7 = .ok (.newarray .int, 2) := by decide +kernel
theorem dX4_init_9 : decode cX4_init 9 = .ok (.putfield 9, 3) := by decide +kernel
theorem dX4_init_12 : decode cX4_init 12 = .ok (.return_, 1) := by decide +kernel
set_option maxRecDepth 20000 in
theorem ggX4_read_X3_clear : GoodIn wsX4_read wsX3_clear := goodIn_r _ [13, 14, 15, 16, 17, 18, 67, 68, 69, 70, 71, 72, 73, 74, 75, 76] (by decide +kernel) (by decide +kernel)
set_option maxRecDepth 20000 in
theorem gX4_read_X3_clear : GoodIn wsX4_read (wsV RX4 33 RX3 yX3_clear wsX3_clear) := goodIn_app (goodIn_of _ (by decide +kernel)) ggX4_read_X3_clear
set_option maxRecDepth 20000 in
theorem ggX4_read_X4_readWall : GoodIn wsX4_read wsX4_readWall := goodIn_r _ [23, 24, 25, 26, 27, 22, 28, 8, 7, 2, 29, 30, 31, 32, 67, 68, 69, 70, 71, 72, 73, 74, 75, 76, 64, 65, 66] (by decide +kernel) (by decide +kernel)
set_option maxRecDepth 20000 in
theorem gX4_read_X4_readWall : GoodIn wsX4_read (wsV RX4 38 RX4 yX4_readWall wsX4_readWall) := goodIn_app (goodIn_of _ (by decide +kernel)) ggX4_read_X4_readWall
set_option maxRecDepth 20000 in
theorem ggX4_read_X4_readHouses : GoodIn wsX4_read wsX4_readHouses := goodIn_r _ [36, 37, 25, 26, 27, 22, 28, 8, 7, 2, 38, 39, 40, 41, 29, 30, 31, 32, 42, 43, 44, 12, 45, 46, 14, 47, 67, 68, 69, 70, 71, 72, 73, 74, 75, 76, 64, 65, 66] (by decide +kernel) (by decide +kernel)
set_option maxRecDepth 20000 in
theorem gX4_read_X4_readHouses : GoodIn wsX4_read (wsV RX4 42 RX4 yX4_readHouses wsX4_readHouses) := goodIn_app (goodIn_of _ (by decide +kernel)) ggX4_read_X4_readHouses
set_option maxRecDepth 20000 in
theorem ggX4_read_X4_readClocks : GoodIn wsX4_read wsX4_readClocks := goodIn_r _ [51, 37, 52, 25, 26, 27, 22, 28, 8, 7, 2, 29, 30, 31, 32, 53, 54, 55, 12, 56, 57, 15, 58, 59, 67, 68, 69, 70, 71, 72, 73, 74, 75, 76, 64, 65, 66] (by decide +kernel) (by decide +kernel)
set_option maxRecDepth 20000 in
theorem gX4_read_X4_readClocks : GoodIn wsX4_read (wsV RX4 45 RX4 yX4_readClocks wsX4_readClocks) := goodIn_app (goodIn_of _ (by decide +kernel)) ggX4_read_X4_readClocks
theorem dX4_read_0 : decode cX4_read 0 = .ok (.aload_n 1, 1) := by decide +kernel
theorem dX4_read_1 : decode cX4_read 1 = .ok (.getfield 15, 3) := by decide +kernel
theorem dX4_read_4 : decode cX4_read 4 = .ok (.iload_n 2, 1) := by decide +kernel
theorem dX4_read_5 : decode cX4_read 5 = .ok (.aload_n 0, 1) := by decide +kernel
theorem dX4_read_6 : decode cX4_read 6 = .ok (.getfield 9, 3) := by decide +kernel
theorem dX4_read_9 : decode cX4_read 9 = .ok (.iconst 0, 1) := by decide +kernel
theorem dX4_read_10 : decode cX4_read 10 = .ok (.iload_n 3, 1) := by decide +kernel
theorem dX4_read_11 : decode cX4_read 11 = .ok (.invokestatic 20, 3) := by decide +kernel
theorem dX4_read_14 : decode cX4_read 14 = .ok (.aload_n 0, 1) := by decide +kernel
theorem dX4_read_15 : decode cX4_read 15 = .ok (.iload_n 3, 1) := by decide +kernel
theorem dX4_read_16 : decode cX4_read 16 = .ok (.putfield 26, 3) := by decide +kernel
theorem dX4_read_19 : decode cX4_read 19 = .ok (.aload_n 0, 1) := by decide +kernel
theorem dX4_read_20 : decode cX4_read 20 = .ok (.iconst 0, 1) := by decide +kernel
theorem dX4_read_21 : decode cX4_read 21 = .ok (.putfield 30, 3) := by decide +kernel
theorem dX4_read_24 : decode cX4_read 24 = .ok (.aload 4, 2) := by decide +kernel
theorem dX4_read_26 : decode cX4_read 26 = .ok (.invokevirtual 33, 3) := by decide +kernel
theorem dX4_read_29 : decode cX4_read 29 = .ok (.aload_n 0, 1) := by decide +kernel
theorem dX4_read_30 : decode cX4_read 30 = .ok (.aload 4, 2) := by decide +kernel
theorem dX4_read_32 : decode cX4_read 32 = .ok (.invokevirtual 38, 3) := by decide +kernel
theorem dX4_read_35 : decode cX4_read 35 = .ok (.ifCond .eq 36, 3) := by decide +kernel
theorem dX4_read_38 : decode cX4_read 38 = .ok (.aload_n 0, 1) := by decide +kernel
theorem dX4_read_39 : decode cX4_read 39 = .ok (.aload 4, 2) := by decide +kernel
theorem dX4_read_41 : decode cX4_read 41 = .ok (.invokevirtual 42, 3) := by decide +kernel
theorem dX4_read_44 : decode cX4_read 44 = .ok (.ifCond .eq 27, 3) := by decide +kernel
theorem dX4_read_47 : decode cX4_read 47 = .ok (.aload_n 0, 1) := by decide +kernel
theorem dX4_read_48 : decode cX4_read 48 = .ok (.aload 4, 2) := by decide +kernel
theorem dX4_read_50 : decode cX4_read 50 = .ok (.invokevirtual 45, 3) := by decide +kernel
theorem dX4_read_53 : decode cX4_read 53 = .ok (.ifCond .eq 18, 3) := by decide +kernel
theorem dX4_read_56 : decode cX4_read 56 = .ok (.aload_n 0, 1) := by decide +kernel
theorem dX4_read_57 : decode cX4_read 57 = .ok (.getfield 30, 3) := by decide +kernel
theorem dX4_read_60 : decode cX4_read 60 = .ok (.aload_n 0, 1) := by decide +kernel
theorem dX4_read_61 : decode cX4_read 61 = .ok (.getfield 26, 3) := by decide +kernel
theorem dX4_read_64 : decode cX4_read 64 = .ok (.if_icmp .ne 7, 3) := by decide +kernel
theorem dX4_read_67 : decode cX4_read 67 = .ok (.iconst 1, 1) := by decide +kernel
theorem dX4_read_68 : decode cX4_read 68 = .ok (.goto 4, 3) := by decide +kernel
theorem dX4_read_71 : decode cX4_read 71 = .ok (.iconst 0, 1) := by decide +kernel
theorem dX4_read_72 : decode cX4_read 72 = .ok (.istore 5, 2) := by decide +kernel
theorem dX4_read_74 : decode cX4_read 74 = .ok (.iload 5, 2) := by decide +kernel
theorem dX4_read_76 : decode cX4_read 76 = .ok (.ifCond .eq 8, 3) := by decide +kernel
theorem dX4_read_79 : decode cX4_read 79 = .ok (.bipush (-9), 2) := by decide +kernel
theorem dX4_read_81 : decode cX4_read 81 = .ok (.goto 7, 3) := by decide +kernel
theorem dX4_read_84 : decode cX4_read 84 = .ok (.aload_n 0, 1) := by decide +kernel
theorem dX4_read_85 : decode cX4_read 85 = .ok (.getfield 30, 3) := by decide +kernel
theorem dX4_read_88 : decode cX4_read 88 = .ok (.ireturn, 1) := by decide +kernel
set_option maxRecDepth 20000 in
theorem ggX4_readWall_X4_takeSign : GoodIn wsX4_readWall wsX4_takeSign := goodIn_r _ [6, 7, 8, 9, 24, 25, 26] (by decide +kernel) (by decide +kernel)
set_option maxRecDepth 20000 in
theorem gX4_readWall_X4_takeSign : GoodIn wsX4_readWall (wsV RX4 48 RX4 yX4_takeSign wsX4_takeSign) := goodIn_app (goodIn_of _ (by decide +kernel)) ggX4_readWall_X4_takeSign
set_option maxRecDepth 20000 in
theorem ggX4_readWall_X4_takeDigit : GoodIn wsX4_readWall wsX4_takeDigit := goodIn_r _ [13, 7, 8, 9, 24, 25, 26] (by decide +kernel) (by decide +kernel)
set_option maxRecDepth 20000 in
theorem gX4_readWall_X4_takeDigit : GoodIn wsX4_readWall (wsV RX4 52 RX4 yX4_takeDigit wsX4_takeDigit) := goodIn_app (goodIn_of _ (by decide +kernel)) ggX4_readWall_X4_takeDigit
theorem dX4_readWall_0 : decode cX4_readWall 0 = .ok (.aload_n 0, 1) := by decide +kernel
theorem dX4_readWall_1 : decode cX4_readWall 1 = .ok (.bipush 99, 2) := by decide +kernel
theorem dX4_readWall_3 : decode cX4_readWall 3 = .ok (.invokevirtual 48, 3) := by decide +kernel
theorem dX4_readWall_6 : decode cX4_readWall 6 = .ok (.ifCond .ne 5, 3) := by decide +kernel
theorem dX4_readWall_9 : decode cX4_readWall 9 = .ok (.iconst 0, 1) := by decide +kernel
theorem dX4_readWall_10 : decode cX4_readWall 10 = .ok (.ireturn, 1) := by decide +kernel
theorem dX4_readWall_11 : decode cX4_readWall 11 = .ok (.aload_n 1, 1) := by decide +kernel
theorem dX4_readWall_12 : decode cX4_readWall 12 = .ok (.aload_n 0, 1) := by decide +kernel
theorem dX4_readWall_13 : decode cX4_readWall 13 = .ok (.iconst 0, 1) := by decide +kernel
theorem dX4_readWall_14 : decode cX4_readWall 14 = .ok (.iconst 3, 1) := by decide +kernel
theorem dX4_readWall_15 : decode cX4_readWall 15 = .ok (.invokevirtual 52, 3) := by decide +kernel
theorem dX4_readWall_18 : decode cX4_readWall 18 = .ok (.putfield 56, 3) := by decide +kernel
theorem dX4_readWall_21 : decode cX4_readWall 21 = .ok (.aload_n 1, 1) := by decide +kernel
theorem dX4_readWall_22 : decode cX4_readWall 22 = .ok (.getfield 56, 3) := by decide +kernel
theorem dX4_readWall_25 : decode cX4_readWall 25 = .ok (.iconst (-1), 1) := by decide +kernel
theorem dX4_readWall_26 : decode cX4_readWall 26 = .ok (.if_icmp .eq 7, 3) := by decide +kernel
theorem dX4_readWall_29 : decode cX4_readWall 29 = .ok (.iconst 1, 1) := by decide +kernel
theorem dX4_readWall_30 : decode cX4_readWall 30 = .ok (.goto 4, 3) := by decide +kernel
theorem dX4_readWall_33 : decode cX4_readWall 33 = .ok (.iconst 0, 1) := by decide +kernel
theorem dX4_readWall_34 : decode cX4_readWall 34 = .ok (.ireturn, 1) := by decide +kernel
set_option maxRecDepth 20000 in
theorem ggX4_readHouses_X4_takeSign : GoodIn wsX4_readHouses wsX4_takeSign := goodIn_r _ [6, 7, 8, 9, 36, 37, 38] (by decide +kernel) (by decide +kernel)
set_option maxRecDepth 20000 in
theorem gX4_readHouses_X4_takeSign : GoodIn wsX4_readHouses (wsV RX4 48 RX4 yX4_takeSign wsX4_takeSign) := goodIn_app (goodIn_of _ (by decide +kernel)) ggX4_readHouses_X4_takeSign
set_option maxRecDepth 20000 in
theorem ggX4_readHouses_X4_takeKind : GoodIn wsX4_readHouses wsX4_takeKind := goodIn_r _ [13, 2, 3, 4, 5, 6, 7, 8, 9, 36, 37, 38] (by decide +kernel) (by decide +kernel)
set_option maxRecDepth 20000 in
theorem gX4_readHouses_X4_takeKind : GoodIn wsX4_readHouses (wsV RX4 59 RX4 yX4_takeKind wsX4_takeKind) := goodIn_app (goodIn_of _ (by decide +kernel)) ggX4_readHouses_X4_takeKind
set_option maxRecDepth 20000 in
theorem ggX4_readHouses_X4_takeDigit : GoodIn wsX4_readHouses wsX4_takeDigit := goodIn_r _ [17, 7, 8, 9, 36, 37, 38] (by decide +kernel) (by decide +kernel)
set_option maxRecDepth 20000 in
theorem gX4_readHouses_X4_takeDigit : GoodIn wsX4_readHouses (wsV RX4 52 RX4 yX4_takeDigit wsX4_takeDigit) := goodIn_app (goodIn_of _ (by decide +kernel)) ggX4_readHouses_X4_takeDigit
set_option maxRecDepth 20000 in
theorem ggX4_readHouses_X3_addHouse : GoodIn wsX4_readHouses wsX3_addHouse := goodIn_r _ [22, 23, 24, 25, 26, 27, 28, 29, 30, 31, 32, 33, 34, 35] (by decide +kernel) (by decide +kernel)
set_option maxRecDepth 20000 in
theorem gX4_readHouses_X3_addHouse : GoodIn wsX4_readHouses (wsV RX4 63 RX3 yX3_addHouse wsX3_addHouse) := goodIn_app (goodIn_of _ (by decide +kernel)) ggX4_readHouses_X3_addHouse
theorem dX4_readHouses_0 : decode cX4_readHouses 0 = .ok (.iconst 0, 1) := by decide +kernel
theorem dX4_readHouses_1 : decode cX4_readHouses 1 = .ok (.istore_n 2, 1) := by decide +kernel
theorem dX4_readHouses_2 : decode cX4_readHouses 2 = .ok (.iload_n 2, 1) := by decide +kernel
theorem dX4_readHouses_3 : decode cX4_readHouses 3 = .ok (.bipush 6, 2) := by decide +kernel
theorem dX4_readHouses_5 : decode cX4_readHouses 5 = .ok (.if_icmp .ge 55, 3) := by decide +kernel
theorem dX4_readHouses_8 : decode cX4_readHouses 8 = .ok (.aload_n 0, 1) := by decide +kernel
theorem dX4_readHouses_9 : decode cX4_readHouses 9 = .ok (.bipush 59, 2) := by decide +kernel
theorem dX4_readHouses_11 : decode cX4_readHouses 11 = .ok (.invokevirtual 48, 3) := by decide +kernel
theorem dX4_readHouses_14 : decode cX4_readHouses 14 = .ok (.ifCond .eq 46, 3) := by decide +kernel
theorem dX4_readHouses_17 : decode cX4_readHouses 17 = .ok (.aload_n 0, 1) := by decide +kernel
theorem dX4_readHouses_18 : decode cX4_readHouses 18 = .ok (.invokevirtual 59, 3) := by decide +kernel
theorem dX4_readHouses_21 : decode cX4_readHouses 21 = .ok (.istore_n 3, 1) := by decide +kernel
theorem dX4_readHouses_22 : decode cX4_readHouses 22 = .ok (.iload_n 3, 1) := by decide +kernel
theorem dX4_readHouses_23 : decode cX4_readHouses 23 = .ok (.bipush (-9), 2) := by decide +kernel
theorem dX4_readHouses_25 : decode cX4_readHouses 25 = .ok (.if_icmp .ne 5, 3) := by decide +kernel
theorem dX4_readHouses_28 : decode cX4_readHouses 28 = .ok (.iconst 0, 1) := by decide +kernel
theorem dX4_readHouses_29 : decode cX4_readHouses 29 = .ok (.ireturn, 1) := by decide +kernel
theorem dX4_readHouses_30 : decode cX4_readHouses 30 = .ok (.aload_n 0, 1) := by decide +kernel
theorem dX4_readHouses_31 : decode cX4_readHouses 31 = .ok (.iconst 1, 1) := by decide +kernel
theorem dX4_readHouses_32 : decode cX4_readHouses 32 = .ok (.bipush 9, 2) := by decide +kernel
theorem dX4_readHouses_34 : decode cX4_readHouses 34 = .ok (.invokevirtual 52, 3) := by decide +kernel
theorem dX4_readHouses_37 : decode cX4_readHouses 37 = .ok (.istore 4, 2) := by decide +kernel
theorem dX4_readHouses_39 : decode cX4_readHouses 39 = .ok (.iload 4, 2) := by decide +kernel
theorem dX4_readHouses_41 : decode cX4_readHouses 41 = .ok (.iconst (-1), 1) := by decide +kernel
theorem dX4_readHouses_42 : decode cX4_readHouses 42 = .ok (.if_icmp .ne 5, 3) := by decide +kernel
theorem dX4_readHouses_45 : decode cX4_readHouses 45 = .ok (.iconst 0, 1) := by decide +kernel
theorem dX4_readHouses_46 : decode cX4_readHouses 46 = .ok (.ireturn, 1) := by decide +kernel
theorem dX4_readHouses_47 : decode cX4_readHouses 47 = .ok (.aload_n 1, 1) := by decide +kernel
theorem dX4_readHouses_48 : decode cX4_readHouses 48 = .ok (.iload_n 3, 1) := by decide +kernel
theorem dX4_readHouses_49 : decode cX4_readHouses 49 = .ok (.iload 4, 2) := by decide +kernel
theorem dX4_readHouses_51 : decode cX4_readHouses 51 = .ok (.invokevirtual 63, 3) := by decide +kernel
theorem dX4_readHouses_54 : decode cX4_readHouses 54 = .ok (.iinc 2 1, 3) := by decide +kernel
theorem dX4_readHouses_57 : decode cX4_readHouses 57 = .ok (.goto (-55), 3) := by decide +kernel
theorem dX4_readHouses_60 : decode cX4_readHouses 60 = .ok (.aload_n 1, 1) := by decide +kernel
theorem dX4_readHouses_61 : decode cX4_readHouses 61 = .ok (.getfield 67, 3) := by decide +kernel
theorem dX4_readHouses_64 : decode cX4_readHouses 64 = .ok (.iconst 2, 1) := by decide +kernel
theorem dX4_readHouses_65 : decode cX4_readHouses 65 = .ok (.if_icmp .lt 7, 3) := by decide +kernel
theorem dX4_readHouses_68 : decode cX4_readHouses 68 = .ok (.iconst 1, 1) := by decide +kernel
theorem dX4_readHouses_69 : decode cX4_readHouses 69 = .ok (.goto 4, 3) := by decide +kernel
theorem dX4_readHouses_72 : decode cX4_readHouses 72 = .ok (.iconst 0, 1) := by decide +kernel
theorem dX4_readHouses_73 : decode cX4_readHouses 73 = .ok (.ireturn, 1) := by decide +kernel
set_option maxRecDepth 20000 in
theorem ggX4_readClocks_X4_takeSign : GoodIn wsX4_readClocks wsX4_takeSign := goodIn_r _ [7, 8, 9, 10, 34, 35, 36] (by decide +kernel) (by decide +kernel)
set_option maxRecDepth 20000 in
theorem gX4_readClocks_X4_takeSign : GoodIn wsX4_readClocks (wsV RX4 48 RX4 yX4_takeSign wsX4_takeSign) := goodIn_app (goodIn_of _ (by decide +kernel)) ggX4_readClocks_X4_takeSign
set_option maxRecDepth 20000 in
theorem ggX4_readClocks_X4_takeDigit : GoodIn wsX4_readClocks wsX4_takeDigit := goodIn_r _ [14, 8, 9, 10, 34, 35, 36] (by decide +kernel) (by decide +kernel)
set_option maxRecDepth 20000 in
theorem gX4_readClocks_X4_takeDigit : GoodIn wsX4_readClocks (wsV RX4 52 RX4 yX4_takeDigit wsX4_takeDigit) := goodIn_app (goodIn_of _ (by decide +kernel)) ggX4_readClocks_X4_takeDigit
set_option maxRecDepth 20000 in
theorem ggX4_readClocks_X3_addClock : GoodIn wsX4_readClocks wsX3_addClock := goodIn_r _ [19, 20, 21, 22, 23, 24, 25, 26, 27, 28, 29, 30, 31, 32, 33] (by decide +kernel) (by decide +kernel)
set_option maxRecDepth 20000 in
theorem gX4_readClocks_X3_addClock : GoodIn wsX4_readClocks (wsV RX4 70 RX3 yX3_addClock wsX3_addClock) := goodIn_app (goodIn_of _ (by decide +kernel)) ggX4_readClocks_X3_addClock
theorem dX4_readClocks_0 : decode cX4_readClocks 0 = .ok (.iconst 0, 1) := by decide +kernel
theorem dX4_readClocks_1 : decode cX4_readClocks 1 = .ok (.istore_n 2, 1) := by decide +kernel
theorem dX4_readClocks_2 : decode cX4_readClocks 2 = .ok (.iload_n 2, 1) := by decide +kernel
theorem dX4_readClocks_3 : decode cX4_readClocks 3 = .ok (.iconst 4, 1) := by decide +kernel
theorem dX4_readClocks_4 : decode cX4_readClocks 4 = .ok (.if_icmp .ge 61, 3) := by decide +kernel
theorem dX4_readClocks_7 : decode cX4_readClocks 7 = .ok (.aload_n 0, 1) := by decide +kernel
theorem dX4_readClocks_8 : decode cX4_readClocks 8 = .ok (.bipush 44, 2) := by decide +kernel
theorem dX4_readClocks_10 : decode cX4_readClocks 10 = .ok (.invokevirtual 48, 3) := by decide +kernel
theorem dX4_readClocks_13 : decode cX4_readClocks 13 = .ok (.ifCond .eq 52, 3) := by decide +kernel
theorem dX4_readClocks_16 : decode cX4_readClocks 16 = .ok (.aload_n 0, 1) := by decide +kernel
theorem dX4_readClocks_17 : decode cX4_readClocks 17 = .ok (.iconst 1, 1) := by decide +kernel
theorem dX4_readClocks_18 : decode cX4_readClocks 18 = .ok (.bipush 9, 2) := by decide +kernel
theorem dX4_readClocks_20 : decode cX4_readClocks 20 = .ok (.invokevirtual 52, 3) := by decide +kernel
theorem dX4_readClocks_23 : decode cX4_readClocks 23 = .ok (.istore_n 3, 1) := by decide +kernel
theorem dX4_readClocks_24 : decode cX4_readClocks 24 = .ok (.iload_n 3, 1) := by decide +kernel
theorem dX4_readClocks_25 : decode cX4_readClocks 25 = .ok (.iconst (-1), 1) := by decide +kernel
theorem dX4_readClocks_26 : decode cX4_readClocks 26 = .ok (.if_icmp .ne 5, 3) := by decide +kernel
theorem dX4_readClocks_29 : decode cX4_readClocks 29 = .ok (.iconst 0, 1) := by decide +kernel
theorem dX4_readClocks_30 : decode cX4_readClocks 30 = .ok (.ireturn, 1) := by decide +kernel
theorem dX4_readClocks_31 : decode cX4_readClocks 31 = .ok (.aload_n 0, 1) := by decide +kernel
theorem dX4_readClocks_32 : decode cX4_readClocks 32 = .ok (.iconst 0, 1) := by decide +kernel
theorem dX4_readClocks_33 : decode cX4_readClocks 33 = .ok (.aload_n 1, 1) := by decide +kernel
theorem dX4_readClocks_34 : decode cX4_readClocks 34 = .ok (.getfield 67, 3) := by decide +kernel
theorem dX4_readClocks_37 : decode cX4_readClocks 37 = .ok (.iconst 1, 1) := by decide +kernel
theorem dX4_readClocks_38 : decode cX4_readClocks 38 = .ok (.isub, 1) := by decide +kernel
theorem dX4_readClocks_39 : decode cX4_readClocks 39 = .ok (.invokevirtual 52, 3) := by decide +kernel
theorem dX4_readClocks_42 : decode cX4_readClocks 42 = .ok (.istore 4, 2) := by decide +kernel
theorem dX4_readClocks_44 : decode cX4_readClocks 44 = .ok (.iload 4, 2) := by decide +kernel
theorem dX4_readClocks_46 : decode cX4_readClocks 46 = .ok (.iconst (-1), 1) := by decide +kernel
theorem dX4_readClocks_47 : decode cX4_readClocks 47 = .ok (.if_icmp .ne 5, 3) := by decide +kernel
theorem dX4_readClocks_50 : decode cX4_readClocks 50 = .ok (.iconst 0, 1) := by decide +kernel
theorem dX4_readClocks_51 : decode cX4_readClocks 51 = .ok (.ireturn, 1) := by decide +kernel
theorem dX4_readClocks_52 : decode cX4_readClocks 52 = .ok (.aload_n 1, 1) := by decide +kernel
theorem dX4_readClocks_53 : decode cX4_readClocks 53 = .ok (.iload_n 3, 1) := by decide +kernel
theorem dX4_readClocks_54 : decode cX4_readClocks 54 = .ok (.iload 4, 2) := by decide +kernel
theorem dX4_readClocks_56 : decode cX4_readClocks 56 = .ok (.invokevirtual 70, 3) := by decide +kernel
theorem dX4_readClocks_59 : decode cX4_readClocks 59 = .ok (.iinc 2 1, 3) := by decide +kernel
theorem dX4_readClocks_62 : decode cX4_readClocks 62 = .ok (.goto (-60), 3) := by decide +kernel
theorem dX4_readClocks_65 : decode cX4_readClocks 65 = .ok (.aload_n 1, 1) := by decide +kernel
theorem dX4_readClocks_66 : decode cX4_readClocks 66 = .ok (.getfield 73, 3) := by decide +kernel
theorem dX4_readClocks_69 : decode cX4_readClocks 69 = .ok (.ifCond .le 7, 3) := by decide +kernel
theorem dX4_readClocks_72 : decode cX4_readClocks 72 = .ok (.iconst 1, 1) := by decide +kernel
theorem dX4_readClocks_73 : decode cX4_readClocks 73 = .ok (.goto 4, 3) := by decide +kernel
theorem dX4_readClocks_76 : decode cX4_readClocks 76 = .ok (.iconst 0, 1) := by decide +kernel
theorem dX4_readClocks_77 : decode cX4_readClocks 77 = .ok (.ireturn, 1) := by decide +kernel
theorem dX4_takeSign_0 : decode cX4_takeSign 0 = .ok (.aload_n 0, 1) := by decide +kernel
theorem dX4_takeSign_1 : decode cX4_takeSign 1 = .ok (.getfield 30, 3) := by decide +kernel
theorem dX4_takeSign_4 : decode cX4_takeSign 4 = .ok (.aload_n 0, 1) := by decide +kernel
theorem dX4_takeSign_5 : decode cX4_takeSign 5 = .ok (.getfield 26, 3) := by decide +kernel
theorem dX4_takeSign_8 : decode cX4_takeSign 8 = .ok (.if_icmp .ge 16, 3) := by decide +kernel
theorem dX4_takeSign_11 : decode cX4_takeSign 11 = .ok (.aload_n 0, 1) := by decide +kernel
theorem dX4_takeSign_12 : decode cX4_takeSign 12 = .ok (.getfield 9, 3) := by decide +kernel
theorem dX4_takeSign_15 : decode cX4_takeSign 15 = .ok (.aload_n 0, 1) := by decide +kernel
theorem dX4_takeSign_16 : decode cX4_takeSign 16 = .ok (.getfield 30, 3) := by decide +kernel
theorem dX4_takeSign_19 : decode cX4_takeSign 19 = .ok (.iaload, 1) := by decide +kernel
theorem dX4_takeSign_20 : decode cX4_takeSign 20 = .ok (.iload_n 1, 1) := by decide +kernel
theorem dX4_takeSign_21 : decode cX4_takeSign 21 = .ok (.if_icmp .eq 5, 3) := by decide +kernel
theorem dX4_takeSign_24 : decode cX4_takeSign 24 = .ok (.iconst 0, 1) := by decide +kernel
theorem dX4_takeSign_25 : decode cX4_takeSign 25 = .ok (.ireturn, 1) := by decide +kernel
theorem dX4_takeSign_26 : decode cX4_takeSign 26 = .ok (.aload_n 0, 1) := by decide +kernel
theorem dX4_takeSign_27 : decode cX4_takeSign 27 = .ok (.dup, 1) := by decide +kernel
theorem dX4_takeSign_28 : decode cX4_takeSign 28 = .ok (.getfield 30, 3) := by decide +kernel
theorem dX4_takeSign_31 : decode cX4_takeSign 31 = .ok (.iconst 1, 1) := by decide +kernel
theorem dX4_takeSign_32 : decode cX4_takeSign 32 = .ok (.iadd, 1) := by decide +kernel
theorem dX4_takeSign_33 : decode cX4_takeSign 33 = .ok (.putfield 30, 3) := by decide +kernel
theorem dX4_takeSign_36 : decode cX4_takeSign 36 = .ok (.iconst 1, 1) := by decide +kernel
theorem dX4_takeSign_37 : decode cX4_takeSign 37 = .ok (.ireturn, 1) := by decide +kernel
theorem dX4_takeDigit_0 : decode cX4_takeDigit 0 = .ok (.aload_n 0, 1) := by decide +kernel
theorem dX4_takeDigit_1 : decode cX4_takeDigit 1 = .ok (.getfield 30, 3) := by decide +kernel
theorem dX4_takeDigit_4 : decode cX4_takeDigit 4 = .ok (.aload_n 0, 1) := by decide +kernel
theorem dX4_takeDigit_5 : decode cX4_takeDigit 5 = .ok (.getfield 26, 3) := by decide +kernel
theorem dX4_takeDigit_8 : decode cX4_takeDigit 8 = .ok (.if_icmp .lt 5, 3) := by decide +kernel
theorem dX4_takeDigit_11 : decode cX4_takeDigit 11 = .ok (.iconst (-1), 1) := by decide +kernel
theorem dX4_takeDigit_12 : decode cX4_takeDigit 12 = .ok (.ireturn, 1) := by decide +kernel
theorem dX4_takeDigit_13 : decode cX4_takeDigit 13 = .ok (.aload_n 0, 1) := by decide +kernel
theorem dX4_takeDigit_14 : decode cX4_takeDigit 14 = .ok (.getfield 9, 3) := by decide +kernel
theorem dX4_takeDigit_17 : decode cX4_takeDigit 17 = .ok (.aload_n 0, 1) := by decide +kernel
theorem dX4_takeDigit_18 : decode cX4_takeDigit 18 = .ok (.getfield 30, 3) := by decide +kernel
theorem dX4_takeDigit_21 : decode cX4_takeDigit 21 = .ok (.iaload, 1) := by decide +kernel
theorem dX4_takeDigit_22 : decode cX4_takeDigit 22 = .ok (.istore_n 3, 1) := by decide +kernel
theorem dX4_takeDigit_23 : decode cX4_takeDigit 23 = .ok (.iload_n 3, 1) := by decide +kernel
theorem dX4_takeDigit_24 : decode cX4_takeDigit 24 = .ok (.bipush 48, 2) := by decide +kernel
theorem dX4_takeDigit_26 : decode cX4_takeDigit 26 = .ok (.iload_n 1, 1) := by decide +kernel
theorem dX4_takeDigit_27 : decode cX4_takeDigit 27 = .ok (.iadd, 1) := by decide +kernel
theorem dX4_takeDigit_28 : decode cX4_takeDigit 28 = .ok (.if_icmp .lt 11, 3) := by decide +kernel
theorem dX4_takeDigit_31 : decode cX4_takeDigit 31 = .ok (.iload_n 3, 1) := by decide +kernel
theorem dX4_takeDigit_32 : decode cX4_takeDigit 32 = .ok (.bipush 48, 2) := by decide +kernel
theorem dX4_takeDigit_34 : decode cX4_takeDigit 34 = .ok (.iload_n 2, 1) := by decide +kernel
theorem dX4_takeDigit_35 : decode cX4_takeDigit 35 = .ok (.iadd, 1) := by decide +kernel
theorem dX4_takeDigit_36 : decode cX4_takeDigit 36 = .ok (.if_icmp .le 5, 3) := by decide +kernel
theorem dX4_takeDigit_39 : decode cX4_takeDigit 39 = .ok (.iconst (-1), 1) := by decide +kernel
theorem dX4_takeDigit_40 : decode cX4_takeDigit 40 = .ok (.ireturn, 1) := by decide +kernel
theorem dX4_takeDigit_41 : decode cX4_takeDigit 41 = .ok (.aload_n 0, 1) := by decide +kernel
theorem dX4_takeDigit_42 : decode cX4_takeDigit 42 = .ok (.dup, 1) := by decide +kernel
theorem dX4_takeDigit_43 : decode cX4_takeDigit 43 = .ok (.getfield 30, 3) := by decide +kernel
theorem dX4_takeDigit_46 : decode cX4_takeDigit 46 = .ok (.iconst 1, 1) := by decide +kernel
theorem dX4_takeDigit_47 : decode cX4_takeDigit 47 = .ok (.iadd, 1) := by decide +kernel
theorem dX4_takeDigit_48 : decode cX4_takeDigit 48 = .ok (.putfield 30, 3) := by decide +kernel
theorem dX4_takeDigit_51 : decode cX4_takeDigit 51 = .ok (.iload_n 3, 1) := by decide +kernel
theorem dX4_takeDigit_52 : decode cX4_takeDigit 52 = .ok (.bipush 48, 2) := by decide +kernel
theorem dX4_takeDigit_54 : decode cX4_takeDigit 54 = .ok (.isub, 1) := by decide +kernel
theorem dX4_takeDigit_55 : decode cX4_takeDigit 55 = .ok (.ireturn, 1) := by decide +kernel
set_option maxRecDepth 20000 in
theorem ggX4_takeKind_X4_takeSign : GoodIn wsX4_takeKind wsX4_takeSign := goodIn_r _ [5, 6, 7, 8, 9, 10, 11] (by decide +kernel) (by decide +kernel)
set_option maxRecDepth 20000 in
theorem gX4_takeKind_X4_takeSign : GoodIn wsX4_takeKind (wsV RX4 48 RX4 yX4_takeSign wsX4_takeSign) := goodIn_app (goodIn_of _ (by decide +kernel)) ggX4_takeKind_X4_takeSign
theorem dX4_takeKind_0 : decode cX4_takeKind 0 = .ok (.aload_n 0, 1) := by decide +kernel
theorem dX4_takeKind_1 : decode cX4_takeKind 1 = .ok (.bipush 115, 2) := by decide +kernel
theorem dX4_takeKind_3 : decode cX4_takeKind 3 = .ok (.invokevirtual 48, 3) := by decide +kernel
theorem dX4_takeKind_6 : decode cX4_takeKind 6 = .ok (.ifCond .eq 5, 3) := by decide +kernel
theorem dX4_takeKind_9 : decode cX4_takeKind 9 = .ok (.iconst 0, 1) := by decide +kernel
theorem dX4_takeKind_10 : decode cX4_takeKind 10 = .ok (.ireturn, 1) := by decide +kernel
theorem dX4_takeKind_11 : decode cX4_takeKind 11 = .ok (.aload_n 0, 1) := by decide +kernel
theorem dX4_takeKind_12 : decode cX4_takeKind 12 = .ok (.bipush 110, 2) := by decide +kernel
theorem dX4_takeKind_14 : decode cX4_takeKind 14 = .ok (.invokevirtual 48, 3) := by decide +kernel
theorem dX4_takeKind_17 : decode cX4_takeKind 17 = .ok (.ifCond .eq 5, 3) := by decide +kernel
theorem dX4_takeKind_20 : decode cX4_takeKind 20 = .ok (.iconst 1, 1) := by decide +kernel
theorem dX4_takeKind_21 : decode cX4_takeKind 21 = .ok (.ireturn, 1) := by decide +kernel
theorem dX4_takeKind_22 : decode cX4_takeKind 22 = .ok (.aload_n 0, 1) := by decide +kernel
theorem dX4_takeKind_23 : decode cX4_takeKind 23 = .ok (.bipush 98, 2) := by decide +kernel
theorem dX4_takeKind_25 : decode cX4_takeKind 25 = .ok (.invokevirtual 48, 3) := by decide +kernel
theorem dX4_takeKind_28 : decode cX4_takeKind 28 = .ok (.ifCond .eq 7, 3) := by decide +kernel
theorem dX4_takeKind_31 : decode cX4_takeKind 31 = .ok (.iconst 2, 1) := by decide +kernel
theorem dX4_takeKind_32 : decode cX4_takeKind 32 = .ok (.goto 5, 3) := by decide +kernel
theorem dX4_takeKind_35 : decode cX4_takeKind 35 = .ok (.bipush (-9), 2) := by decide +kernel
theorem dX4_takeKind_37 : decode cX4_takeKind 37 = .ok (.ireturn, 1) := by decide +kernel
set_option maxRecDepth 20000 in
theorem ggX5_init_X3_init : GoodIn wsX5_init wsX3_init := goodIn_r _ [28, 29, 2, 3, 25, 30, 31, 32, 33, 34, 35, 58, 59, 60, 61, 62, 63, 64, 65, 66, 67] (by decide +kernel) (by decide +kernel)
set_option maxRecDepth 20000 in
theorem gX5_init_X3_init_n11 : GoodIn wsX5_init (wsX3_init) := ggX5_init_X3_init
set_option maxRecDepth 20000 in
theorem ggX5_init_X4_init : GoodIn wsX5_init wsX4_init := goodIn_r _ [37, 38, 2, 3, 25, 39, 78, 79, 80] (by decide +kernel) (by decide +kernel)
set_option maxRecDepth 20000 in
theorem gX5_init_X4_init_n23 : GoodIn wsX5_init (wsX4_init) := ggX5_init_X4_init
set_option maxRecDepth 20000 in
theorem ggX5_init_X1_init : GoodIn wsX5_init wsX1_init := goodIn_r _ [41, 42, 2, 3, 25, 43, 44, 45, 34, 46, 81, 82, 83, 84, 85] (by decide +kernel) (by decide +kernel)
set_option maxRecDepth 20000 in
theorem gX5_init_X1_init_n30 : GoodIn wsX5_init (wsX1_init) := ggX5_init_X1_init
set_option maxRecDepth 20000 in
theorem ggX5_init_X0_init : GoodIn wsX5_init wsX0_init := goodIn_r _ [48, 49, 2, 3, 25, 50, 51, 52, 53, 86, 87, 88] (by decide +kernel) (by decide +kernel)
set_option maxRecDepth 20000 in
theorem gX5_init_X0_init_n37 : GoodIn wsX5_init (wsX0_init) := ggX5_init_X0_init
set_option maxRecDepth 20000 in
theorem ggX5_init_X2_init : GoodIn wsX5_init wsX2_init := goodIn_r _ [55, 56, 2, 3, 25, 57, 89, 90, 91, 92] (by decide +kernel) (by decide +kernel)
set_option maxRecDepth 20000 in
theorem gX5_init_X2_init_n44 : GoodIn wsX5_init (wsX2_init) := ggX5_init_X2_init
theorem dX5_init_0 : decode cX5_init 0 = .ok (.aload_n 0, 1) := by decide +kernel
theorem dX5_init_1 : decode cX5_init 1 = .ok (.invokespecial 3, 3) := by decide +kernel
theorem dX5_init_4 : decode cX5_init 4 = .ok (.aload_n 0, 1) := by decide +kernel
theorem dX5_init_5 : decode cX5_init 5 = .ok (.new 9, 3) := by decide +kernel
theorem dX5_init_8 : decode cX5_init 8 = .ok (.dup, 1) := by decide +kernel
theorem dX5_init_9 : decode cX5_init 9 = .ok (.invokespecial 11, 3) := by decide +kernel
theorem dX5_init_12 : decode cX5_init 12 = .ok (.putfield 12, 3) := by decide +kernel
theorem dX5_init_15 : decode cX5_init 15 = .ok (.aload_n 0, 1) := by decide +kernel
theorem dX5_init_16 : decode cX5_init 16 = .ok (.new 9, 3) := by decide +kernel
theorem dX5_init_19 : decode cX5_init 19 = .ok (.dup, 1) := by decide +kernel
theorem dX5_init_20 : decode cX5_init 20 = .ok (.invokespecial 11, 3) := by decide +kernel
theorem dX5_init_23 : decode cX5_init 23 = .ok (.putfield 18, 3) := by decide +kernel
theorem dX5_init_26 : decode cX5_init 26 = .ok (.aload_n 0, 1) := by decide +kernel
theorem dX5_init_27 : decode cX5_init 27 = .ok (.new 21, 3) := by decide +kernel
theorem dX5_init_30 : decode cX5_init 30 = .ok (.dup, 1) := by decide +kernel
theorem dX5_init_31 : decode cX5_init 31 = .ok (.invokespecial 23, 3) := by decide +kernel
theorem dX5_init_34 : decode cX5_init 34 = .ok (.putfield 24, 3) := by decide +kernel
theorem dX5_init_37 : decode cX5_init 37 = .ok (.aload_n 0, 1) := by decide +kernel
theorem dX5_init_38 : decode cX5_init 38 = .ok (.new 28, 3) := by decide +kernel
theorem dX5_init_41 : decode cX5_init 41 = .ok (.dup, 1) := by decide +kernel
theorem dX5_init_42 : decode cX5_init 42 = .ok (.invokespecial 30, 3) := by decide +kernel
theorem dX5_init_45 : decode cX5_init 45 = .ok (.putfield 31, 3) := by decide +kernel
theorem dX5_init_48 : decode cX5_init 48 = .ok (.aload_n 0, 1) := by decide +kernel
theorem dX5_init_49 : decode cX5_init 49 = .ok (.new 35, 3) := by decide +kernel
theorem dX5_init_52 : decode cX5_init 52 = .ok (.dup, 1) := by decide +kernel
theorem dX5_init_53 : decode cX5_init 53 = .ok (.invokespecial 37, 3) := by decide +kernel
theorem dX5_init_56 : decode cX5_init 56 = .ok (.putfield 38, 3) := by decide +kernel
theorem dX5_init_59 : decode cX5_init 59 = .ok (.aload_n 0, 1) := by decide +kernel
theorem dX5_init_60 : decode cX5_init 60 = .ok (.iconst 4, 1) := by decide +kernel
theorem dX5_init_61 : decode cX5_init 61 = .ok (.anewarray 42, 3) := by decide +kernel
theorem dX5_init_64 : decode cX5_init 64 = .ok (.dup, 1) := by decide +kernel
theorem dX5_init_65 : decode cX5_init 65 = .ok (.iconst 0, 1) := by decide +kernel
theorem dX5_init_66 : decode cX5_init 66 = .ok (.new 42, 3) := by decide +kernel
theorem dX5_init_69 : decode cX5_init 69 = .ok (.dup, 1) := by decide +kernel
theorem dX5_init_70 : decode cX5_init 70 = .ok (.invokespecial 44, 3) := by decide +kernel
theorem dX5_init_73 : decode cX5_init 73 = .ok (.aastore, 1) := by decide +kernel
theorem dX5_init_74 : decode cX5_init 74 = .ok (.dup, 1) := by decide +kernel
theorem dX5_init_75 : decode cX5_init 75 = .ok (.iconst 1, 1) := by decide +kernel
theorem dX5_init_76 : decode cX5_init 76 = .ok (.new 42, 3) := by decide +kernel
theorem dX5_init_79 : decode cX5_init 79 = .ok (.dup, 1) := by decide +kernel
theorem dX5_init_80 : decode cX5_init 80 = .ok (.invokespecial 44, 3) := by decide +kernel
theorem dX5_init_83 : decode cX5_init 83 = .ok (.aastore, 1) := by decide +kernel
theorem dX5_init_84 : decode cX5_init 84 = .ok (.dup, 1) := by decide +kernel
theorem dX5_init_85 : decode cX5_init 85 = .ok (.iconst 2, 1) := by decide +kernel
theorem dX5_init_86 : decode cX5_init 86 = .ok (.new 42, 3) := by decide +kernel
theorem dX5_init_89 : decode cX5_init 89 = .ok (.dup, 1) := by decide +kernel
theorem dX5_init_90 : decode cX5_init 90 = .ok (.invokespecial 44, 3) := by decide +kernel
theorem dX5_init_93 : decode cX5_init 93 = .ok (.aastore, 1) := by decide +kernel
theorem dX5_init_94 : decode cX5_init 94 = .ok (.dup, 1) := by decide +kernel
theorem dX5_init_95 : decode cX5_init 95 = .ok (.iconst 3, 1) := by decide +kernel
theorem dX5_init_96 : decode cX5_init 96 = .ok (.new 42, 3) := by decide +kernel
theorem dX5_init_99 : decode cX5_init 99 = .ok (.dup, 1) := by decide +kernel
theorem dX5_init_100 : decode cX5_init 100 = .ok (.invokespecial 44, 3) := by decide +kernel
theorem dX5_init_103 : decode cX5_init 103 = .ok (.aastore, 1) := by decide +kernel
theorem dX5_init_104 : decode cX5_init 104 = .ok (.putfield 45, 3) := by decide +kernel
theorem dX5_init_107 : decode cX5_init 107 = .ok (.aload_n 0, 1) := by decide +kernel
theorem dX5_init_108 : decode cX5_init 108 = .ok (.bipush 6, 2) := by decide +kernel
theorem dX5_init_110 : decode cX5_init 110 = .ok (.newarray .int, 2) := by decide +kernel
theorem dX5_init_112 : decode cX5_init 112 = .ok (.putfield 49, 3) := by decide +kernel
theorem dX5_init_115 : decode cX5_init 115 = .ok (.return_, 1) := by decide +kernel
set_option maxRecDepth 20000 in
theorem ggX5_street_X5_isSheet : GoodIn wsX5_street wsX5_isSheet := goodIn_r _ [13] (by decide +kernel) (by decide +kernel)
set_option maxRecDepth 20000 in
theorem gX5_street_X5_isSheet : GoodIn wsX5_street (va_wsS RX5 57 yX5_isSheet wsX5_isSheet) := goodIn_app (goodIn_of _ (by decide +kernel)) ggX5_street_X5_isSheet
set_option maxRecDepth 20000 in
theorem ggX5_street_X5_isLane : GoodIn wsX5_street wsX5_isLane := goodIn_r _ [16] (by decide +kernel) (by decide +kernel)
set_option maxRecDepth 20000 in
theorem gX5_street_X5_isLane : GoodIn wsX5_street (va_wsS RX5 61 yX5_isLane wsX5_isLane) := goodIn_app (goodIn_of _ (by decide +kernel)) ggX5_street_X5_isLane
set_option maxRecDepth 20000 in
theorem ggX5_street_X2_faultAs : GoodIn wsX5_street wsX2_faultAs := goodIn_r _ [21, 22, 23, 126, 127, 128, 129] (by decide +kernel) (by decide +kernel)
set_option maxRecDepth 20000 in
theorem gX5_street_X2_faultAs : GoodIn wsX5_street (wsV RX5 64 RX2 yX2_faultAs wsX2_faultAs) := goodIn_app (goodIn_of _ (by decide +kernel)) ggX5_street_X2_faultAs
set_option maxRecDepth 20000 in
theorem ggX5_street_X2_lacks : GoodIn wsX5_street wsX2_lacks := goodIn_r _ [27, 28, 126, 127, 128, 129] (by decide +kernel) (by decide +kernel)
set_option maxRecDepth 20000 in
theorem gX5_street_X2_lacks : GoodIn wsX5_street (wsV RX5 68 RX2 yX2_lacks wsX2_lacks) := goodIn_app (goodIn_of _ (by decide +kernel)) ggX5_street_X2_lacks
set_option maxRecDepth 20000 in
theorem ggX5_street_X5_faulty : GoodIn wsX5_street wsX5_faulty := goodIn_r _ [32, 1, 101, 102, 103, 104, 105, 106, 107, 108, 109, 110] (by decide +kernel) (by decide +kernel)
set_option maxRecDepth 20000 in
theorem gX5_street_X5_faulty : GoodIn wsX5_street (wsV RX5 72 RX5 yX5_faulty wsX5_faulty) := goodIn_app (goodIn_of _ (by decide +kernel)) ggX5_street_X5_faulty
set_option maxRecDepth 20000 in
theorem ggX5_street_X4_read : GoodIn wsX5_street wsX4_read := goodIn_r _ [37, 38, 39, 40, 41, 42, 43, 44, 45, 46, 47, 48, 49, 50, 51, 52, 53, 54, 55, 56, 57, 58, 36, 59, 60, 61, 62, 63, 64, 65, 66, 67, 68, 69, 70, 71, 72, 73, 74, 75, 76, 77, 78, 79, 80, 81, 82, 83, 84, 85, 86, 87, 88, 89, 90, 91, 92, 93, 94, 95, 126, 127, 128, 129, 130, 131, 132, 116, 117, 118, 119, 120, 121, 122, 123, 124, 125] (by decide +kernel) (by decide +kernel)
set_option maxRecDepth 20000 in
theorem gX5_street_X4_read : GoodIn wsX5_street (wsV RX5 75 RX4 yX4_read wsX4_read) := goodIn_app (goodIn_of _ (by decide +kernel)) ggX5_street_X4_read
set_option maxRecDepth 20000 in
theorem ggX5_street_X3_become : GoodIn wsX5_street wsX3_become := goodIn_r _ [99, 51, 52, 53, 82, 83, 93, 94, 95, 100, 47, 48, 49, 50, 54, 55, 116, 117, 118, 119, 120, 121, 122, 123, 124, 125] (by decide +kernel) (by decide +kernel)
set_option maxRecDepth 20000 in
theorem gX5_street_X3_become : GoodIn wsX5_street (wsV RX5 79 RX3 yX3_become wsX3_become) := goodIn_app (goodIn_of _ (by decide +kernel)) ggX5_street_X3_become
theorem dX5_street_0 : decode cX5_street 0 = .ok (.aload_n 0, 1) := by decide +kernel
theorem dX5_street_1 : decode cX5_street 1 = .ok (.iconst 0, 1) := by decide +kernel
theorem dX5_street_2 : decode cX5_street 2 = .ok (.putfield 53, 3) := by decide +kernel
theorem dX5_street_5 : decode cX5_street 5 = .ok (.iload_n 1, 1) := by decide +kernel
theorem dX5_street_6 : decode cX5_street 6 = .ok (.invokestatic 57, 3) := by decide +kernel
theorem dX5_street_9 : decode cX5_street 9 = .ok (.ifCond .ne 5, 3) := by decide +kernel
theorem dX5_street_12 : decode cX5_street 12 = .ok (.iconst (-1), 1) := by decide +kernel
theorem dX5_street_13 : decode cX5_street 13 = .ok (.ireturn, 1) := by decide +kernel
theorem dX5_street_14 : decode cX5_street 14 = .ok (.iload_n 2, 1) := by decide +kernel
theorem dX5_street_15 : decode cX5_street 15 = .ok (.invokestatic 61, 3) := by decide +kernel
theorem dX5_street_18 : decode cX5_street 18 = .ok (.ifCond .ne 6, 3) := by decide +kernel
theorem dX5_street_21 : decode cX5_street 21 = .ok (.bipush (-2), 2) := by decide +kernel
theorem dX5_street_23 : decode cX5_street 23 = .ok (.ireturn, 1) := by decide +kernel
theorem dX5_street_24 : decode cX5_street 24 = .ok (.aload_n 0, 1) := by decide +kernel
theorem dX5_street_25 : decode cX5_street 25 = .ok (.getfield 45, 3) := by decide +kernel
theorem dX5_street_28 : decode cX5_street 28 = .ok (.iload_n 1, 1) := by decide +kernel
theorem dX5_street_29 : decode cX5_street 29 = .ok (.aaload, 1) := by decide +kernel
theorem dX5_street_30 : decode cX5_street 30 = .ok (.astore 5, 2) := by decide +kernel
theorem dX5_street_32 : decode cX5_street 32 = .ok (.aload 5, 2) := by decide +kernel
theorem dX5_street_34 : decode cX5_street 34 = .ok (.iload_n 2, 1) := by decide +kernel
theorem dX5_street_35 : decode cX5_street 35 = .ok (.invokevirtual 64, 3) := by decide +kernel
theorem dX5_street_38 : decode cX5_street 38 = .ok (.istore 6, 2) := by decide +kernel
theorem dX5_street_40 : decode cX5_street 40 = .ok (.iload 6, 2) := by decide +kernel
theorem dX5_street_42 : decode cX5_street 42 = .ok (.ifCond .ne 11, 3) := by decide +kernel
theorem dX5_street_45 : decode cX5_street 45 = .ok (.iload 4, 2) := by decide +kernel
theorem dX5_street_47 : decode cX5_street 47 = .ok (.ifCond .ge 6, 3) := by decide +kernel
theorem dX5_street_50 : decode cX5_street 50 = .ok (.iconst 4, 1) := by decide +kernel
theorem dX5_street_51 : decode cX5_street 51 = .ok (.istore 6, 2) := by decide +kernel
theorem dX5_street_53 : decode cX5_street 53 = .ok (.iload 6, 2) := by decide +kernel
theorem dX5_street_55 : decode cX5_street 55 = .ok (.ifCond .ne 17, 3) := by decide +kernel
theorem dX5_street_58 : decode cX5_street 58 = .ok (.aload 5, 2) := by decide +kernel
theorem dX5_street_60 : decode cX5_street 60 = .ok (.iload_n 3, 1) := by decide +kernel
theorem dX5_street_61 : decode cX5_street 61 = .ok (.iload 4, 2) := by decide +kernel
theorem dX5_street_63 : decode cX5_street 63 = .ok (.invokevirtual 68, 3) := by decide +kernel
theorem dX5_street_66 : decode cX5_street 66 = .ok (.ifCond .eq 6, 3) := by decide +kernel
theorem dX5_street_69 : decode cX5_street 69 = .ok (.iconst 3, 1) := by decide +kernel
theorem dX5_street_70 : decode cX5_street 70 = .ok (.istore 6, 2) := by decide +kernel
theorem dX5_street_72 : decode cX5_street 72 = .ok (.iload 6, 2) := by decide +kernel
theorem dX5_street_74 : decode cX5_street 74 = .ok (.ifCond .eq 10, 3) := by decide +kernel
theorem dX5_street_77 : decode cX5_street 77 = .ok (.aload_n 0, 1) := by decide +kernel
theorem dX5_street_78 : decode cX5_street 78 = .ok (.iload 6, 2) := by decide +kernel
theorem dX5_street_80 : decode cX5_street 80 = .ok (.invokevirtual 72, 3) := by decide +kernel
theorem dX5_street_83 : decode cX5_street 83 = .ok (.ireturn, 1) := by decide +kernel
theorem dX5_street_84 : decode cX5_street 84 = .ok (.aload_n 0, 1) := by decide +kernel
theorem dX5_street_85 : decode cX5_street 85 = .ok (.getfield 24, 3) := by decide +kernel
theorem dX5_street_88 : decode cX5_street 88 = .ok (.aload 5, 2) := by decide +kernel
theorem dX5_street_90 : decode cX5_street 90 = .ok (.iload_n 3, 1) := by decide +kernel
theorem dX5_street_91 : decode cX5_street 91 = .ok (.iload 4, 2) := by decide +kernel
theorem dX5_street_93 : decode cX5_street 93 = .ok (.aload_n 0, 1) := by decide +kernel
theorem dX5_street_94 : decode cX5_street 94 = .ok (.getfield 18, 3) := by decide +kernel
theorem dX5_street_97 : decode cX5_street 97 = .ok (.invokevirtual 75, 3) := by decide +kernel
theorem dX5_street_100 : decode cX5_street 100 = .ok (.istore 7, 2) := by decide +kernel
theorem dX5_street_102 : decode cX5_street 102 = .ok (.iload 7, 2) := by decide +kernel
theorem dX5_street_104 : decode cX5_street 104 = .ok (.bipush (-9), 2) := by decide +kernel
theorem dX5_street_106 : decode cX5_street 106 = .ok (.if_icmp .eq 9, 3) := by decide +kernel
theorem dX5_street_109 : decode cX5_street 109 = .ok (.bipush (-100), 2) := by decide +kernel
theorem dX5_street_111 : decode cX5_street 111 = .ok (.iload 7, 2) := by decide +kernel
theorem dX5_street_113 : decode cX5_street 113 = .ok (.isub, 1) := by decide +kernel
theorem dX5_street_114 : decode cX5_street 114 = .ok (.ireturn, 1) := by decide +kernel
theorem dX5_street_115 : decode cX5_street 115 = .ok (.aload_n 0, 1) := by decide +kernel
theorem dX5_street_116 : decode cX5_street 116 = .ok (.getfield 12, 3) := by decide +kernel
theorem dX5_street_119 : decode cX5_street 119 = .ok (.aload_n 0, 1) := by decide +kernel
theorem dX5_street_120 : decode cX5_street 120 = .ok (.getfield 18, 3) := by decide +kernel
theorem dX5_street_123 : decode cX5_street 123 = .ok (.invokevirtual 79, 3) := by decide +kernel
theorem dX5_street_126 : decode cX5_street 126 = .ok (.aload_n 0, 1) := by decide +kernel
theorem dX5_street_127 : decode cX5_street 127 = .ok (.iconst 0, 1) := by decide +kernel
theorem dX5_street_128 : decode cX5_street 128 = .ok (.putfield 83, 3) := by decide +kernel
theorem dX5_street_131 : decode cX5_street 131 = .ok (.aload_n 0, 1) := by decide +kernel
theorem dX5_street_132 : decode cX5_street 132 = .ok (.getfield 31, 3) := by decide +kernel
theorem dX5_street_135 : decode cX5_street 135 = .ok (.iconst 0, 1) := by decide +kernel
theorem dX5_street_136 : decode cX5_street 136 = .ok (.putfield 86, 3) := by decide +kernel
theorem dX5_street_139 : decode cX5_street 139 = .ok (.aload_n 0, 1) := by decide +kernel
theorem dX5_street_140 : decode cX5_street 140 = .ok (.getfield 12, 3) := by decide +kernel
theorem dX5_street_143 : decode cX5_street 143 = .ok (.getfield 89, 3) := by decide +kernel
theorem dX5_street_146 : decode cX5_street 146 = .ok (.ireturn, 1) := by decide +kernel
set_option maxRecDepth 20000 in
theorem ggX5_ofHouse_X3_hasHouse : GoodIn wsX5_ofHouse wsX3_hasHouse := goodIn_r _ [8, 9, 63, 64, 65, 66, 67, 68, 69, 70, 71, 72] (by decide +kernel) (by decide +kernel)
set_option maxRecDepth 20000 in
theorem gX5_ofHouse_X3_hasHouse : GoodIn wsX5_ofHouse (wsV RX5 92 RX3 yX3_hasHouse wsX3_hasHouse) := goodIn_app (goodIn_of _ (by decide +kernel)) ggX5_ofHouse_X3_hasHouse
set_option maxRecDepth 20000 in
theorem ggX5_ofHouse_X3_needs : GoodIn wsX5_ofHouse wsX3_needs := goodIn_r _ [13, 14, 15, 63, 64, 65, 66, 67, 68, 69, 70, 71, 72] (by decide +kernel) (by decide +kernel)
set_option maxRecDepth 20000 in
theorem gX5_ofHouse_X3_needs : GoodIn wsX5_ofHouse (wsV RX5 101 RX3 yX3_needs wsX3_needs) := goodIn_app (goodIn_of _ (by decide +kernel)) ggX5_ofHouse_X3_needs
set_option maxRecDepth 20000 in
theorem ggX5_ofHouse_X3_clocksIn : GoodIn wsX5_ofHouse wsX3_clocksIn := goodIn_r _ [19, 20, 21, 63, 64, 65, 66, 67, 68, 69, 70, 71, 72] (by decide +kernel) (by decide +kernel)
set_option maxRecDepth 20000 in
theorem gX5_ofHouse_X3_clocksIn : GoodIn wsX5_ofHouse (wsV RX5 104 RX3 yX3_clocksIn wsX3_clocksIn) := goodIn_app (goodIn_of _ (by decide +kernel)) ggX5_ofHouse_X3_clocksIn
set_option maxRecDepth 20000 in
theorem ggX5_ofHouse_X3_clocksWaking : GoodIn wsX5_ofHouse wsX3_clocksWaking := goodIn_r _ [25, 20, 21, 26, 27, 28, 7, 29, 30, 31, 32, 33, 34, 35, 36, 37, 38, 39, 40, 41, 42, 43, 44, 45, 46, 47, 48, 49, 11, 12, 13, 14, 15, 50, 51, 52, 63, 64, 65, 66, 67, 68, 69, 70, 71, 72] (by decide +kernel) (by decide +kernel)
set_option maxRecDepth 20000 in
theorem gX5_ofHouse_X3_clocksWaking : GoodIn wsX5_ofHouse (wsV RX5 107 RX3 yX3_clocksWaking wsX3_clocksWaking) := goodIn_app (goodIn_of _ (by decide +kernel)) ggX5_ofHouse_X3_clocksWaking
theorem dX5_ofHouse_0 : decode cX5_ofHouse 0 = .ok (.aload_n 0, 1) := by decide +kernel
theorem dX5_ofHouse_1 : decode cX5_ofHouse 1 = .ok (.getfield 12, 3) := by decide +kernel
theorem dX5_ofHouse_4 : decode cX5_ofHouse 4 = .ok (.iload_n 1, 1) := by decide +kernel
theorem dX5_ofHouse_5 : decode cX5_ofHouse 5 = .ok (.invokevirtual 92, 3) := by decide +kernel
theorem dX5_ofHouse_8 : decode cX5_ofHouse 8 = .ok (.ifCond .ne 5, 3) := by decide +kernel
theorem dX5_ofHouse_11 : decode cX5_ofHouse 11 = .ok (.iconst (-1), 1) := by decide +kernel
theorem dX5_ofHouse_12 : decode cX5_ofHouse 12 = .ok (.ireturn, 1) := by decide +kernel
theorem dX5_ofHouse_13 : decode cX5_ofHouse 13 = .ok (.iload_n 2, 1) := by decide +kernel
theorem dX5_ofHouse_14 : decode cX5_ofHouse 14 = .ok (.tableswitch 81 0 4 #[34, 44, 54, 63, 72], 34) := by decide +kernel
theorem dX5_ofHouse_48 : decode cX5_ofHouse 48 = .ok (.aload_n 0, 1) := by decide +kernel
theorem dX5_ofHouse_49 : decode cX5_ofHouse 49 = .ok (.getfield 12, 3) := by decide +kernel
theorem dX5_ofHouse_52 : decode cX5_ofHouse 52 = .ok (.getfield 95, 3) := by decide +kernel
theorem dX5_ofHouse_55 : decode cX5_ofHouse 55 = .ok (.iload_n 1, 1) := by decide +kernel
theorem dX5_ofHouse_56 : decode cX5_ofHouse 56 = .ok (.iaload, 1) := by decide +kernel
theorem dX5_ofHouse_57 : decode cX5_ofHouse 57 = .ok (.ireturn, 1) := by decide +kernel
theorem dX5_ofHouse_58 : decode cX5_ofHouse 58 = .ok (.aload_n 0, 1) := by decide +kernel
theorem dX5_ofHouse_59 : decode cX5_ofHouse 59 = .ok (.getfield 12, 3) := by decide +kernel
theorem dX5_ofHouse_62 : decode cX5_ofHouse 62 = .ok (.getfield 98, 3) := by decide +kernel
theorem dX5_ofHouse_65 : decode cX5_ofHouse 65 = .ok (.iload_n 1, 1) := by decide +kernel
theorem dX5_ofHouse_66 : decode cX5_ofHouse 66 = .ok (.iaload, 1) := by decide +kernel
theorem dX5_ofHouse_67 : decode cX5_ofHouse 67 = .ok (.ireturn, 1) := by decide +kernel
theorem dX5_ofHouse_68 : decode cX5_ofHouse 68 = .ok (.aload_n 0, 1) := by decide +kernel
theorem dX5_ofHouse_69 : decode cX5_ofHouse 69 = .ok (.getfield 12, 3) := by decide +kernel
theorem dX5_ofHouse_72 : decode cX5_ofHouse 72 = .ok (.iload_n 1, 1) := by decide +kernel
theorem dX5_ofHouse_73 : decode cX5_ofHouse 73 = .ok (.invokevirtual 101, 3) := by decide +kernel
theorem dX5_ofHouse_76 : decode cX5_ofHouse 76 = .ok (.ireturn, 1) := by decide +kernel
theorem dX5_ofHouse_77 : decode cX5_ofHouse 77 = .ok (.aload_n 0, 1) := by decide +kernel
theorem dX5_ofHouse_78 : decode cX5_ofHouse 78 = .ok (.getfield 12, 3) := by decide +kernel
theorem dX5_ofHouse_81 : decode cX5_ofHouse 81 = .ok (.iload_n 1, 1) := by decide +kernel
theorem dX5_ofHouse_82 : decode cX5_ofHouse 82 = .ok (.invokevirtual 104, 3) := by decide +kernel
theorem dX5_ofHouse_85 : decode cX5_ofHouse 85 = .ok (.ireturn, 1) := by decide +kernel
theorem dX5_ofHouse_86 : decode cX5_ofHouse 86 = .ok (.aload_n 0, 1) := by decide +kernel
theorem dX5_ofHouse_87 : decode cX5_ofHouse 87 = .ok (.getfield 12, 3) := by decide +kernel
theorem dX5_ofHouse_90 : decode cX5_ofHouse 90 = .ok (.iload_n 1, 1) := by decide +kernel
theorem dX5_ofHouse_91 : decode cX5_ofHouse 91 = .ok (.invokevirtual 107, 3) := by decide +kernel
theorem dX5_ofHouse_94 : decode cX5_ofHouse 94 = .ok (.ireturn, 1) := by decide +kernel
theorem dX5_ofHouse_95 : decode cX5_ofHouse 95 = .ok (.bipush (-2), 2) := by decide +kernel
theorem dX5_ofHouse_97 : decode cX5_ofHouse 97 = .ok (.ireturn, 1) := by decide +kernel
set_option maxRecDepth 20000 in
theorem ggX5_ofClock_X3_hasClock : GoodIn wsX5_ofClock wsX3_hasClock := goodIn_r _ [9, 10, 63, 64, 65, 66, 67, 68, 69, 70, 71, 72] (by decide +kernel) (by decide +kernel)
set_option maxRecDepth 20000 in
theorem gX5_ofClock_X3_hasClock : GoodIn wsX5_ofClock (wsV RX5 110 RX3 yX3_hasClock wsX3_hasClock) := goodIn_app (goodIn_of _ (by decide +kernel)) ggX5_ofClock_X3_hasClock
set_option maxRecDepth 20000 in
theorem ggX5_ofClock_X3_sound : GoodIn wsX5_ofClock wsX3_sound := goodIn_r _ [14, 15, 16, 17, 18, 8, 19, 20, 63, 64, 65, 66, 67, 68, 69, 70, 71, 72] (by decide +kernel) (by decide +kernel)
set_option maxRecDepth 20000 in
theorem gX5_ofClock_X3_sound : GoodIn wsX5_ofClock (wsV RX5 116 RX3 yX3_sound wsX3_sound) := goodIn_app (goodIn_of _ (by decide +kernel)) ggX5_ofClock_X3_sound
set_option maxRecDepth 20000 in
theorem ggX5_ofClock_X3_wakers : GoodIn wsX5_ofClock wsX3_wakers := goodIn_r _ [24, 25, 26, 12, 13, 8, 14, 15, 16, 17, 18, 19, 20, 27, 28, 29, 30, 31, 32, 33, 34, 35, 36, 37, 38, 39, 40, 41, 42, 43, 44, 45, 46, 47, 48, 63, 64, 65, 66, 67, 68, 69, 70, 71, 72] (by decide +kernel) (by decide +kernel)
set_option maxRecDepth 20000 in
theorem gX5_ofClock_X3_wakers : GoodIn wsX5_ofClock (wsV RX5 126 RX3 yX3_wakers wsX3_wakers) := goodIn_app (goodIn_of _ (by decide +kernel)) ggX5_ofClock_X3_wakers
set_option maxRecDepth 20000 in
theorem ggX5_ofClock_X3_owner : GoodIn wsX5_ofClock wsX3_owner := goodIn_r _ [52, 25, 26, 12, 13, 8, 14, 15, 16, 17, 18, 19, 20, 31, 32, 33, 34, 35, 36, 37, 38, 39, 40, 41, 42, 43, 44, 45, 46, 47, 48, 63, 64, 65, 66, 67, 68, 69, 70, 71, 72] (by decide +kernel) (by decide +kernel)
set_option maxRecDepth 20000 in
theorem gX5_ofClock_X3_owner : GoodIn wsX5_ofClock (wsV RX5 130 RX3 yX3_owner wsX3_owner) := goodIn_app (goodIn_of _ (by decide +kernel)) ggX5_ofClock_X3_owner
theorem dX5_ofClock_0 : decode cX5_ofClock 0 = .ok (.aload_n 0, 1) := by decide +kernel
theorem dX5_ofClock_1 : decode cX5_ofClock 1 = .ok (.getfield 12, 3) := by decide +kernel
theorem dX5_ofClock_4 : decode cX5_ofClock 4 = .ok (.iload_n 1, 1) := by decide +kernel
theorem dX5_ofClock_5 : decode cX5_ofClock 5 = .ok (.invokevirtual 110, 3) := by decide +kernel
theorem dX5_ofClock_8 : decode cX5_ofClock 8 = .ok (.ifCond .ne 5, 3) := by decide +kernel
theorem dX5_ofClock_11 : decode cX5_ofClock 11 = .ok (.iconst (-1), 1) := by decide +kernel
theorem dX5_ofClock_12 : decode cX5_ofClock 12 = .ok (.ireturn, 1) := by decide +kernel
theorem dX5_ofClock_13 : decode cX5_ofClock 13 = .ok (.iload_n 2, 1) := by decide +kernel
theorem dX5_ofClock_14 : decode cX5_ofClock 14 = .ok (.tableswitch 121 0 5 #[38, 48, 57, 67, 85, 103], 38) := by decide +kernel
theorem dX5_ofClock_52 : decode cX5_ofClock 52 = .ok (.aload_n 0, 1) := by decide +kernel
theorem dX5_ofClock_53 : decode cX5_ofClock 53 = .ok (.getfield 12, 3) := by decide +kernel
theorem dX5_ofClock_56 : decode cX5_ofClock 56 = .ok (.getfield 113, 3) := by decide +kernel
theorem dX5_ofClock_59 : decode cX5_ofClock 59 = .ok (.iload_n 1, 1) := by decide +kernel
theorem dX5_ofClock_60 : decode cX5_ofClock 60 = .ok (.iaload, 1) := by decide +kernel
theorem dX5_ofClock_61 : decode cX5_ofClock 61 = .ok (.ireturn, 1) := by decide +kernel
theorem dX5_ofClock_62 : decode cX5_ofClock 62 = .ok (.aload_n 0, 1) := by decide +kernel
theorem dX5_ofClock_63 : decode cX5_ofClock 63 = .ok (.getfield 12, 3) := by decide +kernel
theorem dX5_ofClock_66 : decode cX5_ofClock 66 = .ok (.iload_n 1, 1) := by decide +kernel
theorem dX5_ofClock_67 : decode cX5_ofClock 67 = .ok (.invokevirtual 116, 3) := by decide +kernel
theorem dX5_ofClock_70 : decode cX5_ofClock 70 = .ok (.ireturn, 1) := by decide +kernel
theorem dX5_ofClock_71 : decode cX5_ofClock 71 = .ok (.aload_n 0, 1) := by decide +kernel
theorem dX5_ofClock_72 : decode cX5_ofClock 72 = .ok (.getfield 12, 3) := by decide +kernel
theorem dX5_ofClock_75 : decode cX5_ofClock 75 = .ok (.getfield 119, 3) := by decide +kernel
theorem dX5_ofClock_78 : decode cX5_ofClock 78 = .ok (.iload_n 1, 1) := by decide +kernel
theorem dX5_ofClock_79 : decode cX5_ofClock 79 = .ok (.iaload, 1) := by decide +kernel
theorem dX5_ofClock_80 : decode cX5_ofClock 80 = .ok (.ireturn, 1) := by decide +kernel
theorem dX5_ofClock_81 : decode cX5_ofClock 81 = .ok (.aload_n 0, 1) := by decide +kernel
theorem dX5_ofClock_82 : decode cX5_ofClock 82 = .ok (.getfield 12, 3) := by decide +kernel
theorem dX5_ofClock_85 : decode cX5_ofClock 85 = .ok (.getfield 122, 3) := by decide +kernel
theorem dX5_ofClock_88 : decode cX5_ofClock 88 = .ok (.iload_n 1, 1) := by decide +kernel
theorem dX5_ofClock_89 : decode cX5_ofClock 89 = .ok (.baload, 1) := by decide +kernel
theorem dX5_ofClock_90 : decode cX5_ofClock 90 = .ok (.ifCond .eq 7, 3) := by decide +kernel
theorem dX5_ofClock_93 : decode cX5_ofClock 93 = .ok (.iconst 1, 1) := by decide +kernel
theorem dX5_ofClock_94 : decode cX5_ofClock 94 = .ok (.goto 4, 3) := by decide +kernel
theorem dX5_ofClock_97 : decode cX5_ofClock 97 = .ok (.iconst 0, 1) := by decide +kernel
theorem dX5_ofClock_98 : decode cX5_ofClock 98 = .ok (.ireturn, 1) := by decide +kernel
theorem dX5_ofClock_99 : decode cX5_ofClock 99 = .ok (.aload_n 0, 1) := by decide +kernel
theorem dX5_ofClock_100 : decode cX5_ofClock 100 = .ok (.getfield 12, 3) := by decide +kernel
theorem dX5_ofClock_103 : decode cX5_ofClock 103 = .ok (.iload_n 1, 1) := by decide +kernel
theorem dX5_ofClock_104 : decode cX5_ofClock 104 = .ok (.aload_n 0, 1) := by decide +kernel
theorem dX5_ofClock_105 : decode cX5_ofClock 105 = .ok (.getfield 12, 3) := by decide +kernel
theorem dX5_ofClock_108 : decode cX5_ofClock 108 = .ok (.getfield 119, 3) := by decide +kernel
theorem dX5_ofClock_111 : decode cX5_ofClock 111 = .ok (.iload_n 1, 1) := by decide +kernel
theorem dX5_ofClock_112 : decode cX5_ofClock 112 = .ok (.iaload, 1) := by decide +kernel
theorem dX5_ofClock_113 : decode cX5_ofClock 113 = .ok (.invokevirtual 126, 3) := by decide +kernel
theorem dX5_ofClock_116 : decode cX5_ofClock 116 = .ok (.ireturn, 1) := by decide +kernel
theorem dX5_ofClock_117 : decode cX5_ofClock 117 = .ok (.aload_n 0, 1) := by decide +kernel
theorem dX5_ofClock_118 : decode cX5_ofClock 118 = .ok (.getfield 12, 3) := by decide +kernel
theorem dX5_ofClock_121 : decode cX5_ofClock 121 = .ok (.iload_n 1, 1) := by decide +kernel
theorem dX5_ofClock_122 : decode cX5_ofClock 122 = .ok (.aload_n 0, 1) := by decide +kernel
theorem dX5_ofClock_123 : decode cX5_ofClock 123 = .ok (.getfield 12, 3) := by decide +kernel
theorem dX5_ofClock_126 : decode cX5_ofClock 126 = .ok (.getfield 119, 3) := by decide +kernel
theorem dX5_ofClock_129 : decode cX5_ofClock 129 = .ok (.iload_n 1, 1) := by decide +kernel
theorem dX5_ofClock_130 : decode cX5_ofClock 130 = .ok (.iaload, 1) := by decide +kernel
theorem dX5_ofClock_131 : decode cX5_ofClock 131 = .ok (.invokevirtual 130, 3) := by decide +kernel
theorem dX5_ofClock_134 : decode cX5_ofClock 134 = .ok (.ireturn, 1) := by decide +kernel
theorem dX5_ofClock_135 : decode cX5_ofClock 135 = .ok (.bipush (-2), 2) := by decide +kernel
theorem dX5_ofClock_137 : decode cX5_ofClock 137 = .ok (.ireturn, 1) := by decide +kernel
set_option maxRecDepth 20000 in
theorem ggX5_drowse_X3_hasHouse : GoodIn wsX5_drowse wsX3_hasHouse := goodIn_r _ [7, 8, 19, 20, 21, 22, 23, 24, 25, 26, 27, 28] (by decide +kernel) (by decide +kernel)
set_option maxRecDepth 20000 in
theorem gX5_drowse_X3_hasHouse : GoodIn wsX5_drowse (wsV RX5 92 RX3 yX3_hasHouse wsX3_hasHouse) := goodIn_app (goodIn_of _ (by decide +kernel)) ggX5_drowse_X3_hasHouse
theorem dX5_drowse_0 : decode cX5_drowse 0 = .ok (.aload_n 0, 1) := by decide +kernel
theorem dX5_drowse_1 : decode cX5_drowse 1 = .ok (.getfield 12, 3) := by decide +kernel
theorem dX5_drowse_4 : decode cX5_drowse 4 = .ok (.iload_n 1, 1) := by decide +kernel
theorem dX5_drowse_5 : decode cX5_drowse 5 = .ok (.invokevirtual 92, 3) := by decide +kernel
theorem dX5_drowse_8 : decode cX5_drowse 8 = .ok (.ifCond .ne 5, 3) := by decide +kernel
theorem dX5_drowse_11 : decode cX5_drowse 11 = .ok (.iconst (-1), 1) := by decide +kernel
theorem dX5_drowse_12 : decode cX5_drowse 12 = .ok (.ireturn, 1) := by decide +kernel
theorem dX5_drowse_13 : decode cX5_drowse 13 = .ok (.iload_n 2, 1) := by decide +kernel
theorem dX5_drowse_14 : decode cX5_drowse 14 = .ok (.iconst 1, 1) := by decide +kernel
theorem dX5_drowse_15 : decode cX5_drowse 15 = .ok (.if_icmp .lt 9, 3) := by decide +kernel
theorem dX5_drowse_18 : decode cX5_drowse 18 = .ok (.iload_n 2, 1) := by decide +kernel
theorem dX5_drowse_19 : decode cX5_drowse 19 = .ok (.bipush 9, 2) := by decide +kernel
theorem dX5_drowse_21 : decode cX5_drowse 21 = .ok (.if_icmp .le 6, 3) := by decide +kernel
theorem dX5_drowse_24 : decode cX5_drowse 24 = .ok (.bipush (-2), 2) := by decide +kernel
theorem dX5_drowse_26 : decode cX5_drowse 26 = .ok (.ireturn, 1) := by decide +kernel
theorem dX5_drowse_27 : decode cX5_drowse 27 = .ok (.aload_n 0, 1) := by decide +kernel
end
section
theorem dX5_drowse_28 : decode cX5_drowse 28 = .ok (.getfield 12, 3) := by decide +kernel
theorem dX5_drowse_31 : decode cX5_drowse 31 = .ok (.getfield 98, 3) := by decide +kernel
theorem dX5_drowse_34 : decode cX5_drowse 34 = .ok (.iload_n 1, 1) := by decide +kernel
theorem dX5_drowse_35 : decode cX5_drowse 35 = .ok (.iaload, 1) := by decide +kernel
theorem dX5_drowse_36 : decode cX5_drowse 36 = .ok (.istore_n 3, 1) := by decide +kernel
theorem dX5_drowse_37 : decode cX5_drowse 37 = .ok (.aload_n 0, 1) := by decide +kernel
theorem dX5_drowse_38 : decode cX5_drowse 38 = .ok (.getfield 12, 3) := by decide +kernel
theorem dX5_drowse_41 : decode cX5_drowse 41 = .ok (.getfield 98, 3) := by decide +kernel
theorem dX5_drowse_44 : decode cX5_drowse 44 = .ok (.iload_n 1, 1) := by decide +kernel
theorem dX5_drowse_45 : decode cX5_drowse 45 = .ok (.iload_n 2, 1) := by decide +kernel
theorem dX5_drowse_46 : decode cX5_drowse 46 = .ok (.iastore, 1) := by decide +kernel
theorem dX5_drowse_47 : decode cX5_drowse 47 = .ok (.iload_n 3, 1) := by decide +kernel
theorem dX5_drowse_48 : decode cX5_drowse 48 = .ok (.ireturn, 1) := by decide +kernel
set_option maxRecDepth 20000 in
theorem ggX5_tune_X3_hasClock : GoodIn wsX5_tune wsX3_hasClock := goodIn_r _ [7, 8, 19, 20, 21, 22, 23, 24, 25, 26, 27, 28] (by decide +kernel) (by decide +kernel)
set_option maxRecDepth 20000 in
theorem gX5_tune_X3_hasClock : GoodIn wsX5_tune (wsV RX5 110 RX3 yX3_hasClock wsX3_hasClock) := goodIn_app (goodIn_of _ (by decide +kernel)) ggX5_tune_X3_hasClock
theorem dX5_tune_0 : decode cX5_tune 0 = .ok (.aload_n 0, 1) := by decide +kernel
theorem dX5_tune_1 : decode cX5_tune 1 = .ok (.getfield 12, 3) := by decide +kernel
theorem dX5_tune_4 : decode cX5_tune 4 = .ok (.iload_n 1, 1) := by decide +kernel
theorem dX5_tune_5 : decode cX5_tune 5 = .ok (.invokevirtual 110, 3) := by decide +kernel
theorem dX5_tune_8 : decode cX5_tune 8 = .ok (.ifCond .ne 5, 3) := by decide +kernel
theorem dX5_tune_11 : decode cX5_tune 11 = .ok (.iconst (-1), 1) := by decide +kernel
theorem dX5_tune_12 : decode cX5_tune 12 = .ok (.ireturn, 1) := by decide +kernel
theorem dX5_tune_13 : decode cX5_tune 13 = .ok (.iload_n 2, 1) := by decide +kernel
theorem dX5_tune_14 : decode cX5_tune 14 = .ok (.iconst 1, 1) := by decide +kernel
theorem dX5_tune_15 : decode cX5_tune 15 = .ok (.if_icmp .lt 9, 3) := by decide +kernel
theorem dX5_tune_18 : decode cX5_tune 18 = .ok (.iload_n 2, 1) := by decide +kernel
theorem dX5_tune_19 : decode cX5_tune 19 = .ok (.bipush 9, 2) := by decide +kernel
theorem dX5_tune_21 : decode cX5_tune 21 = .ok (.if_icmp .le 6, 3) := by decide +kernel
theorem dX5_tune_24 : decode cX5_tune 24 = .ok (.bipush (-2), 2) := by decide +kernel
theorem dX5_tune_26 : decode cX5_tune 26 = .ok (.ireturn, 1) := by decide +kernel
theorem dX5_tune_27 : decode cX5_tune 27 = .ok (.aload_n 0, 1) := by decide +kernel
theorem dX5_tune_28 : decode cX5_tune 28 = .ok (.getfield 12, 3) := by decide +kernel
theorem dX5_tune_31 : decode cX5_tune 31 = .ok (.getfield 113, 3) := by decide +kernel
theorem dX5_tune_34 : decode cX5_tune 34 = .ok (.iload_n 1, 1) := by decide +kernel
theorem dX5_tune_35 : decode cX5_tune 35 = .ok (.iaload, 1) := by decide +kernel
theorem dX5_tune_36 : decode cX5_tune 36 = .ok (.istore_n 3, 1) := by decide +kernel
theorem dX5_tune_37 : decode cX5_tune 37 = .ok (.aload_n 0, 1) := by decide +kernel
theorem dX5_tune_38 : decode cX5_tune 38 = .ok (.getfield 12, 3) := by decide +kernel
theorem dX5_tune_41 : decode cX5_tune 41 = .ok (.getfield 113, 3) := by decide +kernel
theorem dX5_tune_44 : decode cX5_tune 44 = .ok (.iload_n 1, 1) := by decide +kernel
theorem dX5_tune_45 : decode cX5_tune 45 = .ok (.iload_n 2, 1) := by decide +kernel
theorem dX5_tune_46 : decode cX5_tune 46 = .ok (.iastore, 1) := by decide +kernel
theorem dX5_tune_47 : decode cX5_tune 47 = .ok (.iload_n 3, 1) := by decide +kernel
theorem dX5_tune_48 : decode cX5_tune 48 = .ok (.ireturn, 1) := by decide +kernel
set_option maxRecDepth 20000 in
theorem ggX5_wall_X3_stands : GoodIn wsX5_wall wsX3_stands := goodIn_r _ [7, 8, 19, 20, 21, 22, 23, 24, 25, 26, 27, 28] (by decide +kernel) (by decide +kernel)
set_option maxRecDepth 20000 in
theorem gX5_wall_X3_stands : GoodIn wsX5_wall (wsV RX5 133 RX3 yX3_stands wsX3_stands) := goodIn_app (goodIn_of _ (by decide +kernel)) ggX5_wall_X3_stands
theorem dX5_wall_0 : decode cX5_wall 0 = .ok (.iload_n 1, 1) := by decide +kernel
theorem dX5_wall_1 : decode cX5_wall 1 = .ok (.ifCond .lt 8, 3) := by decide +kernel
theorem dX5_wall_4 : decode cX5_wall 4 = .ok (.iload_n 1, 1) := by decide +kernel
theorem dX5_wall_5 : decode cX5_wall 5 = .ok (.iconst 3, 1) := by decide +kernel
theorem dX5_wall_6 : decode cX5_wall 6 = .ok (.if_icmp .le 6, 3) := by decide +kernel
theorem dX5_wall_9 : decode cX5_wall 9 = .ok (.bipush (-2), 2) := by decide +kernel
theorem dX5_wall_11 : decode cX5_wall 11 = .ok (.ireturn, 1) := by decide +kernel
theorem dX5_wall_12 : decode cX5_wall 12 = .ok (.aload_n 0, 1) := by decide +kernel
theorem dX5_wall_13 : decode cX5_wall 13 = .ok (.getfield 12, 3) := by decide +kernel
theorem dX5_wall_16 : decode cX5_wall 16 = .ok (.invokevirtual 133, 3) := by decide +kernel
theorem dX5_wall_19 : decode cX5_wall 19 = .ok (.ifCond .ne 6, 3) := by decide +kernel
theorem dX5_wall_22 : decode cX5_wall 22 = .ok (.bipush (-3), 2) := by decide +kernel
theorem dX5_wall_24 : decode cX5_wall 24 = .ok (.ireturn, 1) := by decide +kernel
theorem dX5_wall_25 : decode cX5_wall 25 = .ok (.aload_n 0, 1) := by decide +kernel
theorem dX5_wall_26 : decode cX5_wall 26 = .ok (.getfield 12, 3) := by decide +kernel
theorem dX5_wall_29 : decode cX5_wall 29 = .ok (.getfield 137, 3) := by decide +kernel
theorem dX5_wall_32 : decode cX5_wall 32 = .ok (.istore_n 2, 1) := by decide +kernel
theorem dX5_wall_33 : decode cX5_wall 33 = .ok (.aload_n 0, 1) := by decide +kernel
theorem dX5_wall_34 : decode cX5_wall 34 = .ok (.getfield 12, 3) := by decide +kernel
theorem dX5_wall_37 : decode cX5_wall 37 = .ok (.iload_n 1, 1) := by decide +kernel
theorem dX5_wall_38 : decode cX5_wall 38 = .ok (.putfield 137, 3) := by decide +kernel
theorem dX5_wall_41 : decode cX5_wall 41 = .ok (.iload_n 2, 1) := by decide +kernel
theorem dX5_wall_42 : decode cX5_wall 42 = .ok (.ireturn, 1) := by decide +kernel
set_option maxRecDepth 20000 in
theorem ggX5_hears_X3_hasHouse : GoodIn wsX5_hears wsX3_hasHouse := goodIn_r _ [8, 9, 44, 45, 46, 47, 48, 49, 50, 51, 52, 53] (by decide +kernel) (by decide +kernel)
set_option maxRecDepth 20000 in
theorem gX5_hears_X3_hasHouse : GoodIn wsX5_hears (wsV RX5 92 RX3 yX3_hasHouse wsX3_hasHouse) := goodIn_app (goodIn_of _ (by decide +kernel)) ggX5_hears_X3_hasHouse
set_option maxRecDepth 20000 in
theorem ggX5_hears_X3_hasClock : GoodIn wsX5_hears wsX3_hasClock := goodIn_r _ [13, 14, 44, 45, 46, 47, 48, 49, 50, 51, 52, 53] (by decide +kernel) (by decide +kernel)
set_option maxRecDepth 20000 in
theorem gX5_hears_X3_hasClock : GoodIn wsX5_hears (wsV RX5 110 RX3 yX3_hasClock wsX3_hasClock) := goodIn_app (goodIn_of _ (by decide +kernel)) ggX5_hears_X3_hasClock
set_option maxRecDepth 20000 in
theorem ggX5_hears_X3_sound : GoodIn wsX5_hears wsX3_sound := goodIn_r _ [18, 19, 20, 21, 22, 7, 23, 24, 44, 45, 46, 47, 48, 49, 50, 51, 52, 53] (by decide +kernel) (by decide +kernel)
set_option maxRecDepth 20000 in
theorem gX5_hears_X3_sound : GoodIn wsX5_hears (wsV RX5 116 RX3 yX3_sound wsX3_sound) := goodIn_app (goodIn_of _ (by decide +kernel)) ggX5_hears_X3_sound
set_option maxRecDepth 20000 in
theorem ggX5_hears_X3_heard : GoodIn wsX5_hears wsX3_heard := goodIn_r _ [28, 29, 30, 31, 32, 33, 44, 45, 46, 47, 48, 49, 50, 51, 52, 53] (by decide +kernel) (by decide +kernel)
set_option maxRecDepth 20000 in
theorem gX5_hears_X3_heard : GoodIn wsX5_hears (wsV RX5 142 RX3 yX3_heard wsX3_heard) := goodIn_app (goodIn_of _ (by decide +kernel)) ggX5_hears_X3_heard
theorem dX5_hears_0 : decode cX5_hears 0 = .ok (.aload_n 0, 1) := by decide +kernel
theorem dX5_hears_1 : decode cX5_hears 1 = .ok (.getfield 12, 3) := by decide +kernel
theorem dX5_hears_4 : decode cX5_hears 4 = .ok (.iload_n 1, 1) := by decide +kernel
theorem dX5_hears_5 : decode cX5_hears 5 = .ok (.invokevirtual 92, 3) := by decide +kernel
theorem dX5_hears_8 : decode cX5_hears 8 = .ok (.ifCond .eq 14, 3) := by decide +kernel
theorem dX5_hears_11 : decode cX5_hears 11 = .ok (.aload_n 0, 1) := by decide +kernel
theorem dX5_hears_12 : decode cX5_hears 12 = .ok (.getfield 12, 3) := by decide +kernel
theorem dX5_hears_15 : decode cX5_hears 15 = .ok (.iload_n 2, 1) := by decide +kernel
theorem dX5_hears_16 : decode cX5_hears 16 = .ok (.invokevirtual 110, 3) := by decide +kernel
theorem dX5_hears_19 : decode cX5_hears 19 = .ok (.ifCond .ne 7, 3) := by decide +kernel
theorem dX5_hears_22 : decode cX5_hears 22 = .ok (.ldc2_w 140, 3) := by decide +kernel
theorem dX5_hears_25 : decode cX5_hears 25 = .ok (.lreturn, 1) := by decide +kernel
theorem dX5_hears_26 : decode cX5_hears 26 = .ok (.aload_n 0, 1) := by decide +kernel
theorem dX5_hears_27 : decode cX5_hears 27 = .ok (.getfield 12, 3) := by decide +kernel
theorem dX5_hears_30 : decode cX5_hears 30 = .ok (.iload_n 1, 1) := by decide +kernel
theorem dX5_hears_31 : decode cX5_hears 31 = .ok (.aload_n 0, 1) := by decide +kernel
theorem dX5_hears_32 : decode cX5_hears 32 = .ok (.getfield 12, 3) := by decide +kernel
theorem dX5_hears_35 : decode cX5_hears 35 = .ok (.iload_n 2, 1) := by decide +kernel
theorem dX5_hears_36 : decode cX5_hears 36 = .ok (.invokevirtual 116, 3) := by decide +kernel
theorem dX5_hears_39 : decode cX5_hears 39 = .ok (.aload_n 0, 1) := by decide +kernel
theorem dX5_hears_40 : decode cX5_hears 40 = .ok (.getfield 12, 3) := by decide +kernel
theorem dX5_hears_43 : decode cX5_hears 43 = .ok (.getfield 119, 3) := by decide +kernel
theorem dX5_hears_46 : decode cX5_hears 46 = .ok (.iload_n 2, 1) := by decide +kernel
theorem dX5_hears_47 : decode cX5_hears 47 = .ok (.iaload, 1) := by decide +kernel
theorem dX5_hears_48 : decode cX5_hears 48 = .ok (.invokevirtual 142, 3) := by decide +kernel
theorem dX5_hears_51 : decode cX5_hears 51 = .ok (.i2l, 1) := by decide +kernel
theorem dX5_hears_52 : decode cX5_hears 52 = .ok (.lreturn, 1) := by decide +kernel
set_option maxRecDepth 20000 in
theorem ggX5_stroke_X3_hasClock : GoodIn wsX5_stroke wsX3_hasClock := goodIn_r _ [6, 7, 58, 59, 60, 61, 62, 63, 64, 65, 66, 67] (by decide +kernel) (by decide +kernel)
set_option maxRecDepth 20000 in
theorem gX5_stroke_X3_hasClock : GoodIn wsX5_stroke (wsV RX5 110 RX3 yX3_hasClock wsX3_hasClock) := goodIn_app (goodIn_of _ (by decide +kernel)) ggX5_stroke_X3_hasClock
set_option maxRecDepth 20000 in
theorem ggX5_stroke_X3_strike : GoodIn wsX5_stroke wsX3_strike := goodIn_r _ [11, 12, 13, 14, 15, 16, 17, 5, 18, 19, 20, 21, 22, 23, 24, 25, 26, 27, 28, 29, 30, 31, 32, 33, 34, 35, 36, 37, 38, 39, 40, 41, 42, 43, 44, 45, 46, 47, 58, 59, 60, 61, 62, 63, 64, 65, 66, 67] (by decide +kernel) (by decide +kernel)
set_option maxRecDepth 20000 in
theorem gX5_stroke_X3_strike : GoodIn wsX5_stroke (wsV RX5 146 RX3 yX3_strike wsX3_strike) := goodIn_app (goodIn_of _ (by decide +kernel)) ggX5_stroke_X3_strike
theorem dX5_stroke_0 : decode cX5_stroke 0 = .ok (.aload_n 0, 1) := by decide +kernel
theorem dX5_stroke_1 : decode cX5_stroke 1 = .ok (.getfield 12, 3) := by decide +kernel
theorem dX5_stroke_4 : decode cX5_stroke 4 = .ok (.iload_n 1, 1) := by decide +kernel
theorem dX5_stroke_5 : decode cX5_stroke 5 = .ok (.invokevirtual 110, 3) := by decide +kernel
theorem dX5_stroke_8 : decode cX5_stroke 8 = .ok (.ifCond .eq 14, 3) := by decide +kernel
theorem dX5_stroke_11 : decode cX5_stroke 11 = .ok (.aload_n 0, 1) := by decide +kernel
theorem dX5_stroke_12 : decode cX5_stroke 12 = .ok (.getfield 12, 3) := by decide +kernel
theorem dX5_stroke_15 : decode cX5_stroke 15 = .ok (.iload_n 1, 1) := by decide +kernel
theorem dX5_stroke_16 : decode cX5_stroke 16 = .ok (.invokevirtual 146, 3) := by decide +kernel
theorem dX5_stroke_19 : decode cX5_stroke 19 = .ok (.goto 4, 3) := by decide +kernel
theorem dX5_stroke_22 : decode cX5_stroke 22 = .ok (.iconst (-1), 1) := by decide +kernel
theorem dX5_stroke_23 : decode cX5_stroke 23 = .ok (.ireturn, 1) := by decide +kernel
set_option maxRecDepth 20000 in
theorem ggX5_nights_X3_stands : GoodIn wsX5_nights wsX3_stands := goodIn_r _ [10, 11, 74, 75, 76, 77, 78, 79, 80, 81, 82, 83] (by decide +kernel) (by decide +kernel)
set_option maxRecDepth 20000 in
theorem gX5_nights_X3_stands : GoodIn wsX5_nights (wsV RX5 133 RX3 yX3_stands wsX3_stands) := goodIn_app (goodIn_of _ (by decide +kernel)) ggX5_nights_X3_stands
set_option maxRecDepth 20000 in
theorem ggX5_nights_X3_become : GoodIn wsX5_nights wsX3_become := goodIn_r _ [15, 11, 16, 17, 18, 19, 20, 21, 22, 23, 24, 25, 9, 26, 27, 28, 74, 75, 76, 77, 78, 79, 80, 81, 82, 83] (by decide +kernel) (by decide +kernel)
set_option maxRecDepth 20000 in
theorem gX5_nights_X3_become : GoodIn wsX5_nights (wsV RX5 79 RX3 yX3_become wsX3_become) := goodIn_app (goodIn_of _ (by decide +kernel)) ggX5_nights_X3_become
set_option maxRecDepth 20000 in
theorem ggX5_nights_X3_passNights : GoodIn wsX5_nights wsX3_passNights := goodIn_r _ [32, 16, 33, 34, 35, 9, 36, 21, 28, 27, 37, 38, 39, 40, 11, 41, 42, 43, 44, 22, 45, 46, 47, 48, 20, 49, 50, 51, 52, 17, 53, 54, 55, 56, 57, 58, 59, 60, 18, 19, 61, 62, 63, 74, 75, 76, 77, 78, 79, 80, 81, 82, 83] (by decide +kernel) (by decide +kernel)
set_option maxRecDepth 20000 in
theorem gX5_nights_X3_passNights : GoodIn wsX5_nights (wsV RX5 149 RX3 yX3_passNights wsX3_passNights) := goodIn_app (goodIn_of _ (by decide +kernel)) ggX5_nights_X3_passNights
theorem dX5_nights_0 : decode cX5_nights 0 = .ok (.iload_n 1, 1) := by decide +kernel
theorem dX5_nights_1 : decode cX5_nights 1 = .ok (.iconst 1, 1) := by decide +kernel
theorem dX5_nights_2 : decode cX5_nights 2 = .ok (.if_icmp .lt 9, 3) := by decide +kernel
theorem dX5_nights_5 : decode cX5_nights 5 = .ok (.iload_n 1, 1) := by decide +kernel
theorem dX5_nights_6 : decode cX5_nights 6 = .ok (.bipush 60, 2) := by decide +kernel
theorem dX5_nights_8 : decode cX5_nights 8 = .ok (.if_icmp .le 6, 3) := by decide +kernel
theorem dX5_nights_11 : decode cX5_nights 11 = .ok (.bipush (-2), 2) := by decide +kernel
theorem dX5_nights_13 : decode cX5_nights 13 = .ok (.ireturn, 1) := by decide +kernel
theorem dX5_nights_14 : decode cX5_nights 14 = .ok (.aload_n 0, 1) := by decide +kernel
theorem dX5_nights_15 : decode cX5_nights 15 = .ok (.getfield 12, 3) := by decide +kernel
theorem dX5_nights_18 : decode cX5_nights 18 = .ok (.invokevirtual 133, 3) := by decide +kernel
theorem dX5_nights_21 : decode cX5_nights 21 = .ok (.ifCond .ne 6, 3) := by decide +kernel
theorem dX5_nights_24 : decode cX5_nights 24 = .ok (.bipush (-3), 2) := by decide +kernel
theorem dX5_nights_26 : decode cX5_nights 26 = .ok (.ireturn, 1) := by decide +kernel
theorem dX5_nights_27 : decode cX5_nights 27 = .ok (.aload_n 0, 1) := by decide +kernel
theorem dX5_nights_28 : decode cX5_nights 28 = .ok (.getfield 18, 3) := by decide +kernel
theorem dX5_nights_31 : decode cX5_nights 31 = .ok (.aload_n 0, 1) := by decide +kernel
theorem dX5_nights_32 : decode cX5_nights 32 = .ok (.getfield 12, 3) := by decide +kernel
theorem dX5_nights_35 : decode cX5_nights 35 = .ok (.invokevirtual 79, 3) := by decide +kernel
theorem dX5_nights_38 : decode cX5_nights 38 = .ok (.aload_n 0, 1) := by decide +kernel
theorem dX5_nights_39 : decode cX5_nights 39 = .ok (.getfield 12, 3) := by decide +kernel
theorem dX5_nights_42 : decode cX5_nights 42 = .ok (.iload_n 1, 1) := by decide +kernel
theorem dX5_nights_43 : decode cX5_nights 43 = .ok (.invokevirtual 149, 3) := by decide +kernel
theorem dX5_nights_46 : decode cX5_nights 46 = .ok (.aload_n 0, 1) := by decide +kernel
theorem dX5_nights_47 : decode cX5_nights 47 = .ok (.dup, 1) := by decide +kernel
theorem dX5_nights_48 : decode cX5_nights 48 = .ok (.getfield 83, 3) := by decide +kernel
theorem dX5_nights_51 : decode cX5_nights 51 = .ok (.iload_n 1, 1) := by decide +kernel
theorem dX5_nights_52 : decode cX5_nights 52 = .ok (.iadd, 1) := by decide +kernel
theorem dX5_nights_53 : decode cX5_nights 53 = .ok (.putfield 83, 3) := by decide +kernel
theorem dX5_nights_56 : decode cX5_nights 56 = .ok (.iconst 0, 1) := by decide +kernel
theorem dX5_nights_57 : decode cX5_nights 57 = .ok (.istore_n 2, 1) := by decide +kernel
theorem dX5_nights_58 : decode cX5_nights 58 = .ok (.iconst 0, 1) := by decide +kernel
theorem dX5_nights_59 : decode cX5_nights 59 = .ok (.istore_n 3, 1) := by decide +kernel
theorem dX5_nights_60 : decode cX5_nights 60 = .ok (.iload_n 3, 1) := by decide +kernel
theorem dX5_nights_61 : decode cX5_nights 61 = .ok (.aload_n 0, 1) := by decide +kernel
theorem dX5_nights_62 : decode cX5_nights 62 = .ok (.getfield 12, 3) := by decide +kernel
theorem dX5_nights_65 : decode cX5_nights 65 = .ok (.getfield 89, 3) := by decide +kernel
theorem dX5_nights_68 : decode cX5_nights 68 = .ok (.if_icmp .ge 33, 3) := by decide +kernel
theorem dX5_nights_71 : decode cX5_nights 71 = .ok (.aload_n 0, 1) := by decide +kernel
theorem dX5_nights_72 : decode cX5_nights 72 = .ok (.getfield 12, 3) := by decide +kernel
theorem dX5_nights_75 : decode cX5_nights 75 = .ok (.getfield 119, 3) := by decide +kernel
theorem dX5_nights_78 : decode cX5_nights 78 = .ok (.iload_n 3, 1) := by decide +kernel
theorem dX5_nights_79 : decode cX5_nights 79 = .ok (.iaload, 1) := by decide +kernel
theorem dX5_nights_80 : decode cX5_nights 80 = .ok (.aload_n 0, 1) := by decide +kernel
theorem dX5_nights_81 : decode cX5_nights 81 = .ok (.getfield 18, 3) := by decide +kernel
theorem dX5_nights_84 : decode cX5_nights 84 = .ok (.getfield 119, 3) := by decide +kernel
theorem dX5_nights_87 : decode cX5_nights 87 = .ok (.iload_n 3, 1) := by decide +kernel
theorem dX5_nights_88 : decode cX5_nights 88 = .ok (.iaload, 1) := by decide +kernel
theorem dX5_nights_89 : decode cX5_nights 89 = .ok (.if_icmp .eq 6, 3) := by decide +kernel
theorem dX5_nights_92 : decode cX5_nights 92 = .ok (.iinc 2 1, 3) := by decide +kernel
theorem dX5_nights_95 : decode cX5_nights 95 = .ok (.iinc 3 1, 3) := by decide +kernel
theorem dX5_nights_98 : decode cX5_nights 98 = .ok (.goto (-38), 3) := by decide +kernel
theorem dX5_nights_101 : decode cX5_nights 101 = .ok (.iload_n 2, 1) := by decide +kernel
theorem dX5_nights_102 : decode cX5_nights 102 = .ok (.ireturn, 1) := by decide +kernel
set_option maxRecDepth 20000 in
theorem ggX5_stuff_X3_hasClock : GoodIn wsX5_stuff wsX3_hasClock := goodIn_r _ [7, 8, 31, 32, 33, 34, 35, 36, 37, 38, 39, 40] (by decide +kernel) (by decide +kernel)
set_option maxRecDepth 20000 in
theorem gX5_stuff_X3_hasClock : GoodIn wsX5_stuff (wsV RX5 110 RX3 yX3_hasClock wsX3_hasClock) := goodIn_app (goodIn_of _ (by decide +kernel)) ggX5_stuff_X3_hasClock
set_option maxRecDepth 20000 in
theorem ggX5_stuff_X3_stuffedClocks : GoodIn wsX5_stuff wsX3_stuffedClocks := goodIn_r _ [12, 8, 13, 31, 32, 33, 34, 35, 36, 37, 38, 39, 40] (by decide +kernel) (by decide +kernel)
set_option maxRecDepth 20000 in
theorem gX5_stuff_X3_stuffedClocks : GoodIn wsX5_stuff (wsV RX5 153 RX3 yX3_stuffedClocks wsX3_stuffedClocks) := goodIn_app (goodIn_of _ (by decide +kernel)) ggX5_stuff_X3_stuffedClocks
set_option maxRecDepth 20000 in
theorem ggX5_stuff_J6_bitCount_0f7a4 : GoodIn wsX5_stuff wsJ6_bitCount_0f7a4 := goodIn_r _ [17, 18, 19, 20] (by decide +kernel) (by decide +kernel)
set_option maxRecDepth 20000 in
theorem gX5_stuff_J6_bitCount_0f7a4 : GoodIn wsX5_stuff (va_wsS RX5 157 yJ6_bitCount_0f7a4 wsJ6_bitCount_0f7a4) := goodIn_app (goodIn_of _ (by decide +kernel)) ggX5_stuff_J6_bitCount_0f7a4
theorem dX5_stuff_0 : decode cX5_stuff 0 = .ok (.aload_n 0, 1) := by decide +kernel
theorem dX5_stuff_1 : decode cX5_stuff 1 = .ok (.getfield 12, 3) := by decide +kernel
theorem dX5_stuff_4 : decode cX5_stuff 4 = .ok (.iload_n 1, 1) := by decide +kernel
theorem dX5_stuff_5 : decode cX5_stuff 5 = .ok (.invokevirtual 110, 3) := by decide +kernel
theorem dX5_stuff_8 : decode cX5_stuff 8 = .ok (.ifCond .ne 5, 3) := by decide +kernel
theorem dX5_stuff_11 : decode cX5_stuff 11 = .ok (.iconst (-1), 1) := by decide +kernel
theorem dX5_stuff_12 : decode cX5_stuff 12 = .ok (.ireturn, 1) := by decide +kernel
theorem dX5_stuff_13 : decode cX5_stuff 13 = .ok (.aload_n 0, 1) := by decide +kernel
theorem dX5_stuff_14 : decode cX5_stuff 14 = .ok (.getfield 12, 3) := by decide +kernel
theorem dX5_stuff_17 : decode cX5_stuff 17 = .ok (.getfield 122, 3) := by decide +kernel
theorem dX5_stuff_20 : decode cX5_stuff 20 = .ok (.iload_n 1, 1) := by decide +kernel
theorem dX5_stuff_21 : decode cX5_stuff 21 = .ok (.baload, 1) := by decide +kernel
theorem dX5_stuff_22 : decode cX5_stuff 22 = .ok (.ifCond .eq 6, 3) := by decide +kernel
theorem dX5_stuff_25 : decode cX5_stuff 25 = .ok (.bipush (-3), 2) := by decide +kernel
theorem dX5_stuff_27 : decode cX5_stuff 27 = .ok (.ireturn, 1) := by decide +kernel
theorem dX5_stuff_28 : decode cX5_stuff 28 = .ok (.aload_n 0, 1) := by decide +kernel
theorem dX5_stuff_29 : decode cX5_stuff 29 = .ok (.getfield 12, 3) := by decide +kernel
theorem dX5_stuff_32 : decode cX5_stuff 32 = .ok (.getfield 122, 3) := by decide +kernel
theorem dX5_stuff_35 : decode cX5_stuff 35 = .ok (.iload_n 1, 1) := by decide +kernel
theorem dX5_stuff_36 : decode cX5_stuff 36 = .ok (.iconst 1, 1) := by decide +kernel
theorem dX5_stuff_37 : decode cX5_stuff 37 = .ok (.bastore, 1) := by decide +kernel
theorem dX5_stuff_38 : decode cX5_stuff 38 = .ok (.aload_n 0, 1) := by decide +kernel
theorem dX5_stuff_39 : decode cX5_stuff 39 = .ok (.getfield 12, 3) := by decide +kernel
theorem dX5_stuff_42 : decode cX5_stuff 42 = .ok (.invokevirtual 153, 3) := by decide +kernel
theorem dX5_stuff_45 : decode cX5_stuff 45 = .ok (.invokestatic 157, 3) := by decide +kernel
theorem dX5_stuff_48 : decode cX5_stuff 48 = .ok (.ireturn, 1) := by decide +kernel
set_option maxRecDepth 20000 in
theorem ggX5_ease_X3_hasClock : GoodIn wsX5_ease wsX3_hasClock := goodIn_r _ [7, 8, 31, 32, 33, 34, 35, 36, 37, 38, 39, 40] (by decide +kernel) (by decide +kernel)
set_option maxRecDepth 20000 in
theorem gX5_ease_X3_hasClock : GoodIn wsX5_ease (wsV RX5 110 RX3 yX3_hasClock wsX3_hasClock) := goodIn_app (goodIn_of _ (by decide +kernel)) ggX5_ease_X3_hasClock
set_option maxRecDepth 20000 in
theorem ggX5_ease_X3_stuffedClocks : GoodIn wsX5_ease wsX3_stuffedClocks := goodIn_r _ [12, 8, 13, 31, 32, 33, 34, 35, 36, 37, 38, 39, 40] (by decide +kernel) (by decide +kernel)
set_option maxRecDepth 20000 in
theorem gX5_ease_X3_stuffedClocks : GoodIn wsX5_ease (wsV RX5 153 RX3 yX3_stuffedClocks wsX3_stuffedClocks) := goodIn_app (goodIn_of _ (by decide +kernel)) ggX5_ease_X3_stuffedClocks
set_option maxRecDepth 20000 in
theorem ggX5_ease_J6_bitCount_0f7a4 : GoodIn wsX5_ease wsJ6_bitCount_0f7a4 := goodIn_r _ [17, 18, 19, 20] (by decide +kernel) (by decide +kernel)
set_option maxRecDepth 20000 in
theorem gX5_ease_J6_bitCount_0f7a4 : GoodIn wsX5_ease (va_wsS RX5 157 yJ6_bitCount_0f7a4 wsJ6_bitCount_0f7a4) := goodIn_app (goodIn_of _ (by decide +kernel)) ggX5_ease_J6_bitCount_0f7a4
theorem dX5_ease_0 : decode cX5_ease 0 = .ok (.aload_n 0, 1) := by decide +kernel
theorem dX5_ease_1 : decode cX5_ease 1 = .ok (.getfield 12, 3) := by decide +kernel
theorem dX5_ease_4 : decode cX5_ease 4 = .ok (.iload_n 1, 1) := by decide +kernel
theorem dX5_ease_5 : decode cX5_ease 5 = .ok (.invokevirtual 110, 3) := by decide +kernel
theorem dX5_ease_8 : decode cX5_ease 8 = .ok (.ifCond .ne 5, 3) := by decide +kernel
theorem dX5_ease_11 : decode cX5_ease 11 = .ok (.iconst (-1), 1) := by decide +kernel
theorem dX5_ease_12 : decode cX5_ease 12 = .ok (.ireturn, 1) := by decide +kernel
theorem dX5_ease_13 : decode cX5_ease 13 = .ok (.aload_n 0, 1) := by decide +kernel
theorem dX5_ease_14 : decode cX5_ease 14 = .ok (.getfield 12, 3) := by decide +kernel
theorem dX5_ease_17 : decode cX5_ease 17 = .ok (.getfield 122, 3) := by decide +kernel
theorem dX5_ease_20 : decode cX5_ease 20 = .ok (.iload_n 1, 1) := by decide +kernel
theorem dX5_ease_21 : decode cX5_ease 21 = .ok (.baload, 1) := by decide +kernel
theorem dX5_ease_22 : decode cX5_ease 22 = .ok (.ifCond .ne 6, 3) := by decide +kernel
theorem dX5_ease_25 : decode cX5_ease 25 = .ok (.bipush (-3), 2) := by decide +kernel
theorem dX5_ease_27 : decode cX5_ease 27 = .ok (.ireturn, 1) := by decide +kernel
theorem dX5_ease_28 : decode cX5_ease 28 = .ok (.aload_n 0, 1) := by decide +kernel
theorem dX5_ease_29 : decode cX5_ease 29 = .ok (.getfield 12, 3) := by decide +kernel
theorem dX5_ease_32 : decode cX5_ease 32 = .ok (.getfield 122, 3) := by decide +kernel
theorem dX5_ease_35 : decode cX5_ease 35 = .ok (.iload_n 1, 1) := by decide +kernel
theorem dX5_ease_36 : decode cX5_ease 36 = .ok (.iconst 0, 1) := by decide +kernel
theorem dX5_ease_37 : decode cX5_ease 37 = .ok (.bastore, 1) := by decide +kernel
theorem dX5_ease_38 : decode cX5_ease 38 = .ok (.aload_n 0, 1) := by decide +kernel
theorem dX5_ease_39 : decode cX5_ease 39 = .ok (.getfield 12, 3) := by decide +kernel
theorem dX5_ease_42 : decode cX5_ease 42 = .ok (.invokevirtual 153, 3) := by decide +kernel
theorem dX5_ease_45 : decode cX5_ease 45 = .ok (.invokestatic 157, 3) := by decide +kernel
theorem dX5_ease_48 : decode cX5_ease 48 = .ok (.ireturn, 1) := by decide +kernel
set_option maxRecDepth 20000 in
theorem ggX5_carry_X3_hasClock : GoodIn wsX5_carry wsX3_hasClock := goodIn_r _ [7, 8, 24, 25, 26, 27, 28, 29, 30, 31, 32, 33] (by decide +kernel) (by decide +kernel)
set_option maxRecDepth 20000 in
theorem gX5_carry_X3_hasClock : GoodIn wsX5_carry (wsV RX5 110 RX3 yX3_hasClock wsX3_hasClock) := goodIn_app (goodIn_of _ (by decide +kernel)) ggX5_carry_X3_hasClock
set_option maxRecDepth 20000 in
theorem ggX5_carry_X3_hasHouse : GoodIn wsX5_carry wsX3_hasHouse := goodIn_r _ [12, 13, 24, 25, 26, 27, 28, 29, 30, 31, 32, 33] (by decide +kernel) (by decide +kernel)
set_option maxRecDepth 20000 in
theorem gX5_carry_X3_hasHouse : GoodIn wsX5_carry (wsV RX5 92 RX3 yX3_hasHouse wsX3_hasHouse) := goodIn_app (goodIn_of _ (by decide +kernel)) ggX5_carry_X3_hasHouse
theorem dX5_carry_0 : decode cX5_carry 0 = .ok (.aload_n 0, 1) := by decide +kernel
theorem dX5_carry_1 : decode cX5_carry 1 = .ok (.getfield 12, 3) := by decide +kernel
theorem dX5_carry_4 : decode cX5_carry 4 = .ok (.iload_n 1, 1) := by decide +kernel
theorem dX5_carry_5 : decode cX5_carry 5 = .ok (.invokevirtual 110, 3) := by decide +kernel
theorem dX5_carry_8 : decode cX5_carry 8 = .ok (.ifCond .eq 14, 3) := by decide +kernel
theorem dX5_carry_11 : decode cX5_carry 11 = .ok (.aload_n 0, 1) := by decide +kernel
theorem dX5_carry_12 : decode cX5_carry 12 = .ok (.getfield 12, 3) := by decide +kernel
theorem dX5_carry_15 : decode cX5_carry 15 = .ok (.iload_n 2, 1) := by decide +kernel
theorem dX5_carry_16 : decode cX5_carry 16 = .ok (.invokevirtual 92, 3) := by decide +kernel
theorem dX5_carry_19 : decode cX5_carry 19 = .ok (.ifCond .ne 5, 3) := by decide +kernel
theorem dX5_carry_22 : decode cX5_carry 22 = .ok (.iconst (-1), 1) := by decide +kernel
theorem dX5_carry_23 : decode cX5_carry 23 = .ok (.ireturn, 1) := by decide +kernel
theorem dX5_carry_24 : decode cX5_carry 24 = .ok (.aload_n 0, 1) := by decide +kernel
theorem dX5_carry_25 : decode cX5_carry 25 = .ok (.getfield 12, 3) := by decide +kernel
theorem dX5_carry_28 : decode cX5_carry 28 = .ok (.getfield 119, 3) := by decide +kernel
theorem dX5_carry_31 : decode cX5_carry 31 = .ok (.iload_n 1, 1) := by decide +kernel
theorem dX5_carry_32 : decode cX5_carry 32 = .ok (.iaload, 1) := by decide +kernel
theorem dX5_carry_33 : decode cX5_carry 33 = .ok (.istore_n 3, 1) := by decide +kernel
theorem dX5_carry_34 : decode cX5_carry 34 = .ok (.aload_n 0, 1) := by decide +kernel
theorem dX5_carry_35 : decode cX5_carry 35 = .ok (.getfield 12, 3) := by decide +kernel
theorem dX5_carry_38 : decode cX5_carry 38 = .ok (.getfield 119, 3) := by decide +kernel
theorem dX5_carry_41 : decode cX5_carry 41 = .ok (.iload_n 1, 1) := by decide +kernel
theorem dX5_carry_42 : decode cX5_carry 42 = .ok (.iload_n 2, 1) := by decide +kernel
theorem dX5_carry_43 : decode cX5_carry 43 = .ok (.iastore, 1) := by decide +kernel
theorem dX5_carry_44 : decode cX5_carry 44 = .ok (.iload_n 3, 1) := by decide +kernel
theorem dX5_carry_45 : decode cX5_carry 45 = .ok (.ireturn, 1) := by decide +kernel
set_option maxRecDepth 20000 in
theorem ggX5_season_X5_isSheet : GoodIn wsX5_season wsX5_isSheet := goodIn_r _ [7] (by decide +kernel) (by decide +kernel)
set_option maxRecDepth 20000 in
theorem gX5_season_X5_isSheet : GoodIn wsX5_season (va_wsS RX5 57 yX5_isSheet wsX5_isSheet) := goodIn_app (goodIn_of _ (by decide +kernel)) ggX5_season_X5_isSheet
set_option maxRecDepth 20000 in
theorem ggX5_season_X5_isLane : GoodIn wsX5_season wsX5_isLane := goodIn_r _ [10] (by decide +kernel) (by decide +kernel)
set_option maxRecDepth 20000 in
theorem gX5_season_X5_isLane : GoodIn wsX5_season (va_wsS RX5 61 yX5_isLane wsX5_isLane) := goodIn_app (goodIn_of _ (by decide +kernel)) ggX5_season_X5_isLane
set_option maxRecDepth 20000 in
theorem ggX5_season_X5_isAskedOfSeason : GoodIn wsX5_season wsX5_isAskedOfSeason := goodIn_r _ [13] (by decide +kernel) (by decide +kernel)
set_option maxRecDepth 20000 in
theorem gX5_season_X5_isAskedOfSeason : GoodIn wsX5_season (va_wsS RX5 162 yX5_isAskedOfSeason wsX5_isAskedOfSeason) := goodIn_app (goodIn_of _ (by decide +kernel)) ggX5_season_X5_isAskedOfSeason
set_option maxRecDepth 20000 in
theorem ggX5_season_X2_faultAs : GoodIn wsX5_season wsX2_faultAs := goodIn_r _ [18, 19, 20, 149, 150, 151, 152] (by decide +kernel) (by decide +kernel)
set_option maxRecDepth 20000 in
theorem gX5_season_X2_faultAs : GoodIn wsX5_season (wsV RX5 64 RX2 yX2_faultAs wsX2_faultAs) := goodIn_app (goodIn_of _ (by decide +kernel)) ggX5_season_X2_faultAs
set_option maxRecDepth 20000 in
theorem ggX5_season_X2_lacks : GoodIn wsX5_season wsX2_lacks := goodIn_r _ [24, 25, 149, 150, 151, 152] (by decide +kernel) (by decide +kernel)
set_option maxRecDepth 20000 in
theorem gX5_season_X2_lacks : GoodIn wsX5_season (wsV RX5 68 RX2 yX2_lacks wsX2_lacks) := goodIn_app (goodIn_of _ (by decide +kernel)) ggX5_season_X2_lacks
set_option maxRecDepth 20000 in
theorem ggX5_season_X5_faulty : GoodIn wsX5_season wsX5_faulty := goodIn_r _ [29, 1, 139, 140, 141, 142, 143, 144, 145, 146, 147, 148] (by decide +kernel) (by decide +kernel)
set_option maxRecDepth 20000 in
theorem gX5_season_X5_faulty : GoodIn wsX5_season (wsV RX5 72 RX5 yX5_faulty wsX5_faulty) := goodIn_app (goodIn_of _ (by decide +kernel)) ggX5_season_X5_faulty
set_option maxRecDepth 20000 in
theorem ggX5_season_X3_stands : GoodIn wsX5_season wsX3_stands := goodIn_r _ [34, 35, 153, 154, 155, 156, 157, 158, 159, 160, 161, 162] (by decide +kernel) (by decide +kernel)
set_option maxRecDepth 20000 in
theorem gX5_season_X3_stands : GoodIn wsX5_season (wsV RX5 133 RX3 yX3_stands wsX3_stands) := goodIn_app (goodIn_of _ (by decide +kernel)) ggX5_season_X3_stands
set_option maxRecDepth 20000 in
theorem ggX5_season_X5_refusalOfActs : GoodIn wsX5_season wsX5_refusalOfActs := goodIn_r _ [39, 40, 41, 42, 43, 6, 44, 3, 45, 46, 47, 33, 48, 49, 50, 51, 52, 53, 35, 149, 150, 151, 152, 139, 140, 141, 142, 143, 144, 145, 146, 147, 148, 153, 154, 155, 156, 157, 158, 159, 160, 161, 162] (by decide +kernel) (by decide +kernel)
set_option maxRecDepth 20000 in
theorem gX5_season_X5_refusalOfActs : GoodIn wsX5_season (wsV RX5 165 RX5 yX5_refusalOfActs wsX5_refusalOfActs) := goodIn_app (goodIn_of _ (by decide +kernel)) ggX5_season_X5_refusalOfActs
set_option maxRecDepth 20000 in
theorem ggX5_season_X5_playOnTrial : GoodIn wsX5_season wsX5_playOnTrial := goodIn_r _ [57, 58, 3, 40, 59, 60, 61, 33, 62, 35, 49, 63, 64, 65, 66, 67, 68, 69, 70, 71, 72, 73, 74, 75, 76, 77, 6, 78, 79, 80, 81, 82, 83, 84, 85, 86, 87, 88, 89, 90, 91, 92, 93, 94, 95, 96, 97, 98, 99, 100, 101, 102, 103, 104, 105, 106, 107, 108, 109, 110, 111, 112, 113, 114, 115, 116, 117, 118, 119, 120, 121, 122, 123, 124, 45, 46, 47, 48, 139, 140, 141, 142, 143, 144, 145, 146, 147, 148, 149, 150, 151, 152, 153, 154, 155, 156, 157, 158, 159, 160, 161, 162] (by decide +kernel) (by decide +kernel)
set_option maxRecDepth 20000 in
theorem gX5_season_X5_playOnTrial : GoodIn wsX5_season (wsV RX5 169 RX5 yX5_playOnTrial wsX5_playOnTrial) := goodIn_app (goodIn_of _ (by decide +kernel)) ggX5_season_X5_playOnTrial
set_option maxRecDepth 20000 in
theorem ggX5_season_X5_answerOfTrial : GoodIn wsX5_season wsX5_answerOfTrial := goodIn_r _ [128, 58, 129, 130, 124, 131, 132, 133, 33, 134, 49, 68, 135, 136, 137, 138, 67, 45, 46, 47, 48, 139, 140, 141, 142, 143, 144, 145, 146, 147, 148, 153, 154, 155, 156, 157, 158, 159, 160, 161, 162] (by decide +kernel) (by decide +kernel)
set_option maxRecDepth 20000 in
theorem gX5_season_X5_answerOfTrial : GoodIn wsX5_season (wsV RX5 172 RX5 yX5_answerOfTrial wsX5_answerOfTrial) := goodIn_app (goodIn_of _ (by decide +kernel)) ggX5_season_X5_answerOfTrial
theorem dX5_season_0 : decode cX5_season 0 = .ok (.aload_n 0, 1) := by decide +kernel
theorem dX5_season_1 : decode cX5_season 1 = .ok (.iconst 0, 1) := by decide +kernel
theorem dX5_season_2 : decode cX5_season 2 = .ok (.putfield 53, 3) := by decide +kernel
theorem dX5_season_5 : decode cX5_season 5 = .ok (.iload_n 1, 1) := by decide +kernel
theorem dX5_season_6 : decode cX5_season 6 = .ok (.invokestatic 57, 3) := by decide +kernel
theorem dX5_season_9 : decode cX5_season 9 = .ok (.ifCond .ne 5, 3) := by decide +kernel
theorem dX5_season_12 : decode cX5_season 12 = .ok (.iconst (-1), 1) := by decide +kernel
theorem dX5_season_13 : decode cX5_season 13 = .ok (.ireturn, 1) := by decide +kernel
theorem dX5_season_14 : decode cX5_season 14 = .ok (.iload_n 2, 1) := by decide +kernel
theorem dX5_season_15 : decode cX5_season 15 = .ok (.invokestatic 61, 3) := by decide +kernel
theorem dX5_season_18 : decode cX5_season 18 = .ok (.ifCond .eq 23, 3) := by decide +kernel
theorem dX5_season_21 : decode cX5_season 21 = .ok (.iload 4, 2) := by decide +kernel
theorem dX5_season_23 : decode cX5_season 23 = .ok (.ifCond .lt 18, 3) := by decide +kernel
theorem dX5_season_26 : decode cX5_season 26 = .ok (.iload 4, 2) := by decide +kernel
theorem dX5_season_28 : decode cX5_season 28 = .ok (.bipush 20, 2) := by decide +kernel
theorem dX5_season_30 : decode cX5_season 30 = .ok (.if_icmp .gt 11, 3) := by decide +kernel
theorem dX5_season_33 : decode cX5_season 33 = .ok (.iload 5, 2) := by decide +kernel
theorem dX5_season_35 : decode cX5_season 35 = .ok (.invokestatic 162, 3) := by decide +kernel
theorem dX5_season_38 : decode cX5_season 38 = .ok (.ifCond .ne 6, 3) := by decide +kernel
theorem dX5_season_41 : decode cX5_season 41 = .ok (.bipush (-2), 2) := by decide +kernel
theorem dX5_season_43 : decode cX5_season 43 = .ok (.ireturn, 1) := by decide +kernel
theorem dX5_season_44 : decode cX5_season 44 = .ok (.aload_n 0, 1) := by decide +kernel
theorem dX5_season_45 : decode cX5_season 45 = .ok (.getfield 45, 3) := by decide +kernel
theorem dX5_season_48 : decode cX5_season 48 = .ok (.iload_n 1, 1) := by decide +kernel
theorem dX5_season_49 : decode cX5_season 49 = .ok (.aaload, 1) := by decide +kernel
theorem dX5_season_50 : decode cX5_season 50 = .ok (.astore 6, 2) := by decide +kernel
theorem dX5_season_52 : decode cX5_season 52 = .ok (.aload 6, 2) := by decide +kernel
theorem dX5_season_54 : decode cX5_season 54 = .ok (.iload_n 2, 1) := by decide +kernel
theorem dX5_season_55 : decode cX5_season 55 = .ok (.invokevirtual 64, 3) := by decide +kernel
theorem dX5_season_58 : decode cX5_season 58 = .ok (.istore 7, 2) := by decide +kernel
theorem dX5_season_60 : decode cX5_season 60 = .ok (.iload 7, 2) := by decide +kernel
theorem dX5_season_62 : decode cX5_season 62 = .ok (.ifCond .ne 19, 3) := by decide +kernel
theorem dX5_season_65 : decode cX5_season 65 = .ok (.aload 6, 2) := by decide +kernel
theorem dX5_season_67 : decode cX5_season 67 = .ok (.iload_n 3, 1) := by decide +kernel
theorem dX5_season_68 : decode cX5_season 68 = .ok (.iconst 2, 1) := by decide +kernel
theorem dX5_season_69 : decode cX5_season 69 = .ok (.iload 4, 2) := by decide +kernel
theorem dX5_season_71 : decode cX5_season 71 = .ok (.imul, 1) := by decide +kernel
theorem dX5_season_72 : decode cX5_season 72 = .ok (.invokevirtual 68, 3) := by decide +kernel
theorem dX5_season_75 : decode cX5_season 75 = .ok (.ifCond .eq 6, 3) := by decide +kernel
theorem dX5_season_78 : decode cX5_season 78 = .ok (.iconst 3, 1) := by decide +kernel
theorem dX5_season_79 : decode cX5_season 79 = .ok (.istore 7, 2) := by decide +kernel
theorem dX5_season_81 : decode cX5_season 81 = .ok (.iload 7, 2) := by decide +kernel
theorem dX5_season_83 : decode cX5_season 83 = .ok (.ifCond .eq 10, 3) := by decide +kernel
theorem dX5_season_86 : decode cX5_season 86 = .ok (.aload_n 0, 1) := by decide +kernel
theorem dX5_season_87 : decode cX5_season 87 = .ok (.iload 7, 2) := by decide +kernel
theorem dX5_season_89 : decode cX5_season 89 = .ok (.invokevirtual 72, 3) := by decide +kernel
theorem dX5_season_92 : decode cX5_season 92 = .ok (.ireturn, 1) := by decide +kernel
theorem dX5_season_93 : decode cX5_season 93 = .ok (.aload_n 0, 1) := by decide +kernel
theorem dX5_season_94 : decode cX5_season 94 = .ok (.getfield 12, 3) := by decide +kernel
theorem dX5_season_97 : decode cX5_season 97 = .ok (.invokevirtual 133, 3) := by decide +kernel
theorem dX5_season_100 : decode cX5_season 100 = .ok (.ifCond .ne 6, 3) := by decide +kernel
theorem dX5_season_103 : decode cX5_season 103 = .ok (.bipush (-3), 2) := by decide +kernel
theorem dX5_season_105 : decode cX5_season 105 = .ok (.ireturn, 1) := by decide +kernel
theorem dX5_season_106 : decode cX5_season 106 = .ok (.aload_n 0, 1) := by decide +kernel
theorem dX5_season_107 : decode cX5_season 107 = .ok (.aload 6, 2) := by decide +kernel
theorem dX5_season_109 : decode cX5_season 109 = .ok (.iload_n 3, 1) := by decide +kernel
theorem dX5_season_110 : decode cX5_season 110 = .ok (.iload 4, 2) := by decide +kernel
theorem dX5_season_112 : decode cX5_season 112 = .ok (.invokevirtual 165, 3) := by decide +kernel
theorem dX5_season_115 : decode cX5_season 115 = .ok (.istore 8, 2) := by decide +kernel
theorem dX5_season_117 : decode cX5_season 117 = .ok (.iload 8, 2) := by decide +kernel
theorem dX5_season_119 : decode cX5_season 119 = .ok (.ifCond .eq 6, 3) := by decide +kernel
theorem dX5_season_122 : decode cX5_season 122 = .ok (.iload 8, 2) := by decide +kernel
theorem dX5_season_124 : decode cX5_season 124 = .ok (.ireturn, 1) := by decide +kernel
theorem dX5_season_125 : decode cX5_season 125 = .ok (.aload_n 0, 1) := by decide +kernel
theorem dX5_season_126 : decode cX5_season 126 = .ok (.aload 6, 2) := by decide +kernel
theorem dX5_season_128 : decode cX5_season 128 = .ok (.iload_n 3, 1) := by decide +kernel
theorem dX5_season_129 : decode cX5_season 129 = .ok (.iload 4, 2) := by decide +kernel
theorem dX5_season_131 : decode cX5_season 131 = .ok (.invokevirtual 169, 3) := by decide +kernel
theorem dX5_season_134 : decode cX5_season 134 = .ok (.istore 9, 2) := by decide +kernel
theorem dX5_season_136 : decode cX5_season 136 = .ok (.iload 5, 2) := by decide +kernel
theorem dX5_season_138 : decode cX5_season 138 = .ok (.iconst 1, 1) := by decide +kernel
theorem dX5_season_139 : decode cX5_season 139 = .ok (.if_icmp .ne 6, 3) := by decide +kernel
theorem dX5_season_142 : decode cX5_season 142 = .ok (.iload 9, 2) := by decide +kernel
theorem dX5_season_144 : decode cX5_season 144 = .ok (.ireturn, 1) := by decide +kernel
theorem dX5_season_145 : decode cX5_season 145 = .ok (.iload 9, 2) := by decide +kernel
theorem dX5_season_147 : decode cX5_season 147 = .ok (.bipush (-9), 2) := by decide +kernel
theorem dX5_season_149 : decode cX5_season 149 = .ok (.if_icmp .ne 12, 3) := by decide +kernel
theorem dX5_season_152 : decode cX5_season 152 = .ok (.aload_n 0, 1) := by decide +kernel
theorem dX5_season_153 : decode cX5_season 153 = .ok (.iload 5, 2) := by decide +kernel
theorem dX5_season_155 : decode cX5_season 155 = .ok (.invokevirtual 172, 3) := by decide +kernel
theorem dX5_season_158 : decode cX5_season 158 = .ok (.goto 8, 3) := by decide +kernel
theorem dX5_season_161 : decode cX5_season 161 = .ok (.bipush (-100), 2) := by decide +kernel
theorem dX5_season_163 : decode cX5_season 163 = .ok (.iload 9, 2) := by decide +kernel
theorem dX5_season_165 : decode cX5_season 165 = .ok (.isub, 1) := by decide +kernel
theorem dX5_season_166 : decode cX5_season 166 = .ok (.ireturn, 1) := by decide +kernel
set_option maxRecDepth 20000 in
theorem ggX5_round_X3_hasClock : GoodIn wsX5_round wsX3_hasClock := goodIn_r _ [8, 9, 61, 62, 63, 64, 65, 66, 67, 68, 69, 70] (by decide +kernel) (by decide +kernel)
set_option maxRecDepth 20000 in
theorem gX5_round_X3_hasClock : GoodIn wsX5_round (wsV RX5 110 RX3 yX3_hasClock wsX3_hasClock) := goodIn_app (goodIn_of _ (by decide +kernel)) ggX5_round_X3_hasClock
set_option maxRecDepth 20000 in
theorem ggX5_round_J7_fill_53178 : GoodIn wsX5_round wsJ7_fill_53178 := goodIn_r _ [13] (by decide +kernel) (by decide +kernel)
set_option maxRecDepth 20000 in
theorem gX5_round_J7_fill_53178 : GoodIn wsX5_round (va_wsS RX5 175 yJ7_fill_53178 wsJ7_fill_53178) := goodIn_app (goodIn_of _ (by decide +kernel)) ggX5_round_J7_fill_53178
set_option maxRecDepth 20000 in
theorem ggX5_round_X3_placeAfterStroke : GoodIn wsX5_round wsX3_placeAfterStroke := goodIn_r _ [17, 18, 19, 20, 7, 21, 22, 23, 24, 25, 26, 27, 28, 29, 30, 31, 32, 33, 34, 35, 36, 37, 38, 39, 40, 41, 42, 43, 44, 45, 46, 47, 48, 49, 50, 61, 62, 63, 64, 65, 66, 67, 68, 69, 70] (by decide +kernel) (by decide +kernel)
set_option maxRecDepth 20000 in
theorem gX5_round_X3_placeAfterStroke : GoodIn wsX5_round (wsV RX5 181 RX3 yX3_placeAfterStroke wsX3_placeAfterStroke) := goodIn_app (goodIn_of _ (by decide +kernel)) ggX5_round_X3_placeAfterStroke
theorem dX5_round_0 : decode cX5_round 0 = .ok (.aload_n 0, 1) := by decide +kernel
theorem dX5_round_1 : decode cX5_round 1 = .ok (.getfield 12, 3) := by decide +kernel
theorem dX5_round_4 : decode cX5_round 4 = .ok (.iload_n 1, 1) := by decide +kernel
theorem dX5_round_5 : decode cX5_round 5 = .ok (.invokevirtual 110, 3) := by decide +kernel
theorem dX5_round_8 : decode cX5_round 8 = .ok (.ifCond .ne 5, 3) := by decide +kernel
theorem dX5_round_11 : decode cX5_round 11 = .ok (.iconst (-1), 1) := by decide +kernel
theorem dX5_round_12 : decode cX5_round 12 = .ok (.ireturn, 1) := by decide +kernel
theorem dX5_round_13 : decode cX5_round 13 = .ok (.iload_n 2, 1) := by decide +kernel
theorem dX5_round_14 : decode cX5_round 14 = .ok (.ifCond .lt 8, 3) := by decide +kernel
theorem dX5_round_17 : decode cX5_round 17 = .ok (.iload_n 2, 1) := by decide +kernel
theorem dX5_round_18 : decode cX5_round 18 = .ok (.iconst 1, 1) := by decide +kernel
theorem dX5_round_19 : decode cX5_round 19 = .ok (.if_icmp .le 6, 3) := by decide +kernel
theorem dX5_round_22 : decode cX5_round 22 = .ok (.bipush (-2), 2) := by decide +kernel
theorem dX5_round_24 : decode cX5_round 24 = .ok (.ireturn, 1) := by decide +kernel
theorem dX5_round_25 : decode cX5_round 25 = .ok (.aload_n 0, 1) := by decide +kernel
theorem dX5_round_26 : decode cX5_round 26 = .ok (.getfield 49, 3) := by decide +kernel
theorem dX5_round_29 : decode cX5_round 29 = .ok (.bipush (-9), 2) := by decide +kernel
theorem dX5_round_31 : decode cX5_round 31 = .ok (.invokestatic 175, 3) := by decide +kernel
theorem dX5_round_34 : decode cX5_round 34 = .ok (.aload_n 0, 1) := by decide +kernel
theorem dX5_round_35 : decode cX5_round 35 = .ok (.getfield 12, 3) := by decide +kernel
theorem dX5_round_38 : decode cX5_round 38 = .ok (.getfield 119, 3) := by decide +kernel
theorem dX5_round_41 : decode cX5_round 41 = .ok (.iload_n 1, 1) := by decide +kernel
theorem dX5_round_42 : decode cX5_round 42 = .ok (.iaload, 1) := by decide +kernel
theorem dX5_round_43 : decode cX5_round 43 = .ok (.istore_n 3, 1) := by decide +kernel
theorem dX5_round_44 : decode cX5_round 44 = .ok (.iconst 0, 1) := by decide +kernel
theorem dX5_round_45 : decode cX5_round 45 = .ok (.istore 4, 2) := by decide +kernel
theorem dX5_round_47 : decode cX5_round 47 = .ok (.iload 4, 2) := by decide +kernel
theorem dX5_round_49 : decode cX5_round 49 = .ok (.bipush 6, 2) := by decide +kernel
theorem dX5_round_51 : decode cX5_round 51 = .ok (.if_icmp .ge 38, 3) := by decide +kernel
theorem dX5_round_54 : decode cX5_round 54 = .ok (.aload_n 0, 1) := by decide +kernel
theorem dX5_round_55 : decode cX5_round 55 = .ok (.getfield 49, 3) := by decide +kernel
theorem dX5_round_58 : decode cX5_round 58 = .ok (.iload_n 3, 1) := by decide +kernel
theorem dX5_round_59 : decode cX5_round 59 = .ok (.iaload, 1) := by decide +kernel
theorem dX5_round_60 : decode cX5_round 60 = .ok (.bipush (-9), 2) := by decide +kernel
theorem dX5_round_62 : decode cX5_round 62 = .ok (.if_icmp .ne 27, 3) := by decide +kernel
theorem dX5_round_65 : decode cX5_round 65 = .ok (.aload_n 0, 1) := by decide +kernel
theorem dX5_round_66 : decode cX5_round 66 = .ok (.getfield 49, 3) := by decide +kernel
theorem dX5_round_69 : decode cX5_round 69 = .ok (.iload_n 3, 1) := by decide +kernel
theorem dX5_round_70 : decode cX5_round 70 = .ok (.iload 4, 2) := by decide +kernel
theorem dX5_round_72 : decode cX5_round 72 = .ok (.iastore, 1) := by decide +kernel
theorem dX5_round_73 : decode cX5_round 73 = .ok (.aload_n 0, 1) := by decide +kernel
theorem dX5_round_74 : decode cX5_round 74 = .ok (.getfield 12, 3) := by decide +kernel
theorem dX5_round_77 : decode cX5_round 77 = .ok (.iload_n 1, 1) := by decide +kernel
theorem dX5_round_78 : decode cX5_round 78 = .ok (.iload_n 3, 1) := by decide +kernel
theorem dX5_round_79 : decode cX5_round 79 = .ok (.invokevirtual 181, 3) := by decide +kernel
theorem dX5_round_82 : decode cX5_round 82 = .ok (.istore_n 3, 1) := by decide +kernel
theorem dX5_round_83 : decode cX5_round 83 = .ok (.iinc 4 1, 3) := by decide +kernel
theorem dX5_round_86 : decode cX5_round 86 = .ok (.goto (-39), 3) := by decide +kernel
theorem dX5_round_89 : decode cX5_round 89 = .ok (.iload_n 2, 1) := by decide +kernel
theorem dX5_round_90 : decode cX5_round 90 = .ok (.ifCond .ne 12, 3) := by decide +kernel
theorem dX5_round_93 : decode cX5_round 93 = .ok (.aload_n 0, 1) := by decide +kernel
theorem dX5_round_94 : decode cX5_round 94 = .ok (.getfield 49, 3) := by decide +kernel
theorem dX5_round_97 : decode cX5_round 97 = .ok (.iload_n 3, 1) := by decide +kernel
theorem dX5_round_98 : decode cX5_round 98 = .ok (.iaload, 1) := by decide +kernel
theorem dX5_round_99 : decode cX5_round 99 = .ok (.goto 12, 3) := by decide +kernel
theorem dX5_round_102 : decode cX5_round 102 = .ok (.iload 4, 2) := by decide +kernel
theorem dX5_round_104 : decode cX5_round 104 = .ok (.aload_n 0, 1) := by decide +kernel
theorem dX5_round_105 : decode cX5_round 105 = .ok (.getfield 49, 3) := by decide +kernel
theorem dX5_round_108 : decode cX5_round 108 = .ok (.iload_n 3, 1) := by decide +kernel
theorem dX5_round_109 : decode cX5_round 109 = .ok (.iaload, 1) := by decide +kernel
theorem dX5_round_110 : decode cX5_round 110 = .ok (.isub, 1) := by decide +kernel
theorem dX5_round_111 : decode cX5_round 111 = .ok (.ireturn, 1) := by decide +kernel
set_option maxRecDepth 20000 in
theorem ggX5_from_X3_hasHouse : GoodIn wsX5_from wsX3_hasHouse := goodIn_r _ [7, 8, 56, 57, 58, 59, 60, 61, 62, 63, 64, 65] (by decide +kernel) (by decide +kernel)
set_option maxRecDepth 20000 in
theorem gX5_from_X3_hasHouse : GoodIn wsX5_from (wsV RX5 92 RX3 yX3_hasHouse wsX3_hasHouse) := goodIn_app (goodIn_of _ (by decide +kernel)) ggX5_from_X3_hasHouse
set_option maxRecDepth 20000 in
theorem ggX5_from_X3_hasClock : GoodIn wsX5_from wsX3_hasClock := goodIn_r _ [12, 13, 56, 57, 58, 59, 60, 61, 62, 63, 64, 65] (by decide +kernel) (by decide +kernel)
set_option maxRecDepth 20000 in
theorem gX5_from_X3_hasClock : GoodIn wsX5_from (wsV RX5 110 RX3 yX3_hasClock wsX3_hasClock) := goodIn_app (goodIn_of _ (by decide +kernel)) ggX5_from_X3_hasClock
set_option maxRecDepth 20000 in
theorem ggX5_from_X3_owner : GoodIn wsX5_from wsX3_owner := goodIn_r _ [17, 8, 18, 19, 20, 6, 21, 22, 23, 24, 25, 26, 27, 28, 29, 30, 31, 32, 33, 34, 35, 36, 37, 38, 39, 40, 41, 42, 43, 44, 45, 56, 57, 58, 59, 60, 61, 62, 63, 64, 65] (by decide +kernel) (by decide +kernel)
set_option maxRecDepth 20000 in
theorem gX5_from_X3_owner : GoodIn wsX5_from (wsV RX5 130 RX3 yX3_owner wsX3_owner) := goodIn_app (goodIn_of _ (by decide +kernel)) ggX5_from_X3_owner
theorem dX5_from_0 : decode cX5_from 0 = .ok (.aload_n 0, 1) := by decide +kernel
theorem dX5_from_1 : decode cX5_from 1 = .ok (.getfield 12, 3) := by decide +kernel
theorem dX5_from_4 : decode cX5_from 4 = .ok (.iload_n 1, 1) := by decide +kernel
theorem dX5_from_5 : decode cX5_from 5 = .ok (.invokevirtual 92, 3) := by decide +kernel
theorem dX5_from_8 : decode cX5_from 8 = .ok (.ifCond .eq 14, 3) := by decide +kernel
theorem dX5_from_11 : decode cX5_from 11 = .ok (.aload_n 0, 1) := by decide +kernel
theorem dX5_from_12 : decode cX5_from 12 = .ok (.getfield 12, 3) := by decide +kernel
theorem dX5_from_15 : decode cX5_from 15 = .ok (.iload_n 2, 1) := by decide +kernel
theorem dX5_from_16 : decode cX5_from 16 = .ok (.invokevirtual 110, 3) := by decide +kernel
theorem dX5_from_19 : decode cX5_from 19 = .ok (.ifCond .ne 5, 3) := by decide +kernel
theorem dX5_from_22 : decode cX5_from 22 = .ok (.iconst (-1), 1) := by decide +kernel
theorem dX5_from_23 : decode cX5_from 23 = .ok (.ireturn, 1) := by decide +kernel
theorem dX5_from_24 : decode cX5_from 24 = .ok (.iconst 0, 1) := by decide +kernel
theorem dX5_from_25 : decode cX5_from 25 = .ok (.istore_n 3, 1) := by decide +kernel
theorem dX5_from_26 : decode cX5_from 26 = .ok (.iconst 0, 1) := by decide +kernel
theorem dX5_from_27 : decode cX5_from 27 = .ok (.istore 4, 2) := by decide +kernel
theorem dX5_from_29 : decode cX5_from 29 = .ok (.iload 4, 2) := by decide +kernel
theorem dX5_from_31 : decode cX5_from 31 = .ok (.aload_n 0, 1) := by decide +kernel
theorem dX5_from_32 : decode cX5_from 32 = .ok (.getfield 12, 3) := by decide +kernel
theorem dX5_from_35 : decode cX5_from 35 = .ok (.getfield 184, 3) := by decide +kernel
theorem dX5_from_38 : decode cX5_from 38 = .ok (.if_icmp .ge 30, 3) := by decide +kernel
theorem dX5_from_41 : decode cX5_from 41 = .ok (.aload_n 0, 1) := by decide +kernel
theorem dX5_from_42 : decode cX5_from 42 = .ok (.getfield 12, 3) := by decide +kernel
theorem dX5_from_45 : decode cX5_from 45 = .ok (.iload_n 2, 1) := by decide +kernel
theorem dX5_from_46 : decode cX5_from 46 = .ok (.iload 4, 2) := by decide +kernel
theorem dX5_from_48 : decode cX5_from 48 = .ok (.invokevirtual 130, 3) := by decide +kernel
theorem dX5_from_51 : decode cX5_from 51 = .ok (.iload_n 1, 1) := by decide +kernel
theorem dX5_from_52 : decode cX5_from 52 = .ok (.if_icmp .ne 10, 3) := by decide +kernel
theorem dX5_from_55 : decode cX5_from 55 = .ok (.iload_n 3, 1) := by decide +kernel
theorem dX5_from_56 : decode cX5_from 56 = .ok (.iconst 1, 1) := by decide +kernel
theorem dX5_from_57 : decode cX5_from 57 = .ok (.iload 4, 2) := by decide +kernel
theorem dX5_from_59 : decode cX5_from 59 = .ok (.ishl, 1) := by decide +kernel
theorem dX5_from_60 : decode cX5_from 60 = .ok (.ior, 1) := by decide +kernel
theorem dX5_from_61 : decode cX5_from 61 = .ok (.istore_n 3, 1) := by decide +kernel
theorem dX5_from_62 : decode cX5_from 62 = .ok (.iinc 4 1, 3) := by decide +kernel
theorem dX5_from_65 : decode cX5_from 65 = .ok (.goto (-36), 3) := by decide +kernel
theorem dX5_from_68 : decode cX5_from 68 = .ok (.iload_n 3, 1) := by decide +kernel
theorem dX5_from_69 : decode cX5_from 69 = .ok (.ireturn, 1) := by decide +kernel
set_option maxRecDepth 20000 in
theorem ggX5_settle_X3_stands : GoodIn wsX5_settle wsX3_stands := goodIn_r _ [8, 9, 72, 73, 74, 75, 76, 77, 78, 79, 80, 81] (by decide +kernel) (by decide +kernel)
set_option maxRecDepth 20000 in
theorem gX5_settle_X3_stands : GoodIn wsX5_settle (wsV RX5 133 RX3 yX3_stands wsX3_stands) := goodIn_app (goodIn_of _ (by decide +kernel)) ggX5_settle_X3_stands
set_option maxRecDepth 20000 in
theorem ggX5_settle_X3_become : GoodIn wsX5_settle wsX3_become := goodIn_r _ [13, 9, 14, 15, 16, 17, 18, 19, 20, 21, 22, 23, 7, 24, 25, 26, 72, 73, 74, 75, 76, 77, 78, 79, 80, 81] (by decide +kernel) (by decide +kernel)
set_option maxRecDepth 20000 in
theorem gX5_settle_X3_become : GoodIn wsX5_settle (wsV RX5 79 RX3 yX3_become wsX3_become) := goodIn_app (goodIn_of _ (by decide +kernel)) ggX5_settle_X3_become
set_option maxRecDepth 20000 in
theorem ggX5_settle_X3_passNights : GoodIn wsX5_settle wsX3_passNights := goodIn_r _ [30, 14, 31, 32, 33, 7, 34, 19, 26, 25, 35, 36, 37, 38, 9, 39, 40, 41, 42, 20, 43, 44, 45, 46, 18, 47, 48, 49, 50, 15, 51, 52, 53, 54, 55, 56, 57, 58, 16, 17, 59, 60, 61, 72, 73, 74, 75, 76, 77, 78, 79, 80, 81] (by decide +kernel) (by decide +kernel)
set_option maxRecDepth 20000 in
theorem gX5_settle_X3_passNights : GoodIn wsX5_settle (wsV RX5 149 RX3 yX3_passNights wsX3_passNights) := goodIn_app (goodIn_of _ (by decide +kernel)) ggX5_settle_X3_passNights
theorem dX5_settle_0 : decode cX5_settle 0 = .ok (.aload_n 0, 1) := by decide +kernel
theorem dX5_settle_1 : decode cX5_settle 1 = .ok (.getfield 12, 3) := by decide +kernel
theorem dX5_settle_4 : decode cX5_settle 4 = .ok (.invokevirtual 133, 3) := by decide +kernel
theorem dX5_settle_7 : decode cX5_settle 7 = .ok (.ifCond .ne 6, 3) := by decide +kernel
theorem dX5_settle_10 : decode cX5_settle 10 = .ok (.bipush (-3), 2) := by decide +kernel
theorem dX5_settle_12 : decode cX5_settle 12 = .ok (.ireturn, 1) := by decide +kernel
theorem dX5_settle_13 : decode cX5_settle 13 = .ok (.aload_n 0, 1) := by decide +kernel
theorem dX5_settle_14 : decode cX5_settle 14 = .ok (.getfield 18, 3) := by decide +kernel
theorem dX5_settle_17 : decode cX5_settle 17 = .ok (.aload_n 0, 1) := by decide +kernel
theorem dX5_settle_18 : decode cX5_settle 18 = .ok (.getfield 12, 3) := by decide +kernel
theorem dX5_settle_21 : decode cX5_settle 21 = .ok (.invokevirtual 79, 3) := by decide +kernel
theorem dX5_settle_24 : decode cX5_settle 24 = .ok (.iconst 0, 1) := by decide +kernel
theorem dX5_settle_25 : decode cX5_settle 25 = .ok (.istore_n 1, 1) := by decide +kernel
theorem dX5_settle_26 : decode cX5_settle 26 = .ok (.iload_n 1, 1) := by decide +kernel
theorem dX5_settle_27 : decode cX5_settle 27 = .ok (.bipush 99, 2) := by decide +kernel
theorem dX5_settle_29 : decode cX5_settle 29 = .ok (.if_icmp .gt 38, 3) := by decide +kernel
theorem dX5_settle_32 : decode cX5_settle 32 = .ok (.aload_n 0, 1) := by decide +kernel
theorem dX5_settle_33 : decode cX5_settle 33 = .ok (.getfield 18, 3) := by decide +kernel
theorem dX5_settle_36 : decode cX5_settle 36 = .ok (.getfield 187, 3) := by decide +kernel
theorem dX5_settle_39 : decode cX5_settle 39 = .ok (.istore_n 2, 1) := by decide +kernel
theorem dX5_settle_40 : decode cX5_settle 40 = .ok (.aload_n 0, 1) := by decide +kernel
theorem dX5_settle_41 : decode cX5_settle 41 = .ok (.getfield 18, 3) := by decide +kernel
theorem dX5_settle_44 : decode cX5_settle 44 = .ok (.iconst 1, 1) := by decide +kernel
theorem dX5_settle_45 : decode cX5_settle 45 = .ok (.invokevirtual 149, 3) := by decide +kernel
theorem dX5_settle_48 : decode cX5_settle 48 = .ok (.aload_n 0, 1) := by decide +kernel
theorem dX5_settle_49 : decode cX5_settle 49 = .ok (.getfield 18, 3) := by decide +kernel
theorem dX5_settle_52 : decode cX5_settle 52 = .ok (.getfield 187, 3) := by decide +kernel
theorem dX5_settle_55 : decode cX5_settle 55 = .ok (.iload_n 2, 1) := by decide +kernel
theorem dX5_settle_56 : decode cX5_settle 56 = .ok (.if_icmp .ne 5, 3) := by decide +kernel
theorem dX5_settle_59 : decode cX5_settle 59 = .ok (.iload_n 1, 1) := by decide +kernel
theorem dX5_settle_60 : decode cX5_settle 60 = .ok (.ireturn, 1) := by decide +kernel
theorem dX5_settle_61 : decode cX5_settle 61 = .ok (.iinc 1 1, 3) := by decide +kernel
theorem dX5_settle_64 : decode cX5_settle 64 = .ok (.goto (-38), 3) := by decide +kernel
theorem dX5_settle_67 : decode cX5_settle 67 = .ok (.bipush (-9), 2) := by decide +kernel
theorem dX5_settle_69 : decode cX5_settle 69 = .ok (.ireturn, 1) := by decide +kernel
set_option maxRecDepth 20000 in
theorem ggX5_still_X3_stands : GoodIn wsX5_still wsX3_stands := goodIn_r _ [9, 10, 86, 87, 88, 89, 90, 91, 92, 93, 94, 95] (by decide +kernel) (by decide +kernel)
set_option maxRecDepth 20000 in
theorem gX5_still_X3_stands : GoodIn wsX5_still (wsV RX5 133 RX3 yX3_stands wsX3_stands) := goodIn_app (goodIn_of _ (by decide +kernel)) ggX5_still_X3_stands
set_option maxRecDepth 20000 in
theorem ggX5_still_X0_findStillest : GoodIn wsX5_still wsX0_findStillest := goodIn_r _ [15, 16, 17, 18, 19, 20, 21, 22, 23, 24, 25, 26, 27, 8, 28, 10, 29, 30, 31, 32, 33, 34, 35, 36, 37, 38, 39, 40, 41, 42, 43, 44, 45, 46, 47, 48, 49, 50, 51, 52, 53, 54, 55, 56, 57, 58, 59, 60, 61, 62, 63, 14, 64, 65, 66, 67, 68, 69, 70, 71, 72, 73, 74, 75, 86, 87, 88, 89, 90, 91, 92, 93, 94, 95, 96, 97, 98] (by decide +kernel) (by decide +kernel)
set_option maxRecDepth 20000 in
theorem gX5_still_X0_findStillest : GoodIn wsX5_still (wsV RX5 190 RX0 yX0_findStillest wsX0_findStillest) := goodIn_app (goodIn_of _ (by decide +kernel)) ggX5_still_X0_findStillest
theorem dX5_still_0 : decode cX5_still 0 = .ok (.iload_n 1, 1) := by decide +kernel
theorem dX5_still_1 : decode cX5_still 1 = .ok (.iconst (-1), 1) := by decide +kernel
theorem dX5_still_2 : decode cX5_still 2 = .ok (.if_icmp .lt 8, 3) := by decide +kernel
theorem dX5_still_5 : decode cX5_still 5 = .ok (.iload_n 1, 1) := by decide +kernel
theorem dX5_still_6 : decode cX5_still 6 = .ok (.iconst 4, 1) := by decide +kernel
theorem dX5_still_7 : decode cX5_still 7 = .ok (.if_icmp .lt 6, 3) := by decide +kernel
theorem dX5_still_10 : decode cX5_still 10 = .ok (.bipush (-2), 2) := by decide +kernel
theorem dX5_still_12 : decode cX5_still 12 = .ok (.ireturn, 1) := by decide +kernel
theorem dX5_still_13 : decode cX5_still 13 = .ok (.aload_n 0, 1) := by decide +kernel
theorem dX5_still_14 : decode cX5_still 14 = .ok (.getfield 12, 3) := by decide +kernel
theorem dX5_still_17 : decode cX5_still 17 = .ok (.invokevirtual 133, 3) := by decide +kernel
theorem dX5_still_20 : decode cX5_still 20 = .ok (.ifCond .ne 6, 3) := by decide +kernel
theorem dX5_still_23 : decode cX5_still 23 = .ok (.bipush (-3), 2) := by decide +kernel
theorem dX5_still_25 : decode cX5_still 25 = .ok (.ireturn, 1) := by decide +kernel
theorem dX5_still_26 : decode cX5_still 26 = .ok (.iload_n 1, 1) := by decide +kernel
theorem dX5_still_27 : decode cX5_still 27 = .ok (.aload_n 0, 1) := by decide +kernel
theorem dX5_still_28 : decode cX5_still 28 = .ok (.getfield 12, 3) := by decide +kernel
theorem dX5_still_31 : decode cX5_still 31 = .ok (.getfield 89, 3) := by decide +kernel
theorem dX5_still_34 : decode cX5_still 34 = .ok (.if_icmp .lt 6, 3) := by decide +kernel
theorem dX5_still_37 : decode cX5_still 37 = .ok (.bipush (-9), 2) := by decide +kernel
theorem dX5_still_39 : decode cX5_still 39 = .ok (.ireturn, 1) := by decide +kernel
theorem dX5_still_40 : decode cX5_still 40 = .ok (.aload_n 0, 1) := by decide +kernel
theorem dX5_still_41 : decode cX5_still 41 = .ok (.getfield 38, 3) := by decide +kernel
theorem dX5_still_44 : decode cX5_still 44 = .ok (.aload_n 0, 1) := by decide +kernel
theorem dX5_still_45 : decode cX5_still 45 = .ok (.getfield 12, 3) := by decide +kernel
theorem dX5_still_48 : decode cX5_still 48 = .ok (.invokevirtual 190, 3) := by decide +kernel
theorem dX5_still_51 : decode cX5_still 51 = .ok (.istore_n 2, 1) := by decide +kernel
theorem dX5_still_52 : decode cX5_still 52 = .ok (.iload_n 1, 1) := by decide +kernel
theorem dX5_still_53 : decode cX5_still 53 = .ok (.ifCond .ge 7, 3) := by decide +kernel
theorem dX5_still_56 : decode cX5_still 56 = .ok (.iload_n 2, 1) := by decide +kernel
theorem dX5_still_57 : decode cX5_still 57 = .ok (.goto 12, 3) := by decide +kernel
theorem dX5_still_60 : decode cX5_still 60 = .ok (.aload_n 0, 1) := by decide +kernel
theorem dX5_still_61 : decode cX5_still 61 = .ok (.getfield 38, 3) := by decide +kernel
theorem dX5_still_64 : decode cX5_still 64 = .ok (.getfield 194, 3) := by decide +kernel
theorem dX5_still_67 : decode cX5_still 67 = .ok (.iload_n 1, 1) := by decide +kernel
theorem dX5_still_68 : decode cX5_still 68 = .ok (.iaload, 1) := by decide +kernel
theorem dX5_still_69 : decode cX5_still 69 = .ok (.ireturn, 1) := by decide +kernel
set_option maxRecDepth 20000 in
theorem ggX5_hush_X3_hasHouse : GoodIn wsX5_hush wsX3_hasHouse := goodIn_r _ [9, 10, 54, 55, 56, 57, 58, 59, 60, 61, 62, 63] (by decide +kernel) (by decide +kernel)
set_option maxRecDepth 20000 in
theorem gX5_hush_X3_hasHouse : GoodIn wsX5_hush (wsV RX5 92 RX3 yX3_hasHouse wsX3_hasHouse) := goodIn_app (goodIn_of _ (by decide +kernel)) ggX5_hush_X3_hasHouse
set_option maxRecDepth 20000 in
theorem ggX5_hush_X3_sound : GoodIn wsX5_hush wsX3_sound := goodIn_r _ [14, 15, 16, 17, 18, 8, 19, 20, 54, 55, 56, 57, 58, 59, 60, 61, 62, 63] (by decide +kernel) (by decide +kernel)
set_option maxRecDepth 20000 in
theorem gX5_hush_X3_sound : GoodIn wsX5_hush (wsV RX5 116 RX3 yX3_sound wsX3_sound) := goodIn_app (goodIn_of _ (by decide +kernel)) ggX5_hush_X3_sound
set_option maxRecDepth 20000 in
theorem ggX5_hush_X3_wakes : GoodIn wsX5_hush wsX3_wakes := goodIn_r _ [24, 25, 26, 27, 8, 28, 29, 30, 31, 32, 33, 34, 35, 36, 37, 38, 39, 40, 41, 42, 54, 55, 56, 57, 58, 59, 60, 61, 62, 63] (by decide +kernel) (by decide +kernel)
set_option maxRecDepth 20000 in
theorem gX5_hush_X3_wakes : GoodIn wsX5_hush (wsV RX5 197 RX3 yX3_wakes wsX3_wakes) := goodIn_app (goodIn_of _ (by decide +kernel)) ggX5_hush_X3_wakes
set_option maxRecDepth 20000 in
theorem ggX5_hush_X3_soundIf : GoodIn wsX5_hush wsX3_soundIf := goodIn_r _ [19, 20, 54, 55, 56, 57, 58, 59, 60, 61, 62, 63] (by decide +kernel) (by decide +kernel)
set_option maxRecDepth 20000 in
theorem gX5_hush_X3_soundIf : GoodIn wsX5_hush (wsV RX5 201 RX3 yX3_soundIf wsX3_soundIf) := goodIn_app (goodIn_of _ (by decide +kernel)) ggX5_hush_X3_soundIf
theorem dX5_hush_0 : decode cX5_hush 0 = .ok (.aload_n 0, 1) := by decide +kernel
theorem dX5_hush_1 : decode cX5_hush 1 = .ok (.getfield 12, 3) := by decide +kernel
theorem dX5_hush_4 : decode cX5_hush 4 = .ok (.iload_n 1, 1) := by decide +kernel
theorem dX5_hush_5 : decode cX5_hush 5 = .ok (.invokevirtual 92, 3) := by decide +kernel
theorem dX5_hush_8 : decode cX5_hush 8 = .ok (.ifCond .ne 5, 3) := by decide +kernel
theorem dX5_hush_11 : decode cX5_hush 11 = .ok (.iconst (-1), 1) := by decide +kernel
theorem dX5_hush_12 : decode cX5_hush 12 = .ok (.ireturn, 1) := by decide +kernel
theorem dX5_hush_13 : decode cX5_hush 13 = .ok (.iconst 0, 1) := by decide +kernel
theorem dX5_hush_14 : decode cX5_hush 14 = .ok (.istore_n 2, 1) := by decide +kernel
theorem dX5_hush_15 : decode cX5_hush 15 = .ok (.iconst 0, 1) := by decide +kernel
theorem dX5_hush_16 : decode cX5_hush 16 = .ok (.istore_n 3, 1) := by decide +kernel
theorem dX5_hush_17 : decode cX5_hush 17 = .ok (.iload_n 3, 1) := by decide +kernel
theorem dX5_hush_18 : decode cX5_hush 18 = .ok (.aload_n 0, 1) := by decide +kernel
theorem dX5_hush_19 : decode cX5_hush 19 = .ok (.getfield 12, 3) := by decide +kernel
theorem dX5_hush_22 : decode cX5_hush 22 = .ok (.getfield 89, 3) := by decide +kernel
theorem dX5_hush_25 : decode cX5_hush 25 = .ok (.if_icmp .ge 87, 3) := by decide +kernel
theorem dX5_hush_28 : decode cX5_hush 28 = .ok (.aload_n 0, 1) := by decide +kernel
theorem dX5_hush_29 : decode cX5_hush 29 = .ok (.getfield 12, 3) := by decide +kernel
theorem dX5_hush_32 : decode cX5_hush 32 = .ok (.iload_n 1, 1) := by decide +kernel
theorem dX5_hush_33 : decode cX5_hush 33 = .ok (.aload_n 0, 1) := by decide +kernel
theorem dX5_hush_34 : decode cX5_hush 34 = .ok (.getfield 12, 3) := by decide +kernel
theorem dX5_hush_37 : decode cX5_hush 37 = .ok (.iload_n 3, 1) := by decide +kernel
theorem dX5_hush_38 : decode cX5_hush 38 = .ok (.invokevirtual 116, 3) := by decide +kernel
theorem dX5_hush_41 : decode cX5_hush 41 = .ok (.aload_n 0, 1) := by decide +kernel
theorem dX5_hush_42 : decode cX5_hush 42 = .ok (.getfield 12, 3) := by decide +kernel
theorem dX5_hush_45 : decode cX5_hush 45 = .ok (.getfield 119, 3) := by decide +kernel
theorem dX5_hush_48 : decode cX5_hush 48 = .ok (.iload_n 3, 1) := by decide +kernel
theorem dX5_hush_49 : decode cX5_hush 49 = .ok (.iaload, 1) := by decide +kernel
theorem dX5_hush_50 : decode cX5_hush 50 = .ok (.invokevirtual 197, 3) := by decide +kernel
theorem dX5_hush_53 : decode cX5_hush 53 = .ok (.ifCond .eq 53, 3) := by decide +kernel
theorem dX5_hush_56 : decode cX5_hush 56 = .ok (.aload_n 0, 1) := by decide +kernel
theorem dX5_hush_57 : decode cX5_hush 57 = .ok (.getfield 12, 3) := by decide +kernel
theorem dX5_hush_60 : decode cX5_hush 60 = .ok (.getfield 122, 3) := by decide +kernel
theorem dX5_hush_63 : decode cX5_hush 63 = .ok (.iload_n 3, 1) := by decide +kernel
theorem dX5_hush_64 : decode cX5_hush 64 = .ok (.baload, 1) := by decide +kernel
theorem dX5_hush_65 : decode cX5_hush 65 = .ok (.ifCond .ne 32, 3) := by decide +kernel
theorem dX5_hush_68 : decode cX5_hush 68 = .ok (.aload_n 0, 1) := by decide +kernel
theorem dX5_hush_69 : decode cX5_hush 69 = .ok (.getfield 12, 3) := by decide +kernel
theorem dX5_hush_72 : decode cX5_hush 72 = .ok (.iload_n 1, 1) := by decide +kernel
theorem dX5_hush_73 : decode cX5_hush 73 = .ok (.aload_n 0, 1) := by decide +kernel
theorem dX5_hush_74 : decode cX5_hush 74 = .ok (.getfield 12, 3) := by decide +kernel
theorem dX5_hush_77 : decode cX5_hush 77 = .ok (.iload_n 3, 1) := by decide +kernel
theorem dX5_hush_78 : decode cX5_hush 78 = .ok (.iconst 1, 1) := by decide +kernel
theorem dX5_hush_79 : decode cX5_hush 79 = .ok (.invokevirtual 201, 3) := by decide +kernel
theorem dX5_hush_82 : decode cX5_hush 82 = .ok (.aload_n 0, 1) := by decide +kernel
theorem dX5_hush_83 : decode cX5_hush 83 = .ok (.getfield 12, 3) := by decide +kernel
theorem dX5_hush_86 : decode cX5_hush 86 = .ok (.getfield 119, 3) := by decide +kernel
theorem dX5_hush_89 : decode cX5_hush 89 = .ok (.iload_n 3, 1) := by decide +kernel
theorem dX5_hush_90 : decode cX5_hush 90 = .ok (.iaload, 1) := by decide +kernel
theorem dX5_hush_91 : decode cX5_hush 91 = .ok (.invokevirtual 197, 3) := by decide +kernel
theorem dX5_hush_94 : decode cX5_hush 94 = .ok (.ifCond .eq 6, 3) := by decide +kernel
theorem dX5_hush_97 : decode cX5_hush 97 = .ok (.bipush (-9), 2) := by decide +kernel
theorem dX5_hush_99 : decode cX5_hush 99 = .ok (.ireturn, 1) := by decide +kernel
theorem dX5_hush_100 : decode cX5_hush 100 = .ok (.iload_n 2, 1) := by decide +kernel
theorem dX5_hush_101 : decode cX5_hush 101 = .ok (.iconst 1, 1) := by decide +kernel
theorem dX5_hush_102 : decode cX5_hush 102 = .ok (.iload_n 3, 1) := by decide +kernel
theorem dX5_hush_103 : decode cX5_hush 103 = .ok (.ishl, 1) := by decide +kernel
theorem dX5_hush_104 : decode cX5_hush 104 = .ok (.ior, 1) := by decide +kernel
theorem dX5_hush_105 : decode cX5_hush 105 = .ok (.istore_n 2, 1) := by decide +kernel
theorem dX5_hush_106 : decode cX5_hush 106 = .ok (.iinc 3 1, 3) := by decide +kernel
theorem dX5_hush_109 : decode cX5_hush 109 = .ok (.goto (-92), 3) := by decide +kernel
theorem dX5_hush_112 : decode cX5_hush 112 = .ok (.iload_n 2, 1) := by decide +kernel
theorem dX5_hush_113 : decode cX5_hush 113 = .ok (.ireturn, 1) := by decide +kernel
set_option maxRecDepth 20000 in
theorem ggX5_reading_X3_hasClock : GoodIn wsX5_reading wsX3_hasClock := goodIn_r _ [8, 9, 40, 41, 42, 43, 44, 45, 46, 47, 48, 49] (by decide +kernel) (by decide +kernel)
set_option maxRecDepth 20000 in
theorem gX5_reading_X3_hasClock : GoodIn wsX5_reading (wsV RX5 110 RX3 yX3_hasClock wsX3_hasClock) := goodIn_app (goodIn_of _ (by decide +kernel)) ggX5_reading_X3_hasClock
set_option maxRecDepth 20000 in
theorem ggX5_reading_X3_hasHouse : GoodIn wsX5_reading wsX3_hasHouse := goodIn_r _ [13, 14, 40, 41, 42, 43, 44, 45, 46, 47, 48, 49] (by decide +kernel) (by decide +kernel)
set_option maxRecDepth 20000 in
theorem gX5_reading_X3_hasHouse : GoodIn wsX5_reading (wsV RX5 92 RX3 yX3_hasHouse wsX3_hasHouse) := goodIn_app (goodIn_of _ (by decide +kernel)) ggX5_reading_X3_hasHouse
set_option maxRecDepth 20000 in
theorem ggX5_reading_X1_note : GoodIn wsX5_reading wsX1_note := goodIn_r _ [19, 20, 21, 22, 23, 24, 35, 36, 37, 38, 39] (by decide +kernel) (by decide +kernel)
set_option maxRecDepth 20000 in
theorem gX5_reading_X1_note : GoodIn wsX5_reading (wsV RX5 205 RX1 yX1_note wsX1_note) := goodIn_app (goodIn_of _ (by decide +kernel)) ggX5_reading_X1_note
theorem dX5_reading_0 : decode cX5_reading 0 = .ok (.aload_n 0, 1) := by decide +kernel
theorem dX5_reading_1 : decode cX5_reading 1 = .ok (.getfield 12, 3) := by decide +kernel
theorem dX5_reading_4 : decode cX5_reading 4 = .ok (.iload_n 1, 1) := by decide +kernel
theorem dX5_reading_5 : decode cX5_reading 5 = .ok (.invokevirtual 110, 3) := by decide +kernel
theorem dX5_reading_8 : decode cX5_reading 8 = .ok (.ifCond .eq 25, 3) := by decide +kernel
theorem dX5_reading_11 : decode cX5_reading 11 = .ok (.aload_n 0, 1) := by decide +kernel
theorem dX5_reading_12 : decode cX5_reading 12 = .ok (.getfield 12, 3) := by decide +kernel
theorem dX5_reading_15 : decode cX5_reading 15 = .ok (.iload_n 2, 1) := by decide +kernel
theorem dX5_reading_16 : decode cX5_reading 16 = .ok (.invokevirtual 92, 3) := by decide +kernel
theorem dX5_reading_19 : decode cX5_reading 19 = .ok (.ifCond .eq 14, 3) := by decide +kernel
theorem dX5_reading_22 : decode cX5_reading 22 = .ok (.aload_n 0, 1) := by decide +kernel
theorem dX5_reading_23 : decode cX5_reading 23 = .ok (.getfield 12, 3) := by decide +kernel
theorem dX5_reading_26 : decode cX5_reading 26 = .ok (.iload_n 3, 1) := by decide +kernel
theorem dX5_reading_27 : decode cX5_reading 27 = .ok (.invokevirtual 92, 3) := by decide +kernel
theorem dX5_reading_30 : decode cX5_reading 30 = .ok (.ifCond .ne 5, 3) := by decide +kernel
theorem dX5_reading_33 : decode cX5_reading 33 = .ok (.iconst (-1), 1) := by decide +kernel
theorem dX5_reading_34 : decode cX5_reading 34 = .ok (.ireturn, 1) := by decide +kernel
theorem dX5_reading_35 : decode cX5_reading 35 = .ok (.iload 4, 2) := by decide +kernel
theorem dX5_reading_37 : decode cX5_reading 37 = .ok (.ifCond .lt 9, 3) := by decide +kernel
theorem dX5_reading_40 : decode cX5_reading 40 = .ok (.iload 4, 2) := by decide +kernel
theorem dX5_reading_42 : decode cX5_reading 42 = .ok (.iconst 1, 1) := by decide +kernel
theorem dX5_reading_43 : decode cX5_reading 43 = .ok (.if_icmp .le 6, 3) := by decide +kernel
theorem dX5_reading_46 : decode cX5_reading 46 = .ok (.bipush (-2), 2) := by decide +kernel
theorem dX5_reading_48 : decode cX5_reading 48 = .ok (.ireturn, 1) := by decide +kernel
theorem dX5_reading_49 : decode cX5_reading 49 = .ok (.aload_n 0, 1) := by decide +kernel
theorem dX5_reading_50 : decode cX5_reading 50 = .ok (.getfield 31, 3) := by decide +kernel
theorem dX5_reading_53 : decode cX5_reading 53 = .ok (.getfield 86, 3) := by decide +kernel
theorem dX5_reading_56 : decode cX5_reading 56 = .ok (.bipush 8, 2) := by decide +kernel
theorem dX5_reading_58 : decode cX5_reading 58 = .ok (.if_icmp .lt 6, 3) := by decide +kernel
theorem dX5_reading_61 : decode cX5_reading 61 = .ok (.bipush (-4), 2) := by decide +kernel
theorem dX5_reading_63 : decode cX5_reading 63 = .ok (.ireturn, 1) := by decide +kernel
theorem dX5_reading_64 : decode cX5_reading 64 = .ok (.aload_n 0, 1) := by decide +kernel
theorem dX5_reading_65 : decode cX5_reading 65 = .ok (.getfield 31, 3) := by decide +kernel
theorem dX5_reading_68 : decode cX5_reading 68 = .ok (.iload_n 1, 1) := by decide +kernel
theorem dX5_reading_69 : decode cX5_reading 69 = .ok (.iload_n 2, 1) := by decide +kernel
theorem dX5_reading_70 : decode cX5_reading 70 = .ok (.iload_n 3, 1) := by decide +kernel
theorem dX5_reading_71 : decode cX5_reading 71 = .ok (.iload 4, 2) := by decide +kernel
theorem dX5_reading_73 : decode cX5_reading 73 = .ok (.iconst 1, 1) := by decide +kernel
theorem dX5_reading_74 : decode cX5_reading 74 = .ok (.if_icmp .ne 7, 3) := by decide +kernel
theorem dX5_reading_77 : decode cX5_reading 77 = .ok (.iconst 1, 1) := by decide +kernel
theorem dX5_reading_78 : decode cX5_reading 78 = .ok (.goto 4, 3) := by decide +kernel
theorem dX5_reading_81 : decode cX5_reading 81 = .ok (.iconst 0, 1) := by decide +kernel
theorem dX5_reading_82 : decode cX5_reading 82 = .ok (.invokevirtual 205, 3) := by decide +kernel
theorem dX5_reading_85 : decode cX5_reading 85 = .ok (.ireturn, 1) := by decide +kernel
theorem dX5_back_0 : decode cX5_back 0 = .ok (.iload_n 1, 1) := by decide +kernel
theorem dX5_back_1 : decode cX5_back 1 = .ok (.ifCond .lt 14, 3) := by decide +kernel
theorem dX5_back_4 : decode cX5_back 4 = .ok (.iload_n 1, 1) := by decide +kernel
theorem dX5_back_5 : decode cX5_back 5 = .ok (.aload_n 0, 1) := by decide +kernel
theorem dX5_back_6 : decode cX5_back 6 = .ok (.getfield 31, 3) := by decide +kernel
theorem dX5_back_9 : decode cX5_back 9 = .ok (.getfield 86, 3) := by decide +kernel
theorem dX5_back_12 : decode cX5_back 12 = .ok (.if_icmp .le 6, 3) := by decide +kernel
theorem dX5_back_15 : decode cX5_back 15 = .ok (.bipush (-2), 2) := by decide +kernel
theorem dX5_back_17 : decode cX5_back 17 = .ok (.ireturn, 1) := by decide +kernel
theorem dX5_back_18 : decode cX5_back 18 = .ok (.aload_n 0, 1) := by decide +kernel
theorem dX5_back_19 : decode cX5_back 19 = .ok (.getfield 31, 3) := by decide +kernel
theorem dX5_back_22 : decode cX5_back 22 = .ok (.dup, 1) := by decide +kernel
theorem dX5_back_23 : decode cX5_back 23 = .ok (.getfield 86, 3) := by decide +kernel
theorem dX5_back_26 : decode cX5_back 26 = .ok (.iload_n 1, 1) := by decide +kernel
theorem dX5_back_27 : decode cX5_back 27 = .ok (.isub, 1) := by decide +kernel
theorem dX5_back_28 : decode cX5_back 28 = .ok (.putfield 86, 3) := by decide +kernel
theorem dX5_back_31 : decode cX5_back 31 = .ok (.aload_n 0, 1) := by decide +kernel
theorem dX5_back_32 : decode cX5_back 32 = .ok (.getfield 31, 3) := by decide +kernel
theorem dX5_back_35 : decode cX5_back 35 = .ok (.getfield 86, 3) := by decide +kernel
theorem dX5_back_38 : decode cX5_back 38 = .ok (.ireturn, 1) := by decide +kernel
set_option maxRecDepth 20000 in
theorem ggX5_depths_X3_hasHouse : GoodIn wsX5_depths wsX3_hasHouse := goodIn_r _ [9, 10, 75, 76, 77, 78, 79, 80, 81, 82, 83, 84] (by decide +kernel) (by decide +kernel)
set_option maxRecDepth 20000 in
theorem gX5_depths_X3_hasHouse : GoodIn wsX5_depths (wsV RX5 92 RX3 yX3_hasHouse wsX3_hasHouse) := goodIn_app (goodIn_of _ (by decide +kernel)) ggX5_depths_X3_hasHouse
set_option maxRecDepth 20000 in
theorem ggX5_depths_X3_become : GoodIn wsX5_depths wsX3_become := goodIn_r _ [14, 10, 15, 16, 17, 18, 19, 20, 21, 22, 23, 24, 8, 25, 26, 27, 75, 76, 77, 78, 79, 80, 81, 82, 83, 84] (by decide +kernel) (by decide +kernel)
set_option maxRecDepth 20000 in
theorem gX5_depths_X3_become : GoodIn wsX5_depths (wsV RX5 79 RX3 yX3_become wsX3_become) := goodIn_app (goodIn_of _ (by decide +kernel)) ggX5_depths_X3_become
set_option maxRecDepth 20000 in
theorem ggX5_depths_X1_bitIfAllHold : GoodIn wsX5_depths wsX1_bitIfAllHold := goodIn_r _ [32, 33, 34, 35, 36, 37, 38, 39, 40, 8, 41, 21, 42, 43, 44, 45, 19, 46, 47, 48, 49, 50, 51, 52, 53, 16, 54, 55, 56, 57, 58, 59, 60, 61, 17, 18, 62, 63, 64, 85, 86, 87, 88, 89, 75, 76, 77, 78, 79, 80, 81, 82, 83, 84] (by decide +kernel) (by decide +kernel)
set_option maxRecDepth 20000 in
theorem gX5_depths_X1_bitIfAllHold : GoodIn wsX5_depths (wsV RX5 209 RX1 yX1_bitIfAllHold wsX1_bitIfAllHold) := goodIn_app (goodIn_of _ (by decide +kernel)) ggX5_depths_X1_bitIfAllHold
theorem dX5_depths_0 : decode cX5_depths 0 = .ok (.aload_n 0, 1) := by decide +kernel
theorem dX5_depths_1 : decode cX5_depths 1 = .ok (.getfield 12, 3) := by decide +kernel
theorem dX5_depths_4 : decode cX5_depths 4 = .ok (.iload_n 1, 1) := by decide +kernel
theorem dX5_depths_5 : decode cX5_depths 5 = .ok (.invokevirtual 92, 3) := by decide +kernel
theorem dX5_depths_8 : decode cX5_depths 8 = .ok (.ifCond .ne 5, 3) := by decide +kernel
theorem dX5_depths_11 : decode cX5_depths 11 = .ok (.iconst (-1), 1) := by decide +kernel
theorem dX5_depths_12 : decode cX5_depths 12 = .ok (.ireturn, 1) := by decide +kernel
theorem dX5_depths_13 : decode cX5_depths 13 = .ok (.aload_n 0, 1) := by decide +kernel
theorem dX5_depths_14 : decode cX5_depths 14 = .ok (.getfield 18, 3) := by decide +kernel
theorem dX5_depths_17 : decode cX5_depths 17 = .ok (.aload_n 0, 1) := by decide +kernel
theorem dX5_depths_18 : decode cX5_depths 18 = .ok (.getfield 12, 3) := by decide +kernel
theorem dX5_depths_21 : decode cX5_depths 21 = .ok (.invokevirtual 79, 3) := by decide +kernel
theorem dX5_depths_24 : decode cX5_depths 24 = .ok (.iconst 0, 1) := by decide +kernel
theorem dX5_depths_25 : decode cX5_depths 25 = .ok (.istore_n 2, 1) := by decide +kernel
theorem dX5_depths_26 : decode cX5_depths 26 = .ok (.iconst 1, 1) := by decide +kernel
theorem dX5_depths_27 : decode cX5_depths 27 = .ok (.istore_n 3, 1) := by decide +kernel
theorem dX5_depths_28 : decode cX5_depths 28 = .ok (.iload_n 3, 1) := by decide +kernel
theorem dX5_depths_29 : decode cX5_depths 29 = .ok (.bipush 9, 2) := by decide +kernel
theorem dX5_depths_31 : decode cX5_depths 31 = .ok (.if_icmp .gt 34, 3) := by decide +kernel
theorem dX5_depths_34 : decode cX5_depths 34 = .ok (.aload_n 0, 1) := by decide +kernel
theorem dX5_depths_35 : decode cX5_depths 35 = .ok (.getfield 18, 3) := by decide +kernel
theorem dX5_depths_38 : decode cX5_depths 38 = .ok (.getfield 98, 3) := by decide +kernel
theorem dX5_depths_41 : decode cX5_depths 41 = .ok (.iload_n 1, 1) := by decide +kernel
theorem dX5_depths_42 : decode cX5_depths 42 = .ok (.iload_n 3, 1) := by decide +kernel
theorem dX5_depths_43 : decode cX5_depths 43 = .ok (.iastore, 1) := by decide +kernel
theorem dX5_depths_44 : decode cX5_depths 44 = .ok (.iload_n 2, 1) := by decide +kernel
theorem dX5_depths_45 : decode cX5_depths 45 = .ok (.aload_n 0, 1) := by decide +kernel
theorem dX5_depths_46 : decode cX5_depths 46 = .ok (.getfield 31, 3) := by decide +kernel
theorem dX5_depths_49 : decode cX5_depths 49 = .ok (.aload_n 0, 1) := by decide +kernel
theorem dX5_depths_50 : decode cX5_depths 50 = .ok (.getfield 18, 3) := by decide +kernel
theorem dX5_depths_53 : decode cX5_depths 53 = .ok (.iload_n 3, 1) := by decide +kernel
theorem dX5_depths_54 : decode cX5_depths 54 = .ok (.invokevirtual 209, 3) := by decide +kernel
theorem dX5_depths_57 : decode cX5_depths 57 = .ok (.ior, 1) := by decide +kernel
theorem dX5_depths_58 : decode cX5_depths 58 = .ok (.istore_n 2, 1) := by decide +kernel
theorem dX5_depths_59 : decode cX5_depths 59 = .ok (.iinc 3 1, 3) := by decide +kernel
theorem dX5_depths_62 : decode cX5_depths 62 = .ok (.goto (-34), 3) := by decide +kernel
theorem dX5_depths_65 : decode cX5_depths 65 = .ok (.iload_n 2, 1) := by decide +kernel
theorem dX5_depths_66 : decode cX5_depths 66 = .ok (.ireturn, 1) := by decide +kernel
set_option maxRecDepth 20000 in
theorem ggX5_kinds_X3_hasHouse : GoodIn wsX5_kinds wsX3_hasHouse := goodIn_r _ [9, 10, 75, 76, 77, 78, 79, 80, 81, 82, 83, 84] (by decide +kernel) (by decide +kernel)
set_option maxRecDepth 20000 in
theorem gX5_kinds_X3_hasHouse : GoodIn wsX5_kinds (wsV RX5 92 RX3 yX3_hasHouse wsX3_hasHouse) := goodIn_app (goodIn_of _ (by decide +kernel)) ggX5_kinds_X3_hasHouse
set_option maxRecDepth 20000 in
theorem ggX5_kinds_X3_become : GoodIn wsX5_kinds wsX3_become := goodIn_r _ [14, 10, 15, 16, 17, 18, 19, 20, 21, 22, 23, 24, 8, 25, 26, 27, 75, 76, 77, 78, 79, 80, 81, 82, 83, 84] (by decide +kernel) (by decide +kernel)
set_option maxRecDepth 20000 in
theorem gX5_kinds_X3_become : GoodIn wsX5_kinds (wsV RX5 79 RX3 yX3_become wsX3_become) := goodIn_app (goodIn_of _ (by decide +kernel)) ggX5_kinds_X3_become
set_option maxRecDepth 20000 in
theorem ggX5_kinds_X1_bitIfAllHold : GoodIn wsX5_kinds wsX1_bitIfAllHold := goodIn_r _ [32, 33, 34, 35, 36, 37, 38, 39, 40, 8, 41, 21, 42, 43, 44, 45, 19, 46, 47, 48, 49, 50, 51, 52, 53, 16, 54, 55, 56, 57, 58, 59, 60, 61, 17, 18, 62, 63, 64, 85, 86, 87, 88, 89, 75, 76, 77, 78, 79, 80, 81, 82, 83, 84] (by decide +kernel) (by decide +kernel)
set_option maxRecDepth 20000 in
theorem gX5_kinds_X1_bitIfAllHold : GoodIn wsX5_kinds (wsV RX5 209 RX1 yX1_bitIfAllHold wsX1_bitIfAllHold) := goodIn_app (goodIn_of _ (by decide +kernel)) ggX5_kinds_X1_bitIfAllHold
theorem dX5_kinds_0 : decode cX5_kinds 0 = .ok (.aload_n 0, 1) := by decide +kernel
theorem dX5_kinds_1 : decode cX5_kinds 1 = .ok (.getfield 12, 3) := by decide +kernel
theorem dX5_kinds_4 : decode cX5_kinds 4 = .ok (.iload_n 1, 1) := by decide +kernel
theorem dX5_kinds_5 : decode cX5_kinds 5 = .ok (.invokevirtual 92, 3) := by decide +kernel
theorem dX5_kinds_8 : decode cX5_kinds 8 = .ok (.ifCond .ne 5, 3) := by decide +kernel
theorem dX5_kinds_11 : decode cX5_kinds 11 = .ok (.iconst (-1), 1) := by decide +kernel
theorem dX5_kinds_12 : decode cX5_kinds 12 = .ok (.ireturn, 1) := by decide +kernel
theorem dX5_kinds_13 : decode cX5_kinds 13 = .ok (.aload_n 0, 1) := by decide +kernel
theorem dX5_kinds_14 : decode cX5_kinds 14 = .ok (.getfield 18, 3) := by decide +kernel
theorem dX5_kinds_17 : decode cX5_kinds 17 = .ok (.aload_n 0, 1) := by decide +kernel
theorem dX5_kinds_18 : decode cX5_kinds 18 = .ok (.getfield 12, 3) := by decide +kernel
theorem dX5_kinds_21 : decode cX5_kinds 21 = .ok (.invokevirtual 79, 3) := by decide +kernel
theorem dX5_kinds_24 : decode cX5_kinds 24 = .ok (.iconst 0, 1) := by decide +kernel
theorem dX5_kinds_25 : decode cX5_kinds 25 = .ok (.istore_n 2, 1) := by decide +kernel
theorem dX5_kinds_26 : decode cX5_kinds 26 = .ok (.iconst 0, 1) := by decide +kernel
theorem dX5_kinds_27 : decode cX5_kinds 27 = .ok (.istore_n 3, 1) := by decide +kernel
theorem dX5_kinds_28 : decode cX5_kinds 28 = .ok (.iload_n 3, 1) := by decide +kernel
theorem dX5_kinds_29 : decode cX5_kinds 29 = .ok (.iconst 2, 1) := by decide +kernel
theorem dX5_kinds_30 : decode cX5_kinds 30 = .ok (.if_icmp .gt 34, 3) := by decide +kernel
theorem dX5_kinds_33 : decode cX5_kinds 33 = .ok (.aload_n 0, 1) := by decide +kernel
theorem dX5_kinds_34 : decode cX5_kinds 34 = .ok (.getfield 18, 3) := by decide +kernel
theorem dX5_kinds_37 : decode cX5_kinds 37 = .ok (.getfield 95, 3) := by decide +kernel
theorem dX5_kinds_40 : decode cX5_kinds 40 = .ok (.iload_n 1, 1) := by decide +kernel
theorem dX5_kinds_41 : decode cX5_kinds 41 = .ok (.iload_n 3, 1) := by decide +kernel
theorem dX5_kinds_42 : decode cX5_kinds 42 = .ok (.iastore, 1) := by decide +kernel
theorem dX5_kinds_43 : decode cX5_kinds 43 = .ok (.iload_n 2, 1) := by decide +kernel
theorem dX5_kinds_44 : decode cX5_kinds 44 = .ok (.aload_n 0, 1) := by decide +kernel
theorem dX5_kinds_45 : decode cX5_kinds 45 = .ok (.getfield 31, 3) := by decide +kernel
theorem dX5_kinds_48 : decode cX5_kinds 48 = .ok (.aload_n 0, 1) := by decide +kernel
theorem dX5_kinds_49 : decode cX5_kinds 49 = .ok (.getfield 18, 3) := by decide +kernel
theorem dX5_kinds_52 : decode cX5_kinds 52 = .ok (.iload_n 3, 1) := by decide +kernel
theorem dX5_kinds_53 : decode cX5_kinds 53 = .ok (.invokevirtual 209, 3) := by decide +kernel
theorem dX5_kinds_56 : decode cX5_kinds 56 = .ok (.ior, 1) := by decide +kernel
theorem dX5_kinds_57 : decode cX5_kinds 57 = .ok (.istore_n 2, 1) := by decide +kernel
theorem dX5_kinds_58 : decode cX5_kinds 58 = .ok (.iinc 3 1, 3) := by decide +kernel
theorem dX5_kinds_61 : decode cX5_kinds 61 = .ok (.goto (-33), 3) := by decide +kernel
theorem dX5_kinds_64 : decode cX5_kinds 64 = .ok (.iload_n 2, 1) := by decide +kernel
theorem dX5_kinds_65 : decode cX5_kinds 65 = .ok (.ireturn, 1) := by decide +kernel
set_option maxRecDepth 20000 in
theorem ggX5_louds_X3_hasClock : GoodIn wsX5_louds wsX3_hasClock := goodIn_r _ [9, 10, 75, 76, 77, 78, 79, 80, 81, 82, 83, 84] (by decide +kernel) (by decide +kernel)
set_option maxRecDepth 20000 in
theorem gX5_louds_X3_hasClock : GoodIn wsX5_louds (wsV RX5 110 RX3 yX3_hasClock wsX3_hasClock) := goodIn_app (goodIn_of _ (by decide +kernel)) ggX5_louds_X3_hasClock
set_option maxRecDepth 20000 in
theorem ggX5_louds_X3_become : GoodIn wsX5_louds wsX3_become := goodIn_r _ [14, 15, 10, 16, 17, 18, 19, 20, 21, 22, 23, 24, 8, 25, 26, 27, 75, 76, 77, 78, 79, 80, 81, 82, 83, 84] (by decide +kernel) (by decide +kernel)
set_option maxRecDepth 20000 in
theorem gX5_louds_X3_become : GoodIn wsX5_louds (wsV RX5 79 RX3 yX3_become wsX3_become) := goodIn_app (goodIn_of _ (by decide +kernel)) ggX5_louds_X3_become
set_option maxRecDepth 20000 in
theorem ggX5_louds_X1_bitIfAllHold : GoodIn wsX5_louds wsX1_bitIfAllHold := goodIn_r _ [32, 33, 34, 35, 36, 37, 38, 39, 40, 8, 41, 21, 42, 43, 44, 45, 19, 46, 47, 48, 49, 50, 51, 52, 53, 16, 54, 55, 56, 57, 58, 59, 60, 61, 17, 18, 62, 63, 64, 85, 86, 87, 88, 89, 75, 76, 77, 78, 79, 80, 81, 82, 83, 84] (by decide +kernel) (by decide +kernel)
set_option maxRecDepth 20000 in
theorem gX5_louds_X1_bitIfAllHold : GoodIn wsX5_louds (wsV RX5 209 RX1 yX1_bitIfAllHold wsX1_bitIfAllHold) := goodIn_app (goodIn_of _ (by decide +kernel)) ggX5_louds_X1_bitIfAllHold
theorem dX5_louds_0 : decode cX5_louds 0 = .ok (.aload_n 0, 1) := by decide +kernel
theorem dX5_louds_1 : decode cX5_louds 1 = .ok (.getfield 12, 3) := by decide +kernel
theorem dX5_louds_4 : decode cX5_louds 4 = .ok (.iload_n 1, 1) := by decide +kernel
theorem dX5_louds_5 : decode cX5_louds 5 = .ok (.invokevirtual 110, 3) := by decide +kernel
theorem dX5_louds_8 : decode cX5_louds 8 = .ok (.ifCond .ne 5, 3) := by decide +kernel
theorem dX5_louds_11 : decode cX5_louds 11 = .ok (.iconst (-1), 1) := by decide +kernel
theorem dX5_louds_12 : decode cX5_louds 12 = .ok (.ireturn, 1) := by decide +kernel
theorem dX5_louds_13 : decode cX5_louds 13 = .ok (.aload_n 0, 1) := by decide +kernel
theorem dX5_louds_14 : decode cX5_louds 14 = .ok (.getfield 18, 3) := by decide +kernel
theorem dX5_louds_17 : decode cX5_louds 17 = .ok (.aload_n 0, 1) := by decide +kernel
theorem dX5_louds_18 : decode cX5_louds 18 = .ok (.getfield 12, 3) := by decide +kernel
theorem dX5_louds_21 : decode cX5_louds 21 = .ok (.invokevirtual 79, 3) := by decide +kernel
theorem dX5_louds_24 : decode cX5_louds 24 = .ok (.iconst 0, 1) := by decide +kernel
theorem dX5_louds_25 : decode cX5_louds 25 = .ok (.istore_n 2, 1) := by decide +kernel
theorem dX5_louds_26 : decode cX5_louds 26 = .ok (.iconst 1, 1) := by decide +kernel
theorem dX5_louds_27 : decode cX5_louds 27 = .ok (.istore_n 3, 1) := by decide +kernel
theorem dX5_louds_28 : decode cX5_louds 28 = .ok (.iload_n 3, 1) := by decide +kernel
theorem dX5_louds_29 : decode cX5_louds 29 = .ok (.bipush 9, 2) := by decide +kernel
theorem dX5_louds_31 : decode cX5_louds 31 = .ok (.if_icmp .gt 34, 3) := by decide +kernel
theorem dX5_louds_34 : decode cX5_louds 34 = .ok (.aload_n 0, 1) := by decide +kernel
theorem dX5_louds_35 : decode cX5_louds 35 = .ok (.getfield 18, 3) := by decide +kernel
theorem dX5_louds_38 : decode cX5_louds 38 = .ok (.getfield 113, 3) := by decide +kernel
theorem dX5_louds_41 : decode cX5_louds 41 = .ok (.iload_n 1, 1) := by decide +kernel
theorem dX5_louds_42 : decode cX5_louds 42 = .ok (.iload_n 3, 1) := by decide +kernel
theorem dX5_louds_43 : decode cX5_louds 43 = .ok (.iastore, 1) := by decide +kernel
theorem dX5_louds_44 : decode cX5_louds 44 = .ok (.iload_n 2, 1) := by decide +kernel
theorem dX5_louds_45 : decode cX5_louds 45 = .ok (.aload_n 0, 1) := by decide +kernel
theorem dX5_louds_46 : decode cX5_louds 46 = .ok (.getfield 31, 3) := by decide +kernel
theorem dX5_louds_49 : decode cX5_louds 49 = .ok (.aload_n 0, 1) := by decide +kernel
theorem dX5_louds_50 : decode cX5_louds 50 = .ok (.getfield 18, 3) := by decide +kernel
theorem dX5_louds_53 : decode cX5_louds 53 = .ok (.iload_n 3, 1) := by decide +kernel
theorem dX5_louds_54 : decode cX5_louds 54 = .ok (.invokevirtual 209, 3) := by decide +kernel
theorem dX5_louds_57 : decode cX5_louds 57 = .ok (.ior, 1) := by decide +kernel
theorem dX5_louds_58 : decode cX5_louds 58 = .ok (.istore_n 2, 1) := by decide +kernel
theorem dX5_louds_59 : decode cX5_louds 59 = .ok (.iinc 3 1, 3) := by decide +kernel
theorem dX5_louds_62 : decode cX5_louds 62 = .ok (.goto (-34), 3) := by decide +kernel
theorem dX5_louds_65 : decode cX5_louds 65 = .ok (.iload_n 2, 1) := by decide +kernel
theorem dX5_louds_66 : decode cX5_louds 66 = .ok (.ireturn, 1) := by decide +kernel
set_option maxRecDepth 20000 in
theorem ggX5_walls_X3_stands : GoodIn wsX5_walls wsX3_stands := goodIn_r _ [9, 10, 75, 76, 77, 78, 79, 80, 81, 82, 83, 84] (by decide +kernel) (by decide +kernel)
set_option maxRecDepth 20000 in
theorem gX5_walls_X3_stands : GoodIn wsX5_walls (wsV RX5 133 RX3 yX3_stands wsX3_stands) := goodIn_app (goodIn_of _ (by decide +kernel)) ggX5_walls_X3_stands
set_option maxRecDepth 20000 in
theorem ggX5_walls_X3_become : GoodIn wsX5_walls wsX3_become := goodIn_r _ [14, 10, 15, 16, 17, 18, 19, 20, 21, 22, 23, 24, 8, 25, 26, 27, 75, 76, 77, 78, 79, 80, 81, 82, 83, 84] (by decide +kernel) (by decide +kernel)
set_option maxRecDepth 20000 in
theorem gX5_walls_X3_become : GoodIn wsX5_walls (wsV RX5 79 RX3 yX3_become wsX3_become) := goodIn_app (goodIn_of _ (by decide +kernel)) ggX5_walls_X3_become
set_option maxRecDepth 20000 in
theorem ggX5_walls_X1_bitIfAllHold : GoodIn wsX5_walls wsX1_bitIfAllHold := goodIn_r _ [32, 33, 34, 35, 36, 37, 38, 39, 40, 8, 41, 21, 42, 43, 44, 45, 19, 46, 47, 48, 49, 50, 51, 52, 53, 16, 54, 55, 56, 57, 58, 59, 60, 61, 17, 18, 62, 63, 64, 85, 86, 87, 88, 89, 75, 76, 77, 78, 79, 80, 81, 82, 83, 84] (by decide +kernel) (by decide +kernel)
set_option maxRecDepth 20000 in
theorem gX5_walls_X1_bitIfAllHold : GoodIn wsX5_walls (wsV RX5 209 RX1 yX1_bitIfAllHold wsX1_bitIfAllHold) := goodIn_app (goodIn_of _ (by decide +kernel)) ggX5_walls_X1_bitIfAllHold
theorem dX5_walls_0 : decode cX5_walls 0 = .ok (.aload_n 0, 1) := by decide +kernel
theorem dX5_walls_1 : decode cX5_walls 1 = .ok (.getfield 12, 3) := by decide +kernel
theorem dX5_walls_4 : decode cX5_walls 4 = .ok (.invokevirtual 133, 3) := by decide +kernel
theorem dX5_walls_7 : decode cX5_walls 7 = .ok (.ifCond .ne 6, 3) := by decide +kernel
theorem dX5_walls_10 : decode cX5_walls 10 = .ok (.bipush (-3), 2) := by decide +kernel
theorem dX5_walls_12 : decode cX5_walls 12 = .ok (.ireturn, 1) := by decide +kernel
theorem dX5_walls_13 : decode cX5_walls 13 = .ok (.aload_n 0, 1) := by decide +kernel
theorem dX5_walls_14 : decode cX5_walls 14 = .ok (.getfield 18, 3) := by decide +kernel
theorem dX5_walls_17 : decode cX5_walls 17 = .ok (.aload_n 0, 1) := by decide +kernel
theorem dX5_walls_18 : decode cX5_walls 18 = .ok (.getfield 12, 3) := by decide +kernel
theorem dX5_walls_21 : decode cX5_walls 21 = .ok (.invokevirtual 79, 3) := by decide +kernel
theorem dX5_walls_24 : decode cX5_walls 24 = .ok (.iconst 0, 1) := by decide +kernel
theorem dX5_walls_25 : decode cX5_walls 25 = .ok (.istore_n 1, 1) := by decide +kernel
theorem dX5_walls_26 : decode cX5_walls 26 = .ok (.iconst 0, 1) := by decide +kernel
theorem dX5_walls_27 : decode cX5_walls 27 = .ok (.istore_n 2, 1) := by decide +kernel
theorem dX5_walls_28 : decode cX5_walls 28 = .ok (.iload_n 2, 1) := by decide +kernel
theorem dX5_walls_29 : decode cX5_walls 29 = .ok (.iconst 3, 1) := by decide +kernel
theorem dX5_walls_30 : decode cX5_walls 30 = .ok (.if_icmp .gt 32, 3) := by decide +kernel
theorem dX5_walls_33 : decode cX5_walls 33 = .ok (.aload_n 0, 1) := by decide +kernel
theorem dX5_walls_34 : decode cX5_walls 34 = .ok (.getfield 18, 3) := by decide +kernel
theorem dX5_walls_37 : decode cX5_walls 37 = .ok (.iload_n 2, 1) := by decide +kernel
theorem dX5_walls_38 : decode cX5_walls 38 = .ok (.putfield 137, 3) := by decide +kernel
theorem dX5_walls_41 : decode cX5_walls 41 = .ok (.iload_n 1, 1) := by decide +kernel
theorem dX5_walls_42 : decode cX5_walls 42 = .ok (.aload_n 0, 1) := by decide +kernel
theorem dX5_walls_43 : decode cX5_walls 43 = .ok (.getfield 31, 3) := by decide +kernel
theorem dX5_walls_46 : decode cX5_walls 46 = .ok (.aload_n 0, 1) := by decide +kernel
theorem dX5_walls_47 : decode cX5_walls 47 = .ok (.getfield 18, 3) := by decide +kernel
theorem dX5_walls_50 : decode cX5_walls 50 = .ok (.iload_n 2, 1) := by decide +kernel
theorem dX5_walls_51 : decode cX5_walls 51 = .ok (.invokevirtual 209, 3) := by decide +kernel
theorem dX5_walls_54 : decode cX5_walls 54 = .ok (.ior, 1) := by decide +kernel
theorem dX5_walls_55 : decode cX5_walls 55 = .ok (.istore_n 1, 1) := by decide +kernel
theorem dX5_walls_56 : decode cX5_walls 56 = .ok (.iinc 2 1, 3) := by decide +kernel
theorem dX5_walls_59 : decode cX5_walls 59 = .ok (.goto (-31), 3) := by decide +kernel
theorem dX5_walls_62 : decode cX5_walls 62 = .ok (.iload_n 1, 1) := by decide +kernel
theorem dX5_walls_63 : decode cX5_walls 63 = .ok (.ireturn, 1) := by decide +kernel
set_option maxRecDepth 20000 in
theorem ggX5_odds_X3_hasHouse : GoodIn wsX5_odds wsX3_hasHouse := goodIn_r _ [9, 10, 57, 58, 59, 60, 61, 62, 63, 64, 65, 66] (by decide +kernel) (by decide +kernel)
set_option maxRecDepth 20000 in
theorem gX5_odds_X3_hasHouse : GoodIn wsX5_odds (wsV RX5 92 RX3 yX3_hasHouse wsX3_hasHouse) := goodIn_app (goodIn_of _ (by decide +kernel)) ggX5_odds_X3_hasHouse
set_option maxRecDepth 20000 in
theorem ggX5_odds_X3_sound : GoodIn wsX5_odds wsX3_sound := goodIn_r _ [14, 15, 16, 17, 18, 8, 19, 20, 57, 58, 59, 60, 61, 62, 63, 64, 65, 66] (by decide +kernel) (by decide +kernel)
set_option maxRecDepth 20000 in
theorem gX5_odds_X3_sound : GoodIn wsX5_odds (wsV RX5 116 RX3 yX3_sound wsX3_sound) := goodIn_app (goodIn_of _ (by decide +kernel)) ggX5_odds_X3_sound
set_option maxRecDepth 20000 in
theorem ggX5_odds_X3_wakes : GoodIn wsX5_odds wsX3_wakes := goodIn_r _ [24, 25, 26, 27, 8, 28, 29, 30, 31, 32, 33, 34, 35, 36, 37, 38, 39, 40, 41, 42, 57, 58, 59, 60, 61, 62, 63, 64, 65, 66] (by decide +kernel) (by decide +kernel)
set_option maxRecDepth 20000 in
theorem gX5_odds_X3_wakes : GoodIn wsX5_odds (wsV RX5 197 RX3 yX3_wakes wsX3_wakes) := goodIn_app (goodIn_of _ (by decide +kernel)) ggX5_odds_X3_wakes
set_option maxRecDepth 20000 in
theorem ggX5_odds_X5_commonDivisor : GoodIn wsX5_odds wsX5_commonDivisor := goodIn_r _ [46] (by decide +kernel) (by decide +kernel)
set_option maxRecDepth 20000 in
theorem gX5_odds_X5_commonDivisor : GoodIn wsX5_odds (va_wsS RX5 213 yX5_commonDivisor wsX5_commonDivisor) := goodIn_app (goodIn_of _ (by decide +kernel)) ggX5_odds_X5_commonDivisor
theorem dX5_odds_0 : decode cX5_odds 0 = .ok (.aload_n 0, 1) := by decide +kernel
theorem dX5_odds_1 : decode cX5_odds 1 = .ok (.getfield 12, 3) := by decide +kernel
theorem dX5_odds_4 : decode cX5_odds 4 = .ok (.iload_n 1, 1) := by decide +kernel
theorem dX5_odds_5 : decode cX5_odds 5 = .ok (.invokevirtual 92, 3) := by decide +kernel
theorem dX5_odds_8 : decode cX5_odds 8 = .ok (.ifCond .eq 12, 3) := by decide +kernel
theorem dX5_odds_11 : decode cX5_odds 11 = .ok (.iload_n 2, 1) := by decide +kernel
theorem dX5_odds_12 : decode cX5_odds 12 = .ok (.ifCond .lt 8, 3) := by decide +kernel
theorem dX5_odds_15 : decode cX5_odds 15 = .ok (.iload_n 2, 1) := by decide +kernel
theorem dX5_odds_16 : decode cX5_odds 16 = .ok (.iconst 1, 1) := by decide +kernel
theorem dX5_odds_17 : decode cX5_odds 17 = .ok (.if_icmp .le 7, 3) := by decide +kernel
theorem dX5_odds_20 : decode cX5_odds 20 = .ok (.ldc2_w 140, 3) := by decide +kernel
theorem dX5_odds_23 : decode cX5_odds 23 = .ok (.lreturn, 1) := by decide +kernel
theorem dX5_odds_24 : decode cX5_odds 24 = .ok (.iconst 0, 1) := by decide +kernel
theorem dX5_odds_25 : decode cX5_odds 25 = .ok (.istore_n 3, 1) := by decide +kernel
theorem dX5_odds_26 : decode cX5_odds 26 = .ok (.iconst 0, 1) := by decide +kernel
theorem dX5_odds_27 : decode cX5_odds 27 = .ok (.istore 4, 2) := by decide +kernel
theorem dX5_odds_29 : decode cX5_odds 29 = .ok (.iload 4, 2) := by decide +kernel
theorem dX5_odds_31 : decode cX5_odds 31 = .ok (.aload_n 0, 1) := by decide +kernel
theorem dX5_odds_32 : decode cX5_odds 32 = .ok (.getfield 12, 3) := by decide +kernel
theorem dX5_odds_35 : decode cX5_odds 35 = .ok (.getfield 89, 3) := by decide +kernel
theorem dX5_odds_38 : decode cX5_odds 38 = .ok (.if_icmp .ge 55, 3) := by decide +kernel
theorem dX5_odds_41 : decode cX5_odds 41 = .ok (.iconst 0, 1) := by decide +kernel
theorem dX5_odds_42 : decode cX5_odds 42 = .ok (.istore 5, 2) := by decide +kernel
theorem dX5_odds_44 : decode cX5_odds 44 = .ok (.iload 5, 2) := by decide +kernel
theorem dX5_odds_46 : decode cX5_odds 46 = .ok (.aload_n 0, 1) := by decide +kernel
theorem dX5_odds_47 : decode cX5_odds 47 = .ok (.getfield 12, 3) := by decide +kernel
theorem dX5_odds_50 : decode cX5_odds 50 = .ok (.getfield 184, 3) := by decide +kernel
theorem dX5_odds_53 : decode cX5_odds 53 = .ok (.if_icmp .ge 34, 3) := by decide +kernel
theorem dX5_odds_56 : decode cX5_odds 56 = .ok (.aload_n 0, 1) := by decide +kernel
theorem dX5_odds_57 : decode cX5_odds 57 = .ok (.getfield 12, 3) := by decide +kernel
theorem dX5_odds_60 : decode cX5_odds 60 = .ok (.iload_n 1, 1) := by decide +kernel
theorem dX5_odds_61 : decode cX5_odds 61 = .ok (.aload_n 0, 1) := by decide +kernel
theorem dX5_odds_62 : decode cX5_odds 62 = .ok (.getfield 12, 3) := by decide +kernel
theorem dX5_odds_65 : decode cX5_odds 65 = .ok (.iload 4, 2) := by decide +kernel
theorem dX5_odds_67 : decode cX5_odds 67 = .ok (.invokevirtual 116, 3) := by decide +kernel
theorem dX5_odds_70 : decode cX5_odds 70 = .ok (.iload 5, 2) := by decide +kernel
theorem dX5_odds_72 : decode cX5_odds 72 = .ok (.invokevirtual 197, 3) := by decide +kernel
theorem dX5_odds_75 : decode cX5_odds 75 = .ok (.ifCond .eq 6, 3) := by decide +kernel
theorem dX5_odds_78 : decode cX5_odds 78 = .ok (.iinc 3 1, 3) := by decide +kernel
theorem dX5_odds_81 : decode cX5_odds 81 = .ok (.iinc 5 1, 3) := by decide +kernel
theorem dX5_odds_84 : decode cX5_odds 84 = .ok (.goto (-40), 3) := by decide +kernel
theorem dX5_odds_87 : decode cX5_odds 87 = .ok (.iinc 4 1, 3) := by decide +kernel
theorem dX5_odds_90 : decode cX5_odds 90 = .ok (.goto (-61), 3) := by decide +kernel
theorem dX5_odds_93 : decode cX5_odds 93 = .ok (.aload_n 0, 1) := by decide +kernel
theorem dX5_odds_94 : decode cX5_odds 94 = .ok (.getfield 12, 3) := by decide +kernel
theorem dX5_odds_97 : decode cX5_odds 97 = .ok (.getfield 89, 3) := by decide +kernel
theorem dX5_odds_100 : decode cX5_odds 100 = .ok (.aload_n 0, 1) := by decide +kernel
theorem dX5_odds_101 : decode cX5_odds 101 = .ok (.getfield 12, 3) := by decide +kernel
theorem dX5_odds_104 : decode cX5_odds 104 = .ok (.getfield 184, 3) := by decide +kernel
theorem dX5_odds_107 : decode cX5_odds 107 = .ok (.imul, 1) := by decide +kernel
theorem dX5_odds_108 : decode cX5_odds 108 = .ok (.istore 4, 2) := by decide +kernel
theorem dX5_odds_110 : decode cX5_odds 110 = .ok (.iload_n 3, 1) := by decide +kernel
theorem dX5_odds_111 : decode cX5_odds 111 = .ok (.iload 4, 2) := by decide +kernel
theorem dX5_odds_113 : decode cX5_odds 113 = .ok (.invokestatic 213, 3) := by decide +kernel
theorem dX5_odds_116 : decode cX5_odds 116 = .ok (.istore 5, 2) := by decide +kernel
theorem dX5_odds_118 : decode cX5_odds 118 = .ok (.iload_n 2, 1) := by decide +kernel
theorem dX5_odds_119 : decode cX5_odds 119 = .ok (.ifCond .ne 11, 3) := by decide +kernel
theorem dX5_odds_122 : decode cX5_odds 122 = .ok (.iload_n 3, 1) := by decide +kernel
theorem dX5_odds_123 : decode cX5_odds 123 = .ok (.iload 5, 2) := by decide +kernel
theorem dX5_odds_125 : decode cX5_odds 125 = .ok (.idiv, 1) := by decide +kernel
theorem dX5_odds_126 : decode cX5_odds 126 = .ok (.i2l, 1) := by decide +kernel
theorem dX5_odds_127 : decode cX5_odds 127 = .ok (.goto 9, 3) := by decide +kernel
theorem dX5_odds_130 : decode cX5_odds 130 = .ok (.iload 4, 2) := by decide +kernel
theorem dX5_odds_132 : decode cX5_odds 132 = .ok (.iload 5, 2) := by decide +kernel
theorem dX5_odds_134 : decode cX5_odds 134 = .ok (.idiv, 1) := by decide +kernel
theorem dX5_odds_135 : decode cX5_odds 135 = .ok (.i2l, 1) := by decide +kernel
theorem dX5_odds_136 : decode cX5_odds 136 = .ok (.lreturn, 1) := by decide +kernel
set_option maxRecDepth 20000 in
theorem ggX5_sheet_X5_isSheet : GoodIn wsX5_sheet wsX5_isSheet := goodIn_r _ [6] (by decide +kernel) (by decide +kernel)
set_option maxRecDepth 20000 in
theorem gX5_sheet_X5_isSheet : GoodIn wsX5_sheet (va_wsS RX5 57 yX5_isSheet wsX5_isSheet) := goodIn_app (goodIn_of _ (by decide +kernel)) ggX5_sheet_X5_isSheet
set_option maxRecDepth 20000 in
theorem ggX5_sheet_X5_isLane : GoodIn wsX5_sheet wsX5_isLane := goodIn_r _ [9] (by decide +kernel) (by decide +kernel)
set_option maxRecDepth 20000 in
theorem gX5_sheet_X5_isLane : GoodIn wsX5_sheet (va_wsS RX5 61 yX5_isLane wsX5_isLane) := goodIn_app (goodIn_of _ (by decide +kernel)) ggX5_sheet_X5_isLane
set_option maxRecDepth 20000 in
theorem ggX5_sheet_X5_faulty : GoodIn wsX5_sheet wsX5_faulty := goodIn_r _ [13, 1, 27, 28, 29, 30, 31, 32, 33, 34, 35, 36] (by decide +kernel) (by decide +kernel)
set_option maxRecDepth 20000 in
theorem gX5_sheet_X5_faulty : GoodIn wsX5_sheet (wsV RX5 72 RX5 yX5_faulty wsX5_faulty) := goodIn_app (goodIn_of _ (by decide +kernel)) ggX5_sheet_X5_faulty
set_option maxRecDepth 20000 in
theorem ggX5_sheet_X2_renew : GoodIn wsX5_sheet wsX2_renew := goodIn_r _ [18, 19, 20, 21, 22, 23, 24, 25, 26, 37, 38, 39, 40] (by decide +kernel) (by decide +kernel)
set_option maxRecDepth 20000 in
theorem gX5_sheet_X2_renew : GoodIn wsX5_sheet (wsV RX5 216 RX2 yX2_renew wsX2_renew) := goodIn_app (goodIn_of _ (by decide +kernel)) ggX5_sheet_X2_renew
theorem dX5_sheet_0 : decode cX5_sheet 0 = .ok (.aload_n 0, 1) := by decide +kernel
theorem dX5_sheet_1 : decode cX5_sheet 1 = .ok (.iconst 0, 1) := by decide +kernel
theorem dX5_sheet_2 : decode cX5_sheet 2 = .ok (.putfield 53, 3) := by decide +kernel
theorem dX5_sheet_5 : decode cX5_sheet 5 = .ok (.iload_n 1, 1) := by decide +kernel
theorem dX5_sheet_6 : decode cX5_sheet 6 = .ok (.invokestatic 57, 3) := by decide +kernel
theorem dX5_sheet_9 : decode cX5_sheet 9 = .ok (.ifCond .ne 5, 3) := by decide +kernel
theorem dX5_sheet_12 : decode cX5_sheet 12 = .ok (.iconst (-1), 1) := by decide +kernel
theorem dX5_sheet_13 : decode cX5_sheet 13 = .ok (.ireturn, 1) := by decide +kernel
theorem dX5_sheet_14 : decode cX5_sheet 14 = .ok (.iload_n 2, 1) := by decide +kernel
theorem dX5_sheet_15 : decode cX5_sheet 15 = .ok (.invokestatic 61, 3) := by decide +kernel
theorem dX5_sheet_18 : decode cX5_sheet 18 = .ok (.ifCond .eq 9, 3) := by decide +kernel
theorem dX5_sheet_21 : decode cX5_sheet 21 = .ok (.iload_n 3, 1) := by decide +kernel
theorem dX5_sheet_22 : decode cX5_sheet 22 = .ok (.bipush 60, 2) := by decide +kernel
theorem dX5_sheet_24 : decode cX5_sheet 24 = .ok (.if_icmp .le 6, 3) := by decide +kernel
theorem dX5_sheet_27 : decode cX5_sheet 27 = .ok (.bipush (-2), 2) := by decide +kernel
theorem dX5_sheet_29 : decode cX5_sheet 29 = .ok (.ireturn, 1) := by decide +kernel
theorem dX5_sheet_30 : decode cX5_sheet 30 = .ok (.iload_n 3, 1) := by decide +kernel
theorem dX5_sheet_31 : decode cX5_sheet 31 = .ok (.ifCond .ge 9, 3) := by decide +kernel
theorem dX5_sheet_34 : decode cX5_sheet 34 = .ok (.aload_n 0, 1) := by decide +kernel
theorem dX5_sheet_35 : decode cX5_sheet 35 = .ok (.iconst 4, 1) := by decide +kernel
theorem dX5_sheet_36 : decode cX5_sheet 36 = .ok (.invokevirtual 72, 3) := by decide +kernel
theorem dX5_sheet_39 : decode cX5_sheet 39 = .ok (.ireturn, 1) := by decide +kernel
theorem dX5_sheet_40 : decode cX5_sheet 40 = .ok (.aload_n 0, 1) := by decide +kernel
theorem dX5_sheet_41 : decode cX5_sheet 41 = .ok (.getfield 45, 3) := by decide +kernel
theorem dX5_sheet_44 : decode cX5_sheet 44 = .ok (.iload_n 1, 1) := by decide +kernel
theorem dX5_sheet_45 : decode cX5_sheet 45 = .ok (.aaload, 1) := by decide +kernel
theorem dX5_sheet_46 : decode cX5_sheet 46 = .ok (.iload_n 2, 1) := by decide +kernel
theorem dX5_sheet_47 : decode cX5_sheet 47 = .ok (.iload_n 3, 1) := by decide +kernel
theorem dX5_sheet_48 : decode cX5_sheet 48 = .ok (.invokevirtual 216, 3) := by decide +kernel
theorem dX5_sheet_51 : decode cX5_sheet 51 = .ok (.iconst 1, 1) := by decide +kernel
theorem dX5_sheet_52 : decode cX5_sheet 52 = .ok (.ireturn, 1) := by decide +kernel
set_option maxRecDepth 20000 in
theorem ggX5_lose_X5_isSheet : GoodIn wsX5_lose wsX5_isSheet := goodIn_r _ [6] (by decide +kernel) (by decide +kernel)
set_option maxRecDepth 20000 in
theorem gX5_lose_X5_isSheet : GoodIn wsX5_lose (va_wsS RX5 57 yX5_isSheet wsX5_isSheet) := goodIn_app (goodIn_of _ (by decide +kernel)) ggX5_lose_X5_isSheet
theorem dX5_lose_0 : decode cX5_lose 0 = .ok (.iload_n 1, 1) := by decide +kernel
theorem dX5_lose_1 : decode cX5_lose 1 = .ok (.invokestatic 57, 3) := by decide +kernel
theorem dX5_lose_4 : decode cX5_lose 4 = .ok (.ifCond .ne 5, 3) := by decide +kernel
theorem dX5_lose_7 : decode cX5_lose 7 = .ok (.iconst (-1), 1) := by decide +kernel
theorem dX5_lose_8 : decode cX5_lose 8 = .ok (.ireturn, 1) := by decide +kernel
theorem dX5_lose_9 : decode cX5_lose 9 = .ok (.aload_n 0, 1) := by decide +kernel
theorem dX5_lose_10 : decode cX5_lose 10 = .ok (.getfield 45, 3) := by decide +kernel
theorem dX5_lose_13 : decode cX5_lose 13 = .ok (.iload_n 1, 1) := by decide +kernel
theorem dX5_lose_14 : decode cX5_lose 14 = .ok (.aaload, 1) := by decide +kernel
theorem dX5_lose_15 : decode cX5_lose 15 = .ok (.getfield 220, 3) := by decide +kernel
theorem dX5_lose_18 : decode cX5_lose 18 = .ok (.ifCond .eq 7, 3) := by decide +kernel
theorem dX5_lose_21 : decode cX5_lose 21 = .ok (.iconst 1, 1) := by decide +kernel
theorem dX5_lose_22 : decode cX5_lose 22 = .ok (.goto 4, 3) := by decide +kernel
theorem dX5_lose_25 : decode cX5_lose 25 = .ok (.iconst 0, 1) := by decide +kernel
theorem dX5_lose_26 : decode cX5_lose 26 = .ok (.istore_n 2, 1) := by decide +kernel
theorem dX5_lose_27 : decode cX5_lose 27 = .ok (.aload_n 0, 1) := by decide +kernel
theorem dX5_lose_28 : decode cX5_lose 28 = .ok (.getfield 45, 3) := by decide +kernel
theorem dX5_lose_31 : decode cX5_lose 31 = .ok (.iload_n 1, 1) := by decide +kernel
theorem dX5_lose_32 : decode cX5_lose 32 = .ok (.aaload, 1) := by decide +kernel
theorem dX5_lose_33 : decode cX5_lose 33 = .ok (.iconst 0, 1) := by decide +kernel
theorem dX5_lose_34 : decode cX5_lose 34 = .ok (.putfield 220, 3) := by decide +kernel
theorem dX5_lose_37 : decode cX5_lose 37 = .ok (.iload_n 2, 1) := by decide +kernel
theorem dX5_lose_38 : decode cX5_lose 38 = .ok (.ireturn, 1) := by decide +kernel
set_option maxRecDepth 20000 in
theorem ggX5_put_X5_isSheet : GoodIn wsX5_put wsX5_isSheet := goodIn_r _ [8] (by decide +kernel) (by decide +kernel)
set_option maxRecDepth 20000 in
theorem gX5_put_X5_isSheet : GoodIn wsX5_put (va_wsS RX5 57 yX5_isSheet wsX5_isSheet) := goodIn_app (goodIn_of _ (by decide +kernel)) ggX5_put_X5_isSheet
set_option maxRecDepth 20000 in
theorem ggX5_put_X5_faulty : GoodIn wsX5_put wsX5_faulty := goodIn_r _ [12, 1, 24, 25, 26, 27, 28, 29, 30, 31, 32, 33] (by decide +kernel) (by decide +kernel)
set_option maxRecDepth 20000 in
theorem gX5_put_X5_faulty : GoodIn wsX5_put (wsV RX5 72 RX5 yX5_faulty wsX5_faulty) := goodIn_app (goodIn_of _ (by decide +kernel)) ggX5_put_X5_faulty
set_option maxRecDepth 20000 in
theorem ggX5_put_X2_lacks : GoodIn wsX5_put wsX2_lacks := goodIn_r _ [17, 18, 34, 35, 36, 37] (by decide +kernel) (by decide +kernel)
set_option maxRecDepth 20000 in
theorem gX5_put_X2_lacks : GoodIn wsX5_put (wsV RX5 68 RX2 yX2_lacks wsX2_lacks) := goodIn_app (goodIn_of _ (by decide +kernel)) ggX5_put_X2_lacks
set_option maxRecDepth 20000 in
theorem ggX5_put_X2_cut : GoodIn wsX5_put wsX2_cut := goodIn_r _ [22, 23, 34, 35, 36, 37] (by decide +kernel) (by decide +kernel)
set_option maxRecDepth 20000 in
theorem gX5_put_X2_cut : GoodIn wsX5_put (wsV RX5 227 RX2 yX2_cut wsX2_cut) := goodIn_app (goodIn_of _ (by decide +kernel)) ggX5_put_X2_cut
theorem dX5_put_0 : decode cX5_put 0 = .ok (.aload_n 0, 1) := by decide +kernel
theorem dX5_put_1 : decode cX5_put 1 = .ok (.iconst 0, 1) := by decide +kernel
theorem dX5_put_2 : decode cX5_put 2 = .ok (.putfield 53, 3) := by decide +kernel
theorem dX5_put_5 : decode cX5_put 5 = .ok (.iload_n 1, 1) := by decide +kernel
theorem dX5_put_6 : decode cX5_put 6 = .ok (.invokestatic 57, 3) := by decide +kernel
theorem dX5_put_9 : decode cX5_put 9 = .ok (.ifCond .ne 5, 3) := by decide +kernel
theorem dX5_put_12 : decode cX5_put 12 = .ok (.iconst (-1), 1) := by decide +kernel
theorem dX5_put_13 : decode cX5_put 13 = .ok (.ireturn, 1) := by decide +kernel
theorem dX5_put_14 : decode cX5_put 14 = .ok (.aload_n 0, 1) := by decide +kernel
theorem dX5_put_15 : decode cX5_put 15 = .ok (.getfield 45, 3) := by decide +kernel
theorem dX5_put_18 : decode cX5_put 18 = .ok (.iload_n 1, 1) := by decide +kernel
theorem dX5_put_19 : decode cX5_put 19 = .ok (.aaload, 1) := by decide +kernel
theorem dX5_put_20 : decode cX5_put 20 = .ok (.astore 4, 2) := by decide +kernel
theorem dX5_put_22 : decode cX5_put 22 = .ok (.aload 4, 2) := by decide +kernel
theorem dX5_put_24 : decode cX5_put 24 = .ok (.getfield 220, 3) := by decide +kernel
theorem dX5_put_27 : decode cX5_put 27 = .ok (.ifCond .ne 9, 3) := by decide +kernel
theorem dX5_put_30 : decode cX5_put 30 = .ok (.aload_n 0, 1) := by decide +kernel
theorem dX5_put_31 : decode cX5_put 31 = .ok (.iconst 1, 1) := by decide +kernel
theorem dX5_put_32 : decode cX5_put 32 = .ok (.invokevirtual 72, 3) := by decide +kernel
theorem dX5_put_35 : decode cX5_put 35 = .ok (.ireturn, 1) := by decide +kernel
theorem dX5_put_36 : decode cX5_put 36 = .ok (.aload 4, 2) := by decide +kernel
theorem dX5_put_38 : decode cX5_put 38 = .ok (.iload_n 2, 1) := by decide +kernel
theorem dX5_put_39 : decode cX5_put 39 = .ok (.iconst 1, 1) := by decide +kernel
theorem dX5_put_40 : decode cX5_put 40 = .ok (.invokevirtual 68, 3) := by decide +kernel
theorem dX5_put_43 : decode cX5_put 43 = .ok (.ifCond .eq 9, 3) := by decide +kernel
theorem dX5_put_46 : decode cX5_put 46 = .ok (.aload_n 0, 1) := by decide +kernel
theorem dX5_put_47 : decode cX5_put 47 = .ok (.iconst 3, 1) := by decide +kernel
theorem dX5_put_48 : decode cX5_put 48 = .ok (.invokevirtual 72, 3) := by decide +kernel
theorem dX5_put_51 : decode cX5_put 51 = .ok (.ireturn, 1) := by decide +kernel
theorem dX5_put_52 : decode cX5_put 52 = .ok (.aload 4, 2) := by decide +kernel
theorem dX5_put_54 : decode cX5_put 54 = .ok (.getfield 224, 3) := by decide +kernel
theorem dX5_put_57 : decode cX5_put 57 = .ok (.iload_n 2, 1) := by decide +kernel
theorem dX5_put_58 : decode cX5_put 58 = .ok (.aload 4, 2) := by decide +kernel
theorem dX5_put_60 : decode cX5_put 60 = .ok (.iload_n 3, 1) := by decide +kernel
theorem dX5_put_61 : decode cX5_put 61 = .ok (.invokevirtual 227, 3) := by decide +kernel
theorem dX5_put_64 : decode cX5_put 64 = .ok (.iastore, 1) := by decide +kernel
theorem dX5_put_65 : decode cX5_put 65 = .ok (.iconst 1, 1) := by decide +kernel
theorem dX5_put_66 : decode cX5_put 66 = .ok (.ireturn, 1) := by decide +kernel
set_option maxRecDepth 20000 in
theorem ggX5_cell_X5_isSheet : GoodIn wsX5_cell wsX5_isSheet := goodIn_r _ [8] (by decide +kernel) (by decide +kernel)
set_option maxRecDepth 20000 in
theorem gX5_cell_X5_isSheet : GoodIn wsX5_cell (va_wsS RX5 57 yX5_isSheet wsX5_isSheet) := goodIn_app (goodIn_of _ (by decide +kernel)) ggX5_cell_X5_isSheet
set_option maxRecDepth 20000 in
theorem ggX5_cell_X5_isLane : GoodIn wsX5_cell wsX5_isLane := goodIn_r _ [11] (by decide +kernel) (by decide +kernel)
set_option maxRecDepth 20000 in
theorem gX5_cell_X5_isLane : GoodIn wsX5_cell (va_wsS RX5 61 yX5_isLane wsX5_isLane) := goodIn_app (goodIn_of _ (by decide +kernel)) ggX5_cell_X5_isLane
set_option maxRecDepth 20000 in
theorem ggX5_cell_X2_faultAs : GoodIn wsX5_cell wsX2_faultAs := goodIn_r _ [16, 17, 18, 34, 35, 36, 37] (by decide +kernel) (by decide +kernel)
set_option maxRecDepth 20000 in
theorem gX5_cell_X2_faultAs : GoodIn wsX5_cell (wsV RX5 64 RX2 yX2_faultAs wsX2_faultAs) := goodIn_app (goodIn_of _ (by decide +kernel)) ggX5_cell_X2_faultAs
set_option maxRecDepth 20000 in
theorem ggX5_cell_X2_lacks : GoodIn wsX5_cell wsX2_lacks := goodIn_r _ [22, 23, 34, 35, 36, 37] (by decide +kernel) (by decide +kernel)
set_option maxRecDepth 20000 in
theorem gX5_cell_X2_lacks : GoodIn wsX5_cell (wsV RX5 68 RX2 yX2_lacks wsX2_lacks) := goodIn_app (goodIn_of _ (by decide +kernel)) ggX5_cell_X2_lacks
theorem dX5_cell_0 : decode cX5_cell 0 = .ok (.aload_n 0, 1) := by decide +kernel
theorem dX5_cell_1 : decode cX5_cell 1 = .ok (.iconst 0, 1) := by decide +kernel
theorem dX5_cell_2 : decode cX5_cell 2 = .ok (.putfield 53, 3) := by decide +kernel
theorem dX5_cell_5 : decode cX5_cell 5 = .ok (.iload_n 1, 1) := by decide +kernel
theorem dX5_cell_6 : decode cX5_cell 6 = .ok (.invokestatic 57, 3) := by decide +kernel
theorem dX5_cell_9 : decode cX5_cell 9 = .ok (.ifCond .eq 10, 3) := by decide +kernel
theorem dX5_cell_12 : decode cX5_cell 12 = .ok (.iload_n 3, 1) := by decide +kernel
theorem dX5_cell_13 : decode cX5_cell 13 = .ok (.invokestatic 61, 3) := by decide +kernel
theorem dX5_cell_16 : decode cX5_cell 16 = .ok (.ifCond .ne 7, 3) := by decide +kernel
theorem dX5_cell_19 : decode cX5_cell 19 = .ok (.ldc2_w 140, 3) := by decide +kernel
theorem dX5_cell_22 : decode cX5_cell 22 = .ok (.lreturn, 1) := by decide +kernel
theorem dX5_cell_23 : decode cX5_cell 23 = .ok (.aload_n 0, 1) := by decide +kernel
theorem dX5_cell_24 : decode cX5_cell 24 = .ok (.getfield 45, 3) := by decide +kernel
theorem dX5_cell_27 : decode cX5_cell 27 = .ok (.iload_n 1, 1) := by decide +kernel
theorem dX5_cell_28 : decode cX5_cell 28 = .ok (.aaload, 1) := by decide +kernel
theorem dX5_cell_29 : decode cX5_cell 29 = .ok (.astore 4, 2) := by decide +kernel
theorem dX5_cell_31 : decode cX5_cell 31 = .ok (.aload_n 0, 1) := by decide +kernel
theorem dX5_cell_32 : decode cX5_cell 32 = .ok (.aload 4, 2) := by decide +kernel
theorem dX5_cell_34 : decode cX5_cell 34 = .ok (.iload_n 3, 1) := by decide +kernel
theorem dX5_cell_35 : decode cX5_cell 35 = .ok (.invokevirtual 64, 3) := by decide +kernel
theorem dX5_cell_38 : decode cX5_cell 38 = .ok (.putfield 53, 3) := by decide +kernel
theorem dX5_cell_41 : decode cX5_cell 41 = .ok (.aload_n 0, 1) := by decide +kernel
theorem dX5_cell_42 : decode cX5_cell 42 = .ok (.getfield 53, 3) := by decide +kernel
theorem dX5_cell_45 : decode cX5_cell 45 = .ok (.ifCond .ne 18, 3) := by decide +kernel
theorem dX5_cell_48 : decode cX5_cell 48 = .ok (.aload 4, 2) := by decide +kernel
theorem dX5_cell_50 : decode cX5_cell 50 = .ok (.iload_n 2, 1) := by decide +kernel
theorem dX5_cell_51 : decode cX5_cell 51 = .ok (.iconst 1, 1) := by decide +kernel
theorem dX5_cell_52 : decode cX5_cell 52 = .ok (.invokevirtual 68, 3) := by decide +kernel
theorem dX5_cell_55 : decode cX5_cell 55 = .ok (.ifCond .eq 8, 3) := by decide +kernel
theorem dX5_cell_58 : decode cX5_cell 58 = .ok (.aload_n 0, 1) := by decide +kernel
theorem dX5_cell_59 : decode cX5_cell 59 = .ok (.iconst 3, 1) := by decide +kernel
theorem dX5_cell_60 : decode cX5_cell 60 = .ok (.putfield 53, 3) := by decide +kernel
theorem dX5_cell_63 : decode cX5_cell 63 = .ok (.aload_n 0, 1) := by decide +kernel
theorem dX5_cell_64 : decode cX5_cell 64 = .ok (.getfield 53, 3) := by decide +kernel
theorem dX5_cell_67 : decode cX5_cell 67 = .ok (.ifCond .ne 14, 3) := by decide +kernel
theorem dX5_cell_70 : decode cX5_cell 70 = .ok (.aload 4, 2) := by decide +kernel
theorem dX5_cell_72 : decode cX5_cell 72 = .ok (.getfield 224, 3) := by decide +kernel
theorem dX5_cell_75 : decode cX5_cell 75 = .ok (.iload_n 2, 1) := by decide +kernel
theorem dX5_cell_76 : decode cX5_cell 76 = .ok (.iaload, 1) := by decide +kernel
theorem dX5_cell_77 : decode cX5_cell 77 = .ok (.i2l, 1) := by decide +kernel
theorem dX5_cell_78 : decode cX5_cell 78 = .ok (.goto 6, 3) := by decide +kernel
theorem dX5_cell_81 : decode cX5_cell 81 = .ok (.ldc2_w 140, 3) := by decide +kernel
theorem dX5_cell_84 : decode cX5_cell 84 = .ok (.lreturn, 1) := by decide +kernel
set_option maxRecDepth 20000 in
theorem ggX5_copy_X5_isSheet : GoodIn wsX5_copy wsX5_isSheet := goodIn_r _ [13] (by decide +kernel) (by decide +kernel)
set_option maxRecDepth 20000 in
theorem gX5_copy_X5_isSheet : GoodIn wsX5_copy (va_wsS RX5 57 yX5_isSheet wsX5_isSheet) := goodIn_app (goodIn_of _ (by decide +kernel)) ggX5_copy_X5_isSheet
set_option maxRecDepth 20000 in
theorem ggX5_copy_X5_faulty : GoodIn wsX5_copy wsX5_faulty := goodIn_r _ [17, 1, 24, 25, 26, 27, 28, 29, 30, 31, 32, 33] (by decide +kernel) (by decide +kernel)
set_option maxRecDepth 20000 in
theorem gX5_copy_X5_faulty : GoodIn wsX5_copy (wsV RX5 72 RX5 yX5_faulty wsX5_faulty) := goodIn_app (goodIn_of _ (by decide +kernel)) ggX5_copy_X5_faulty
set_option maxRecDepth 20000 in
theorem ggX5_copy_X2_lacks : GoodIn wsX5_copy wsX2_lacks := goodIn_r _ [22, 23, 34, 35, 36, 37] (by decide +kernel) (by decide +kernel)
set_option maxRecDepth 20000 in
theorem gX5_copy_X2_lacks : GoodIn wsX5_copy (wsV RX5 68 RX2 yX2_lacks wsX2_lacks) := goodIn_app (goodIn_of _ (by decide +kernel)) ggX5_copy_X2_lacks
theorem dX5_copy_0 : decode cX5_copy 0 = .ok (.aload_n 0, 1) := by decide +kernel
theorem dX5_copy_1 : decode cX5_copy 1 = .ok (.iconst 0, 1) := by decide +kernel
theorem dX5_copy_2 : decode cX5_copy 2 = .ok (.putfield 53, 3) := by decide +kernel
theorem dX5_copy_5 : decode cX5_copy 5 = .ok (.iload_n 1, 1) := by decide +kernel
theorem dX5_copy_6 : decode cX5_copy 6 = .ok (.invokestatic 57, 3) := by decide +kernel
theorem dX5_copy_9 : decode cX5_copy 9 = .ok (.ifCond .eq 10, 3) := by decide +kernel
theorem dX5_copy_12 : decode cX5_copy 12 = .ok (.iload_n 3, 1) := by decide +kernel
theorem dX5_copy_13 : decode cX5_copy 13 = .ok (.invokestatic 57, 3) := by decide +kernel
theorem dX5_copy_16 : decode cX5_copy 16 = .ok (.ifCond .ne 5, 3) := by decide +kernel
theorem dX5_copy_19 : decode cX5_copy 19 = .ok (.iconst (-1), 1) := by decide +kernel
theorem dX5_copy_20 : decode cX5_copy 20 = .ok (.ireturn, 1) := by decide +kernel
theorem dX5_copy_21 : decode cX5_copy 21 = .ok (.aload_n 0, 1) := by decide +kernel
theorem dX5_copy_22 : decode cX5_copy 22 = .ok (.getfield 45, 3) := by decide +kernel
theorem dX5_copy_25 : decode cX5_copy 25 = .ok (.iload_n 1, 1) := by decide +kernel
theorem dX5_copy_26 : decode cX5_copy 26 = .ok (.aaload, 1) := by decide +kernel
theorem dX5_copy_27 : decode cX5_copy 27 = .ok (.astore 6, 2) := by decide +kernel
theorem dX5_copy_29 : decode cX5_copy 29 = .ok (.aload_n 0, 1) := by decide +kernel
theorem dX5_copy_30 : decode cX5_copy 30 = .ok (.getfield 45, 3) := by decide +kernel
theorem dX5_copy_33 : decode cX5_copy 33 = .ok (.iload_n 3, 1) := by decide +kernel
theorem dX5_copy_34 : decode cX5_copy 34 = .ok (.aaload, 1) := by decide +kernel
theorem dX5_copy_35 : decode cX5_copy 35 = .ok (.astore 7, 2) := by decide +kernel
theorem dX5_copy_37 : decode cX5_copy 37 = .ok (.aload 6, 2) := by decide +kernel
theorem dX5_copy_39 : decode cX5_copy 39 = .ok (.getfield 220, 3) := by decide +kernel
theorem dX5_copy_42 : decode cX5_copy 42 = .ok (.ifCond .eq 11, 3) := by decide +kernel
theorem dX5_copy_45 : decode cX5_copy 45 = .ok (.aload 7, 2) := by decide +kernel
theorem dX5_copy_47 : decode cX5_copy 47 = .ok (.getfield 220, 3) := by decide +kernel
theorem dX5_copy_50 : decode cX5_copy 50 = .ok (.ifCond .ne 9, 3) := by decide +kernel
theorem dX5_copy_53 : decode cX5_copy 53 = .ok (.aload_n 0, 1) := by decide +kernel
theorem dX5_copy_54 : decode cX5_copy 54 = .ok (.iconst 1, 1) := by decide +kernel
theorem dX5_copy_55 : decode cX5_copy 55 = .ok (.invokevirtual 72, 3) := by decide +kernel
theorem dX5_copy_58 : decode cX5_copy 58 = .ok (.ireturn, 1) := by decide +kernel
theorem dX5_copy_59 : decode cX5_copy 59 = .ok (.aload 6, 2) := by decide +kernel
theorem dX5_copy_61 : decode cX5_copy 61 = .ok (.getfield 230, 3) := by decide +kernel
theorem dX5_copy_64 : decode cX5_copy 64 = .ok (.aload 7, 2) := by decide +kernel
theorem dX5_copy_66 : decode cX5_copy 66 = .ok (.getfield 230, 3) := by decide +kernel
theorem dX5_copy_69 : decode cX5_copy 69 = .ok (.if_icmp .eq 9, 3) := by decide +kernel
theorem dX5_copy_72 : decode cX5_copy 72 = .ok (.aload_n 0, 1) := by decide +kernel
theorem dX5_copy_73 : decode cX5_copy 73 = .ok (.iconst 2, 1) := by decide +kernel
theorem dX5_copy_74 : decode cX5_copy 74 = .ok (.invokevirtual 72, 3) := by decide +kernel
theorem dX5_copy_77 : decode cX5_copy 77 = .ok (.ireturn, 1) := by decide +kernel
theorem dX5_copy_78 : decode cX5_copy 78 = .ok (.aload 6, 2) := by decide +kernel
theorem dX5_copy_80 : decode cX5_copy 80 = .ok (.iload_n 2, 1) := by decide +kernel
theorem dX5_copy_81 : decode cX5_copy 81 = .ok (.iload 5, 2) := by decide +kernel
theorem dX5_copy_83 : decode cX5_copy 83 = .ok (.invokevirtual 68, 3) := by decide +kernel
theorem dX5_copy_86 : decode cX5_copy 86 = .ok (.ifCond .ne 15, 3) := by decide +kernel
theorem dX5_copy_89 : decode cX5_copy 89 = .ok (.aload 7, 2) := by decide +kernel
theorem dX5_copy_91 : decode cX5_copy 91 = .ok (.iload 4, 2) := by decide +kernel
theorem dX5_copy_93 : decode cX5_copy 93 = .ok (.iload 5, 2) := by decide +kernel
theorem dX5_copy_95 : decode cX5_copy 95 = .ok (.invokevirtual 68, 3) := by decide +kernel
theorem dX5_copy_98 : decode cX5_copy 98 = .ok (.ifCond .eq 9, 3) := by decide +kernel
theorem dX5_copy_101 : decode cX5_copy 101 = .ok (.aload_n 0, 1) := by decide +kernel
theorem dX5_copy_102 : decode cX5_copy 102 = .ok (.iconst 3, 1) := by decide +kernel
theorem dX5_copy_103 : decode cX5_copy 103 = .ok (.invokevirtual 72, 3) := by decide +kernel
theorem dX5_copy_106 : decode cX5_copy 106 = .ok (.ireturn, 1) := by decide +kernel
theorem dX5_copy_107 : decode cX5_copy 107 = .ok (.aload 6, 2) := by decide +kernel
theorem dX5_copy_109 : decode cX5_copy 109 = .ok (.getfield 224, 3) := by decide +kernel
theorem dX5_copy_112 : decode cX5_copy 112 = .ok (.iload_n 2, 1) := by decide +kernel
theorem dX5_copy_113 : decode cX5_copy 113 = .ok (.aload 7, 2) := by decide +kernel
theorem dX5_copy_115 : decode cX5_copy 115 = .ok (.getfield 224, 3) := by decide +kernel
theorem dX5_copy_118 : decode cX5_copy 118 = .ok (.iload 4, 2) := by decide +kernel
theorem dX5_copy_120 : decode cX5_copy 120 = .ok (.iload 5, 2) := by decide +kernel
theorem dX5_copy_122 : decode cX5_copy 122 = .ok (.invokestatic 233, 3) := by decide +kernel
theorem dX5_copy_125 : decode cX5_copy 125 = .ok (.iload 5, 2) := by decide +kernel
theorem dX5_copy_127 : decode cX5_copy 127 = .ok (.ireturn, 1) := by decide +kernel
set_option maxRecDepth 20000 in
theorem ggX5_tell_X3_hasHouse : GoodIn wsX5_tell wsX3_hasHouse := goodIn_r _ [7, 8, 38, 39, 40, 41, 42, 43, 44, 45, 46, 47] (by decide +kernel) (by decide +kernel)
set_option maxRecDepth 20000 in
theorem gX5_tell_X3_hasHouse : GoodIn wsX5_tell (wsV RX5 92 RX3 yX3_hasHouse wsX3_hasHouse) := goodIn_app (goodIn_of _ (by decide +kernel)) ggX5_tell_X3_hasHouse
set_option maxRecDepth 20000 in
theorem ggX5_tell_X5_nervousTells : GoodIn wsX5_tell wsX5_nervousTells := goodIn_r _ [13, 14, 15, 16, 12, 17, 18, 19, 20, 21, 22, 1, 23, 28, 29, 30, 31, 32, 33, 34, 35, 36, 37, 38, 39, 40, 41, 42, 43, 44, 45, 46, 47] (by decide +kernel) (by decide +kernel)
set_option maxRecDepth 20000 in
theorem gX5_tell_X5_nervousTells : GoodIn wsX5_tell (wsV RX5 239 RX5 yX5_nervousTells wsX5_nervousTells) := goodIn_app (goodIn_of _ (by decide +kernel)) ggX5_tell_X5_nervousTells
set_option maxRecDepth 20000 in
theorem ggX5_tell_X5_babyTells : GoodIn wsX5_tell wsX5_babyTells := goodIn_r _ [27, 14, 15, 16, 12, 17, 18, 9, 10, 11, 13, 19, 20, 21, 22, 1, 23, 28, 29, 30, 31, 32, 33, 34, 35, 36, 37, 38, 39, 40, 41, 42, 43, 44, 45, 46, 47] (by decide +kernel) (by decide +kernel)
set_option maxRecDepth 20000 in
theorem gX5_tell_X5_babyTells : GoodIn wsX5_tell (wsV RX5 242 RX5 yX5_babyTells wsX5_babyTells) := goodIn_app (goodIn_of _ (by decide +kernel)) ggX5_tell_X5_babyTells
set_option maxRecDepth 20000 in
theorem ggX5_tell_X5_sleeperTells : GoodIn wsX5_tell wsX5_sleeperTells := goodIn_r _ [22, 1, 23, 14, 15, 16, 12, 17, 18, 28, 29, 30, 31, 32, 33, 34, 35, 36, 37, 38, 39, 40, 41, 42, 43, 44, 45, 46, 47] (by decide +kernel) (by decide +kernel)
set_option maxRecDepth 20000 in
theorem gX5_tell_X5_sleeperTells : GoodIn wsX5_tell (wsV RX5 245 RX5 yX5_sleeperTells wsX5_sleeperTells) := goodIn_app (goodIn_of _ (by decide +kernel)) ggX5_tell_X5_sleeperTells
theorem dX5_tell_0 : decode cX5_tell 0 = .ok (.aload_n 0, 1) := by decide +kernel
theorem dX5_tell_1 : decode cX5_tell 1 = .ok (.getfield 12, 3) := by decide +kernel
theorem dX5_tell_4 : decode cX5_tell 4 = .ok (.iload_n 1, 1) := by decide +kernel
theorem dX5_tell_5 : decode cX5_tell 5 = .ok (.invokevirtual 92, 3) := by decide +kernel
theorem dX5_tell_8 : decode cX5_tell 8 = .ok (.ifCond .ne 5, 3) := by decide +kernel
theorem dX5_tell_11 : decode cX5_tell 11 = .ok (.iconst (-1), 1) := by decide +kernel
theorem dX5_tell_12 : decode cX5_tell 12 = .ok (.ireturn, 1) := by decide +kernel
theorem dX5_tell_13 : decode cX5_tell 13 = .ok (.aload_n 0, 1) := by decide +kernel
theorem dX5_tell_14 : decode cX5_tell 14 = .ok (.getfield 12, 3) := by decide +kernel
theorem dX5_tell_17 : decode cX5_tell 17 = .ok (.getfield 95, 3) := by decide +kernel
theorem dX5_tell_20 : decode cX5_tell 20 = .ok (.iload_n 1, 1) := by decide +kernel
theorem dX5_tell_21 : decode cX5_tell 21 = .ok (.iaload, 1) := by decide +kernel
theorem dX5_tell_22 : decode cX5_tell 22 = .ok (.lookupswitch 38 #[(1, 26), (2, 32)], 26) := by decide +kernel
theorem dX5_tell_48 : decode cX5_tell 48 = .ok (.aload_n 0, 1) := by decide +kernel
theorem dX5_tell_49 : decode cX5_tell 49 = .ok (.iload_n 1, 1) := by decide +kernel
theorem dX5_tell_50 : decode cX5_tell 50 = .ok (.invokevirtual 239, 3) := by decide +kernel
theorem dX5_tell_53 : decode cX5_tell 53 = .ok (.ireturn, 1) := by decide +kernel
theorem dX5_tell_54 : decode cX5_tell 54 = .ok (.aload_n 0, 1) := by decide +kernel
theorem dX5_tell_55 : decode cX5_tell 55 = .ok (.iload_n 1, 1) := by decide +kernel
theorem dX5_tell_56 : decode cX5_tell 56 = .ok (.invokevirtual 242, 3) := by decide +kernel
theorem dX5_tell_59 : decode cX5_tell 59 = .ok (.ireturn, 1) := by decide +kernel
theorem dX5_tell_60 : decode cX5_tell 60 = .ok (.aload_n 0, 1) := by decide +kernel
theorem dX5_tell_61 : decode cX5_tell 61 = .ok (.iload_n 1, 1) := by decide +kernel
theorem dX5_tell_62 : decode cX5_tell 62 = .ok (.invokevirtual 245, 3) := by decide +kernel
theorem dX5_tell_65 : decode cX5_tell 65 = .ok (.ireturn, 1) := by decide +kernel
set_option maxRecDepth 20000 in
theorem ggX5_call_X3_hasHouse : GoodIn wsX5_call wsX3_hasHouse := goodIn_r _ [7, 8, 33, 34, 35, 36, 37, 38, 39, 40, 41, 42] (by decide +kernel) (by decide +kernel)
set_option maxRecDepth 20000 in
theorem gX5_call_X3_hasHouse : GoodIn wsX5_call (wsV RX5 92 RX3 yX3_hasHouse wsX3_hasHouse) := goodIn_app (goodIn_of _ (by decide +kernel)) ggX5_call_X3_hasHouse
set_option maxRecDepth 20000 in
theorem ggX5_call_X5_babyIsCalled : GoodIn wsX5_call wsX5_babyIsCalled := goodIn_r _ [13, 14, 15, 16, 12, 17, 18, 23, 24, 25, 26, 27, 28, 29, 30, 31, 32] (by decide +kernel) (by decide +kernel)
set_option maxRecDepth 20000 in
theorem gX5_call_X5_babyIsCalled : GoodIn wsX5_call (wsV RX5 248 RX5 yX5_babyIsCalled wsX5_babyIsCalled) := goodIn_app (goodIn_of _ (by decide +kernel)) ggX5_call_X5_babyIsCalled
set_option maxRecDepth 20000 in
theorem ggX5_call_X5_sleeperIsCalled : GoodIn wsX5_call wsX5_sleeperIsCalled := goodIn_r _ [22, 14, 15, 16, 12, 17, 18, 23, 24, 25, 26, 27, 28, 29, 30, 31, 32] (by decide +kernel) (by decide +kernel)
set_option maxRecDepth 20000 in
theorem gX5_call_X5_sleeperIsCalled : GoodIn wsX5_call (wsV RX5 251 RX5 yX5_sleeperIsCalled wsX5_sleeperIsCalled) := goodIn_app (goodIn_of _ (by decide +kernel)) ggX5_call_X5_sleeperIsCalled
theorem dX5_call_0 : decode cX5_call 0 = .ok (.aload_n 0, 1) := by decide +kernel
theorem dX5_call_1 : decode cX5_call 1 = .ok (.getfield 12, 3) := by decide +kernel
theorem dX5_call_4 : decode cX5_call 4 = .ok (.iload_n 1, 1) := by decide +kernel
theorem dX5_call_5 : decode cX5_call 5 = .ok (.invokevirtual 92, 3) := by decide +kernel
theorem dX5_call_8 : decode cX5_call 8 = .ok (.ifCond .ne 5, 3) := by decide +kernel
theorem dX5_call_11 : decode cX5_call 11 = .ok (.iconst (-1), 1) := by decide +kernel
theorem dX5_call_12 : decode cX5_call 12 = .ok (.ireturn, 1) := by decide +kernel
theorem dX5_call_13 : decode cX5_call 13 = .ok (.aload_n 0, 1) := by decide +kernel
theorem dX5_call_14 : decode cX5_call 14 = .ok (.getfield 12, 3) := by decide +kernel
theorem dX5_call_17 : decode cX5_call 17 = .ok (.getfield 95, 3) := by decide +kernel
theorem dX5_call_20 : decode cX5_call 20 = .ok (.iload_n 1, 1) := by decide +kernel
theorem dX5_call_21 : decode cX5_call 21 = .ok (.iaload, 1) := by decide +kernel
theorem dX5_call_22 : decode cX5_call 22 = .ok (.iconst 2, 1) := by decide +kernel
theorem dX5_call_23 : decode cX5_call 23 = .ok (.if_icmp .ne 10, 3) := by decide +kernel
theorem dX5_call_26 : decode cX5_call 26 = .ok (.aload_n 0, 1) := by decide +kernel
theorem dX5_call_27 : decode cX5_call 27 = .ok (.invokevirtual 248, 3) := by decide +kernel
theorem dX5_call_30 : decode cX5_call 30 = .ok (.goto 8, 3) := by decide +kernel
theorem dX5_call_33 : decode cX5_call 33 = .ok (.aload_n 0, 1) := by decide +kernel
theorem dX5_call_34 : decode cX5_call 34 = .ok (.iload_n 1, 1) := by decide +kernel
theorem dX5_call_35 : decode cX5_call 35 = .ok (.invokevirtual 251, 3) := by decide +kernel
theorem dX5_call_38 : decode cX5_call 38 = .ok (.ireturn, 1) := by decide +kernel
set_option maxRecDepth 20000 in
theorem ggX5_as_X3_hasHouse : GoodIn wsX5_as wsX3_hasHouse := goodIn_r _ [8, 9, 25, 26, 27, 28, 29, 30, 31, 32, 33, 34] (by decide +kernel) (by decide +kernel)
set_option maxRecDepth 20000 in
theorem gX5_as_X3_hasHouse : GoodIn wsX5_as (wsV RX5 92 RX3 yX3_hasHouse wsX3_hasHouse) := goodIn_app (goodIn_of _ (by decide +kernel)) ggX5_as_X3_hasHouse
set_option maxRecDepth 20000 in
theorem ggX5_as_X5_faulty : GoodIn wsX5_as wsX5_faulty := goodIn_r _ [14, 1, 15, 16, 17, 18, 19, 20, 21, 22, 23, 24] (by decide +kernel) (by decide +kernel)
set_option maxRecDepth 20000 in
theorem gX5_as_X5_faulty : GoodIn wsX5_as (wsV RX5 72 RX5 yX5_faulty wsX5_faulty) := goodIn_app (goodIn_of _ (by decide +kernel)) ggX5_as_X5_faulty
theorem dX5_as_0 : decode cX5_as 0 = .ok (.aload_n 0, 1) := by decide +kernel
theorem dX5_as_1 : decode cX5_as 1 = .ok (.iconst 0, 1) := by decide +kernel
theorem dX5_as_2 : decode cX5_as 2 = .ok (.putfield 53, 3) := by decide +kernel
theorem dX5_as_5 : decode cX5_as 5 = .ok (.aload_n 0, 1) := by decide +kernel
theorem dX5_as_6 : decode cX5_as 6 = .ok (.getfield 12, 3) := by decide +kernel
theorem dX5_as_9 : decode cX5_as 9 = .ok (.iload_n 1, 1) := by decide +kernel
theorem dX5_as_10 : decode cX5_as 10 = .ok (.invokevirtual 92, 3) := by decide +kernel
theorem dX5_as_13 : decode cX5_as 13 = .ok (.ifCond .ne 5, 3) := by decide +kernel
theorem dX5_as_16 : decode cX5_as 16 = .ok (.iconst (-1), 1) := by decide +kernel
theorem dX5_as_17 : decode cX5_as 17 = .ok (.ireturn, 1) := by decide +kernel
theorem dX5_as_18 : decode cX5_as 18 = .ok (.iload_n 2, 1) := by decide +kernel
theorem dX5_as_19 : decode cX5_as 19 = .ok (.ifCond .lt 8, 3) := by decide +kernel
theorem dX5_as_22 : decode cX5_as 22 = .ok (.iload_n 2, 1) := by decide +kernel
theorem dX5_as_23 : decode cX5_as 23 = .ok (.iconst 2, 1) := by decide +kernel
theorem dX5_as_24 : decode cX5_as 24 = .ok (.if_icmp .le 6, 3) := by decide +kernel
theorem dX5_as_27 : decode cX5_as 27 = .ok (.bipush (-2), 2) := by decide +kernel
theorem dX5_as_29 : decode cX5_as 29 = .ok (.ireturn, 1) := by decide +kernel
theorem dX5_as_30 : decode cX5_as 30 = .ok (.aload_n 0, 1) := by decide +kernel
theorem dX5_as_31 : decode cX5_as 31 = .ok (.getfield 12, 3) := by decide +kernel
theorem dX5_as_34 : decode cX5_as 34 = .ok (.getfield 95, 3) := by decide +kernel
theorem dX5_as_37 : decode cX5_as 37 = .ok (.iload_n 1, 1) := by decide +kernel
theorem dX5_as_38 : decode cX5_as 38 = .ok (.iaload, 1) := by decide +kernel
theorem dX5_as_39 : decode cX5_as 39 = .ok (.iload_n 2, 1) := by decide +kernel
theorem dX5_as_40 : decode cX5_as 40 = .ok (.if_icmp .ge 11, 3) := by decide +kernel
theorem dX5_as_43 : decode cX5_as 43 = .ok (.aload_n 0, 1) := by decide +kernel
theorem dX5_as_44 : decode cX5_as 44 = .ok (.iconst 2, 1) := by decide +kernel
theorem dX5_as_45 : decode cX5_as 45 = .ok (.invokevirtual 72, 3) := by decide +kernel
theorem dX5_as_48 : decode cX5_as 48 = .ok (.goto 4, 3) := by decide +kernel
theorem dX5_as_51 : decode cX5_as 51 = .ok (.iconst 1, 1) := by decide +kernel
theorem dX5_as_52 : decode cX5_as 52 = .ok (.ireturn, 1) := by decide +kernel
theorem dX5_trace_0 : decode cX5_trace 0 = .ok (.aload_n 0, 1) := by decide +kernel
theorem dX5_trace_1 : decode cX5_trace 1 = .ok (.getfield 254, 3) := by decide +kernel
theorem dX5_trace_4 : decode cX5_trace 4 = .ok (.ireturn, 1) := by decide +kernel
theorem dX5_fault_0 : decode cX5_fault 0 = .ok (.aload_n 0, 1) := by decide +kernel
theorem dX5_fault_1 : decode cX5_fault 1 = .ok (.getfield 53, 3) := by decide +kernel
theorem dX5_fault_4 : decode cX5_fault 4 = .ok (.ireturn, 1) := by decide +kernel
theorem dX5_many_0 : decode cX5_many 0 = .ok (.iload_n 1, 1) := by decide +kernel
theorem dX5_many_1 : decode cX5_many 1 = .ok (.tableswitch 72 0 4 #[35, 43, 51, 59, 64], 35) := by decide +kernel
theorem dX5_many_36 : decode cX5_many 36 = .ok (.aload_n 0, 1) := by decide +kernel
theorem dX5_many_37 : decode cX5_many 37 = .ok (.getfield 12, 3) := by decide +kernel
theorem dX5_many_40 : decode cX5_many 40 = .ok (.getfield 184, 3) := by decide +kernel
theorem dX5_many_43 : decode cX5_many 43 = .ok (.ireturn, 1) := by decide +kernel
theorem dX5_many_44 : decode cX5_many 44 = .ok (.aload_n 0, 1) := by decide +kernel
theorem dX5_many_45 : decode cX5_many 45 = .ok (.getfield 12, 3) := by decide +kernel
theorem dX5_many_48 : decode cX5_many 48 = .ok (.getfield 89, 3) := by decide +kernel
theorem dX5_many_51 : decode cX5_many 51 = .ok (.ireturn, 1) := by decide +kernel
theorem dX5_many_52 : decode cX5_many 52 = .ok (.aload_n 0, 1) := by decide +kernel
theorem dX5_many_53 : decode cX5_many 53 = .ok (.getfield 12, 3) := by decide +kernel
theorem dX5_many_56 : decode cX5_many 56 = .ok (.getfield 137, 3) := by decide +kernel
theorem dX5_many_59 : decode cX5_many 59 = .ok (.ireturn, 1) := by decide +kernel
theorem dX5_many_60 : decode cX5_many 60 = .ok (.aload_n 0, 1) := by decide +kernel
theorem dX5_many_61 : decode cX5_many 61 = .ok (.getfield 83, 3) := by decide +kernel
theorem dX5_many_64 : decode cX5_many 64 = .ok (.ireturn, 1) := by decide +kernel
theorem dX5_many_65 : decode cX5_many 65 = .ok (.aload_n 0, 1) := by decide +kernel
theorem dX5_many_66 : decode cX5_many 66 = .ok (.getfield 31, 3) := by decide +kernel
theorem dX5_many_69 : decode cX5_many 69 = .ok (.getfield 86, 3) := by decide +kernel
theorem dX5_many_72 : decode cX5_many 72 = .ok (.ireturn, 1) := by decide +kernel
theorem dX5_many_73 : decode cX5_many 73 = .ok (.bipush (-2), 2) := by decide +kernel
theorem dX5_many_75 : decode cX5_many 75 = .ok (.ireturn, 1) := by decide +kernel
theorem dX5_isSheet_0 : decode cX5_isSheet 0 = .ok (.iload_n 0, 1) := by decide +kernel
theorem dX5_isSheet_1 : decode cX5_isSheet 1 = .ok (.ifCond .lt 12, 3) := by decide +kernel
theorem dX5_isSheet_4 : decode cX5_isSheet 4 = .ok (.iload_n 0, 1) := by decide +kernel
theorem dX5_isSheet_5 : decode cX5_isSheet 5 = .ok (.iconst 4, 1) := by decide +kernel
theorem dX5_isSheet_6 : decode cX5_isSheet 6 = .ok (.if_icmp .ge 7, 3) := by decide +kernel
theorem dX5_isSheet_9 : decode cX5_isSheet 9 = .ok (.iconst 1, 1) := by decide +kernel
theorem dX5_isSheet_10 : decode cX5_isSheet 10 = .ok (.goto 4, 3) := by decide +kernel
theorem dX5_isSheet_13 : decode cX5_isSheet 13 = .ok (.iconst 0, 1) := by decide +kernel
end
section
theorem dX5_isSheet_14 : decode cX5_isSheet 14 = .ok (.ireturn, 1) := by decide +kernel
theorem dX5_isLane_0 : decode cX5_isLane 0 = .ok (.iload_n 0, 1) := by decide +kernel
theorem dX5_isLane_1 : decode cX5_isLane 1 = .ok (.ifCond .lt 12, 3) := by decide +kernel
theorem dX5_isLane_4 : decode cX5_isLane 4 = .ok (.iload_n 0, 1) := by decide +kernel
theorem dX5_isLane_5 : decode cX5_isLane 5 = .ok (.iconst 2, 1) := by decide +kernel
theorem dX5_isLane_6 : decode cX5_isLane 6 = .ok (.if_icmp .gt 7, 3) := by decide +kernel
theorem dX5_isLane_9 : decode cX5_isLane 9 = .ok (.iconst 1, 1) := by decide +kernel
theorem dX5_isLane_10 : decode cX5_isLane 10 = .ok (.goto 4, 3) := by decide +kernel
theorem dX5_isLane_13 : decode cX5_isLane 13 = .ok (.iconst 0, 1) := by decide +kernel
theorem dX5_isLane_14 : decode cX5_isLane 14 = .ok (.ireturn, 1) := by decide +kernel
theorem dX5_faulty_0 : decode cX5_faulty 0 = .ok (.aload_n 0, 1) := by decide +kernel
theorem dX5_faulty_1 : decode cX5_faulty 1 = .ok (.iload_n 1, 1) := by decide +kernel
theorem dX5_faulty_2 : decode cX5_faulty 2 = .ok (.putfield 53, 3) := by decide +kernel
theorem dX5_faulty_5 : decode cX5_faulty 5 = .ok (.bipush (-10), 2) := by decide +kernel
theorem dX5_faulty_7 : decode cX5_faulty 7 = .ok (.iload_n 1, 1) := by decide +kernel
theorem dX5_faulty_8 : decode cX5_faulty 8 = .ok (.isub, 1) := by decide +kernel
theorem dX5_faulty_9 : decode cX5_faulty 9 = .ok (.ireturn, 1) := by decide +kernel
theorem dX5_commonDivisor_0 : decode cX5_commonDivisor 0 = .ok (.iload_n 1, 1) := by decide +kernel
theorem dX5_commonDivisor_1 : decode cX5_commonDivisor 1 = .ok (.istore_n 2, 1) := by decide +kernel
theorem dX5_commonDivisor_2 : decode cX5_commonDivisor 2 = .ok (.iload_n 2, 1) := by decide +kernel
theorem dX5_commonDivisor_3 : decode cX5_commonDivisor 3 = .ok (.iconst 1, 1) := by decide +kernel
theorem dX5_commonDivisor_4 : decode cX5_commonDivisor 4 = .ok (.if_icmp .le 23, 3) := by decide +kernel
theorem dX5_commonDivisor_7 : decode cX5_commonDivisor 7 = .ok (.iload_n 0, 1) := by decide +kernel
theorem dX5_commonDivisor_8 : decode cX5_commonDivisor 8 = .ok (.iload_n 2, 1) := by decide +kernel
theorem dX5_commonDivisor_9 : decode cX5_commonDivisor 9 = .ok (.irem, 1) := by decide +kernel
theorem dX5_commonDivisor_10 : decode cX5_commonDivisor 10 = .ok (.ifCond .ne 11, 3) := by decide +kernel
theorem dX5_commonDivisor_13 : decode cX5_commonDivisor 13 = .ok (.iload_n 1, 1) := by decide +kernel
theorem dX5_commonDivisor_14 : decode cX5_commonDivisor 14 = .ok (.iload_n 2, 1) := by decide +kernel
theorem dX5_commonDivisor_15 : decode cX5_commonDivisor 15 = .ok (.irem, 1) := by decide +kernel
theorem dX5_commonDivisor_16 : decode cX5_commonDivisor 16 = .ok (.ifCond .ne 5, 3) := by decide +kernel
theorem dX5_commonDivisor_19 : decode cX5_commonDivisor 19 = .ok (.iload_n 2, 1) := by decide +kernel
theorem dX5_commonDivisor_20 : decode cX5_commonDivisor 20 = .ok (.ireturn, 1) := by decide +kernel
theorem dX5_commonDivisor_21 : decode cX5_commonDivisor 21 = .ok (.iinc 2 (-1), 3) := by decide +kernel
theorem dX5_commonDivisor_24 : decode cX5_commonDivisor 24 = .ok (.goto (-22), 3) := by decide +kernel
theorem dX5_commonDivisor_27 : decode cX5_commonDivisor 27 = .ok (.iconst 1, 1) := by decide +kernel
theorem dX5_commonDivisor_28 : decode cX5_commonDivisor 28 = .ok (.ireturn, 1) := by decide +kernel
theorem dX5_isAskedOfSeason_0 : decode cX5_isAskedOfSeason 0 = .ok (.iload_n 0, 1) := by decide +kernel
theorem dX5_isAskedOfSeason_1 : decode cX5_isAskedOfSeason 1 = .ok (.ifCond .lt 8, 3) := by decide +kernel
theorem dX5_isAskedOfSeason_4 : decode cX5_isAskedOfSeason 4 = .ok (.iload_n 0, 1) := by decide +kernel
theorem dX5_isAskedOfSeason_5 : decode cX5_isAskedOfSeason 5 = .ok (.iconst 4, 1) := by decide +kernel
theorem dX5_isAskedOfSeason_6 : decode cX5_isAskedOfSeason 6 = .ok (.if_icmp .le 15, 3) := by decide +kernel
theorem dX5_isAskedOfSeason_9 : decode cX5_isAskedOfSeason 9 = .ok (.iload_n 0, 1) := by decide +kernel
theorem dX5_isAskedOfSeason_10 : decode cX5_isAskedOfSeason 10 = .ok (.bipush 10, 2) := by decide +kernel
theorem dX5_isAskedOfSeason_12 : decode cX5_isAskedOfSeason 12 = .ok (.if_icmp .lt 13, 3) := by decide +kernel
theorem dX5_isAskedOfSeason_15 : decode cX5_isAskedOfSeason 15 = .ok (.iload_n 0, 1) := by decide +kernel
theorem dX5_isAskedOfSeason_16 : decode cX5_isAskedOfSeason 16 = .ok (.bipush 14, 2) := by decide +kernel
theorem dX5_isAskedOfSeason_18 : decode cX5_isAskedOfSeason 18 = .ok (.if_icmp .ge 7, 3) := by decide +kernel
theorem dX5_isAskedOfSeason_21 : decode cX5_isAskedOfSeason 21 = .ok (.iconst 1, 1) := by decide +kernel
theorem dX5_isAskedOfSeason_22 : decode cX5_isAskedOfSeason 22 = .ok (.goto 4, 3) := by decide +kernel
theorem dX5_isAskedOfSeason_25 : decode cX5_isAskedOfSeason 25 = .ok (.iconst 0, 1) := by decide +kernel
theorem dX5_isAskedOfSeason_26 : decode cX5_isAskedOfSeason 26 = .ok (.ireturn, 1) := by decide +kernel
set_option maxRecDepth 20000 in
theorem ggX5_refusalOfActs_X5_refusalOfAct : GoodIn wsX5_refusalOfActs wsX5_refusalOfAct := goodIn_r _ [6, 7, 8, 9, 10, 11, 12, 13, 14, 15, 16, 17, 18, 23, 24, 25, 26, 27, 28, 29, 30, 31, 32, 33, 34, 35, 36, 37, 38, 39, 40, 41, 42] (by decide +kernel) (by decide +kernel)
set_option maxRecDepth 20000 in
theorem gX5_refusalOfActs_X5_refusalOfAct : GoodIn wsX5_refusalOfActs (wsV RX5 257 RX5 yX5_refusalOfAct wsX5_refusalOfAct) := goodIn_app (goodIn_of _ (by decide +kernel)) ggX5_refusalOfActs_X5_refusalOfAct
theorem dX5_refusalOfActs_0 : decode cX5_refusalOfActs 0 = .ok (.iconst 0, 1) := by decide +kernel
theorem dX5_refusalOfActs_1 : decode cX5_refusalOfActs 1 = .ok (.istore 4, 2) := by decide +kernel
theorem dX5_refusalOfActs_3 : decode cX5_refusalOfActs 3 = .ok (.iload 4, 2) := by decide +kernel
theorem dX5_refusalOfActs_5 : decode cX5_refusalOfActs 5 = .ok (.iload_n 3, 1) := by decide +kernel
theorem dX5_refusalOfActs_6 : decode cX5_refusalOfActs 6 = .ok (.if_icmp .ge 47, 3) := by decide +kernel
theorem dX5_refusalOfActs_9 : decode cX5_refusalOfActs 9 = .ok (.aload_n 0, 1) := by decide +kernel
theorem dX5_refusalOfActs_10 : decode cX5_refusalOfActs 10 = .ok (.aload_n 1, 1) := by decide +kernel
theorem dX5_refusalOfActs_11 : decode cX5_refusalOfActs 11 = .ok (.getfield 224, 3) := by decide +kernel
theorem dX5_refusalOfActs_14 : decode cX5_refusalOfActs 14 = .ok (.iload_n 2, 1) := by decide +kernel
theorem dX5_refusalOfActs_15 : decode cX5_refusalOfActs 15 = .ok (.iconst 2, 1) := by decide +kernel
theorem dX5_refusalOfActs_16 : decode cX5_refusalOfActs 16 = .ok (.iload 4, 2) := by decide +kernel
theorem dX5_refusalOfActs_18 : decode cX5_refusalOfActs 18 = .ok (.imul, 1) := by decide +kernel
theorem dX5_refusalOfActs_19 : decode cX5_refusalOfActs 19 = .ok (.iadd, 1) := by decide +kernel
theorem dX5_refusalOfActs_20 : decode cX5_refusalOfActs 20 = .ok (.iaload, 1) := by decide +kernel
theorem dX5_refusalOfActs_21 : decode cX5_refusalOfActs 21 = .ok (.aload_n 1, 1) := by decide +kernel
theorem dX5_refusalOfActs_22 : decode cX5_refusalOfActs 22 = .ok (.getfield 224, 3) := by decide +kernel
theorem dX5_refusalOfActs_25 : decode cX5_refusalOfActs 25 = .ok (.iload_n 2, 1) := by decide +kernel
theorem dX5_refusalOfActs_26 : decode cX5_refusalOfActs 26 = .ok (.iconst 2, 1) := by decide +kernel
theorem dX5_refusalOfActs_27 : decode cX5_refusalOfActs 27 = .ok (.iload 4, 2) := by decide +kernel
theorem dX5_refusalOfActs_29 : decode cX5_refusalOfActs 29 = .ok (.imul, 1) := by decide +kernel
theorem dX5_refusalOfActs_30 : decode cX5_refusalOfActs 30 = .ok (.iadd, 1) := by decide +kernel
theorem dX5_refusalOfActs_31 : decode cX5_refusalOfActs 31 = .ok (.iconst 1, 1) := by decide +kernel
theorem dX5_refusalOfActs_32 : decode cX5_refusalOfActs 32 = .ok (.iadd, 1) := by decide +kernel
theorem dX5_refusalOfActs_33 : decode cX5_refusalOfActs 33 = .ok (.iaload, 1) := by decide +kernel
theorem dX5_refusalOfActs_34 : decode cX5_refusalOfActs 34 = .ok (.invokevirtual 257, 3) := by decide +kernel
theorem dX5_refusalOfActs_37 : decode cX5_refusalOfActs 37 = .ok (.istore 5, 2) := by decide +kernel
theorem dX5_refusalOfActs_39 : decode cX5_refusalOfActs 39 = .ok (.iload 5, 2) := by decide +kernel
theorem dX5_refusalOfActs_41 : decode cX5_refusalOfActs 41 = .ok (.ifCond .eq 6, 3) := by decide +kernel
theorem dX5_refusalOfActs_44 : decode cX5_refusalOfActs 44 = .ok (.iload 5, 2) := by decide +kernel
theorem dX5_refusalOfActs_46 : decode cX5_refusalOfActs 46 = .ok (.ireturn, 1) := by decide +kernel
theorem dX5_refusalOfActs_47 : decode cX5_refusalOfActs 47 = .ok (.iinc 4 1, 3) := by decide +kernel
theorem dX5_refusalOfActs_50 : decode cX5_refusalOfActs 50 = .ok (.goto (-47), 3) := by decide +kernel
theorem dX5_refusalOfActs_53 : decode cX5_refusalOfActs 53 = .ok (.iconst 0, 1) := by decide +kernel
theorem dX5_refusalOfActs_54 : decode cX5_refusalOfActs 54 = .ok (.ireturn, 1) := by decide +kernel
set_option maxRecDepth 20000 in
theorem ggX5_refusalOfAct_X3_hasClock : GoodIn wsX5_refusalOfAct wsX3_hasClock := goodIn_r _ [6, 7, 23, 24, 25, 26, 27, 28, 29, 30, 31, 32] (by decide +kernel) (by decide +kernel)
set_option maxRecDepth 20000 in
theorem gX5_refusalOfAct_X3_hasClock : GoodIn wsX5_refusalOfAct (wsV RX5 110 RX3 yX3_hasClock wsX3_hasClock) := goodIn_app (goodIn_of _ (by decide +kernel)) ggX5_refusalOfAct_X3_hasClock
set_option maxRecDepth 20000 in
theorem ggX5_refusalOfAct_X3_hasHouse : GoodIn wsX5_refusalOfAct wsX3_hasHouse := goodIn_r _ [11, 12, 23, 24, 25, 26, 27, 28, 29, 30, 31, 32] (by decide +kernel) (by decide +kernel)
set_option maxRecDepth 20000 in
theorem gX5_refusalOfAct_X3_hasHouse : GoodIn wsX5_refusalOfAct (wsV RX5 92 RX3 yX3_hasHouse wsX3_hasHouse) := goodIn_app (goodIn_of _ (by decide +kernel)) ggX5_refusalOfAct_X3_hasHouse
theorem dX5_refusalOfAct_0 : decode cX5_refusalOfAct 0 = .ok (.iload_n 2, 1) := by decide +kernel
theorem dX5_refusalOfAct_1 : decode cX5_refusalOfAct 1 = .ok (.tableswitch 65 0 3 #[31, 31, 31, 48], 31) := by decide +kernel
theorem dX5_refusalOfAct_32 : decode cX5_refusalOfAct 32 = .ok (.aload_n 0, 1) := by decide +kernel
theorem dX5_refusalOfAct_33 : decode cX5_refusalOfAct 33 = .ok (.getfield 12, 3) := by decide +kernel
theorem dX5_refusalOfAct_36 : decode cX5_refusalOfAct 36 = .ok (.iload_n 1, 1) := by decide +kernel
theorem dX5_refusalOfAct_37 : decode cX5_refusalOfAct 37 = .ok (.invokevirtual 110, 3) := by decide +kernel
theorem dX5_refusalOfAct_40 : decode cX5_refusalOfAct 40 = .ok (.ifCond .eq 7, 3) := by decide +kernel
theorem dX5_refusalOfAct_43 : decode cX5_refusalOfAct 43 = .ok (.iconst 0, 1) := by decide +kernel
theorem dX5_refusalOfAct_44 : decode cX5_refusalOfAct 44 = .ok (.goto 4, 3) := by decide +kernel
theorem dX5_refusalOfAct_47 : decode cX5_refusalOfAct 47 = .ok (.iconst (-1), 1) := by decide +kernel
theorem dX5_refusalOfAct_48 : decode cX5_refusalOfAct 48 = .ok (.ireturn, 1) := by decide +kernel
theorem dX5_refusalOfAct_49 : decode cX5_refusalOfAct 49 = .ok (.iload_n 1, 1) := by decide +kernel
theorem dX5_refusalOfAct_50 : decode cX5_refusalOfAct 50 = .ok (.ifCond .lt 13, 3) := by decide +kernel
theorem dX5_refusalOfAct_53 : decode cX5_refusalOfAct 53 = .ok (.iload_n 1, 1) := by decide +kernel
theorem dX5_refusalOfAct_54 : decode cX5_refusalOfAct 54 = .ok (.bipush 9, 2) := by decide +kernel
theorem dX5_refusalOfAct_56 : decode cX5_refusalOfAct 56 = .ok (.if_icmp .gt 7, 3) := by decide +kernel
theorem dX5_refusalOfAct_59 : decode cX5_refusalOfAct 59 = .ok (.iconst 0, 1) := by decide +kernel
theorem dX5_refusalOfAct_60 : decode cX5_refusalOfAct 60 = .ok (.goto 5, 3) := by decide +kernel
theorem dX5_refusalOfAct_63 : decode cX5_refusalOfAct 63 = .ok (.bipush (-2), 2) := by decide +kernel
theorem dX5_refusalOfAct_65 : decode cX5_refusalOfAct 65 = .ok (.ireturn, 1) := by decide +kernel
theorem dX5_refusalOfAct_66 : decode cX5_refusalOfAct 66 = .ok (.iload_n 2, 1) := by decide +kernel
theorem dX5_refusalOfAct_67 : decode cX5_refusalOfAct 67 = .ok (.bipush 10, 2) := by decide +kernel
theorem dX5_refusalOfAct_69 : decode cX5_refusalOfAct 69 = .ok (.if_icmp .lt 9, 3) := by decide +kernel
theorem dX5_refusalOfAct_72 : decode cX5_refusalOfAct 72 = .ok (.iload_n 2, 1) := by decide +kernel
theorem dX5_refusalOfAct_73 : decode cX5_refusalOfAct 73 = .ok (.bipush 14, 2) := by decide +kernel
theorem dX5_refusalOfAct_75 : decode cX5_refusalOfAct 75 = .ok (.if_icmp .lt 6, 3) := by decide +kernel
theorem dX5_refusalOfAct_78 : decode cX5_refusalOfAct 78 = .ok (.bipush (-2), 2) := by decide +kernel
theorem dX5_refusalOfAct_80 : decode cX5_refusalOfAct 80 = .ok (.ireturn, 1) := by decide +kernel
theorem dX5_refusalOfAct_81 : decode cX5_refusalOfAct 81 = .ok (.aload_n 0, 1) := by decide +kernel
theorem dX5_refusalOfAct_82 : decode cX5_refusalOfAct 82 = .ok (.getfield 12, 3) := by decide +kernel
theorem dX5_refusalOfAct_85 : decode cX5_refusalOfAct 85 = .ok (.iload_n 1, 1) := by decide +kernel
theorem dX5_refusalOfAct_86 : decode cX5_refusalOfAct 86 = .ok (.invokevirtual 92, 3) := by decide +kernel
theorem dX5_refusalOfAct_89 : decode cX5_refusalOfAct 89 = .ok (.ifCond .eq 7, 3) := by decide +kernel
theorem dX5_refusalOfAct_92 : decode cX5_refusalOfAct 92 = .ok (.iconst 0, 1) := by decide +kernel
theorem dX5_refusalOfAct_93 : decode cX5_refusalOfAct 93 = .ok (.goto 4, 3) := by decide +kernel
theorem dX5_refusalOfAct_96 : decode cX5_refusalOfAct 96 = .ok (.iconst (-1), 1) := by decide +kernel
theorem dX5_refusalOfAct_97 : decode cX5_refusalOfAct 97 = .ok (.ireturn, 1) := by decide +kernel
set_option maxRecDepth 20000 in
theorem ggX5_playOnTrial_X3_become : GoodIn wsX5_playOnTrial wsX3_become := goodIn_r _ [8, 9, 10, 11, 12, 13, 14, 15, 16, 17, 18, 19, 7, 20, 21, 22, 92, 93, 94, 95, 96, 97, 98, 99, 100, 101] (by decide +kernel) (by decide +kernel)
set_option maxRecDepth 20000 in
theorem gX5_playOnTrial_X3_become : GoodIn wsX5_playOnTrial (wsV RX5 79 RX3 yX3_become wsX3_become) := goodIn_app (goodIn_of _ (by decide +kernel)) ggX5_playOnTrial_X3_become
set_option maxRecDepth 20000 in
theorem ggX5_playOnTrial_X5_canAct : GoodIn wsX5_playOnTrial wsX5_canAct := goodIn_r _ [27, 1, 28, 29, 30, 7, 31, 15, 22, 21, 32, 33, 34, 35, 9, 36, 37, 38, 39, 16, 40, 41, 42, 43, 14, 44, 45, 46, 47, 11, 48, 49, 50, 51, 52, 53, 54, 55, 12, 13, 56, 57, 58, 59, 60, 61, 26, 62, 63, 64, 65, 66, 67, 10, 68, 69, 70, 71, 72, 73, 74, 75, 76, 77, 78, 79, 80, 81, 82, 83, 84, 85, 86, 87, 92, 93, 94, 95, 96, 97, 98, 99, 100, 101] (by decide +kernel) (by decide +kernel)
set_option maxRecDepth 20000 in
theorem gX5_playOnTrial_X5_canAct : GoodIn wsX5_playOnTrial (wsV RX5 260 RX5 yX5_canAct wsX5_canAct) := goodIn_app (goodIn_of _ (by decide +kernel)) ggX5_playOnTrial_X5_canAct
theorem dX5_playOnTrial_0 : decode cX5_playOnTrial 0 = .ok (.aload_n 0, 1) := by decide +kernel
theorem dX5_playOnTrial_1 : decode cX5_playOnTrial 1 = .ok (.getfield 18, 3) := by decide +kernel
theorem dX5_playOnTrial_4 : decode cX5_playOnTrial 4 = .ok (.aload_n 0, 1) := by decide +kernel
theorem dX5_playOnTrial_5 : decode cX5_playOnTrial 5 = .ok (.getfield 12, 3) := by decide +kernel
theorem dX5_playOnTrial_8 : decode cX5_playOnTrial 8 = .ok (.invokevirtual 79, 3) := by decide +kernel
theorem dX5_playOnTrial_11 : decode cX5_playOnTrial 11 = .ok (.iconst 0, 1) := by decide +kernel
theorem dX5_playOnTrial_12 : decode cX5_playOnTrial 12 = .ok (.istore 4, 2) := by decide +kernel
theorem dX5_playOnTrial_14 : decode cX5_playOnTrial 14 = .ok (.iload 4, 2) := by decide +kernel
theorem dX5_playOnTrial_16 : decode cX5_playOnTrial 16 = .ok (.iload_n 3, 1) := by decide +kernel
theorem dX5_playOnTrial_17 : decode cX5_playOnTrial 17 = .ok (.if_icmp .ge 43, 3) := by decide +kernel
theorem dX5_playOnTrial_20 : decode cX5_playOnTrial 20 = .ok (.aload_n 0, 1) := by decide +kernel
theorem dX5_playOnTrial_21 : decode cX5_playOnTrial 21 = .ok (.aload_n 1, 1) := by decide +kernel
theorem dX5_playOnTrial_22 : decode cX5_playOnTrial 22 = .ok (.getfield 224, 3) := by decide +kernel
theorem dX5_playOnTrial_25 : decode cX5_playOnTrial 25 = .ok (.iload_n 2, 1) := by decide +kernel
theorem dX5_playOnTrial_26 : decode cX5_playOnTrial 26 = .ok (.iconst 2, 1) := by decide +kernel
theorem dX5_playOnTrial_27 : decode cX5_playOnTrial 27 = .ok (.iload 4, 2) := by decide +kernel
theorem dX5_playOnTrial_29 : decode cX5_playOnTrial 29 = .ok (.imul, 1) := by decide +kernel
theorem dX5_playOnTrial_30 : decode cX5_playOnTrial 30 = .ok (.iadd, 1) := by decide +kernel
theorem dX5_playOnTrial_31 : decode cX5_playOnTrial 31 = .ok (.iaload, 1) := by decide +kernel
theorem dX5_playOnTrial_32 : decode cX5_playOnTrial 32 = .ok (.aload_n 1, 1) := by decide +kernel
theorem dX5_playOnTrial_33 : decode cX5_playOnTrial 33 = .ok (.getfield 224, 3) := by decide +kernel
theorem dX5_playOnTrial_36 : decode cX5_playOnTrial 36 = .ok (.iload_n 2, 1) := by decide +kernel
theorem dX5_playOnTrial_37 : decode cX5_playOnTrial 37 = .ok (.iconst 2, 1) := by decide +kernel
theorem dX5_playOnTrial_38 : decode cX5_playOnTrial 38 = .ok (.iload 4, 2) := by decide +kernel
theorem dX5_playOnTrial_40 : decode cX5_playOnTrial 40 = .ok (.imul, 1) := by decide +kernel
theorem dX5_playOnTrial_41 : decode cX5_playOnTrial 41 = .ok (.iadd, 1) := by decide +kernel
theorem dX5_playOnTrial_42 : decode cX5_playOnTrial 42 = .ok (.iconst 1, 1) := by decide +kernel
theorem dX5_playOnTrial_43 : decode cX5_playOnTrial 43 = .ok (.iadd, 1) := by decide +kernel
theorem dX5_playOnTrial_44 : decode cX5_playOnTrial 44 = .ok (.iaload, 1) := by decide +kernel
theorem dX5_playOnTrial_45 : decode cX5_playOnTrial 45 = .ok (.invokevirtual 260, 3) := by decide +kernel
theorem dX5_playOnTrial_48 : decode cX5_playOnTrial 48 = .ok (.ifCond .ne 6, 3) := by decide +kernel
theorem dX5_playOnTrial_51 : decode cX5_playOnTrial 51 = .ok (.iload 4, 2) := by decide +kernel
theorem dX5_playOnTrial_53 : decode cX5_playOnTrial 53 = .ok (.ireturn, 1) := by decide +kernel
theorem dX5_playOnTrial_54 : decode cX5_playOnTrial 54 = .ok (.iinc 4 1, 3) := by decide +kernel
theorem dX5_playOnTrial_57 : decode cX5_playOnTrial 57 = .ok (.goto (-43), 3) := by decide +kernel
theorem dX5_playOnTrial_60 : decode cX5_playOnTrial 60 = .ok (.bipush (-9), 2) := by decide +kernel
theorem dX5_playOnTrial_62 : decode cX5_playOnTrial 62 = .ok (.ireturn, 1) := by decide +kernel
set_option maxRecDepth 20000 in
theorem ggX5_canAct_X3_strike : GoodIn wsX5_canAct wsX3_strike := goodIn_r _ [6, 7, 8, 9, 10, 11, 12, 5, 13, 14, 15, 16, 17, 18, 19, 20, 21, 22, 23, 24, 25, 26, 27, 28, 29, 30, 31, 32, 33, 34, 35, 36, 37, 38, 39, 40, 41, 42, 74, 75, 76, 77, 78, 79, 80, 81, 82, 83] (by decide +kernel) (by decide +kernel)
set_option maxRecDepth 20000 in
theorem gX5_canAct_X3_strike : GoodIn wsX5_canAct (wsV RX5 146 RX3 yX3_strike wsX3_strike) := goodIn_app (goodIn_of _ (by decide +kernel)) ggX5_canAct_X3_strike
set_option maxRecDepth 20000 in
theorem ggX5_canAct_X5_canTurn : GoodIn wsX5_canAct wsX5_canTurn := goodIn_r _ [47, 1, 48, 64, 65, 66, 67, 68, 69, 70, 71, 72, 73, 74, 75, 76, 77, 78, 79, 80, 81, 82, 83] (by decide +kernel) (by decide +kernel)
set_option maxRecDepth 20000 in
theorem gX5_canAct_X5_canTurn : GoodIn wsX5_canAct (wsV RX5 263 RX5 yX5_canTurn wsX5_canTurn) := goodIn_app (goodIn_of _ (by decide +kernel)) ggX5_canAct_X5_canTurn
set_option maxRecDepth 20000 in
theorem ggX5_canAct_X3_passNights : GoodIn wsX5_canAct wsX3_passNights := goodIn_r _ [52, 53, 54, 3, 4, 5, 6, 7, 8, 9, 10, 11, 12, 13, 14, 15, 16, 17, 18, 19, 20, 21, 22, 23, 24, 25, 26, 27, 28, 29, 30, 31, 32, 33, 34, 35, 36, 37, 38, 39, 40, 41, 42, 74, 75, 76, 77, 78, 79, 80, 81, 82, 83] (by decide +kernel) (by decide +kernel)
set_option maxRecDepth 20000 in
theorem gX5_canAct_X3_passNights : GoodIn wsX5_canAct (wsV RX5 149 RX3 yX3_passNights wsX3_passNights) := goodIn_app (goodIn_of _ (by decide +kernel)) ggX5_canAct_X3_passNights
set_option maxRecDepth 20000 in
theorem ggX5_canAct_X5_canCarry : GoodIn wsX5_canAct wsX5_canCarry := goodIn_r _ [58, 1, 59, 60, 61, 62, 5, 63, 53, 64, 65, 66, 67, 68, 69, 70, 71, 72, 73, 74, 75, 76, 77, 78, 79, 80, 81, 82, 83] (by decide +kernel) (by decide +kernel)
set_option maxRecDepth 20000 in
theorem gX5_canAct_X5_canCarry : GoodIn wsX5_canAct (wsV RX5 267 RX5 yX5_canCarry wsX5_canCarry) := goodIn_app (goodIn_of _ (by decide +kernel)) ggX5_canAct_X5_canCarry
theorem dX5_canAct_0 : decode cX5_canAct 0 = .ok (.iload_n 2, 1) := by decide +kernel
theorem dX5_canAct_1 : decode cX5_canAct 1 = .ok (.tableswitch 66 0 3 #[31, 42, 49, 56], 31) := by decide +kernel
theorem dX5_canAct_32 : decode cX5_canAct 32 = .ok (.aload_n 0, 1) := by decide +kernel
theorem dX5_canAct_33 : decode cX5_canAct 33 = .ok (.getfield 18, 3) := by decide +kernel
theorem dX5_canAct_36 : decode cX5_canAct 36 = .ok (.iload_n 1, 1) := by decide +kernel
theorem dX5_canAct_37 : decode cX5_canAct 37 = .ok (.invokevirtual 146, 3) := by decide +kernel
theorem dX5_canAct_40 : decode cX5_canAct 40 = .ok (.pop, 1) := by decide +kernel
theorem dX5_canAct_41 : decode cX5_canAct 41 = .ok (.iconst 1, 1) := by decide +kernel
theorem dX5_canAct_42 : decode cX5_canAct 42 = .ok (.ireturn, 1) := by decide +kernel
theorem dX5_canAct_43 : decode cX5_canAct 43 = .ok (.aload_n 0, 1) := by decide +kernel
theorem dX5_canAct_44 : decode cX5_canAct 44 = .ok (.iload_n 1, 1) := by decide +kernel
theorem dX5_canAct_45 : decode cX5_canAct 45 = .ok (.iconst 1, 1) := by decide +kernel
theorem dX5_canAct_46 : decode cX5_canAct 46 = .ok (.invokevirtual 263, 3) := by decide +kernel
theorem dX5_canAct_49 : decode cX5_canAct 49 = .ok (.ireturn, 1) := by decide +kernel
theorem dX5_canAct_50 : decode cX5_canAct 50 = .ok (.aload_n 0, 1) := by decide +kernel
theorem dX5_canAct_51 : decode cX5_canAct 51 = .ok (.iload_n 1, 1) := by decide +kernel
theorem dX5_canAct_52 : decode cX5_canAct 52 = .ok (.iconst 0, 1) := by decide +kernel
theorem dX5_canAct_53 : decode cX5_canAct 53 = .ok (.invokevirtual 263, 3) := by decide +kernel
theorem dX5_canAct_56 : decode cX5_canAct 56 = .ok (.ireturn, 1) := by decide +kernel
theorem dX5_canAct_57 : decode cX5_canAct 57 = .ok (.aload_n 0, 1) := by decide +kernel
theorem dX5_canAct_58 : decode cX5_canAct 58 = .ok (.getfield 18, 3) := by decide +kernel
theorem dX5_canAct_61 : decode cX5_canAct 61 = .ok (.iload_n 1, 1) := by decide +kernel
theorem dX5_canAct_62 : decode cX5_canAct 62 = .ok (.invokevirtual 149, 3) := by decide +kernel
theorem dX5_canAct_65 : decode cX5_canAct 65 = .ok (.iconst 1, 1) := by decide +kernel
theorem dX5_canAct_66 : decode cX5_canAct 66 = .ok (.ireturn, 1) := by decide +kernel
theorem dX5_canAct_67 : decode cX5_canAct 67 = .ok (.aload_n 0, 1) := by decide +kernel
theorem dX5_canAct_68 : decode cX5_canAct 68 = .ok (.iload_n 2, 1) := by decide +kernel
theorem dX5_canAct_69 : decode cX5_canAct 69 = .ok (.bipush 10, 2) := by decide +kernel
theorem dX5_canAct_71 : decode cX5_canAct 71 = .ok (.isub, 1) := by decide +kernel
theorem dX5_canAct_72 : decode cX5_canAct 72 = .ok (.iload_n 1, 1) := by decide +kernel
theorem dX5_canAct_73 : decode cX5_canAct 73 = .ok (.invokevirtual 267, 3) := by decide +kernel
theorem dX5_canAct_76 : decode cX5_canAct 76 = .ok (.ireturn, 1) := by decide +kernel
theorem dX5_canTurn_0 : decode cX5_canTurn 0 = .ok (.aload_n 0, 1) := by decide +kernel
theorem dX5_canTurn_1 : decode cX5_canTurn 1 = .ok (.getfield 18, 3) := by decide +kernel
theorem dX5_canTurn_4 : decode cX5_canTurn 4 = .ok (.getfield 122, 3) := by decide +kernel
theorem dX5_canTurn_7 : decode cX5_canTurn 7 = .ok (.iload_n 1, 1) := by decide +kernel
theorem dX5_canTurn_8 : decode cX5_canTurn 8 = .ok (.baload, 1) := by decide +kernel
theorem dX5_canTurn_9 : decode cX5_canTurn 9 = .ok (.iload_n 2, 1) := by decide +kernel
theorem dX5_canTurn_10 : decode cX5_canTurn 10 = .ok (.if_icmp .ne 5, 3) := by decide +kernel
theorem dX5_canTurn_13 : decode cX5_canTurn 13 = .ok (.iconst 0, 1) := by decide +kernel
theorem dX5_canTurn_14 : decode cX5_canTurn 14 = .ok (.ireturn, 1) := by decide +kernel
theorem dX5_canTurn_15 : decode cX5_canTurn 15 = .ok (.aload_n 0, 1) := by decide +kernel
theorem dX5_canTurn_16 : decode cX5_canTurn 16 = .ok (.getfield 18, 3) := by decide +kernel
theorem dX5_canTurn_19 : decode cX5_canTurn 19 = .ok (.getfield 122, 3) := by decide +kernel
theorem dX5_canTurn_22 : decode cX5_canTurn 22 = .ok (.iload_n 1, 1) := by decide +kernel
theorem dX5_canTurn_23 : decode cX5_canTurn 23 = .ok (.iload_n 2, 1) := by decide +kernel
theorem dX5_canTurn_24 : decode cX5_canTurn 24 = .ok (.bastore, 1) := by decide +kernel
theorem dX5_canTurn_25 : decode cX5_canTurn 25 = .ok (.iconst 1, 1) := by decide +kernel
theorem dX5_canTurn_26 : decode cX5_canTurn 26 = .ok (.ireturn, 1) := by decide +kernel
set_option maxRecDepth 20000 in
theorem ggX5_canCarry_X3_hasClock : GoodIn wsX5_canCarry wsX3_hasClock := goodIn_r _ [7, 8, 19, 20, 21, 22, 23, 24, 25, 26, 27, 28] (by decide +kernel) (by decide +kernel)
set_option maxRecDepth 20000 in
theorem gX5_canCarry_X3_hasClock : GoodIn wsX5_canCarry (wsV RX5 110 RX3 yX3_hasClock wsX3_hasClock) := goodIn_app (goodIn_of _ (by decide +kernel)) ggX5_canCarry_X3_hasClock
theorem dX5_canCarry_0 : decode cX5_canCarry 0 = .ok (.aload_n 0, 1) := by decide +kernel
theorem dX5_canCarry_1 : decode cX5_canCarry 1 = .ok (.getfield 18, 3) := by decide +kernel
theorem dX5_canCarry_4 : decode cX5_canCarry 4 = .ok (.iload_n 1, 1) := by decide +kernel
theorem dX5_canCarry_5 : decode cX5_canCarry 5 = .ok (.invokevirtual 110, 3) := by decide +kernel
theorem dX5_canCarry_8 : decode cX5_canCarry 8 = .ok (.ifCond .ne 5, 3) := by decide +kernel
theorem dX5_canCarry_11 : decode cX5_canCarry 11 = .ok (.iconst 0, 1) := by decide +kernel
theorem dX5_canCarry_12 : decode cX5_canCarry 12 = .ok (.ireturn, 1) := by decide +kernel
theorem dX5_canCarry_13 : decode cX5_canCarry 13 = .ok (.aload_n 0, 1) := by decide +kernel
theorem dX5_canCarry_14 : decode cX5_canCarry 14 = .ok (.getfield 18, 3) := by decide +kernel
theorem dX5_canCarry_17 : decode cX5_canCarry 17 = .ok (.getfield 119, 3) := by decide +kernel
theorem dX5_canCarry_20 : decode cX5_canCarry 20 = .ok (.iload_n 1, 1) := by decide +kernel
theorem dX5_canCarry_21 : decode cX5_canCarry 21 = .ok (.iload_n 2, 1) := by decide +kernel
theorem dX5_canCarry_22 : decode cX5_canCarry 22 = .ok (.iastore, 1) := by decide +kernel
theorem dX5_canCarry_23 : decode cX5_canCarry 23 = .ok (.iconst 1, 1) := by decide +kernel
theorem dX5_canCarry_24 : decode cX5_canCarry 24 = .ok (.ireturn, 1) := by decide +kernel
set_option maxRecDepth 20000 in
theorem ggX5_answerOfTrial_X3_stuffedClocks : GoodIn wsX5_answerOfTrial wsX3_stuffedClocks := goodIn_r _ [9, 10, 11, 31, 32, 33, 34, 35, 36, 37, 38, 39, 40] (by decide +kernel) (by decide +kernel)
set_option maxRecDepth 20000 in
theorem gX5_answerOfTrial_X3_stuffedClocks : GoodIn wsX5_answerOfTrial (wsV RX5 153 RX3 yX3_stuffedClocks wsX3_stuffedClocks) := goodIn_app (goodIn_of _ (by decide +kernel)) ggX5_answerOfTrial_X3_stuffedClocks
set_option maxRecDepth 20000 in
theorem ggX5_answerOfTrial_X3_housesWithClocks : GoodIn wsX5_answerOfTrial wsX3_housesWithClocks := goodIn_r _ [15, 10, 16, 31, 32, 33, 34, 35, 36, 37, 38, 39, 40] (by decide +kernel) (by decide +kernel)
set_option maxRecDepth 20000 in
theorem gX5_answerOfTrial_X3_housesWithClocks : GoodIn wsX5_answerOfTrial (wsV RX5 273 RX3 yX3_housesWithClocks wsX3_housesWithClocks) := goodIn_app (goodIn_of _ (by decide +kernel)) ggX5_answerOfTrial_X3_housesWithClocks
set_option maxRecDepth 20000 in
theorem ggX5_answerOfTrial_X3_hasClock : GoodIn wsX5_answerOfTrial wsX3_hasClock := goodIn_r _ [20, 10, 31, 32, 33, 34, 35, 36, 37, 38, 39, 40] (by decide +kernel) (by decide +kernel)
set_option maxRecDepth 20000 in
theorem gX5_answerOfTrial_X3_hasClock : GoodIn wsX5_answerOfTrial (wsV RX5 110 RX3 yX3_hasClock wsX3_hasClock) := goodIn_app (goodIn_of _ (by decide +kernel)) ggX5_answerOfTrial_X3_hasClock
theorem dX5_answerOfTrial_0 : decode cX5_answerOfTrial 0 = .ok (.iload_n 1, 1) := by decide +kernel
theorem dX5_answerOfTrial_1 : decode cX5_answerOfTrial 1 = .ok (.tableswitch 67 0 4 #[35, 67, 43, 51, 59], 35) := by decide +kernel
theorem dX5_answerOfTrial_36 : decode cX5_answerOfTrial 36 = .ok (.aload_n 0, 1) := by decide +kernel
theorem dX5_answerOfTrial_37 : decode cX5_answerOfTrial 37 = .ok (.getfield 18, 3) := by decide +kernel
theorem dX5_answerOfTrial_40 : decode cX5_answerOfTrial 40 = .ok (.invokevirtual 153, 3) := by decide +kernel
theorem dX5_answerOfTrial_43 : decode cX5_answerOfTrial 43 = .ok (.ireturn, 1) := by decide +kernel
theorem dX5_answerOfTrial_44 : decode cX5_answerOfTrial 44 = .ok (.aload_n 0, 1) := by decide +kernel
theorem dX5_answerOfTrial_45 : decode cX5_answerOfTrial 45 = .ok (.getfield 18, 3) := by decide +kernel
theorem dX5_answerOfTrial_48 : decode cX5_answerOfTrial 48 = .ok (.getfield 187, 3) := by decide +kernel
theorem dX5_answerOfTrial_51 : decode cX5_answerOfTrial 51 = .ok (.ireturn, 1) := by decide +kernel
theorem dX5_answerOfTrial_52 : decode cX5_answerOfTrial 52 = .ok (.aload_n 0, 1) := by decide +kernel
theorem dX5_answerOfTrial_53 : decode cX5_answerOfTrial 53 = .ok (.getfield 18, 3) := by decide +kernel
theorem dX5_answerOfTrial_56 : decode cX5_answerOfTrial 56 = .ok (.getfield 270, 3) := by decide +kernel
theorem dX5_answerOfTrial_59 : decode cX5_answerOfTrial 59 = .ok (.ireturn, 1) := by decide +kernel
theorem dX5_answerOfTrial_60 : decode cX5_answerOfTrial 60 = .ok (.aload_n 0, 1) := by decide +kernel
theorem dX5_answerOfTrial_61 : decode cX5_answerOfTrial 61 = .ok (.getfield 18, 3) := by decide +kernel
theorem dX5_answerOfTrial_64 : decode cX5_answerOfTrial 64 = .ok (.invokevirtual 273, 3) := by decide +kernel
theorem dX5_answerOfTrial_67 : decode cX5_answerOfTrial 67 = .ok (.ireturn, 1) := by decide +kernel
theorem dX5_answerOfTrial_68 : decode cX5_answerOfTrial 68 = .ok (.aload_n 0, 1) := by decide +kernel
theorem dX5_answerOfTrial_69 : decode cX5_answerOfTrial 69 = .ok (.getfield 18, 3) := by decide +kernel
theorem dX5_answerOfTrial_72 : decode cX5_answerOfTrial 72 = .ok (.iload_n 1, 1) := by decide +kernel
theorem dX5_answerOfTrial_73 : decode cX5_answerOfTrial 73 = .ok (.bipush 10, 2) := by decide +kernel
theorem dX5_answerOfTrial_75 : decode cX5_answerOfTrial 75 = .ok (.isub, 1) := by decide +kernel
theorem dX5_answerOfTrial_76 : decode cX5_answerOfTrial 76 = .ok (.invokevirtual 110, 3) := by decide +kernel
theorem dX5_answerOfTrial_79 : decode cX5_answerOfTrial 79 = .ok (.ifCond .eq 18, 3) := by decide +kernel
theorem dX5_answerOfTrial_82 : decode cX5_answerOfTrial 82 = .ok (.aload_n 0, 1) := by decide +kernel
theorem dX5_answerOfTrial_83 : decode cX5_answerOfTrial 83 = .ok (.getfield 18, 3) := by decide +kernel
theorem dX5_answerOfTrial_86 : decode cX5_answerOfTrial 86 = .ok (.getfield 119, 3) := by decide +kernel
theorem dX5_answerOfTrial_89 : decode cX5_answerOfTrial 89 = .ok (.iload_n 1, 1) := by decide +kernel
theorem dX5_answerOfTrial_90 : decode cX5_answerOfTrial 90 = .ok (.bipush 10, 2) := by decide +kernel
theorem dX5_answerOfTrial_92 : decode cX5_answerOfTrial 92 = .ok (.isub, 1) := by decide +kernel
theorem dX5_answerOfTrial_93 : decode cX5_answerOfTrial 93 = .ok (.iaload, 1) := by decide +kernel
theorem dX5_answerOfTrial_94 : decode cX5_answerOfTrial 94 = .ok (.goto 5, 3) := by decide +kernel
theorem dX5_answerOfTrial_97 : decode cX5_answerOfTrial 97 = .ok (.bipush (-9), 2) := by decide +kernel
theorem dX5_answerOfTrial_99 : decode cX5_answerOfTrial 99 = .ok (.ireturn, 1) := by decide +kernel
theorem dX5_leave_0 : decode cX5_leave 0 = .ok (.aload_n 0, 1) := by decide +kernel
theorem dX5_leave_1 : decode cX5_leave 1 = .ok (.bipush 31, 2) := by decide +kernel
theorem dX5_leave_3 : decode cX5_leave 3 = .ok (.aload_n 0, 1) := by decide +kernel
theorem dX5_leave_4 : decode cX5_leave 4 = .ok (.getfield 254, 3) := by decide +kernel
theorem dX5_leave_7 : decode cX5_leave 7 = .ok (.imul, 1) := by decide +kernel
theorem dX5_leave_8 : decode cX5_leave 8 = .ok (.iload_n 1, 1) := by decide +kernel
theorem dX5_leave_9 : decode cX5_leave 9 = .ok (.iadd, 1) := by decide +kernel
theorem dX5_leave_10 : decode cX5_leave 10 = .ok (.putfield 254, 3) := by decide +kernel
theorem dX5_leave_13 : decode cX5_leave 13 = .ok (.return_, 1) := by decide +kernel
set_option maxRecDepth 20000 in
theorem ggX5_sleeperTells_X5_leave : GoodIn wsX5_sleeperTells wsX5_leave := goodIn_r _ [7, 8, 9, 10, 11, 12, 13, 14, 15, 16, 17, 18] (by decide +kernel) (by decide +kernel)
set_option maxRecDepth 20000 in
theorem gX5_sleeperTells_X5_leave : GoodIn wsX5_sleeperTells (wsV RX5 276 RX5 yX5_leave wsX5_leave) := goodIn_app (goodIn_of _ (by decide +kernel)) ggX5_sleeperTells_X5_leave
theorem dX5_sleeperTells_0 : decode cX5_sleeperTells 0 = .ok (.aload_n 0, 1) := by decide +kernel
theorem dX5_sleeperTells_1 : decode cX5_sleeperTells 1 = .ok (.iconst 1, 1) := by decide +kernel
theorem dX5_sleeperTells_2 : decode cX5_sleeperTells 2 = .ok (.invokevirtual 276, 3) := by decide +kernel
theorem dX5_sleeperTells_5 : decode cX5_sleeperTells 5 = .ok (.aload_n 0, 1) := by decide +kernel
theorem dX5_sleeperTells_6 : decode cX5_sleeperTells 6 = .ok (.getfield 12, 3) := by decide +kernel
theorem dX5_sleeperTells_9 : decode cX5_sleeperTells 9 = .ok (.getfield 98, 3) := by decide +kernel
theorem dX5_sleeperTells_12 : decode cX5_sleeperTells 12 = .ok (.iload_n 1, 1) := by decide +kernel
theorem dX5_sleeperTells_13 : decode cX5_sleeperTells 13 = .ok (.iaload, 1) := by decide +kernel
theorem dX5_sleeperTells_14 : decode cX5_sleeperTells 14 = .ok (.ireturn, 1) := by decide +kernel
set_option maxRecDepth 20000 in
theorem ggX5_nervousTells_X5_leave : GoodIn wsX5_nervousTells wsX5_leave := goodIn_r _ [5, 6, 13, 14, 15, 16, 17, 18, 19, 20, 21, 22] (by decide +kernel) (by decide +kernel)
set_option maxRecDepth 20000 in
theorem gX5_nervousTells_X5_leave : GoodIn wsX5_nervousTells (wsV RX5 276 RX5 yX5_leave wsX5_leave) := goodIn_app (goodIn_of _ (by decide +kernel)) ggX5_nervousTells_X5_leave
set_option maxRecDepth 20000 in
theorem ggX5_nervousTells_X5_sleeperTells : GoodIn wsX5_nervousTells wsX5_sleeperTells := goodIn_r _ [10, 11, 12, 1, 2, 3, 4, 5, 6, 13, 14, 15, 16, 17, 18, 19, 20, 21, 22, 23, 24, 25, 26, 27, 28, 29, 30, 31, 32] (by decide +kernel) (by decide +kernel)
set_option maxRecDepth 20000 in
theorem gX5_nervousTells_X5_sleeperTells : GoodIn wsX5_nervousTells (wsV RX5 245 RX5 yX5_sleeperTells wsX5_sleeperTells) := goodIn_app (goodIn_of _ (by decide +kernel)) ggX5_nervousTells_X5_sleeperTells
theorem dX5_nervousTells_0 : decode cX5_nervousTells 0 = .ok (.aload_n 0, 1) := by decide +kernel
theorem dX5_nervousTells_1 : decode cX5_nervousTells 1 = .ok (.iconst 2, 1) := by decide +kernel
theorem dX5_nervousTells_2 : decode cX5_nervousTells 2 = .ok (.invokevirtual 276, 3) := by decide +kernel
theorem dX5_nervousTells_5 : decode cX5_nervousTells 5 = .ok (.aload_n 0, 1) := by decide +kernel
theorem dX5_nervousTells_6 : decode cX5_nervousTells 6 = .ok (.iload_n 1, 1) := by decide +kernel
theorem dX5_nervousTells_7 : decode cX5_nervousTells 7 = .ok (.invokevirtual 245, 3) := by decide +kernel
theorem dX5_nervousTells_10 : decode cX5_nervousTells 10 = .ok (.bipush 100, 2) := by decide +kernel
theorem dX5_nervousTells_12 : decode cX5_nervousTells 12 = .ok (.iadd, 1) := by decide +kernel
theorem dX5_nervousTells_13 : decode cX5_nervousTells 13 = .ok (.ireturn, 1) := by decide +kernel
set_option maxRecDepth 20000 in
theorem ggX5_babyTells_X5_leave : GoodIn wsX5_babyTells wsX5_leave := goodIn_r _ [5, 6, 17, 18, 19, 20, 21, 22, 23, 24, 25, 26] (by decide +kernel) (by decide +kernel)
set_option maxRecDepth 20000 in
theorem gX5_babyTells_X5_leave : GoodIn wsX5_babyTells (wsV RX5 276 RX5 yX5_leave wsX5_leave) := goodIn_app (goodIn_of _ (by decide +kernel)) ggX5_babyTells_X5_leave
set_option maxRecDepth 20000 in
theorem ggX5_babyTells_X5_nervousTells : GoodIn wsX5_babyTells wsX5_nervousTells := goodIn_r _ [10, 1, 2, 3, 4, 5, 6, 11, 12, 13, 14, 15, 16, 17, 18, 19, 20, 21, 22, 23, 24, 25, 26, 27, 28, 29, 30, 31, 32, 33, 34, 35, 36] (by decide +kernel) (by decide +kernel)
set_option maxRecDepth 20000 in
theorem gX5_babyTells_X5_nervousTells : GoodIn wsX5_babyTells (wsV RX5 239 RX5 yX5_nervousTells wsX5_nervousTells) := goodIn_app (goodIn_of _ (by decide +kernel)) ggX5_babyTells_X5_nervousTells
set_option maxRecDepth 20000 in
theorem ggX5_babyTells_X5_sleeperTells : GoodIn wsX5_babyTells wsX5_sleeperTells := goodIn_r _ [14, 15, 16, 1, 2, 3, 4, 5, 6, 17, 18, 19, 20, 21, 22, 23, 24, 25, 26, 27, 28, 29, 30, 31, 32, 33, 34, 35, 36] (by decide +kernel) (by decide +kernel)
set_option maxRecDepth 20000 in
theorem gX5_babyTells_X5_sleeperTells : GoodIn wsX5_babyTells (wsV RX5 245 RX5 yX5_sleeperTells wsX5_sleeperTells) := goodIn_app (goodIn_of _ (by decide +kernel)) ggX5_babyTells_X5_sleeperTells
theorem dX5_babyTells_0 : decode cX5_babyTells 0 = .ok (.aload_n 0, 1) := by decide +kernel
theorem dX5_babyTells_1 : decode cX5_babyTells 1 = .ok (.iconst 3, 1) := by decide +kernel
theorem dX5_babyTells_2 : decode cX5_babyTells 2 = .ok (.invokevirtual 276, 3) := by decide +kernel
theorem dX5_babyTells_5 : decode cX5_babyTells 5 = .ok (.aload_n 0, 1) := by decide +kernel
theorem dX5_babyTells_6 : decode cX5_babyTells 6 = .ok (.iload_n 1, 1) := by decide +kernel
theorem dX5_babyTells_7 : decode cX5_babyTells 7 = .ok (.invokevirtual 239, 3) := by decide +kernel
theorem dX5_babyTells_10 : decode cX5_babyTells 10 = .ok (.istore_n 2, 1) := by decide +kernel
theorem dX5_babyTells_11 : decode cX5_babyTells 11 = .ok (.iload_n 2, 1) := by decide +kernel
theorem dX5_babyTells_12 : decode cX5_babyTells 12 = .ok (.aload_n 0, 1) := by decide +kernel
theorem dX5_babyTells_13 : decode cX5_babyTells 13 = .ok (.iload_n 1, 1) := by decide +kernel
theorem dX5_babyTells_14 : decode cX5_babyTells 14 = .ok (.invokevirtual 245, 3) := by decide +kernel
theorem dX5_babyTells_17 : decode cX5_babyTells 17 = .ok (.iadd, 1) := by decide +kernel
theorem dX5_babyTells_18 : decode cX5_babyTells 18 = .ok (.ireturn, 1) := by decide +kernel
set_option maxRecDepth 20000 in
theorem ggX5_sleeperIsCalled_X5_leave : GoodIn wsX5_sleeperIsCalled wsX5_leave := goodIn_r _ [5, 6, 7, 8, 9, 10, 11, 12, 13, 14, 15, 16] (by decide +kernel) (by decide +kernel)
set_option maxRecDepth 20000 in
theorem gX5_sleeperIsCalled_X5_leave : GoodIn wsX5_sleeperIsCalled (wsV RX5 276 RX5 yX5_leave wsX5_leave) := goodIn_app (goodIn_of _ (by decide +kernel)) ggX5_sleeperIsCalled_X5_leave
theorem dX5_sleeperIsCalled_0 : decode cX5_sleeperIsCalled 0 = .ok (.aload_n 0, 1) := by decide +kernel
theorem dX5_sleeperIsCalled_1 : decode cX5_sleeperIsCalled 1 = .ok (.iconst 4, 1) := by decide +kernel
theorem dX5_sleeperIsCalled_2 : decode cX5_sleeperIsCalled 2 = .ok (.invokevirtual 276, 3) := by decide +kernel
theorem dX5_sleeperIsCalled_5 : decode cX5_sleeperIsCalled 5 = .ok (.iload_n 1, 1) := by decide +kernel
theorem dX5_sleeperIsCalled_6 : decode cX5_sleeperIsCalled 6 = .ok (.ireturn, 1) := by decide +kernel
set_option maxRecDepth 20000 in
theorem ggX5_babyIsCalled_X5_leave : GoodIn wsX5_babyIsCalled wsX5_leave := goodIn_r _ [5, 6, 7, 8, 9, 10, 11, 12, 13, 14, 15, 16] (by decide +kernel) (by decide +kernel)
set_option maxRecDepth 20000 in
theorem gX5_babyIsCalled_X5_leave : GoodIn wsX5_babyIsCalled (wsV RX5 276 RX5 yX5_leave wsX5_leave) := goodIn_app (goodIn_of _ (by decide +kernel)) ggX5_babyIsCalled_X5_leave
theorem dX5_babyIsCalled_0 : decode cX5_babyIsCalled 0 = .ok (.aload_n 0, 1) := by decide +kernel
theorem dX5_babyIsCalled_1 : decode cX5_babyIsCalled 1 = .ok (.iconst 5, 1) := by decide +kernel
theorem dX5_babyIsCalled_2 : decode cX5_babyIsCalled 2 = .ok (.invokevirtual 276, 3) := by decide +kernel
theorem dX5_babyIsCalled_5 : decode cX5_babyIsCalled 5 = .ok (.bipush 80, 2) := by decide +kernel
theorem dX5_babyIsCalled_7 : decode cX5_babyIsCalled 7 = .ok (.ireturn, 1) := by decide +kernel
theorem dX6_init_0 : decode cX6_init 0 = .ok (.aload_n 0, 1) := by decide +kernel
theorem dX6_init_1 : decode cX6_init 1 = .ok (.invokespecial 1, 3) := by decide +kernel
theorem dX6_init_4 : decode cX6_init 4 = .ok (.aload_n 0, 1) := by decide +kernel
theorem dX6_init_5 : decode cX6_init 5 = .ok (.iconst 4, 1) := by decide +kernel
theorem dX6_init_6 : decode cX6_init 6 = .ok (.newarray .int, 2) := by decide +kernel
theorem dX6_init_8 : decode cX6_init 8 = .ok (.dup, 1) := by decide +kernel
theorem dX6_init_9 : decode cX6_init 9 = .ok (.iconst 0, 1) := by decide +kernel
theorem dX6_init_10 : decode cX6_init 10 = .ok (.bipush (-9), 2) := by decide +kernel
theorem dX6_init_12 : decode cX6_init 12 = .ok (.iastore, 1) := by decide +kernel
theorem dX6_init_13 : decode cX6_init 13 = .ok (.dup, 1) := by decide +kernel
theorem dX6_init_14 : decode cX6_init 14 = .ok (.iconst 1, 1) := by decide +kernel
theorem dX6_init_15 : decode cX6_init 15 = .ok (.bipush (-9), 2) := by decide +kernel
theorem dX6_init_17 : decode cX6_init 17 = .ok (.iastore, 1) := by decide +kernel
theorem dX6_init_18 : decode cX6_init 18 = .ok (.dup, 1) := by decide +kernel
theorem dX6_init_19 : decode cX6_init 19 = .ok (.iconst 2, 1) := by decide +kernel
theorem dX6_init_20 : decode cX6_init 20 = .ok (.bipush (-9), 2) := by decide +kernel
theorem dX6_init_22 : decode cX6_init 22 = .ok (.iastore, 1) := by decide +kernel
theorem dX6_init_23 : decode cX6_init 23 = .ok (.dup, 1) := by decide +kernel
theorem dX6_init_24 : decode cX6_init 24 = .ok (.iconst 3, 1) := by decide +kernel
theorem dX6_init_25 : decode cX6_init 25 = .ok (.bipush (-9), 2) := by decide +kernel
theorem dX6_init_27 : decode cX6_init 27 = .ok (.iastore, 1) := by decide +kernel
theorem dX6_init_28 : decode cX6_init 28 = .ok (.putfield 9, 3) := by decide +kernel
theorem dX6_init_31 : decode cX6_init 31 = .ok (.aload_n 0, 1) := by decide +kernel
theorem dX6_init_32 : decode cX6_init 32 = .ok (.iconst 4, 1) := by decide +kernel
theorem dX6_init_33 : decode cX6_init 33 = .ok (.newarray .int, 2) := by decide +kernel
theorem dX6_init_35 : decode cX6_init 35 = .ok (.putfield 13, 3) := by decide +kernel
theorem dX6_init_38 : decode cX6_init 38 = .ok (.aload_n 0, 1) := by decide +kernel
theorem dX6_init_39 : decode cX6_init 39 = .ok (.sipush 240, 3) := by decide +kernel
theorem dX6_init_42 : decode cX6_init 42 = .ok (.newarray .int, 2) := by decide +kernel
theorem dX6_init_44 : decode cX6_init 44 = .ok (.putfield 16, 3) := by decide +kernel
theorem dX6_init_47 : decode cX6_init 47 = .ok (.aload_n 0, 1) := by decide +kernel
theorem dX6_init_48 : decode cX6_init 48 = .ok (.bipush 6, 2) := by decide +kernel
theorem dX6_init_50 : decode cX6_init 50 = .ok (.newarray .int, 2) := by decide +kernel
theorem dX6_init_52 : decode cX6_init 52 = .ok (.putfield 19, 3) := by decide +kernel
theorem dX6_init_55 : decode cX6_init 55 = .ok (.aload_n 0, 1) := by decide +kernel
theorem dX6_init_56 : decode cX6_init 56 = .ok (.bipush 6, 2) := by decide +kernel
theorem dX6_init_58 : decode cX6_init 58 = .ok (.newarray .int, 2) := by decide +kernel
theorem dX6_init_60 : decode cX6_init 60 = .ok (.putfield 22, 3) := by decide +kernel
theorem dX6_init_63 : decode cX6_init 63 = .ok (.aload_n 0, 1) := by decide +kernel
theorem dX6_init_64 : decode cX6_init 64 = .ok (.iconst 4, 1) := by decide +kernel
theorem dX6_init_65 : decode cX6_init 65 = .ok (.newarray .int, 2) := by decide +kernel
theorem dX6_init_67 : decode cX6_init 67 = .ok (.putfield 25, 3) := by decide +kernel
theorem dX6_init_70 : decode cX6_init 70 = .ok (.aload_n 0, 1) := by decide +kernel
theorem dX6_init_71 : decode cX6_init 71 = .ok (.iconst 4, 1) := by decide +kernel
theorem dX6_init_72 : decode cX6_init 72 = .ok (.newarray .int, 2) := by decide +kernel
theorem dX6_init_74 : decode cX6_init 74 = .ok (.putfield 28, 3) := by decide +kernel
theorem dX6_init_77 : decode cX6_init 77 = .ok (.aload_n 0, 1) := by decide +kernel
theorem dX6_init_78 : decode cX6_init 78 = .ok (.bipush 12, 2) := by decide +kernel
theorem dX6_init_80 : decode cX6_init 80 = .ok (.newarray .int, 2) := by decide +kernel
theorem dX6_init_82 : decode cX6_init 82 = .ok (.putfield 31, 3) := by decide +kernel
theorem dX6_init_85 : decode cX6_init 85 = .ok (.aload_n 0, 1) := by decide +kernel
theorem dX6_init_86 : decode cX6_init 86 = .ok (.bipush 8, 2) := by decide +kernel
theorem dX6_init_88 : decode cX6_init 88 = .ok (.newarray .int, 2) := by decide +kernel
theorem dX6_init_90 : decode cX6_init 90 = .ok (.putfield 34, 3) := by decide +kernel
theorem dX6_init_93 : decode cX6_init 93 = .ok (.aload_n 0, 1) := by decide +kernel
theorem dX6_init_94 : decode cX6_init 94 = .ok (.iconst 4, 1) := by decide +kernel
theorem dX6_init_95 : decode cX6_init 95 = .ok (.newarray .int, 2) := by decide +kernel
theorem dX6_init_97 : decode cX6_init 97 = .ok (.putfield 37, 3) := by decide +kernel
theorem dX6_init_100 : decode cX6_init 100 = .ok (.aload_n 0, 1) := by decide +kernel
theorem dX6_init_101 : decode cX6_init 101 = .ok (.iconst 4, 1) := by decide +kernel
theorem dX6_init_102 : decode cX6_init 102 = .ok (.newarray .int, 2) := by decide +kernel
theorem dX6_init_104 : decode cX6_init 104 = .ok (.putfield 40, 3) := by decide +kernel
theorem dX6_init_107 : decode cX6_init 107 = .ok (.aload_n 0, 1) := by decide +kernel
theorem dX6_init_108 : decode cX6_init 108 = .ok (.iconst 4, 1) := by decide +kernel
theorem dX6_init_109 : decode cX6_init 109 = .ok (.newarray .int, 2) := by decide +kernel
theorem dX6_init_111 : decode cX6_init 111 = .ok (.putfield 43, 3) := by decide +kernel
theorem dX6_init_114 : decode cX6_init 114 = .ok (.aload_n 0, 1) := by decide +kernel
theorem dX6_init_115 : decode cX6_init 115 = .ok (.bipush 8, 2) := by decide +kernel
theorem dX6_init_117 : decode cX6_init 117 = .ok (.newarray .int, 2) := by decide +kernel
theorem dX6_init_119 : decode cX6_init 119 = .ok (.putfield 46, 3) := by decide +kernel
theorem dX6_init_122 : decode cX6_init 122 = .ok (.aload_n 0, 1) := by decide +kernel
theorem dX6_init_123 : decode cX6_init 123 = .ok (.bipush 8, 2) := by decide +kernel
theorem dX6_init_125 : decode cX6_init 125 = .ok (.newarray .int, 2) := by decide +kernel
theorem dX6_init_127 : decode cX6_init 127 = .ok (.putfield 49, 3) := by decide +kernel
theorem dX6_init_130 : decode cX6_init 130 = .ok (.aload_n 0, 1) := by decide +kernel
theorem dX6_init_131 : decode cX6_init 131 = .ok (.bipush 8, 2) := by decide +kernel
theorem dX6_init_133 : decode cX6_init 133 = .ok (.newarray .int, 2) := by decide +kernel
theorem dX6_init_135 : decode cX6_init 135 = .ok (.putfield 52, 3) := by decide +kernel
theorem dX6_init_138 : decode cX6_init 138 = .ok (.aload_n 0, 1) := by decide +kernel
theorem dX6_init_139 : decode cX6_init 139 = .ok (.bipush 8, 2) := by decide +kernel
theorem dX6_init_141 : decode cX6_init 141 = .ok (.newarray .int, 2) := by decide +kernel
theorem dX6_init_143 : decode cX6_init 143 = .ok (.putfield 55, 3) := by decide +kernel
theorem dX6_init_146 : decode cX6_init 146 = .ok (.return_, 1) := by decide +kernel
theorem dX6_fails_0 : decode cX6_fails 0 = .ok (.aload_n 0, 1) := by decide +kernel
theorem dX6_fails_1 : decode cX6_fails 1 = .ok (.iload_n 1, 1) := by decide +kernel
theorem dX6_fails_2 : decode cX6_fails 2 = .ok (.putfield 58, 3) := by decide +kernel
theorem dX6_fails_5 : decode cX6_fails 5 = .ok (.bipush (-10), 2) := by decide +kernel
theorem dX6_fails_7 : decode cX6_fails 7 = .ok (.iload_n 1, 1) := by decide +kernel
theorem dX6_fails_8 : decode cX6_fails 8 = .ok (.isub, 1) := by decide +kernel
theorem dX6_fails_9 : decode cX6_fails 9 = .ok (.ireturn, 1) := by decide +kernel
theorem dX6_lost_0 : decode cX6_lost 0 = .ok (.aload_n 0, 1) := by decide +kernel
theorem dX6_lost_1 : decode cX6_lost 1 = .ok (.iload_n 1, 1) := by decide +kernel
theorem dX6_lost_2 : decode cX6_lost 2 = .ok (.putfield 58, 3) := by decide +kernel
theorem dX6_lost_5 : decode cX6_lost 5 = .ok (.ldc2_w 62, 3) := by decide +kernel
theorem dX6_lost_8 : decode cX6_lost 8 = .ok (.lreturn, 1) := by decide +kernel
theorem dX6_within_0 : decode cX6_within 0 = .ok (.iload_n 0, 1) := by decide +kernel
theorem dX6_within_1 : decode cX6_within 1 = .ok (.iload_n 1, 1) := by decide +kernel
theorem dX6_within_2 : decode cX6_within 2 = .ok (.if_icmp .lt 12, 3) := by decide +kernel
theorem dX6_within_5 : decode cX6_within 5 = .ok (.iload_n 0, 1) := by decide +kernel
theorem dX6_within_6 : decode cX6_within 6 = .ok (.iload_n 2, 1) := by decide +kernel
theorem dX6_within_7 : decode cX6_within 7 = .ok (.if_icmp .gt 7, 3) := by decide +kernel
theorem dX6_within_10 : decode cX6_within 10 = .ok (.iconst 1, 1) := by decide +kernel
theorem dX6_within_11 : decode cX6_within 11 = .ok (.goto 4, 3) := by decide +kernel
theorem dX6_within_14 : decode cX6_within 14 = .ok (.iconst 0, 1) := by decide +kernel
theorem dX6_within_15 : decode cX6_within 15 = .ok (.ireturn, 1) := by decide +kernel
set_option maxRecDepth 20000 in
theorem ggX6_isSheet_X6_within : GoodIn wsX6_isSheet wsX6_within := goodIn_r _ [4] (by decide +kernel) (by decide +kernel)
set_option maxRecDepth 20000 in
theorem gX6_isSheet_X6_within : GoodIn wsX6_isSheet (va_wsS RX6 64 yX6_within wsX6_within) := goodIn_app (goodIn_of _ (by decide +kernel)) ggX6_isSheet_X6_within
theorem dX6_isSheet_0 : decode cX6_isSheet 0 = .ok (.iload_n 0, 1) := by decide +kernel
theorem dX6_isSheet_1 : decode cX6_isSheet 1 = .ok (.iconst 0, 1) := by decide +kernel
theorem dX6_isSheet_2 : decode cX6_isSheet 2 = .ok (.iconst 3, 1) := by decide +kernel
theorem dX6_isSheet_3 : decode cX6_isSheet 3 = .ok (.invokestatic 64, 3) := by decide +kernel
theorem dX6_isSheet_6 : decode cX6_isSheet 6 = .ok (.ireturn, 1) := by decide +kernel
set_option maxRecDepth 20000 in
theorem ggX6_isSort_X6_within : GoodIn wsX6_isSort wsX6_within := goodIn_r _ [4] (by decide +kernel) (by decide +kernel)
set_option maxRecDepth 20000 in
theorem gX6_isSort_X6_within : GoodIn wsX6_isSort (va_wsS RX6 64 yX6_within wsX6_within) := goodIn_app (goodIn_of _ (by decide +kernel)) ggX6_isSort_X6_within
theorem dX6_isSort_0 : decode cX6_isSort 0 = .ok (.iload_n 0, 1) := by decide +kernel
theorem dX6_isSort_1 : decode cX6_isSort 1 = .ok (.iconst 0, 1) := by decide +kernel
theorem dX6_isSort_2 : decode cX6_isSort 2 = .ok (.iconst 2, 1) := by decide +kernel
theorem dX6_isSort_3 : decode cX6_isSort 3 = .ok (.invokestatic 64, 3) := by decide +kernel
theorem dX6_isSort_6 : decode cX6_isSort 6 = .ok (.ireturn, 1) := by decide +kernel
theorem dX6_against_0 : decode cX6_against 0 = .ok (.aload_n 0, 1) := by decide +kernel
theorem dX6_against_1 : decode cX6_against 1 = .ok (.getfield 9, 3) := by decide +kernel
theorem dX6_against_4 : decode cX6_against 4 = .ok (.iload_n 1, 1) := by decide +kernel
theorem dX6_against_5 : decode cX6_against 5 = .ok (.iaload, 1) := by decide +kernel
theorem dX6_against_6 : decode cX6_against 6 = .ok (.bipush (-9), 2) := by decide +kernel
theorem dX6_against_8 : decode cX6_against 8 = .ok (.if_icmp .eq 15, 3) := by decide +kernel
theorem dX6_against_11 : decode cX6_against 11 = .ok (.aload_n 0, 1) := by decide +kernel
theorem dX6_against_12 : decode cX6_against 12 = .ok (.getfield 9, 3) := by decide +kernel
theorem dX6_against_15 : decode cX6_against 15 = .ok (.iload_n 1, 1) := by decide +kernel
theorem dX6_against_16 : decode cX6_against 16 = .ok (.iaload, 1) := by decide +kernel
theorem dX6_against_17 : decode cX6_against 17 = .ok (.iload_n 2, 1) := by decide +kernel
theorem dX6_against_18 : decode cX6_against 18 = .ok (.if_icmp .eq 5, 3) := by decide +kernel
theorem dX6_against_21 : decode cX6_against 21 = .ok (.iconst 2, 1) := by decide +kernel
theorem dX6_against_22 : decode cX6_against 22 = .ok (.ireturn, 1) := by decide +kernel
theorem dX6_against_23 : decode cX6_against 23 = .ok (.aload_n 0, 1) := by decide +kernel
theorem dX6_against_24 : decode cX6_against 24 = .ok (.getfield 9, 3) := by decide +kernel
theorem dX6_against_27 : decode cX6_against 27 = .ok (.iload_n 1, 1) := by decide +kernel
theorem dX6_against_28 : decode cX6_against 28 = .ok (.iaload, 1) := by decide +kernel
theorem dX6_against_29 : decode cX6_against 29 = .ok (.bipush (-9), 2) := by decide +kernel
theorem dX6_against_31 : decode cX6_against 31 = .ok (.if_icmp .ne 5, 3) := by decide +kernel
theorem dX6_against_34 : decode cX6_against 34 = .ok (.iconst 1, 1) := by decide +kernel
theorem dX6_against_35 : decode cX6_against 35 = .ok (.ireturn, 1) := by decide +kernel
theorem dX6_against_36 : decode cX6_against 36 = .ok (.iload 4, 2) := by decide +kernel
theorem dX6_against_38 : decode cX6_against 38 = .ok (.ifCond .ge 5, 3) := by decide +kernel
theorem dX6_against_41 : decode cX6_against 41 = .ok (.iconst 4, 1) := by decide +kernel
theorem dX6_against_42 : decode cX6_against 42 = .ok (.ireturn, 1) := by decide +kernel
theorem dX6_against_43 : decode cX6_against 43 = .ok (.iload_n 3, 1) := by decide +kernel
theorem dX6_against_44 : decode cX6_against 44 = .ok (.ifCond .lt 26, 3) := by decide +kernel
theorem dX6_against_47 : decode cX6_against 47 = .ok (.iload_n 3, 1) := by decide +kernel
theorem dX6_against_48 : decode cX6_against 48 = .ok (.aload_n 0, 1) := by decide +kernel
theorem dX6_against_49 : decode cX6_against 49 = .ok (.getfield 13, 3) := by decide +kernel
theorem dX6_against_52 : decode cX6_against 52 = .ok (.iload_n 1, 1) := by decide +kernel
theorem dX6_against_53 : decode cX6_against 53 = .ok (.iaload, 1) := by decide +kernel
theorem dX6_against_54 : decode cX6_against 54 = .ok (.if_icmp .gt 16, 3) := by decide +kernel
theorem dX6_against_57 : decode cX6_against 57 = .ok (.iload 4, 2) := by decide +kernel
theorem dX6_against_59 : decode cX6_against 59 = .ok (.aload_n 0, 1) := by decide +kernel
theorem dX6_against_60 : decode cX6_against 60 = .ok (.getfield 13, 3) := by decide +kernel
theorem dX6_against_63 : decode cX6_against 63 = .ok (.iload_n 1, 1) := by decide +kernel
theorem dX6_against_64 : decode cX6_against 64 = .ok (.iaload, 1) := by decide +kernel
theorem dX6_against_65 : decode cX6_against 65 = .ok (.iload_n 3, 1) := by decide +kernel
theorem dX6_against_66 : decode cX6_against 66 = .ok (.isub, 1) := by decide +kernel
theorem dX6_against_67 : decode cX6_against 67 = .ok (.if_icmp .le 7, 3) := by decide +kernel
theorem dX6_against_70 : decode cX6_against 70 = .ok (.iconst 3, 1) := by decide +kernel
theorem dX6_against_71 : decode cX6_against 71 = .ok (.goto 4, 3) := by decide +kernel
theorem dX6_against_74 : decode cX6_against 74 = .ok (.iconst 0, 1) := by decide +kernel
theorem dX6_against_75 : decode cX6_against 75 = .ok (.ireturn, 1) := by decide +kernel
theorem dX6_isHouse_0 : decode cX6_isHouse 0 = .ok (.iload_n 1, 1) := by decide +kernel
theorem dX6_isHouse_1 : decode cX6_isHouse 1 = .ok (.ifCond .lt 15, 3) := by decide +kernel
theorem dX6_isHouse_4 : decode cX6_isHouse 4 = .ok (.iload_n 1, 1) := by decide +kernel
theorem dX6_isHouse_5 : decode cX6_isHouse 5 = .ok (.aload_n 0, 1) := by decide +kernel
theorem dX6_isHouse_6 : decode cX6_isHouse 6 = .ok (.getfield 68, 3) := by decide +kernel
theorem dX6_isHouse_9 : decode cX6_isHouse 9 = .ok (.if_icmp .ge 7, 3) := by decide +kernel
theorem dX6_isHouse_12 : decode cX6_isHouse 12 = .ok (.iconst 1, 1) := by decide +kernel
theorem dX6_isHouse_13 : decode cX6_isHouse 13 = .ok (.goto 4, 3) := by decide +kernel
theorem dX6_isHouse_16 : decode cX6_isHouse 16 = .ok (.iconst 0, 1) := by decide +kernel
theorem dX6_isHouse_17 : decode cX6_isHouse 17 = .ok (.ireturn, 1) := by decide +kernel
theorem dX6_isClock_0 : decode cX6_isClock 0 = .ok (.iload_n 1, 1) := by decide +kernel
theorem dX6_isClock_1 : decode cX6_isClock 1 = .ok (.ifCond .lt 15, 3) := by decide +kernel
theorem dX6_isClock_4 : decode cX6_isClock 4 = .ok (.iload_n 1, 1) := by decide +kernel
theorem dX6_isClock_5 : decode cX6_isClock 5 = .ok (.aload_n 0, 1) := by decide +kernel
theorem dX6_isClock_6 : decode cX6_isClock 6 = .ok (.getfield 71, 3) := by decide +kernel
theorem dX6_isClock_9 : decode cX6_isClock 9 = .ok (.if_icmp .ge 7, 3) := by decide +kernel
theorem dX6_isClock_12 : decode cX6_isClock 12 = .ok (.iconst 1, 1) := by decide +kernel
theorem dX6_isClock_13 : decode cX6_isClock 13 = .ok (.goto 4, 3) := by decide +kernel
theorem dX6_isClock_16 : decode cX6_isClock 16 = .ok (.iconst 0, 1) := by decide +kernel
theorem dX6_isClock_17 : decode cX6_isClock 17 = .ok (.ireturn, 1) := by decide +kernel
theorem dX6_isOf_0 : decode cX6_isOf 0 = .ok (.iload_n 0, 1) := by decide +kernel
theorem dX6_isOf_1 : decode cX6_isOf 1 = .ok (.iload_n 1, 1) := by decide +kernel
theorem dX6_isOf_2 : decode cX6_isOf 2 = .ok (.ishr, 1) := by decide +kernel
theorem dX6_isOf_3 : decode cX6_isOf 3 = .ok (.iconst 1, 1) := by decide +kernel
theorem dX6_isOf_4 : decode cX6_isOf 4 = .ok (.iand, 1) := by decide +kernel
theorem dX6_isOf_5 : decode cX6_isOf 5 = .ok (.iconst 1, 1) := by decide +kernel
theorem dX6_isOf_6 : decode cX6_isOf 6 = .ok (.if_icmp .ne 7, 3) := by decide +kernel
theorem dX6_isOf_9 : decode cX6_isOf 9 = .ok (.iconst 1, 1) := by decide +kernel
theorem dX6_isOf_10 : decode cX6_isOf 10 = .ok (.goto 4, 3) := by decide +kernel
theorem dX6_isOf_13 : decode cX6_isOf 13 = .ok (.iconst 0, 1) := by decide +kernel
theorem dX6_isOf_14 : decode cX6_isOf 14 = .ok (.ireturn, 1) := by decide +kernel
theorem dX6_size_0 : decode cX6_size 0 = .ok (.iconst 0, 1) := by decide +kernel
theorem dX6_size_1 : decode cX6_size 1 = .ok (.istore_n 1, 1) := by decide +kernel
theorem dX6_size_2 : decode cX6_size 2 = .ok (.iload_n 0, 1) := by decide +kernel
theorem dX6_size_3 : decode cX6_size 3 = .ok (.istore_n 2, 1) := by decide +kernel
theorem dX6_size_4 : decode cX6_size 4 = .ok (.iload_n 2, 1) := by decide +kernel
theorem dX6_size_5 : decode cX6_size 5 = .ok (.ifCond .le 16, 3) := by decide +kernel
theorem dX6_size_8 : decode cX6_size 8 = .ok (.iload_n 1, 1) := by decide +kernel
theorem dX6_size_9 : decode cX6_size 9 = .ok (.iload_n 2, 1) := by decide +kernel
theorem dX6_size_10 : decode cX6_size 10 = .ok (.iconst 1, 1) := by decide +kernel
theorem dX6_size_11 : decode cX6_size 11 = .ok (.iand, 1) := by decide +kernel
theorem dX6_size_12 : decode cX6_size 12 = .ok (.iadd, 1) := by decide +kernel
theorem dX6_size_13 : decode cX6_size 13 = .ok (.istore_n 1, 1) := by decide +kernel
theorem dX6_size_14 : decode cX6_size 14 = .ok (.iload_n 2, 1) := by decide +kernel
theorem dX6_size_15 : decode cX6_size 15 = .ok (.iconst 1, 1) := by decide +kernel
theorem dX6_size_16 : decode cX6_size 16 = .ok (.ishr, 1) := by decide +kernel
theorem dX6_size_17 : decode cX6_size 17 = .ok (.istore_n 2, 1) := by decide +kernel
theorem dX6_size_18 : decode cX6_size 18 = .ok (.goto (-14), 3) := by decide +kernel
theorem dX6_size_21 : decode cX6_size 21 = .ok (.iload_n 1, 1) := by decide +kernel
theorem dX6_size_22 : decode cX6_size 22 = .ok (.ireturn, 1) := by decide +kernel
set_option maxRecDepth 20000 in
theorem ggX6_digit_X6_within : GoodIn wsX6_digit wsX6_within := goodIn_r _ [6] (by decide +kernel) (by decide +kernel)
set_option maxRecDepth 20000 in
theorem gX6_digit_X6_within : GoodIn wsX6_digit (va_wsS RX6 64 yX6_within wsX6_within) := goodIn_app (goodIn_of _ (by decide +kernel)) ggX6_digit_X6_within
theorem dX6_digit_0 : decode cX6_digit 0 = .ok (.aload_n 0, 1) := by decide +kernel
theorem dX6_digit_1 : decode cX6_digit 1 = .ok (.getfield 74, 3) := by decide +kernel
theorem dX6_digit_4 : decode cX6_digit 4 = .ok (.iload_n 1, 1) := by decide +kernel
theorem dX6_digit_5 : decode cX6_digit 5 = .ok (.if_icmp .ge 26, 3) := by decide +kernel
theorem dX6_digit_8 : decode cX6_digit 8 = .ok (.aload_n 0, 1) := by decide +kernel
theorem dX6_digit_9 : decode cX6_digit 9 = .ok (.getfield 16, 3) := by decide +kernel
theorem dX6_digit_12 : decode cX6_digit 12 = .ok (.aload_n 0, 1) := by decide +kernel
theorem dX6_digit_13 : decode cX6_digit 13 = .ok (.getfield 74, 3) := by decide +kernel
theorem dX6_digit_16 : decode cX6_digit 16 = .ok (.iaload, 1) := by decide +kernel
theorem dX6_digit_17 : decode cX6_digit 17 = .ok (.bipush 48, 2) := by decide +kernel
theorem dX6_digit_19 : decode cX6_digit 19 = .ok (.iload_n 2, 1) := by decide +kernel
theorem dX6_digit_20 : decode cX6_digit 20 = .ok (.iadd, 1) := by decide +kernel
theorem dX6_digit_21 : decode cX6_digit 21 = .ok (.bipush 48, 2) := by decide +kernel
theorem dX6_digit_23 : decode cX6_digit 23 = .ok (.iload_n 3, 1) := by decide +kernel
theorem dX6_digit_24 : decode cX6_digit 24 = .ok (.iadd, 1) := by decide +kernel
theorem dX6_digit_25 : decode cX6_digit 25 = .ok (.invokestatic 64, 3) := by decide +kernel
theorem dX6_digit_28 : decode cX6_digit 28 = .ok (.ifCond .ne 6, 3) := by decide +kernel
theorem dX6_digit_31 : decode cX6_digit 31 = .ok (.bipush (-9), 2) := by decide +kernel
theorem dX6_digit_33 : decode cX6_digit 33 = .ok (.ireturn, 1) := by decide +kernel
theorem dX6_digit_34 : decode cX6_digit 34 = .ok (.aload_n 0, 1) := by decide +kernel
theorem dX6_digit_35 : decode cX6_digit 35 = .ok (.dup, 1) := by decide +kernel
theorem dX6_digit_36 : decode cX6_digit 36 = .ok (.getfield 74, 3) := by decide +kernel
theorem dX6_digit_39 : decode cX6_digit 39 = .ok (.iconst 1, 1) := by decide +kernel
theorem dX6_digit_40 : decode cX6_digit 40 = .ok (.iadd, 1) := by decide +kernel
theorem dX6_digit_41 : decode cX6_digit 41 = .ok (.putfield 74, 3) := by decide +kernel
theorem dX6_digit_44 : decode cX6_digit 44 = .ok (.aload_n 0, 1) := by decide +kernel
theorem dX6_digit_45 : decode cX6_digit 45 = .ok (.getfield 16, 3) := by decide +kernel
theorem dX6_digit_48 : decode cX6_digit 48 = .ok (.aload_n 0, 1) := by decide +kernel
theorem dX6_digit_49 : decode cX6_digit 49 = .ok (.getfield 74, 3) := by decide +kernel
theorem dX6_digit_52 : decode cX6_digit 52 = .ok (.iconst 1, 1) := by decide +kernel
theorem dX6_digit_53 : decode cX6_digit 53 = .ok (.isub, 1) := by decide +kernel
theorem dX6_digit_54 : decode cX6_digit 54 = .ok (.iaload, 1) := by decide +kernel
theorem dX6_digit_55 : decode cX6_digit 55 = .ok (.bipush 48, 2) := by decide +kernel
theorem dX6_digit_57 : decode cX6_digit 57 = .ok (.isub, 1) := by decide +kernel
theorem dX6_digit_58 : decode cX6_digit 58 = .ok (.ireturn, 1) := by decide +kernel
theorem dX6_isNext_0 : decode cX6_isNext 0 = .ok (.aload_n 0, 1) := by decide +kernel
theorem dX6_isNext_1 : decode cX6_isNext 1 = .ok (.getfield 74, 3) := by decide +kernel
theorem dX6_isNext_4 : decode cX6_isNext 4 = .ok (.iload_n 1, 1) := by decide +kernel
theorem dX6_isNext_5 : decode cX6_isNext 5 = .ok (.if_icmp .ge 20, 3) := by decide +kernel
theorem dX6_isNext_8 : decode cX6_isNext 8 = .ok (.aload_n 0, 1) := by decide +kernel
theorem dX6_isNext_9 : decode cX6_isNext 9 = .ok (.getfield 16, 3) := by decide +kernel
theorem dX6_isNext_12 : decode cX6_isNext 12 = .ok (.aload_n 0, 1) := by decide +kernel
theorem dX6_isNext_13 : decode cX6_isNext 13 = .ok (.getfield 74, 3) := by decide +kernel
theorem dX6_isNext_16 : decode cX6_isNext 16 = .ok (.iaload, 1) := by decide +kernel
theorem dX6_isNext_17 : decode cX6_isNext 17 = .ok (.iload_n 2, 1) := by decide +kernel
theorem dX6_isNext_18 : decode cX6_isNext 18 = .ok (.if_icmp .ne 7, 3) := by decide +kernel
theorem dX6_isNext_21 : decode cX6_isNext 21 = .ok (.iconst 1, 1) := by decide +kernel
theorem dX6_isNext_22 : decode cX6_isNext 22 = .ok (.goto 4, 3) := by decide +kernel
theorem dX6_isNext_25 : decode cX6_isNext 25 = .ok (.iconst 0, 1) := by decide +kernel
theorem dX6_isNext_26 : decode cX6_isNext 26 = .ok (.ireturn, 1) := by decide +kernel
set_option maxRecDepth 20000 in
theorem ggX6_isSign_X6_isNext : GoodIn wsX6_isSign wsX6_isNext := goodIn_r _ [6, 1, 7, 8, 9, 10, 11, 12, 13, 14, 15, 16, 17, 18, 19, 20, 21, 22, 23, 24, 25, 26, 27, 28, 29, 30, 31, 32, 33, 34, 35, 36, 37] (by decide +kernel) (by decide +kernel)
set_option maxRecDepth 20000 in
theorem gX6_isSign_X6_isNext : GoodIn wsX6_isSign (wsV RX6 77 RX6 yX6_isNext wsX6_isNext) := goodIn_app (goodIn_of _ (by decide +kernel)) ggX6_isSign_X6_isNext
theorem dX6_isSign_0 : decode cX6_isSign 0 = .ok (.aload_n 0, 1) := by decide +kernel
theorem dX6_isSign_1 : decode cX6_isSign 1 = .ok (.iload_n 1, 1) := by decide +kernel
theorem dX6_isSign_2 : decode cX6_isSign 2 = .ok (.iload_n 2, 1) := by decide +kernel
theorem dX6_isSign_3 : decode cX6_isSign 3 = .ok (.invokevirtual 77, 3) := by decide +kernel
theorem dX6_isSign_6 : decode cX6_isSign 6 = .ok (.ifCond .ne 5, 3) := by decide +kernel
theorem dX6_isSign_9 : decode cX6_isSign 9 = .ok (.iconst 0, 1) := by decide +kernel
theorem dX6_isSign_10 : decode cX6_isSign 10 = .ok (.ireturn, 1) := by decide +kernel
theorem dX6_isSign_11 : decode cX6_isSign 11 = .ok (.aload_n 0, 1) := by decide +kernel
theorem dX6_isSign_12 : decode cX6_isSign 12 = .ok (.dup, 1) := by decide +kernel
theorem dX6_isSign_13 : decode cX6_isSign 13 = .ok (.getfield 74, 3) := by decide +kernel
theorem dX6_isSign_16 : decode cX6_isSign 16 = .ok (.iconst 1, 1) := by decide +kernel
theorem dX6_isSign_17 : decode cX6_isSign 17 = .ok (.iadd, 1) := by decide +kernel
theorem dX6_isSign_18 : decode cX6_isSign 18 = .ok (.putfield 74, 3) := by decide +kernel
theorem dX6_isSign_21 : decode cX6_isSign 21 = .ok (.iconst 1, 1) := by decide +kernel
theorem dX6_isSign_22 : decode cX6_isSign 22 = .ok (.ireturn, 1) := by decide +kernel
set_option maxRecDepth 20000 in
theorem ggX6_street_X6_isSheet : GoodIn wsX6_street wsX6_isSheet := goodIn_r _ [7, 8, 9, 6, 10] (by decide +kernel) (by decide +kernel)
set_option maxRecDepth 20000 in
theorem gX6_street_X6_isSheet : GoodIn wsX6_street (va_wsS RX6 81 yX6_isSheet wsX6_isSheet) := goodIn_app (goodIn_of _ (by decide +kernel)) ggX6_street_X6_isSheet
set_option maxRecDepth 20000 in
theorem ggX6_street_X6_isSort : GoodIn wsX6_street wsX6_isSort := goodIn_r _ [13, 8, 9, 6, 10] (by decide +kernel) (by decide +kernel)
set_option maxRecDepth 20000 in
theorem gX6_street_X6_isSort : GoodIn wsX6_street (va_wsS RX6 85 yX6_isSort wsX6_isSort) := goodIn_app (goodIn_of _ (by decide +kernel)) ggX6_street_X6_isSort
set_option maxRecDepth 20000 in
theorem ggX6_street_X6_against : GoodIn wsX6_street wsX6_against := goodIn_r _ [17, 18, 19, 67, 68, 69, 70, 71, 72, 73, 74, 75, 76, 77, 78, 79, 80, 81, 82, 83, 84, 85, 86, 87, 88, 89, 90, 91, 92, 93, 94, 95, 96] (by decide +kernel) (by decide +kernel)
set_option maxRecDepth 20000 in
theorem gX6_street_X6_against : GoodIn wsX6_street (wsV RX6 88 RX6 yX6_against wsX6_against) := goodIn_app (goodIn_of _ (by decide +kernel)) ggX6_street_X6_against
set_option maxRecDepth 20000 in
theorem ggX6_street_X6_fails : GoodIn wsX6_street wsX6_fails := goodIn_r _ [23, 1, 67, 68, 69, 70, 71, 72, 73, 74, 75, 76, 77, 78, 79, 80, 81, 82, 83, 84, 85, 86, 87, 88, 89, 90, 91, 92, 93, 94, 95, 96] (by decide +kernel) (by decide +kernel)
set_option maxRecDepth 20000 in
theorem gX6_street_X6_fails : GoodIn wsX6_street (wsV RX6 92 RX6 yX6_fails wsX6_fails) := goodIn_app (goodIn_of _ (by decide +kernel)) ggX6_street_X6_fails
set_option maxRecDepth 20000 in
theorem ggX6_street_X6_readStreet : GoodIn wsX6_street wsX6_readStreet := goodIn_r _ [27, 28, 29, 30, 2, 31, 32, 33, 6, 34, 35, 36, 37, 38, 39, 40, 41, 42, 43, 8, 9, 10, 44, 45, 46, 47, 48, 49, 50, 51, 52, 53, 67, 68, 69, 70, 71, 72, 73, 74, 75, 76, 77, 78, 79, 80, 81, 82, 83, 84, 85, 86, 87, 88, 89, 90, 91, 92, 93, 94, 95, 96] (by decide +kernel) (by decide +kernel)
set_option maxRecDepth 20000 in
theorem gX6_street_X6_readStreet : GoodIn wsX6_street (wsV RX6 96 RX6 yX6_readStreet wsX6_readStreet) := goodIn_app (goodIn_of _ (by decide +kernel)) ggX6_street_X6_readStreet
set_option maxRecDepth 20000 in
theorem ggX6_street_X6_takeStreet : GoodIn wsX6_street wsX6_takeStreet := goodIn_r _ [57, 30, 58, 28, 59, 60, 48, 61, 29, 3, 62, 53, 63, 64, 65, 66, 67, 68, 69, 70, 71, 72, 73, 74, 75, 76, 77, 78, 79, 80, 81, 82, 83, 84, 85, 86, 87, 88, 89, 90, 91, 92, 93, 94, 95, 96] (by decide +kernel) (by decide +kernel)
set_option maxRecDepth 20000 in
theorem gX6_street_X6_takeStreet : GoodIn wsX6_street (wsV RX6 99 RX6 yX6_takeStreet wsX6_takeStreet) := goodIn_app (goodIn_of _ (by decide +kernel)) ggX6_street_X6_takeStreet
theorem dX6_street_0 : decode cX6_street 0 = .ok (.aload_n 0, 1) := by decide +kernel
theorem dX6_street_1 : decode cX6_street 1 = .ok (.iconst 0, 1) := by decide +kernel
theorem dX6_street_2 : decode cX6_street 2 = .ok (.putfield 58, 3) := by decide +kernel
theorem dX6_street_5 : decode cX6_street 5 = .ok (.iload_n 1, 1) := by decide +kernel
theorem dX6_street_6 : decode cX6_street 6 = .ok (.invokestatic 81, 3) := by decide +kernel
theorem dX6_street_9 : decode cX6_street 9 = .ok (.ifCond .ne 5, 3) := by decide +kernel
theorem dX6_street_12 : decode cX6_street 12 = .ok (.iconst (-1), 1) := by decide +kernel
theorem dX6_street_13 : decode cX6_street 13 = .ok (.ireturn, 1) := by decide +kernel
theorem dX6_street_14 : decode cX6_street 14 = .ok (.iload_n 2, 1) := by decide +kernel
theorem dX6_street_15 : decode cX6_street 15 = .ok (.invokestatic 85, 3) := by decide +kernel
theorem dX6_street_18 : decode cX6_street 18 = .ok (.ifCond .ne 6, 3) := by decide +kernel
theorem dX6_street_21 : decode cX6_street 21 = .ok (.bipush (-2), 2) := by decide +kernel
theorem dX6_street_23 : decode cX6_street 23 = .ok (.ireturn, 1) := by decide +kernel
theorem dX6_street_24 : decode cX6_street 24 = .ok (.aload_n 0, 1) := by decide +kernel
theorem dX6_street_25 : decode cX6_street 25 = .ok (.iload_n 1, 1) := by decide +kernel
theorem dX6_street_26 : decode cX6_street 26 = .ok (.iload_n 2, 1) := by decide +kernel
theorem dX6_street_27 : decode cX6_street 27 = .ok (.iload_n 3, 1) := by decide +kernel
theorem dX6_street_28 : decode cX6_street 28 = .ok (.iload 4, 2) := by decide +kernel
theorem dX6_street_30 : decode cX6_street 30 = .ok (.invokevirtual 88, 3) := by decide +kernel
theorem dX6_street_33 : decode cX6_street 33 = .ok (.istore 5, 2) := by decide +kernel
theorem dX6_street_35 : decode cX6_street 35 = .ok (.iload 5, 2) := by decide +kernel
theorem dX6_street_37 : decode cX6_street 37 = .ok (.ifCond .eq 10, 3) := by decide +kernel
theorem dX6_street_40 : decode cX6_street 40 = .ok (.aload_n 0, 1) := by decide +kernel
theorem dX6_street_41 : decode cX6_street 41 = .ok (.iload 5, 2) := by decide +kernel
theorem dX6_street_43 : decode cX6_street 43 = .ok (.invokevirtual 92, 3) := by decide +kernel
theorem dX6_street_46 : decode cX6_street 46 = .ok (.ireturn, 1) := by decide +kernel
theorem dX6_street_47 : decode cX6_street 47 = .ok (.bipush 60, 2) := by decide +kernel
theorem dX6_street_49 : decode cX6_street 49 = .ok (.iload_n 1, 1) := by decide +kernel
theorem dX6_street_50 : decode cX6_street 50 = .ok (.imul, 1) := by decide +kernel
theorem dX6_street_51 : decode cX6_street 51 = .ok (.iload_n 3, 1) := by decide +kernel
theorem dX6_street_52 : decode cX6_street 52 = .ok (.iadd, 1) := by decide +kernel
theorem dX6_street_53 : decode cX6_street 53 = .ok (.istore 6, 2) := by decide +kernel
theorem dX6_street_55 : decode cX6_street 55 = .ok (.aload_n 0, 1) := by decide +kernel
theorem dX6_street_56 : decode cX6_street 56 = .ok (.iload 6, 2) := by decide +kernel
theorem dX6_street_58 : decode cX6_street 58 = .ok (.putfield 74, 3) := by decide +kernel
theorem dX6_street_61 : decode cX6_street 61 = .ok (.aload_n 0, 1) := by decide +kernel
theorem dX6_street_62 : decode cX6_street 62 = .ok (.iload 6, 2) := by decide +kernel
theorem dX6_street_64 : decode cX6_street 64 = .ok (.iload 4, 2) := by decide +kernel
theorem dX6_street_66 : decode cX6_street 66 = .ok (.iadd, 1) := by decide +kernel
theorem dX6_street_67 : decode cX6_street 67 = .ok (.invokevirtual 96, 3) := by decide +kernel
theorem dX6_street_70 : decode cX6_street 70 = .ok (.ifCond .ne 14, 3) := by decide +kernel
theorem dX6_street_73 : decode cX6_street 73 = .ok (.bipush (-100), 2) := by decide +kernel
theorem dX6_street_75 : decode cX6_street 75 = .ok (.aload_n 0, 1) := by decide +kernel
theorem dX6_street_76 : decode cX6_street 76 = .ok (.getfield 74, 3) := by decide +kernel
theorem dX6_street_79 : decode cX6_street 79 = .ok (.iload 6, 2) := by decide +kernel
theorem dX6_street_81 : decode cX6_street 81 = .ok (.isub, 1) := by decide +kernel
theorem dX6_street_82 : decode cX6_street 82 = .ok (.isub, 1) := by decide +kernel
theorem dX6_street_83 : decode cX6_street 83 = .ok (.ireturn, 1) := by decide +kernel
theorem dX6_street_84 : decode cX6_street 84 = .ok (.aload_n 0, 1) := by decide +kernel
theorem dX6_street_85 : decode cX6_street 85 = .ok (.invokevirtual 99, 3) := by decide +kernel
theorem dX6_street_88 : decode cX6_street 88 = .ok (.aload_n 0, 1) := by decide +kernel
theorem dX6_street_89 : decode cX6_street 89 = .ok (.getfield 71, 3) := by decide +kernel
theorem dX6_street_92 : decode cX6_street 92 = .ok (.ireturn, 1) := by decide +kernel
theorem dX6_takeStreet_0 : decode cX6_takeStreet 0 = .ok (.aload_n 0, 1) := by decide +kernel
theorem dX6_takeStreet_1 : decode cX6_takeStreet 1 = .ok (.aload_n 0, 1) := by decide +kernel
theorem dX6_takeStreet_2 : decode cX6_takeStreet 2 = .ok (.getfield 102, 3) := by decide +kernel
theorem dX6_takeStreet_5 : decode cX6_takeStreet 5 = .ok (.putfield 105, 3) := by decide +kernel
theorem dX6_takeStreet_8 : decode cX6_takeStreet 8 = .ok (.aload_n 0, 1) := by decide +kernel
theorem dX6_takeStreet_9 : decode cX6_takeStreet 9 = .ok (.aload_n 0, 1) := by decide +kernel
theorem dX6_takeStreet_10 : decode cX6_takeStreet 10 = .ok (.getfield 108, 3) := by decide +kernel
theorem dX6_takeStreet_13 : decode cX6_takeStreet 13 = .ok (.putfield 68, 3) := by decide +kernel
theorem dX6_takeStreet_16 : decode cX6_takeStreet 16 = .ok (.iconst 0, 1) := by decide +kernel
theorem dX6_takeStreet_17 : decode cX6_takeStreet 17 = .ok (.istore_n 1, 1) := by decide +kernel
theorem dX6_takeStreet_18 : decode cX6_takeStreet 18 = .ok (.iload_n 1, 1) := by decide +kernel
theorem dX6_takeStreet_19 : decode cX6_takeStreet 19 = .ok (.aload_n 0, 1) := by decide +kernel
theorem dX6_takeStreet_20 : decode cX6_takeStreet 20 = .ok (.getfield 68, 3) := by decide +kernel
theorem dX6_takeStreet_23 : decode cX6_takeStreet 23 = .ok (.if_icmp .ge 39, 3) := by decide +kernel
theorem dX6_takeStreet_26 : decode cX6_takeStreet 26 = .ok (.aload_n 0, 1) := by decide +kernel
theorem dX6_takeStreet_27 : decode cX6_takeStreet 27 = .ok (.getfield 19, 3) := by decide +kernel
theorem dX6_takeStreet_30 : decode cX6_takeStreet 30 = .ok (.iload_n 1, 1) := by decide +kernel
theorem dX6_takeStreet_31 : decode cX6_takeStreet 31 = .ok (.aload_n 0, 1) := by decide +kernel
theorem dX6_takeStreet_32 : decode cX6_takeStreet 32 = .ok (.getfield 31, 3) := by decide +kernel
theorem dX6_takeStreet_35 : decode cX6_takeStreet 35 = .ok (.iconst 2, 1) := by decide +kernel
theorem dX6_takeStreet_36 : decode cX6_takeStreet 36 = .ok (.iload_n 1, 1) := by decide +kernel
theorem dX6_takeStreet_37 : decode cX6_takeStreet 37 = .ok (.imul, 1) := by decide +kernel
theorem dX6_takeStreet_38 : decode cX6_takeStreet 38 = .ok (.iaload, 1) := by decide +kernel
theorem dX6_takeStreet_39 : decode cX6_takeStreet 39 = .ok (.iastore, 1) := by decide +kernel
theorem dX6_takeStreet_40 : decode cX6_takeStreet 40 = .ok (.aload_n 0, 1) := by decide +kernel
theorem dX6_takeStreet_41 : decode cX6_takeStreet 41 = .ok (.getfield 22, 3) := by decide +kernel
theorem dX6_takeStreet_44 : decode cX6_takeStreet 44 = .ok (.iload_n 1, 1) := by decide +kernel
theorem dX6_takeStreet_45 : decode cX6_takeStreet 45 = .ok (.aload_n 0, 1) := by decide +kernel
theorem dX6_takeStreet_46 : decode cX6_takeStreet 46 = .ok (.getfield 31, 3) := by decide +kernel
theorem dX6_takeStreet_49 : decode cX6_takeStreet 49 = .ok (.iconst 2, 1) := by decide +kernel
theorem dX6_takeStreet_50 : decode cX6_takeStreet 50 = .ok (.iload_n 1, 1) := by decide +kernel
theorem dX6_takeStreet_51 : decode cX6_takeStreet 51 = .ok (.imul, 1) := by decide +kernel
theorem dX6_takeStreet_52 : decode cX6_takeStreet 52 = .ok (.iconst 1, 1) := by decide +kernel
theorem dX6_takeStreet_53 : decode cX6_takeStreet 53 = .ok (.iadd, 1) := by decide +kernel
theorem dX6_takeStreet_54 : decode cX6_takeStreet 54 = .ok (.iaload, 1) := by decide +kernel
theorem dX6_takeStreet_55 : decode cX6_takeStreet 55 = .ok (.iastore, 1) := by decide +kernel
theorem dX6_takeStreet_56 : decode cX6_takeStreet 56 = .ok (.iinc 1 1, 3) := by decide +kernel
theorem dX6_takeStreet_59 : decode cX6_takeStreet 59 = .ok (.goto (-41), 3) := by decide +kernel
theorem dX6_takeStreet_62 : decode cX6_takeStreet 62 = .ok (.aload_n 0, 1) := by decide +kernel
theorem dX6_takeStreet_63 : decode cX6_takeStreet 63 = .ok (.aload_n 0, 1) := by decide +kernel
theorem dX6_takeStreet_64 : decode cX6_takeStreet 64 = .ok (.getfield 111, 3) := by decide +kernel
theorem dX6_takeStreet_67 : decode cX6_takeStreet 67 = .ok (.putfield 71, 3) := by decide +kernel
theorem dX6_takeStreet_70 : decode cX6_takeStreet 70 = .ok (.iconst 0, 1) := by decide +kernel
theorem dX6_takeStreet_71 : decode cX6_takeStreet 71 = .ok (.istore_n 1, 1) := by decide +kernel
theorem dX6_takeStreet_72 : decode cX6_takeStreet 72 = .ok (.iload_n 1, 1) := by decide +kernel
theorem dX6_takeStreet_73 : decode cX6_takeStreet 73 = .ok (.aload_n 0, 1) := by decide +kernel
theorem dX6_takeStreet_74 : decode cX6_takeStreet 74 = .ok (.getfield 71, 3) := by decide +kernel
theorem dX6_takeStreet_77 : decode cX6_takeStreet 77 = .ok (.if_icmp .ge 39, 3) := by decide +kernel
theorem dX6_takeStreet_80 : decode cX6_takeStreet 80 = .ok (.aload_n 0, 1) := by decide +kernel
theorem dX6_takeStreet_81 : decode cX6_takeStreet 81 = .ok (.getfield 25, 3) := by decide +kernel
theorem dX6_takeStreet_84 : decode cX6_takeStreet 84 = .ok (.iload_n 1, 1) := by decide +kernel
theorem dX6_takeStreet_85 : decode cX6_takeStreet 85 = .ok (.aload_n 0, 1) := by decide +kernel
theorem dX6_takeStreet_86 : decode cX6_takeStreet 86 = .ok (.getfield 34, 3) := by decide +kernel
theorem dX6_takeStreet_89 : decode cX6_takeStreet 89 = .ok (.iconst 2, 1) := by decide +kernel
theorem dX6_takeStreet_90 : decode cX6_takeStreet 90 = .ok (.iload_n 1, 1) := by decide +kernel
theorem dX6_takeStreet_91 : decode cX6_takeStreet 91 = .ok (.imul, 1) := by decide +kernel
theorem dX6_takeStreet_92 : decode cX6_takeStreet 92 = .ok (.iaload, 1) := by decide +kernel
theorem dX6_takeStreet_93 : decode cX6_takeStreet 93 = .ok (.iastore, 1) := by decide +kernel
theorem dX6_takeStreet_94 : decode cX6_takeStreet 94 = .ok (.aload_n 0, 1) := by decide +kernel
theorem dX6_takeStreet_95 : decode cX6_takeStreet 95 = .ok (.getfield 28, 3) := by decide +kernel
theorem dX6_takeStreet_98 : decode cX6_takeStreet 98 = .ok (.iload_n 1, 1) := by decide +kernel
theorem dX6_takeStreet_99 : decode cX6_takeStreet 99 = .ok (.aload_n 0, 1) := by decide +kernel
theorem dX6_takeStreet_100 : decode cX6_takeStreet 100 = .ok (.getfield 34, 3) := by decide +kernel
theorem dX6_takeStreet_103 : decode cX6_takeStreet 103 = .ok (.iconst 2, 1) := by decide +kernel
theorem dX6_takeStreet_104 : decode cX6_takeStreet 104 = .ok (.iload_n 1, 1) := by decide +kernel
theorem dX6_takeStreet_105 : decode cX6_takeStreet 105 = .ok (.imul, 1) := by decide +kernel
theorem dX6_takeStreet_106 : decode cX6_takeStreet 106 = .ok (.iconst 1, 1) := by decide +kernel
theorem dX6_takeStreet_107 : decode cX6_takeStreet 107 = .ok (.iadd, 1) := by decide +kernel
theorem dX6_takeStreet_108 : decode cX6_takeStreet 108 = .ok (.iaload, 1) := by decide +kernel
theorem dX6_takeStreet_109 : decode cX6_takeStreet 109 = .ok (.iastore, 1) := by decide +kernel
theorem dX6_takeStreet_110 : decode cX6_takeStreet 110 = .ok (.iinc 1 1, 3) := by decide +kernel
theorem dX6_takeStreet_113 : decode cX6_takeStreet 113 = .ok (.goto (-41), 3) := by decide +kernel
theorem dX6_takeStreet_116 : decode cX6_takeStreet 116 = .ok (.aload_n 0, 1) := by decide +kernel
theorem dX6_takeStreet_117 : decode cX6_takeStreet 117 = .ok (.iconst 0, 1) := by decide +kernel
theorem dX6_takeStreet_118 : decode cX6_takeStreet 118 = .ok (.putfield 114, 3) := by decide +kernel
theorem dX6_takeStreet_121 : decode cX6_takeStreet 121 = .ok (.aload_n 0, 1) := by decide +kernel
theorem dX6_takeStreet_122 : decode cX6_takeStreet 122 = .ok (.iconst 0, 1) := by decide +kernel
theorem dX6_takeStreet_123 : decode cX6_takeStreet 123 = .ok (.putfield 117, 3) := by decide +kernel
theorem dX6_takeStreet_126 : decode cX6_takeStreet 126 = .ok (.aload_n 0, 1) := by decide +kernel
theorem dX6_takeStreet_127 : decode cX6_takeStreet 127 = .ok (.iconst 0, 1) := by decide +kernel
theorem dX6_takeStreet_128 : decode cX6_takeStreet 128 = .ok (.putfield 120, 3) := by decide +kernel
theorem dX6_takeStreet_131 : decode cX6_takeStreet 131 = .ok (.return_, 1) := by decide +kernel
set_option maxRecDepth 20000 in
theorem ggX6_readStreet_X6_isSign : GoodIn wsX6_readStreet wsX6_isSign := goodIn_r _ [9, 4, 10, 11, 12, 8, 13, 14, 32, 33, 34, 35, 36, 37, 38, 39, 40, 41, 42, 43, 44, 45, 46, 47, 48, 49, 50, 51, 52, 53, 54, 55, 56, 57, 58, 59, 60, 61] (by decide +kernel) (by decide +kernel)
set_option maxRecDepth 20000 in
theorem gX6_readStreet_X6_isSign : GoodIn wsX6_readStreet (wsV RX6 123 RX6 yX6_isSign wsX6_isSign) := goodIn_app (goodIn_of _ (by decide +kernel)) ggX6_readStreet_X6_isSign
set_option maxRecDepth 20000 in
theorem ggX6_readStreet_X6_digit : GoodIn wsX6_readStreet wsX6_digit := goodIn_r _ [18, 4, 14, 19, 20, 8, 21, 32, 33, 34, 35, 36, 37, 38, 39, 40, 41, 42, 43, 44, 45, 46, 47, 48, 49, 50, 51, 52, 53, 54, 55, 56, 57, 58, 59, 60, 61] (by decide +kernel) (by decide +kernel)
set_option maxRecDepth 20000 in
theorem gX6_readStreet_X6_digit : GoodIn wsX6_readStreet (wsV RX6 126 RX6 yX6_digit wsX6_digit) := goodIn_app (goodIn_of _ (by decide +kernel)) ggX6_readStreet_X6_digit
set_option maxRecDepth 20000 in
theorem ggX6_readStreet_X6_isNext : GoodIn wsX6_readStreet wsX6_isNext := goodIn_r _ [13, 4, 14, 32, 33, 34, 35, 36, 37, 38, 39, 40, 41, 42, 43, 44, 45, 46, 47, 48, 49, 50, 51, 52, 53, 54, 55, 56, 57, 58, 59, 60, 61] (by decide +kernel) (by decide +kernel)
set_option maxRecDepth 20000 in
theorem gX6_readStreet_X6_isNext : GoodIn wsX6_readStreet (wsV RX6 77 RX6 yX6_isNext wsX6_isNext) := goodIn_app (goodIn_of _ (by decide +kernel)) ggX6_readStreet_X6_isNext
set_option maxRecDepth 20000 in
theorem ggX6_readStreet_X6_readTheHouse : GoodIn wsX6_readStreet wsX6_readTheHouse := goodIn_r _ [25, 4, 14, 1, 26, 15, 16, 17, 8, 18, 19, 20, 21, 32, 33, 34, 35, 36, 37, 38, 39, 40, 41, 42, 43, 44, 45, 46, 47, 48, 49, 50, 51, 52, 53, 54, 55, 56, 57, 58, 59, 60, 61] (by decide +kernel) (by decide +kernel)
set_option maxRecDepth 20000 in
theorem gX6_readStreet_X6_readTheHouse : GoodIn wsX6_readStreet (wsV RX6 130 RX6 yX6_readTheHouse wsX6_readTheHouse) := goodIn_app (goodIn_of _ (by decide +kernel)) ggX6_readStreet_X6_readTheHouse
set_option maxRecDepth 20000 in
theorem ggX6_readStreet_X6_readTheClock : GoodIn wsX6_readStreet wsX6_readTheClock := goodIn_r _ [30, 2, 31, 1, 15, 16, 17, 8, 18, 4, 14, 19, 20, 21, 32, 33, 34, 35, 36, 37, 38, 39, 40, 41, 42, 43, 44, 45, 46, 47, 48, 49, 50, 51, 52, 53, 54, 55, 56, 57, 58, 59, 60, 61] (by decide +kernel) (by decide +kernel)
set_option maxRecDepth 20000 in
theorem gX6_readStreet_X6_readTheClock : GoodIn wsX6_readStreet (wsV RX6 133 RX6 yX6_readTheClock wsX6_readTheClock) := goodIn_app (goodIn_of _ (by decide +kernel)) ggX6_readStreet_X6_readTheClock
theorem dX6_readStreet_0 : decode cX6_readStreet 0 = .ok (.aload_n 0, 1) := by decide +kernel
theorem dX6_readStreet_1 : decode cX6_readStreet 1 = .ok (.iconst 0, 1) := by decide +kernel
theorem dX6_readStreet_2 : decode cX6_readStreet 2 = .ok (.putfield 108, 3) := by decide +kernel
theorem dX6_readStreet_5 : decode cX6_readStreet 5 = .ok (.aload_n 0, 1) := by decide +kernel
theorem dX6_readStreet_6 : decode cX6_readStreet 6 = .ok (.iconst 0, 1) := by decide +kernel
theorem dX6_readStreet_7 : decode cX6_readStreet 7 = .ok (.putfield 111, 3) := by decide +kernel
theorem dX6_readStreet_10 : decode cX6_readStreet 10 = .ok (.aload_n 0, 1) := by decide +kernel
theorem dX6_readStreet_11 : decode cX6_readStreet 11 = .ok (.iload_n 1, 1) := by decide +kernel
theorem dX6_readStreet_12 : decode cX6_readStreet 12 = .ok (.bipush 99, 2) := by decide +kernel
theorem dX6_readStreet_14 : decode cX6_readStreet 14 = .ok (.invokevirtual 123, 3) := by decide +kernel
theorem dX6_readStreet_17 : decode cX6_readStreet 17 = .ok (.ifCond .ne 5, 3) := by decide +kernel
theorem dX6_readStreet_20 : decode cX6_readStreet 20 = .ok (.iconst 0, 1) := by decide +kernel
theorem dX6_readStreet_21 : decode cX6_readStreet 21 = .ok (.ireturn, 1) := by decide +kernel
theorem dX6_readStreet_22 : decode cX6_readStreet 22 = .ok (.aload_n 0, 1) := by decide +kernel
theorem dX6_readStreet_23 : decode cX6_readStreet 23 = .ok (.aload_n 0, 1) := by decide +kernel
theorem dX6_readStreet_24 : decode cX6_readStreet 24 = .ok (.iload_n 1, 1) := by decide +kernel
theorem dX6_readStreet_25 : decode cX6_readStreet 25 = .ok (.iconst 0, 1) := by decide +kernel
theorem dX6_readStreet_26 : decode cX6_readStreet 26 = .ok (.iconst 3, 1) := by decide +kernel
theorem dX6_readStreet_27 : decode cX6_readStreet 27 = .ok (.invokevirtual 126, 3) := by decide +kernel
theorem dX6_readStreet_30 : decode cX6_readStreet 30 = .ok (.putfield 102, 3) := by decide +kernel
theorem dX6_readStreet_33 : decode cX6_readStreet 33 = .ok (.aload_n 0, 1) := by decide +kernel
theorem dX6_readStreet_34 : decode cX6_readStreet 34 = .ok (.getfield 102, 3) := by decide +kernel
theorem dX6_readStreet_37 : decode cX6_readStreet 37 = .ok (.bipush (-9), 2) := by decide +kernel
theorem dX6_readStreet_39 : decode cX6_readStreet 39 = .ok (.if_icmp .ne 5, 3) := by decide +kernel
theorem dX6_readStreet_42 : decode cX6_readStreet 42 = .ok (.iconst 0, 1) := by decide +kernel
theorem dX6_readStreet_43 : decode cX6_readStreet 43 = .ok (.ireturn, 1) := by decide +kernel
theorem dX6_readStreet_44 : decode cX6_readStreet 44 = .ok (.aload_n 0, 1) := by decide +kernel
theorem dX6_readStreet_45 : decode cX6_readStreet 45 = .ok (.getfield 108, 3) := by decide +kernel
theorem dX6_readStreet_48 : decode cX6_readStreet 48 = .ok (.iconst 2, 1) := by decide +kernel
theorem dX6_readStreet_49 : decode cX6_readStreet 49 = .ok (.if_icmp .lt 22, 3) := by decide +kernel
theorem dX6_readStreet_52 : decode cX6_readStreet 52 = .ok (.aload_n 0, 1) := by decide +kernel
theorem dX6_readStreet_53 : decode cX6_readStreet 53 = .ok (.getfield 108, 3) := by decide +kernel
theorem dX6_readStreet_56 : decode cX6_readStreet 56 = .ok (.bipush 6, 2) := by decide +kernel
theorem dX6_readStreet_58 : decode cX6_readStreet 58 = .ok (.if_icmp .ge 33, 3) := by decide +kernel
theorem dX6_readStreet_61 : decode cX6_readStreet 61 = .ok (.aload_n 0, 1) := by decide +kernel
theorem dX6_readStreet_62 : decode cX6_readStreet 62 = .ok (.iload_n 1, 1) := by decide +kernel
theorem dX6_readStreet_63 : decode cX6_readStreet 63 = .ok (.bipush 59, 2) := by decide +kernel
theorem dX6_readStreet_65 : decode cX6_readStreet 65 = .ok (.invokevirtual 77, 3) := by decide +kernel
theorem dX6_readStreet_68 : decode cX6_readStreet 68 = .ok (.ifCond .eq 23, 3) := by decide +kernel
theorem dX6_readStreet_71 : decode cX6_readStreet 71 = .ok (.aload_n 0, 1) := by decide +kernel
theorem dX6_readStreet_72 : decode cX6_readStreet 72 = .ok (.iload_n 1, 1) := by decide +kernel
theorem dX6_readStreet_73 : decode cX6_readStreet 73 = .ok (.bipush 59, 2) := by decide +kernel
theorem dX6_readStreet_75 : decode cX6_readStreet 75 = .ok (.invokevirtual 123, 3) := by decide +kernel
theorem dX6_readStreet_78 : decode cX6_readStreet 78 = .ok (.ifCond .eq 11, 3) := by decide +kernel
theorem dX6_readStreet_81 : decode cX6_readStreet 81 = .ok (.aload_n 0, 1) := by decide +kernel
theorem dX6_readStreet_82 : decode cX6_readStreet 82 = .ok (.iload_n 1, 1) := by decide +kernel
theorem dX6_readStreet_83 : decode cX6_readStreet 83 = .ok (.invokevirtual 130, 3) := by decide +kernel
theorem dX6_readStreet_86 : decode cX6_readStreet 86 = .ok (.ifCond .ne (-42), 3) := by decide +kernel
theorem dX6_readStreet_89 : decode cX6_readStreet 89 = .ok (.iconst 0, 1) := by decide +kernel
theorem dX6_readStreet_90 : decode cX6_readStreet 90 = .ok (.ireturn, 1) := by decide +kernel
theorem dX6_readStreet_91 : decode cX6_readStreet 91 = .ok (.aload_n 0, 1) := by decide +kernel
theorem dX6_readStreet_92 : decode cX6_readStreet 92 = .ok (.getfield 111, 3) := by decide +kernel
theorem dX6_readStreet_95 : decode cX6_readStreet 95 = .ok (.ifCond .eq 19, 3) := by decide +kernel
theorem dX6_readStreet_98 : decode cX6_readStreet 98 = .ok (.aload_n 0, 1) := by decide +kernel
theorem dX6_readStreet_99 : decode cX6_readStreet 99 = .ok (.getfield 111, 3) := by decide +kernel
theorem dX6_readStreet_102 : decode cX6_readStreet 102 = .ok (.iconst 4, 1) := by decide +kernel
theorem dX6_readStreet_103 : decode cX6_readStreet 103 = .ok (.if_icmp .ge 31, 3) := by decide +kernel
theorem dX6_readStreet_106 : decode cX6_readStreet 106 = .ok (.aload_n 0, 1) := by decide +kernel
theorem dX6_readStreet_107 : decode cX6_readStreet 107 = .ok (.getfield 74, 3) := by decide +kernel
theorem dX6_readStreet_110 : decode cX6_readStreet 110 = .ok (.iload_n 1, 1) := by decide +kernel
theorem dX6_readStreet_111 : decode cX6_readStreet 111 = .ok (.if_icmp .ge 23, 3) := by decide +kernel
theorem dX6_readStreet_114 : decode cX6_readStreet 114 = .ok (.aload_n 0, 1) := by decide +kernel
theorem dX6_readStreet_115 : decode cX6_readStreet 115 = .ok (.iload_n 1, 1) := by decide +kernel
theorem dX6_readStreet_116 : decode cX6_readStreet 116 = .ok (.bipush 44, 2) := by decide +kernel
theorem dX6_readStreet_118 : decode cX6_readStreet 118 = .ok (.invokevirtual 123, 3) := by decide +kernel
theorem dX6_readStreet_121 : decode cX6_readStreet 121 = .ok (.ifCond .eq 11, 3) := by decide +kernel
theorem dX6_readStreet_124 : decode cX6_readStreet 124 = .ok (.aload_n 0, 1) := by decide +kernel
theorem dX6_readStreet_125 : decode cX6_readStreet 125 = .ok (.iload_n 1, 1) := by decide +kernel
theorem dX6_readStreet_126 : decode cX6_readStreet 126 = .ok (.invokevirtual 133, 3) := by decide +kernel
theorem dX6_readStreet_129 : decode cX6_readStreet 129 = .ok (.ifCond .ne (-38), 3) := by decide +kernel
theorem dX6_readStreet_132 : decode cX6_readStreet 132 = .ok (.iconst 0, 1) := by decide +kernel
theorem dX6_readStreet_133 : decode cX6_readStreet 133 = .ok (.ireturn, 1) := by decide +kernel
theorem dX6_readStreet_134 : decode cX6_readStreet 134 = .ok (.aload_n 0, 1) := by decide +kernel
theorem dX6_readStreet_135 : decode cX6_readStreet 135 = .ok (.getfield 74, 3) := by decide +kernel
theorem dX6_readStreet_138 : decode cX6_readStreet 138 = .ok (.iload_n 1, 1) := by decide +kernel
theorem dX6_readStreet_139 : decode cX6_readStreet 139 = .ok (.if_icmp .ne 7, 3) := by decide +kernel
theorem dX6_readStreet_142 : decode cX6_readStreet 142 = .ok (.iconst 1, 1) := by decide +kernel
theorem dX6_readStreet_143 : decode cX6_readStreet 143 = .ok (.goto 4, 3) := by decide +kernel
theorem dX6_readStreet_146 : decode cX6_readStreet 146 = .ok (.iconst 0, 1) := by decide +kernel
theorem dX6_readStreet_147 : decode cX6_readStreet 147 = .ok (.ireturn, 1) := by decide +kernel
set_option maxRecDepth 20000 in
theorem ggX6_readTheHouse_X6_digit : GoodIn wsX6_readTheHouse wsX6_digit := goodIn_r _ [9, 1, 2, 10, 11, 8, 12, 13, 14, 15, 16, 17, 18, 19, 20, 21, 22, 23, 24, 25, 26, 27, 28, 29, 30, 31, 32, 33, 34, 35, 36, 37, 38, 39, 40, 41, 42] (by decide +kernel) (by decide +kernel)
set_option maxRecDepth 20000 in
theorem gX6_readTheHouse_X6_digit : GoodIn wsX6_readTheHouse (wsV RX6 126 RX6 yX6_digit wsX6_digit) := goodIn_app (goodIn_of _ (by decide +kernel)) ggX6_readTheHouse_X6_digit
theorem dX6_readTheHouse_0 : decode cX6_readTheHouse 0 = .ok (.aload_n 0, 1) := by decide +kernel
theorem dX6_readTheHouse_1 : decode cX6_readTheHouse 1 = .ok (.getfield 74, 3) := by decide +kernel
theorem dX6_readTheHouse_4 : decode cX6_readTheHouse 4 = .ok (.iload_n 1, 1) := by decide +kernel
theorem dX6_readTheHouse_5 : decode cX6_readTheHouse 5 = .ok (.if_icmp .ge 15, 3) := by decide +kernel
theorem dX6_readTheHouse_8 : decode cX6_readTheHouse 8 = .ok (.aload_n 0, 1) := by decide +kernel
theorem dX6_readTheHouse_9 : decode cX6_readTheHouse 9 = .ok (.getfield 16, 3) := by decide +kernel
theorem dX6_readTheHouse_12 : decode cX6_readTheHouse 12 = .ok (.aload_n 0, 1) := by decide +kernel
theorem dX6_readTheHouse_13 : decode cX6_readTheHouse 13 = .ok (.getfield 74, 3) := by decide +kernel
theorem dX6_readTheHouse_16 : decode cX6_readTheHouse 16 = .ok (.iaload, 1) := by decide +kernel
theorem dX6_readTheHouse_17 : decode cX6_readTheHouse 17 = .ok (.goto 4, 3) := by decide +kernel
theorem dX6_readTheHouse_20 : decode cX6_readTheHouse 20 = .ok (.iconst 0, 1) := by decide +kernel
theorem dX6_readTheHouse_21 : decode cX6_readTheHouse 21 = .ok (.istore_n 2, 1) := by decide +kernel
theorem dX6_readTheHouse_22 : decode cX6_readTheHouse 22 = .ok (.iconst 2, 1) := by decide +kernel
theorem dX6_readTheHouse_23 : decode cX6_readTheHouse 23 = .ok (.aload_n 0, 1) := by decide +kernel
theorem dX6_readTheHouse_24 : decode cX6_readTheHouse 24 = .ok (.getfield 108, 3) := by decide +kernel
theorem dX6_readTheHouse_27 : decode cX6_readTheHouse 27 = .ok (.imul, 1) := by decide +kernel
theorem dX6_readTheHouse_28 : decode cX6_readTheHouse 28 = .ok (.istore_n 3, 1) := by decide +kernel
theorem dX6_readTheHouse_29 : decode cX6_readTheHouse 29 = .ok (.aload_n 0, 1) := by decide +kernel
theorem dX6_readTheHouse_30 : decode cX6_readTheHouse 30 = .ok (.getfield 31, 3) := by decide +kernel
theorem dX6_readTheHouse_33 : decode cX6_readTheHouse 33 = .ok (.iload_n 3, 1) := by decide +kernel
theorem dX6_readTheHouse_34 : decode cX6_readTheHouse 34 = .ok (.iload_n 2, 1) := by decide +kernel
theorem dX6_readTheHouse_35 : decode cX6_readTheHouse 35 = .ok (.bipush 115, 2) := by decide +kernel
theorem dX6_readTheHouse_37 : decode cX6_readTheHouse 37 = .ok (.if_icmp .ne 7, 3) := by decide +kernel
theorem dX6_readTheHouse_40 : decode cX6_readTheHouse 40 = .ok (.iconst 0, 1) := by decide +kernel
theorem dX6_readTheHouse_41 : decode cX6_readTheHouse 41 = .ok (.goto 25, 3) := by decide +kernel
theorem dX6_readTheHouse_44 : decode cX6_readTheHouse 44 = .ok (.iload_n 2, 1) := by decide +kernel
theorem dX6_readTheHouse_45 : decode cX6_readTheHouse 45 = .ok (.bipush 110, 2) := by decide +kernel
theorem dX6_readTheHouse_47 : decode cX6_readTheHouse 47 = .ok (.if_icmp .ne 7, 3) := by decide +kernel
theorem dX6_readTheHouse_50 : decode cX6_readTheHouse 50 = .ok (.iconst 1, 1) := by decide +kernel
theorem dX6_readTheHouse_51 : decode cX6_readTheHouse 51 = .ok (.goto 15, 3) := by decide +kernel
theorem dX6_readTheHouse_54 : decode cX6_readTheHouse 54 = .ok (.iload_n 2, 1) := by decide +kernel
theorem dX6_readTheHouse_55 : decode cX6_readTheHouse 55 = .ok (.bipush 98, 2) := by decide +kernel
theorem dX6_readTheHouse_57 : decode cX6_readTheHouse 57 = .ok (.if_icmp .ne 7, 3) := by decide +kernel
theorem dX6_readTheHouse_60 : decode cX6_readTheHouse 60 = .ok (.iconst 2, 1) := by decide +kernel
theorem dX6_readTheHouse_61 : decode cX6_readTheHouse 61 = .ok (.goto 5, 3) := by decide +kernel
theorem dX6_readTheHouse_64 : decode cX6_readTheHouse 64 = .ok (.bipush (-9), 2) := by decide +kernel
theorem dX6_readTheHouse_66 : decode cX6_readTheHouse 66 = .ok (.iastore, 1) := by decide +kernel
theorem dX6_readTheHouse_67 : decode cX6_readTheHouse 67 = .ok (.aload_n 0, 1) := by decide +kernel
theorem dX6_readTheHouse_68 : decode cX6_readTheHouse 68 = .ok (.getfield 31, 3) := by decide +kernel
theorem dX6_readTheHouse_71 : decode cX6_readTheHouse 71 = .ok (.iload_n 3, 1) := by decide +kernel
theorem dX6_readTheHouse_72 : decode cX6_readTheHouse 72 = .ok (.iaload, 1) := by decide +kernel
theorem dX6_readTheHouse_73 : decode cX6_readTheHouse 73 = .ok (.bipush (-9), 2) := by decide +kernel
theorem dX6_readTheHouse_75 : decode cX6_readTheHouse 75 = .ok (.if_icmp .ne 5, 3) := by decide +kernel
theorem dX6_readTheHouse_78 : decode cX6_readTheHouse 78 = .ok (.iconst 0, 1) := by decide +kernel
theorem dX6_readTheHouse_79 : decode cX6_readTheHouse 79 = .ok (.ireturn, 1) := by decide +kernel
theorem dX6_readTheHouse_80 : decode cX6_readTheHouse 80 = .ok (.aload_n 0, 1) := by decide +kernel
theorem dX6_readTheHouse_81 : decode cX6_readTheHouse 81 = .ok (.dup, 1) := by decide +kernel
theorem dX6_readTheHouse_82 : decode cX6_readTheHouse 82 = .ok (.getfield 74, 3) := by decide +kernel
theorem dX6_readTheHouse_85 : decode cX6_readTheHouse 85 = .ok (.iconst 1, 1) := by decide +kernel
theorem dX6_readTheHouse_86 : decode cX6_readTheHouse 86 = .ok (.iadd, 1) := by decide +kernel
theorem dX6_readTheHouse_87 : decode cX6_readTheHouse 87 = .ok (.putfield 74, 3) := by decide +kernel
theorem dX6_readTheHouse_90 : decode cX6_readTheHouse 90 = .ok (.aload_n 0, 1) := by decide +kernel
theorem dX6_readTheHouse_91 : decode cX6_readTheHouse 91 = .ok (.getfield 31, 3) := by decide +kernel
theorem dX6_readTheHouse_94 : decode cX6_readTheHouse 94 = .ok (.iload_n 3, 1) := by decide +kernel
theorem dX6_readTheHouse_95 : decode cX6_readTheHouse 95 = .ok (.iconst 1, 1) := by decide +kernel
theorem dX6_readTheHouse_96 : decode cX6_readTheHouse 96 = .ok (.iadd, 1) := by decide +kernel
theorem dX6_readTheHouse_97 : decode cX6_readTheHouse 97 = .ok (.aload_n 0, 1) := by decide +kernel
theorem dX6_readTheHouse_98 : decode cX6_readTheHouse 98 = .ok (.iload_n 1, 1) := by decide +kernel
theorem dX6_readTheHouse_99 : decode cX6_readTheHouse 99 = .ok (.iconst 1, 1) := by decide +kernel
theorem dX6_readTheHouse_100 : decode cX6_readTheHouse 100 = .ok (.bipush 9, 2) := by decide +kernel
theorem dX6_readTheHouse_102 : decode cX6_readTheHouse 102 = .ok (.invokevirtual 126, 3) := by decide +kernel
theorem dX6_readTheHouse_105 : decode cX6_readTheHouse 105 = .ok (.iastore, 1) := by decide +kernel
theorem dX6_readTheHouse_106 : decode cX6_readTheHouse 106 = .ok (.aload_n 0, 1) := by decide +kernel
theorem dX6_readTheHouse_107 : decode cX6_readTheHouse 107 = .ok (.dup, 1) := by decide +kernel
theorem dX6_readTheHouse_108 : decode cX6_readTheHouse 108 = .ok (.getfield 108, 3) := by decide +kernel
theorem dX6_readTheHouse_111 : decode cX6_readTheHouse 111 = .ok (.iconst 1, 1) := by decide +kernel
theorem dX6_readTheHouse_112 : decode cX6_readTheHouse 112 = .ok (.iadd, 1) := by decide +kernel
theorem dX6_readTheHouse_113 : decode cX6_readTheHouse 113 = .ok (.putfield 108, 3) := by decide +kernel
theorem dX6_readTheHouse_116 : decode cX6_readTheHouse 116 = .ok (.aload_n 0, 1) := by decide +kernel
theorem dX6_readTheHouse_117 : decode cX6_readTheHouse 117 = .ok (.getfield 31, 3) := by decide +kernel
theorem dX6_readTheHouse_120 : decode cX6_readTheHouse 120 = .ok (.iload_n 3, 1) := by decide +kernel
theorem dX6_readTheHouse_121 : decode cX6_readTheHouse 121 = .ok (.iconst 1, 1) := by decide +kernel
theorem dX6_readTheHouse_122 : decode cX6_readTheHouse 122 = .ok (.iadd, 1) := by decide +kernel
theorem dX6_readTheHouse_123 : decode cX6_readTheHouse 123 = .ok (.iaload, 1) := by decide +kernel
theorem dX6_readTheHouse_124 : decode cX6_readTheHouse 124 = .ok (.bipush (-9), 2) := by decide +kernel
theorem dX6_readTheHouse_126 : decode cX6_readTheHouse 126 = .ok (.if_icmp .eq 7, 3) := by decide +kernel
theorem dX6_readTheHouse_129 : decode cX6_readTheHouse 129 = .ok (.iconst 1, 1) := by decide +kernel
theorem dX6_readTheHouse_130 : decode cX6_readTheHouse 130 = .ok (.goto 4, 3) := by decide +kernel
theorem dX6_readTheHouse_133 : decode cX6_readTheHouse 133 = .ok (.iconst 0, 1) := by decide +kernel
theorem dX6_readTheHouse_134 : decode cX6_readTheHouse 134 = .ok (.ireturn, 1) := by decide +kernel
set_option maxRecDepth 20000 in
theorem ggX6_readTheClock_X6_digit : GoodIn wsX6_readTheClock wsX6_digit := goodIn_r _ [8, 9, 10, 11, 12, 7, 13, 14, 15, 16, 17, 18, 19, 20, 21, 22, 23, 24, 25, 26, 27, 28, 29, 30, 31, 32, 33, 34, 35, 36, 37, 38, 39, 40, 41, 42, 43] (by decide +kernel) (by decide +kernel)
set_option maxRecDepth 20000 in
theorem gX6_readTheClock_X6_digit : GoodIn wsX6_readTheClock (wsV RX6 126 RX6 yX6_digit wsX6_digit) := goodIn_app (goodIn_of _ (by decide +kernel)) ggX6_readTheClock_X6_digit
theorem dX6_readTheClock_0 : decode cX6_readTheClock 0 = .ok (.iconst 2, 1) := by decide +kernel
theorem dX6_readTheClock_1 : decode cX6_readTheClock 1 = .ok (.aload_n 0, 1) := by decide +kernel
theorem dX6_readTheClock_2 : decode cX6_readTheClock 2 = .ok (.getfield 111, 3) := by decide +kernel
theorem dX6_readTheClock_5 : decode cX6_readTheClock 5 = .ok (.imul, 1) := by decide +kernel
theorem dX6_readTheClock_6 : decode cX6_readTheClock 6 = .ok (.istore_n 2, 1) := by decide +kernel
theorem dX6_readTheClock_7 : decode cX6_readTheClock 7 = .ok (.aload_n 0, 1) := by decide +kernel
theorem dX6_readTheClock_8 : decode cX6_readTheClock 8 = .ok (.getfield 34, 3) := by decide +kernel
theorem dX6_readTheClock_11 : decode cX6_readTheClock 11 = .ok (.iload_n 2, 1) := by decide +kernel
theorem dX6_readTheClock_12 : decode cX6_readTheClock 12 = .ok (.aload_n 0, 1) := by decide +kernel
theorem dX6_readTheClock_13 : decode cX6_readTheClock 13 = .ok (.iload_n 1, 1) := by decide +kernel
theorem dX6_readTheClock_14 : decode cX6_readTheClock 14 = .ok (.iconst 1, 1) := by decide +kernel
theorem dX6_readTheClock_15 : decode cX6_readTheClock 15 = .ok (.bipush 9, 2) := by decide +kernel
theorem dX6_readTheClock_17 : decode cX6_readTheClock 17 = .ok (.invokevirtual 126, 3) := by decide +kernel
theorem dX6_readTheClock_20 : decode cX6_readTheClock 20 = .ok (.iastore, 1) := by decide +kernel
theorem dX6_readTheClock_21 : decode cX6_readTheClock 21 = .ok (.aload_n 0, 1) := by decide +kernel
theorem dX6_readTheClock_22 : decode cX6_readTheClock 22 = .ok (.getfield 34, 3) := by decide +kernel
theorem dX6_readTheClock_25 : decode cX6_readTheClock 25 = .ok (.iload_n 2, 1) := by decide +kernel
theorem dX6_readTheClock_26 : decode cX6_readTheClock 26 = .ok (.iaload, 1) := by decide +kernel
theorem dX6_readTheClock_27 : decode cX6_readTheClock 27 = .ok (.bipush (-9), 2) := by decide +kernel
theorem dX6_readTheClock_29 : decode cX6_readTheClock 29 = .ok (.if_icmp .ne 5, 3) := by decide +kernel
theorem dX6_readTheClock_32 : decode cX6_readTheClock 32 = .ok (.iconst 0, 1) := by decide +kernel
theorem dX6_readTheClock_33 : decode cX6_readTheClock 33 = .ok (.ireturn, 1) := by decide +kernel
theorem dX6_readTheClock_34 : decode cX6_readTheClock 34 = .ok (.aload_n 0, 1) := by decide +kernel
theorem dX6_readTheClock_35 : decode cX6_readTheClock 35 = .ok (.getfield 34, 3) := by decide +kernel
theorem dX6_readTheClock_38 : decode cX6_readTheClock 38 = .ok (.iload_n 2, 1) := by decide +kernel
theorem dX6_readTheClock_39 : decode cX6_readTheClock 39 = .ok (.iconst 1, 1) := by decide +kernel
theorem dX6_readTheClock_40 : decode cX6_readTheClock 40 = .ok (.iadd, 1) := by decide +kernel
theorem dX6_readTheClock_41 : decode cX6_readTheClock 41 = .ok (.aload_n 0, 1) := by decide +kernel
theorem dX6_readTheClock_42 : decode cX6_readTheClock 42 = .ok (.iload_n 1, 1) := by decide +kernel
theorem dX6_readTheClock_43 : decode cX6_readTheClock 43 = .ok (.iconst 0, 1) := by decide +kernel
theorem dX6_readTheClock_44 : decode cX6_readTheClock 44 = .ok (.aload_n 0, 1) := by decide +kernel
theorem dX6_readTheClock_45 : decode cX6_readTheClock 45 = .ok (.getfield 108, 3) := by decide +kernel
theorem dX6_readTheClock_48 : decode cX6_readTheClock 48 = .ok (.iconst 1, 1) := by decide +kernel
theorem dX6_readTheClock_49 : decode cX6_readTheClock 49 = .ok (.isub, 1) := by decide +kernel
theorem dX6_readTheClock_50 : decode cX6_readTheClock 50 = .ok (.invokevirtual 126, 3) := by decide +kernel
theorem dX6_readTheClock_53 : decode cX6_readTheClock 53 = .ok (.iastore, 1) := by decide +kernel
theorem dX6_readTheClock_54 : decode cX6_readTheClock 54 = .ok (.aload_n 0, 1) := by decide +kernel
theorem dX6_readTheClock_55 : decode cX6_readTheClock 55 = .ok (.dup, 1) := by decide +kernel
theorem dX6_readTheClock_56 : decode cX6_readTheClock 56 = .ok (.getfield 111, 3) := by decide +kernel
theorem dX6_readTheClock_59 : decode cX6_readTheClock 59 = .ok (.iconst 1, 1) := by decide +kernel
theorem dX6_readTheClock_60 : decode cX6_readTheClock 60 = .ok (.iadd, 1) := by decide +kernel
theorem dX6_readTheClock_61 : decode cX6_readTheClock 61 = .ok (.putfield 111, 3) := by decide +kernel
theorem dX6_readTheClock_64 : decode cX6_readTheClock 64 = .ok (.aload_n 0, 1) := by decide +kernel
theorem dX6_readTheClock_65 : decode cX6_readTheClock 65 = .ok (.getfield 34, 3) := by decide +kernel
theorem dX6_readTheClock_68 : decode cX6_readTheClock 68 = .ok (.iload_n 2, 1) := by decide +kernel
theorem dX6_readTheClock_69 : decode cX6_readTheClock 69 = .ok (.iconst 1, 1) := by decide +kernel
theorem dX6_readTheClock_70 : decode cX6_readTheClock 70 = .ok (.iadd, 1) := by decide +kernel
theorem dX6_readTheClock_71 : decode cX6_readTheClock 71 = .ok (.iaload, 1) := by decide +kernel
theorem dX6_readTheClock_72 : decode cX6_readTheClock 72 = .ok (.bipush (-9), 2) := by decide +kernel
theorem dX6_readTheClock_74 : decode cX6_readTheClock 74 = .ok (.if_icmp .eq 7, 3) := by decide +kernel
theorem dX6_readTheClock_77 : decode cX6_readTheClock 77 = .ok (.iconst 1, 1) := by decide +kernel
theorem dX6_readTheClock_78 : decode cX6_readTheClock 78 = .ok (.goto 4, 3) := by decide +kernel
theorem dX6_readTheClock_81 : decode cX6_readTheClock 81 = .ok (.iconst 0, 1) := by decide +kernel
theorem dX6_readTheClock_82 : decode cX6_readTheClock 82 = .ok (.ireturn, 1) := by decide +kernel
theorem dX6_needsOf_0 : decode cX6_needsOf 0 = .ok (.aload_n 0, 1) := by decide +kernel
theorem dX6_needsOf_1 : decode cX6_needsOf 1 = .ok (.getfield 19, 3) := by decide +kernel
theorem dX6_needsOf_4 : decode cX6_needsOf 4 = .ok (.iload_n 1, 1) := by decide +kernel
theorem dX6_needsOf_5 : decode cX6_needsOf 5 = .ok (.iaload, 1) := by decide +kernel
theorem dX6_needsOf_6 : decode cX6_needsOf 6 = .ok (.ifCond .ne 12, 3) := by decide +kernel
theorem dX6_needsOf_9 : decode cX6_needsOf 9 = .ok (.aload_n 0, 1) := by decide +kernel
theorem dX6_needsOf_10 : decode cX6_needsOf 10 = .ok (.getfield 22, 3) := by decide +kernel
theorem dX6_needsOf_13 : decode cX6_needsOf 13 = .ok (.iload_n 1, 1) := by decide +kernel
theorem dX6_needsOf_14 : decode cX6_needsOf 14 = .ok (.iaload, 1) := by decide +kernel
theorem dX6_needsOf_15 : decode cX6_needsOf 15 = .ok (.goto 32, 3) := by decide +kernel
theorem dX6_needsOf_18 : decode cX6_needsOf 18 = .ok (.aload_n 0, 1) := by decide +kernel
theorem dX6_needsOf_19 : decode cX6_needsOf 19 = .ok (.getfield 19, 3) := by decide +kernel
theorem dX6_needsOf_22 : decode cX6_needsOf 22 = .ok (.iload_n 1, 1) := by decide +kernel
theorem dX6_needsOf_23 : decode cX6_needsOf 23 = .ok (.iaload, 1) := by decide +kernel
theorem dX6_needsOf_24 : decode cX6_needsOf 24 = .ok (.iconst 1, 1) := by decide +kernel
theorem dX6_needsOf_25 : decode cX6_needsOf 25 = .ok (.if_icmp .ne 14, 3) := by decide +kernel
theorem dX6_needsOf_28 : decode cX6_needsOf 28 = .ok (.aload_n 0, 1) := by decide +kernel
theorem dX6_needsOf_29 : decode cX6_needsOf 29 = .ok (.getfield 22, 3) := by decide +kernel
theorem dX6_needsOf_32 : decode cX6_needsOf 32 = .ok (.iload_n 1, 1) := by decide +kernel
theorem dX6_needsOf_33 : decode cX6_needsOf 33 = .ok (.iaload, 1) := by decide +kernel
theorem dX6_needsOf_34 : decode cX6_needsOf 34 = .ok (.iconst 1, 1) := by decide +kernel
theorem dX6_needsOf_35 : decode cX6_needsOf 35 = .ok (.isub, 1) := by decide +kernel
theorem dX6_needsOf_36 : decode cX6_needsOf 36 = .ok (.goto 11, 3) := by decide +kernel
theorem dX6_needsOf_39 : decode cX6_needsOf 39 = .ok (.aload_n 0, 1) := by decide +kernel
theorem dX6_needsOf_40 : decode cX6_needsOf 40 = .ok (.getfield 22, 3) := by decide +kernel
theorem dX6_needsOf_43 : decode cX6_needsOf 43 = .ok (.iload_n 1, 1) := by decide +kernel
theorem dX6_needsOf_44 : decode cX6_needsOf 44 = .ok (.iaload, 1) := by decide +kernel
theorem dX6_needsOf_45 : decode cX6_needsOf 45 = .ok (.iconst 2, 1) := by decide +kernel
theorem dX6_needsOf_46 : decode cX6_needsOf 46 = .ok (.idiv, 1) := by decide +kernel
theorem dX6_needsOf_47 : decode cX6_needsOf 47 = .ok (.ireturn, 1) := by decide +kernel
set_option maxRecDepth 20000 in
theorem ggX6_soundOf_X6_isOf : GoodIn wsX6_soundOf wsX6_isOf := goodIn_r _ [6] (by decide +kernel) (by decide +kernel)
set_option maxRecDepth 20000 in
theorem gX6_soundOf_X6_isOf : GoodIn wsX6_soundOf (va_wsS RX6 136 yX6_isOf wsX6_isOf) := goodIn_app (goodIn_of _ (by decide +kernel)) ggX6_soundOf_X6_isOf
theorem dX6_soundOf_0 : decode cX6_soundOf 0 = .ok (.aload_n 0, 1) := by decide +kernel
theorem dX6_soundOf_1 : decode cX6_soundOf 1 = .ok (.getfield 114, 3) := by decide +kernel
theorem dX6_soundOf_4 : decode cX6_soundOf 4 = .ok (.iload_n 1, 1) := by decide +kernel
theorem dX6_soundOf_5 : decode cX6_soundOf 5 = .ok (.invokestatic 136, 3) := by decide +kernel
theorem dX6_soundOf_8 : decode cX6_soundOf 8 = .ok (.ifCond .eq 14, 3) := by decide +kernel
theorem dX6_soundOf_11 : decode cX6_soundOf 11 = .ok (.aload_n 0, 1) := by decide +kernel
theorem dX6_soundOf_12 : decode cX6_soundOf 12 = .ok (.getfield 25, 3) := by decide +kernel
theorem dX6_soundOf_15 : decode cX6_soundOf 15 = .ok (.iload_n 1, 1) := by decide +kernel
theorem dX6_soundOf_16 : decode cX6_soundOf 16 = .ok (.iaload, 1) := by decide +kernel
theorem dX6_soundOf_17 : decode cX6_soundOf 17 = .ok (.iconst 2, 1) := by decide +kernel
theorem dX6_soundOf_18 : decode cX6_soundOf 18 = .ok (.idiv, 1) := by decide +kernel
theorem dX6_soundOf_19 : decode cX6_soundOf 19 = .ok (.goto 9, 3) := by decide +kernel
theorem dX6_soundOf_22 : decode cX6_soundOf 22 = .ok (.aload_n 0, 1) := by decide +kernel
theorem dX6_soundOf_23 : decode cX6_soundOf 23 = .ok (.getfield 25, 3) := by decide +kernel
theorem dX6_soundOf_26 : decode cX6_soundOf 26 = .ok (.iload_n 1, 1) := by decide +kernel
theorem dX6_soundOf_27 : decode cX6_soundOf 27 = .ok (.iaload, 1) := by decide +kernel
theorem dX6_soundOf_28 : decode cX6_soundOf 28 = .ok (.ireturn, 1) := by decide +kernel
set_option maxRecDepth 20000 in
theorem ggX6_heardFrom_X6_soundOf : GoodIn wsX6_heardFrom wsX6_soundOf := goodIn_r _ [6, 7, 8, 9, 10, 5, 11, 12, 13, 14, 15, 16, 17, 18, 19, 20, 21, 22, 23, 24, 25, 26, 27, 28, 29, 30, 31, 32, 33, 34, 35, 36, 37, 38, 39, 40, 41] (by decide +kernel) (by decide +kernel)
set_option maxRecDepth 20000 in
theorem gX6_heardFrom_X6_soundOf : GoodIn wsX6_heardFrom (wsV RX6 139 RX6 yX6_soundOf wsX6_soundOf) := goodIn_app (goodIn_of _ (by decide +kernel)) ggX6_heardFrom_X6_soundOf
theorem dX6_heardFrom_0 : decode cX6_heardFrom 0 = .ok (.aload_n 0, 1) := by decide +kernel
theorem dX6_heardFrom_1 : decode cX6_heardFrom 1 = .ok (.iload_n 2, 1) := by decide +kernel
theorem dX6_heardFrom_2 : decode cX6_heardFrom 2 = .ok (.invokevirtual 139, 3) := by decide +kernel
theorem dX6_heardFrom_5 : decode cX6_heardFrom 5 = .ok (.aload_n 0, 1) := by decide +kernel
theorem dX6_heardFrom_6 : decode cX6_heardFrom 6 = .ok (.getfield 105, 3) := by decide +kernel
theorem dX6_heardFrom_9 : decode cX6_heardFrom 9 = .ok (.iload_n 1, 1) := by decide +kernel
theorem dX6_heardFrom_10 : decode cX6_heardFrom 10 = .ok (.iload_n 3, 1) := by decide +kernel
theorem dX6_heardFrom_11 : decode cX6_heardFrom 11 = .ok (.if_icmp .ge 9, 3) := by decide +kernel
theorem dX6_heardFrom_14 : decode cX6_heardFrom 14 = .ok (.iload_n 3, 1) := by decide +kernel
theorem dX6_heardFrom_15 : decode cX6_heardFrom 15 = .ok (.iload_n 1, 1) := by decide +kernel
theorem dX6_heardFrom_16 : decode cX6_heardFrom 16 = .ok (.isub, 1) := by decide +kernel
theorem dX6_heardFrom_17 : decode cX6_heardFrom 17 = .ok (.goto 6, 3) := by decide +kernel
theorem dX6_heardFrom_20 : decode cX6_heardFrom 20 = .ok (.iload_n 1, 1) := by decide +kernel
theorem dX6_heardFrom_21 : decode cX6_heardFrom 21 = .ok (.iload_n 3, 1) := by decide +kernel
theorem dX6_heardFrom_22 : decode cX6_heardFrom 22 = .ok (.isub, 1) := by decide +kernel
theorem dX6_heardFrom_23 : decode cX6_heardFrom 23 = .ok (.imul, 1) := by decide +kernel
theorem dX6_heardFrom_24 : decode cX6_heardFrom 24 = .ok (.isub, 1) := by decide +kernel
theorem dX6_heardFrom_25 : decode cX6_heardFrom 25 = .ok (.ireturn, 1) := by decide +kernel
set_option maxRecDepth 20000 in
theorem ggX6_wakesFrom_X6_heardFrom : GoodIn wsX6_wakesFrom wsX6_heardFrom := goodIn_r _ [5, 6, 7, 8, 9, 4, 10, 11, 12, 13, 14, 15, 22, 23, 24, 25, 26, 27, 28, 29, 30, 31, 32, 33, 34, 35, 36, 37, 38, 39, 40, 41, 42, 43, 44, 45, 46, 47, 48, 49, 50, 51] (by decide +kernel) (by decide +kernel)
set_option maxRecDepth 20000 in
theorem gX6_wakesFrom_X6_heardFrom : GoodIn wsX6_wakesFrom (wsV RX6 142 RX6 yX6_heardFrom wsX6_heardFrom) := goodIn_app (goodIn_of _ (by decide +kernel)) ggX6_wakesFrom_X6_heardFrom
set_option maxRecDepth 20000 in
theorem ggX6_wakesFrom_X6_needsOf : GoodIn wsX6_wakesFrom wsX6_needsOf := goodIn_r _ [19, 20, 21, 22, 23, 24, 25, 26, 27, 28, 29, 30, 31, 32, 33, 34, 35, 36, 37, 38, 39, 40, 41, 42, 43, 44, 45, 46, 47, 48, 49, 50, 51] (by decide +kernel) (by decide +kernel)
set_option maxRecDepth 20000 in
theorem gX6_wakesFrom_X6_needsOf : GoodIn wsX6_wakesFrom (wsV RX6 145 RX6 yX6_needsOf wsX6_needsOf) := goodIn_app (goodIn_of _ (by decide +kernel)) ggX6_wakesFrom_X6_needsOf
theorem dX6_wakesFrom_0 : decode cX6_wakesFrom 0 = .ok (.aload_n 0, 1) := by decide +kernel
theorem dX6_wakesFrom_1 : decode cX6_wakesFrom 1 = .ok (.iload_n 1, 1) := by decide +kernel
theorem dX6_wakesFrom_2 : decode cX6_wakesFrom 2 = .ok (.iload_n 2, 1) := by decide +kernel
theorem dX6_wakesFrom_3 : decode cX6_wakesFrom 3 = .ok (.iload_n 3, 1) := by decide +kernel
theorem dX6_wakesFrom_4 : decode cX6_wakesFrom 4 = .ok (.invokevirtual 142, 3) := by decide +kernel
theorem dX6_wakesFrom_7 : decode cX6_wakesFrom 7 = .ok (.istore 4, 2) := by decide +kernel
theorem dX6_wakesFrom_9 : decode cX6_wakesFrom 9 = .ok (.iload 4, 2) := by decide +kernel
theorem dX6_wakesFrom_11 : decode cX6_wakesFrom 11 = .ok (.aload_n 0, 1) := by decide +kernel
theorem dX6_wakesFrom_12 : decode cX6_wakesFrom 12 = .ok (.iload_n 1, 1) := by decide +kernel
theorem dX6_wakesFrom_13 : decode cX6_wakesFrom 13 = .ok (.invokevirtual 145, 3) := by decide +kernel
theorem dX6_wakesFrom_16 : decode cX6_wakesFrom 16 = .ok (.if_icmp .lt 12, 3) := by decide +kernel
theorem dX6_wakesFrom_19 : decode cX6_wakesFrom 19 = .ok (.iload 4, 2) := by decide +kernel
theorem dX6_wakesFrom_21 : decode cX6_wakesFrom 21 = .ok (.ifCond .le 7, 3) := by decide +kernel
theorem dX6_wakesFrom_24 : decode cX6_wakesFrom 24 = .ok (.iconst 1, 1) := by decide +kernel
theorem dX6_wakesFrom_25 : decode cX6_wakesFrom 25 = .ok (.goto 4, 3) := by decide +kernel
theorem dX6_wakesFrom_28 : decode cX6_wakesFrom 28 = .ok (.iconst 0, 1) := by decide +kernel
theorem dX6_wakesFrom_29 : decode cX6_wakesFrom 29 = .ok (.ireturn, 1) := by decide +kernel
set_option maxRecDepth 20000 in
theorem ggX6_ownerFrom_X6_wakesFrom : GoodIn wsX6_ownerFrom wsX6_wakesFrom := goodIn_r _ [6, 7, 8, 9, 5, 10, 11, 12, 13, 14, 15, 16, 17, 18, 19, 20, 21, 22, 23, 24, 25, 26, 27, 28, 29, 30, 31, 32, 33, 34, 35, 36, 37, 38, 39, 40, 41, 42, 43, 44, 45, 46, 47, 48, 49, 50, 51, 52, 53, 54, 55, 56] (by decide +kernel) (by decide +kernel)
set_option maxRecDepth 20000 in
theorem gX6_ownerFrom_X6_wakesFrom : GoodIn wsX6_ownerFrom (wsV RX6 148 RX6 yX6_wakesFrom wsX6_wakesFrom) := goodIn_app (goodIn_of _ (by decide +kernel)) ggX6_ownerFrom_X6_wakesFrom
set_option maxRecDepth 20000 in
theorem ggX6_ownerFrom_X6_heardFrom : GoodIn wsX6_ownerFrom wsX6_heardFrom := goodIn_r _ [10, 11, 12, 13, 14, 5, 15, 16, 17, 18, 19, 20, 27, 28, 29, 30, 31, 32, 33, 34, 35, 36, 37, 38, 39, 40, 41, 42, 43, 44, 45, 46, 47, 48, 49, 50, 51, 52, 53, 54, 55, 56] (by decide +kernel) (by decide +kernel)
set_option maxRecDepth 20000 in
theorem gX6_ownerFrom_X6_heardFrom : GoodIn wsX6_ownerFrom (wsV RX6 142 RX6 yX6_heardFrom wsX6_heardFrom) := goodIn_app (goodIn_of _ (by decide +kernel)) ggX6_ownerFrom_X6_heardFrom
set_option maxRecDepth 20000 in
theorem ggX6_ownerFrom_X6_needsOf : GoodIn wsX6_ownerFrom wsX6_needsOf := goodIn_r _ [24, 25, 26, 27, 28, 29, 30, 31, 32, 33, 34, 35, 36, 37, 38, 39, 40, 41, 42, 43, 44, 45, 46, 47, 48, 49, 50, 51, 52, 53, 54, 55, 56] (by decide +kernel) (by decide +kernel)
set_option maxRecDepth 20000 in
theorem gX6_ownerFrom_X6_needsOf : GoodIn wsX6_ownerFrom (wsV RX6 145 RX6 yX6_needsOf wsX6_needsOf) := goodIn_app (goodIn_of _ (by decide +kernel)) ggX6_ownerFrom_X6_needsOf
theorem dX6_ownerFrom_0 : decode cX6_ownerFrom 0 = .ok (.bipush (-9), 2) := by decide +kernel
theorem dX6_ownerFrom_2 : decode cX6_ownerFrom 2 = .ok (.istore_n 3, 1) := by decide +kernel
theorem dX6_ownerFrom_3 : decode cX6_ownerFrom 3 = .ok (.iconst 0, 1) := by decide +kernel
theorem dX6_ownerFrom_4 : decode cX6_ownerFrom 4 = .ok (.istore 4, 2) := by decide +kernel
theorem dX6_ownerFrom_6 : decode cX6_ownerFrom 6 = .ok (.iload 4, 2) := by decide +kernel
theorem dX6_ownerFrom_8 : decode cX6_ownerFrom 8 = .ok (.aload_n 0, 1) := by decide +kernel
theorem dX6_ownerFrom_9 : decode cX6_ownerFrom 9 = .ok (.getfield 68, 3) := by decide +kernel
theorem dX6_ownerFrom_12 : decode cX6_ownerFrom 12 = .ok (.if_icmp .ge 68, 3) := by decide +kernel
theorem dX6_ownerFrom_15 : decode cX6_ownerFrom 15 = .ok (.aload_n 0, 1) := by decide +kernel
theorem dX6_ownerFrom_16 : decode cX6_ownerFrom 16 = .ok (.iload 4, 2) := by decide +kernel
theorem dX6_ownerFrom_18 : decode cX6_ownerFrom 18 = .ok (.iload_n 1, 1) := by decide +kernel
theorem dX6_ownerFrom_19 : decode cX6_ownerFrom 19 = .ok (.iload_n 2, 1) := by decide +kernel
theorem dX6_ownerFrom_20 : decode cX6_ownerFrom 20 = .ok (.invokevirtual 148, 3) := by decide +kernel
theorem dX6_ownerFrom_23 : decode cX6_ownerFrom 23 = .ok (.ifCond .eq 51, 3) := by decide +kernel
theorem dX6_ownerFrom_26 : decode cX6_ownerFrom 26 = .ok (.aload_n 0, 1) := by decide +kernel
theorem dX6_ownerFrom_27 : decode cX6_ownerFrom 27 = .ok (.iload 4, 2) := by decide +kernel
theorem dX6_ownerFrom_29 : decode cX6_ownerFrom 29 = .ok (.iload_n 1, 1) := by decide +kernel
theorem dX6_ownerFrom_30 : decode cX6_ownerFrom 30 = .ok (.iload_n 2, 1) := by decide +kernel
theorem dX6_ownerFrom_31 : decode cX6_ownerFrom 31 = .ok (.invokevirtual 142, 3) := by decide +kernel
theorem dX6_ownerFrom_34 : decode cX6_ownerFrom 34 = .ok (.aload_n 0, 1) := by decide +kernel
theorem dX6_ownerFrom_35 : decode cX6_ownerFrom 35 = .ok (.iload 4, 2) := by decide +kernel
theorem dX6_ownerFrom_37 : decode cX6_ownerFrom 37 = .ok (.invokevirtual 145, 3) := by decide +kernel
theorem dX6_ownerFrom_40 : decode cX6_ownerFrom 40 = .ok (.isub, 1) := by decide +kernel
theorem dX6_ownerFrom_41 : decode cX6_ownerFrom 41 = .ok (.istore 5, 2) := by decide +kernel
theorem dX6_ownerFrom_43 : decode cX6_ownerFrom 43 = .ok (.iload_n 3, 1) := by decide +kernel
theorem dX6_ownerFrom_44 : decode cX6_ownerFrom 44 = .ok (.bipush (-9), 2) := by decide +kernel
theorem dX6_ownerFrom_46 : decode cX6_ownerFrom 46 = .ok (.if_icmp .eq 21, 3) := by decide +kernel
theorem dX6_ownerFrom_49 : decode cX6_ownerFrom 49 = .ok (.iload 5, 2) := by decide +kernel
theorem dX6_ownerFrom_51 : decode cX6_ownerFrom 51 = .ok (.aload_n 0, 1) := by decide +kernel
theorem dX6_ownerFrom_52 : decode cX6_ownerFrom 52 = .ok (.iload_n 3, 1) := by decide +kernel
theorem dX6_ownerFrom_53 : decode cX6_ownerFrom 53 = .ok (.iload_n 1, 1) := by decide +kernel
theorem dX6_ownerFrom_54 : decode cX6_ownerFrom 54 = .ok (.iload_n 2, 1) := by decide +kernel
theorem dX6_ownerFrom_55 : decode cX6_ownerFrom 55 = .ok (.invokevirtual 142, 3) := by decide +kernel
theorem dX6_ownerFrom_58 : decode cX6_ownerFrom 58 = .ok (.aload_n 0, 1) := by decide +kernel
theorem dX6_ownerFrom_59 : decode cX6_ownerFrom 59 = .ok (.iload_n 3, 1) := by decide +kernel
theorem dX6_ownerFrom_60 : decode cX6_ownerFrom 60 = .ok (.invokevirtual 145, 3) := by decide +kernel
theorem dX6_ownerFrom_63 : decode cX6_ownerFrom 63 = .ok (.isub, 1) := by decide +kernel
theorem dX6_ownerFrom_64 : decode cX6_ownerFrom 64 = .ok (.if_icmp .le 8, 3) := by decide +kernel
theorem dX6_ownerFrom_67 : decode cX6_ownerFrom 67 = .ok (.iload 4, 2) := by decide +kernel
theorem dX6_ownerFrom_69 : decode cX6_ownerFrom 69 = .ok (.goto 4, 3) := by decide +kernel
theorem dX6_ownerFrom_72 : decode cX6_ownerFrom 72 = .ok (.iload_n 3, 1) := by decide +kernel
theorem dX6_ownerFrom_73 : decode cX6_ownerFrom 73 = .ok (.istore_n 3, 1) := by decide +kernel
theorem dX6_ownerFrom_74 : decode cX6_ownerFrom 74 = .ok (.iinc 4 1, 3) := by decide +kernel
theorem dX6_ownerFrom_77 : decode cX6_ownerFrom 77 = .ok (.goto (-71), 3) := by decide +kernel
theorem dX6_ownerFrom_80 : decode cX6_ownerFrom 80 = .ok (.iload_n 3, 1) := by decide +kernel
theorem dX6_ownerFrom_81 : decode cX6_ownerFrom 81 = .ok (.ireturn, 1) := by decide +kernel
set_option maxRecDepth 20000 in
theorem ggX6_wakersOf_X6_wakesFrom : GoodIn wsX6_wakersOf wsX6_wakesFrom := goodIn_r _ [6, 7, 8, 9, 5, 10, 11, 12, 13, 14, 15, 16, 17, 18, 19, 20, 21, 22, 23, 24, 25, 26, 27, 28, 29, 30, 31, 32, 33, 34, 35, 36, 37, 38, 39, 40, 41, 42, 43, 44, 45, 46, 47, 48, 49, 50, 51, 52, 53, 54, 55, 56] (by decide +kernel) (by decide +kernel)
set_option maxRecDepth 20000 in
theorem gX6_wakersOf_X6_wakesFrom : GoodIn wsX6_wakersOf (wsV RX6 148 RX6 yX6_wakesFrom wsX6_wakesFrom) := goodIn_app (goodIn_of _ (by decide +kernel)) ggX6_wakersOf_X6_wakesFrom
theorem dX6_wakersOf_0 : decode cX6_wakersOf 0 = .ok (.iconst 0, 1) := by decide +kernel
theorem dX6_wakersOf_1 : decode cX6_wakersOf 1 = .ok (.istore_n 3, 1) := by decide +kernel
theorem dX6_wakersOf_2 : decode cX6_wakersOf 2 = .ok (.iconst 0, 1) := by decide +kernel
theorem dX6_wakersOf_3 : decode cX6_wakersOf 3 = .ok (.istore 4, 2) := by decide +kernel
theorem dX6_wakersOf_5 : decode cX6_wakersOf 5 = .ok (.iload 4, 2) := by decide +kernel
theorem dX6_wakersOf_7 : decode cX6_wakersOf 7 = .ok (.aload_n 0, 1) := by decide +kernel
theorem dX6_wakersOf_8 : decode cX6_wakersOf 8 = .ok (.getfield 68, 3) := by decide +kernel
theorem dX6_wakersOf_11 : decode cX6_wakersOf 11 = .ok (.if_icmp .ge 31, 3) := by decide +kernel
theorem dX6_wakersOf_14 : decode cX6_wakersOf 14 = .ok (.iload_n 3, 1) := by decide +kernel
theorem dX6_wakersOf_15 : decode cX6_wakersOf 15 = .ok (.aload_n 0, 1) := by decide +kernel
theorem dX6_wakersOf_16 : decode cX6_wakersOf 16 = .ok (.iload 4, 2) := by decide +kernel
theorem dX6_wakersOf_18 : decode cX6_wakersOf 18 = .ok (.iload_n 1, 1) := by decide +kernel
theorem dX6_wakersOf_19 : decode cX6_wakersOf 19 = .ok (.iload_n 2, 1) := by decide +kernel
theorem dX6_wakersOf_20 : decode cX6_wakersOf 20 = .ok (.invokevirtual 148, 3) := by decide +kernel
theorem dX6_wakersOf_23 : decode cX6_wakersOf 23 = .ok (.ifCond .eq 10, 3) := by decide +kernel
theorem dX6_wakersOf_26 : decode cX6_wakersOf 26 = .ok (.iconst 1, 1) := by decide +kernel
theorem dX6_wakersOf_27 : decode cX6_wakersOf 27 = .ok (.iload 4, 2) := by decide +kernel
theorem dX6_wakersOf_29 : decode cX6_wakersOf 29 = .ok (.ishl, 1) := by decide +kernel
theorem dX6_wakersOf_30 : decode cX6_wakersOf 30 = .ok (.goto 4, 3) := by decide +kernel
theorem dX6_wakersOf_33 : decode cX6_wakersOf 33 = .ok (.iconst 0, 1) := by decide +kernel
theorem dX6_wakersOf_34 : decode cX6_wakersOf 34 = .ok (.ior, 1) := by decide +kernel
theorem dX6_wakersOf_35 : decode cX6_wakersOf 35 = .ok (.istore_n 3, 1) := by decide +kernel
theorem dX6_wakersOf_36 : decode cX6_wakersOf 36 = .ok (.iinc 4 1, 3) := by decide +kernel
theorem dX6_wakersOf_39 : decode cX6_wakersOf 39 = .ok (.goto (-34), 3) := by decide +kernel
theorem dX6_wakersOf_42 : decode cX6_wakersOf 42 = .ok (.iload_n 3, 1) := by decide +kernel
theorem dX6_wakersOf_43 : decode cX6_wakersOf 43 = .ok (.ireturn, 1) := by decide +kernel
set_option maxRecDepth 20000 in
theorem ggX6_ofHouse_X6_isHouse : GoodIn wsX6_ofHouse wsX6_isHouse := goodIn_r _ [9, 10, 36, 37, 38, 39, 40, 41, 42, 43, 44, 45, 46, 47, 48, 49, 50, 51, 52, 53, 54, 55, 56, 57, 58, 59, 60, 61, 62, 63, 64, 65] (by decide +kernel) (by decide +kernel)
set_option maxRecDepth 20000 in
theorem gX6_ofHouse_X6_isHouse : GoodIn wsX6_ofHouse (wsV RX6 151 RX6 yX6_isHouse wsX6_isHouse) := goodIn_app (goodIn_of _ (by decide +kernel)) ggX6_ofHouse_X6_isHouse
set_option maxRecDepth 20000 in
theorem ggX6_ofHouse_X6_within : GoodIn wsX6_ofHouse wsX6_within := goodIn_r _ [13] (by decide +kernel) (by decide +kernel)
set_option maxRecDepth 20000 in
theorem gX6_ofHouse_X6_within : GoodIn wsX6_ofHouse (va_wsS RX6 64 yX6_within wsX6_within) := goodIn_app (goodIn_of _ (by decide +kernel)) ggX6_ofHouse_X6_within
set_option maxRecDepth 20000 in
theorem ggX6_ofHouse_X6_needsOf : GoodIn wsX6_ofHouse wsX6_needsOf := goodIn_r _ [17, 1, 2, 36, 37, 38, 39, 40, 41, 42, 43, 44, 45, 46, 47, 48, 49, 50, 51, 52, 53, 54, 55, 56, 57, 58, 59, 60, 61, 62, 63, 64, 65] (by decide +kernel) (by decide +kernel)
set_option maxRecDepth 20000 in
theorem gX6_ofHouse_X6_needsOf : GoodIn wsX6_ofHouse (wsV RX6 145 RX6 yX6_needsOf wsX6_needsOf) := goodIn_app (goodIn_of _ (by decide +kernel)) ggX6_ofHouse_X6_needsOf
set_option maxRecDepth 20000 in
theorem ggX6_ofHouse_X6_wakesFrom : GoodIn wsX6_ofHouse wsX6_wakesFrom := goodIn_r _ [21, 22, 23, 24, 8, 25, 26, 27, 28, 29, 30, 31, 32, 33, 34, 35, 14, 15, 16, 17, 1, 2, 36, 37, 38, 39, 40, 41, 42, 43, 44, 45, 46, 47, 48, 49, 50, 51, 52, 53, 54, 55, 56, 57, 58, 59, 60, 61, 62, 63, 64, 65] (by decide +kernel) (by decide +kernel)
set_option maxRecDepth 20000 in
theorem gX6_ofHouse_X6_wakesFrom : GoodIn wsX6_ofHouse (wsV RX6 148 RX6 yX6_wakesFrom wsX6_wakesFrom) := goodIn_app (goodIn_of _ (by decide +kernel)) ggX6_ofHouse_X6_wakesFrom
theorem dX6_ofHouse_0 : decode cX6_ofHouse 0 = .ok (.aload_n 0, 1) := by decide +kernel
theorem dX6_ofHouse_1 : decode cX6_ofHouse 1 = .ok (.iload_n 1, 1) := by decide +kernel
theorem dX6_ofHouse_2 : decode cX6_ofHouse 2 = .ok (.invokevirtual 151, 3) := by decide +kernel
theorem dX6_ofHouse_5 : decode cX6_ofHouse 5 = .ok (.ifCond .ne 5, 3) := by decide +kernel
theorem dX6_ofHouse_8 : decode cX6_ofHouse 8 = .ok (.iconst (-1), 1) := by decide +kernel
theorem dX6_ofHouse_9 : decode cX6_ofHouse 9 = .ok (.ireturn, 1) := by decide +kernel
theorem dX6_ofHouse_10 : decode cX6_ofHouse 10 = .ok (.iload_n 2, 1) := by decide +kernel
theorem dX6_ofHouse_11 : decode cX6_ofHouse 11 = .ok (.iconst 3, 1) := by decide +kernel
theorem dX6_ofHouse_12 : decode cX6_ofHouse 12 = .ok (.iconst 4, 1) := by decide +kernel
theorem dX6_ofHouse_13 : decode cX6_ofHouse 13 = .ok (.invokestatic 64, 3) := by decide +kernel
theorem dX6_ofHouse_16 : decode cX6_ofHouse 16 = .ok (.ifCond .ne 46, 3) := by decide +kernel
theorem dX6_ofHouse_19 : decode cX6_ofHouse 19 = .ok (.iload_n 2, 1) := by decide +kernel
theorem dX6_ofHouse_20 : decode cX6_ofHouse 20 = .ok (.ifCond .ne 12, 3) := by decide +kernel
theorem dX6_ofHouse_23 : decode cX6_ofHouse 23 = .ok (.aload_n 0, 1) := by decide +kernel
theorem dX6_ofHouse_24 : decode cX6_ofHouse 24 = .ok (.getfield 19, 3) := by decide +kernel
theorem dX6_ofHouse_27 : decode cX6_ofHouse 27 = .ok (.iload_n 1, 1) := by decide +kernel
theorem dX6_ofHouse_28 : decode cX6_ofHouse 28 = .ok (.iaload, 1) := by decide +kernel
theorem dX6_ofHouse_29 : decode cX6_ofHouse 29 = .ok (.goto 32, 3) := by decide +kernel
theorem dX6_ofHouse_32 : decode cX6_ofHouse 32 = .ok (.iload_n 2, 1) := by decide +kernel
theorem dX6_ofHouse_33 : decode cX6_ofHouse 33 = .ok (.iconst 1, 1) := by decide +kernel
theorem dX6_ofHouse_34 : decode cX6_ofHouse 34 = .ok (.if_icmp .ne 12, 3) := by decide +kernel
theorem dX6_ofHouse_37 : decode cX6_ofHouse 37 = .ok (.aload_n 0, 1) := by decide +kernel
theorem dX6_ofHouse_38 : decode cX6_ofHouse 38 = .ok (.getfield 22, 3) := by decide +kernel
theorem dX6_ofHouse_41 : decode cX6_ofHouse 41 = .ok (.iload_n 1, 1) := by decide +kernel
theorem dX6_ofHouse_42 : decode cX6_ofHouse 42 = .ok (.iaload, 1) := by decide +kernel
theorem dX6_ofHouse_43 : decode cX6_ofHouse 43 = .ok (.goto 18, 3) := by decide +kernel
theorem dX6_ofHouse_46 : decode cX6_ofHouse 46 = .ok (.iload_n 2, 1) := by decide +kernel
theorem dX6_ofHouse_47 : decode cX6_ofHouse 47 = .ok (.iconst 2, 1) := by decide +kernel
theorem dX6_ofHouse_48 : decode cX6_ofHouse 48 = .ok (.if_icmp .ne 11, 3) := by decide +kernel
theorem dX6_ofHouse_51 : decode cX6_ofHouse 51 = .ok (.aload_n 0, 1) := by decide +kernel
theorem dX6_ofHouse_52 : decode cX6_ofHouse 52 = .ok (.iload_n 1, 1) := by decide +kernel
theorem dX6_ofHouse_53 : decode cX6_ofHouse 53 = .ok (.invokevirtual 145, 3) := by decide +kernel
theorem dX6_ofHouse_56 : decode cX6_ofHouse 56 = .ok (.goto 5, 3) := by decide +kernel
theorem dX6_ofHouse_59 : decode cX6_ofHouse 59 = .ok (.bipush (-2), 2) := by decide +kernel
theorem dX6_ofHouse_61 : decode cX6_ofHouse 61 = .ok (.ireturn, 1) := by decide +kernel
theorem dX6_ofHouse_62 : decode cX6_ofHouse 62 = .ok (.iconst 0, 1) := by decide +kernel
theorem dX6_ofHouse_63 : decode cX6_ofHouse 63 = .ok (.istore_n 3, 1) := by decide +kernel
theorem dX6_ofHouse_64 : decode cX6_ofHouse 64 = .ok (.iconst 0, 1) := by decide +kernel
theorem dX6_ofHouse_65 : decode cX6_ofHouse 65 = .ok (.istore 4, 2) := by decide +kernel
theorem dX6_ofHouse_67 : decode cX6_ofHouse 67 = .ok (.iload 4, 2) := by decide +kernel
theorem dX6_ofHouse_69 : decode cX6_ofHouse 69 = .ok (.aload_n 0, 1) := by decide +kernel
theorem dX6_ofHouse_70 : decode cX6_ofHouse 70 = .ok (.getfield 71, 3) := by decide +kernel
theorem dX6_ofHouse_73 : decode cX6_ofHouse 73 = .ok (.if_icmp .ge 65, 3) := by decide +kernel
theorem dX6_ofHouse_76 : decode cX6_ofHouse 76 = .ok (.iload_n 2, 1) := by decide +kernel
theorem dX6_ofHouse_77 : decode cX6_ofHouse 77 = .ok (.iconst 3, 1) := by decide +kernel
theorem dX6_ofHouse_78 : decode cX6_ofHouse 78 = .ok (.if_icmp .ne 22, 3) := by decide +kernel
theorem dX6_ofHouse_81 : decode cX6_ofHouse 81 = .ok (.aload_n 0, 1) := by decide +kernel
theorem dX6_ofHouse_82 : decode cX6_ofHouse 82 = .ok (.getfield 28, 3) := by decide +kernel
theorem dX6_ofHouse_85 : decode cX6_ofHouse 85 = .ok (.iload 4, 2) := by decide +kernel
theorem dX6_ofHouse_87 : decode cX6_ofHouse 87 = .ok (.iaload, 1) := by decide +kernel
theorem dX6_ofHouse_88 : decode cX6_ofHouse 88 = .ok (.iload_n 1, 1) := by decide +kernel
theorem dX6_ofHouse_89 : decode cX6_ofHouse 89 = .ok (.if_icmp .ne 7, 3) := by decide +kernel
theorem dX6_ofHouse_92 : decode cX6_ofHouse 92 = .ok (.iconst 1, 1) := by decide +kernel
theorem dX6_ofHouse_93 : decode cX6_ofHouse 93 = .ok (.goto 21, 3) := by decide +kernel
theorem dX6_ofHouse_96 : decode cX6_ofHouse 96 = .ok (.iconst 0, 1) := by decide +kernel
theorem dX6_ofHouse_97 : decode cX6_ofHouse 97 = .ok (.goto 17, 3) := by decide +kernel
theorem dX6_ofHouse_100 : decode cX6_ofHouse 100 = .ok (.aload_n 0, 1) := by decide +kernel
theorem dX6_ofHouse_101 : decode cX6_ofHouse 101 = .ok (.iload_n 1, 1) := by decide +kernel
theorem dX6_ofHouse_102 : decode cX6_ofHouse 102 = .ok (.iload 4, 2) := by decide +kernel
theorem dX6_ofHouse_104 : decode cX6_ofHouse 104 = .ok (.aload_n 0, 1) := by decide +kernel
theorem dX6_ofHouse_105 : decode cX6_ofHouse 105 = .ok (.getfield 28, 3) := by decide +kernel
theorem dX6_ofHouse_108 : decode cX6_ofHouse 108 = .ok (.iload 4, 2) := by decide +kernel
theorem dX6_ofHouse_110 : decode cX6_ofHouse 110 = .ok (.iaload, 1) := by decide +kernel
theorem dX6_ofHouse_111 : decode cX6_ofHouse 111 = .ok (.invokevirtual 148, 3) := by decide +kernel
theorem dX6_ofHouse_114 : decode cX6_ofHouse 114 = .ok (.istore 5, 2) := by decide +kernel
theorem dX6_ofHouse_116 : decode cX6_ofHouse 116 = .ok (.iload_n 3, 1) := by decide +kernel
theorem dX6_ofHouse_117 : decode cX6_ofHouse 117 = .ok (.iload 5, 2) := by decide +kernel
theorem dX6_ofHouse_119 : decode cX6_ofHouse 119 = .ok (.ifCond .eq 10, 3) := by decide +kernel
theorem dX6_ofHouse_122 : decode cX6_ofHouse 122 = .ok (.iconst 1, 1) := by decide +kernel
theorem dX6_ofHouse_123 : decode cX6_ofHouse 123 = .ok (.iload 4, 2) := by decide +kernel
theorem dX6_ofHouse_125 : decode cX6_ofHouse 125 = .ok (.ishl, 1) := by decide +kernel
theorem dX6_ofHouse_126 : decode cX6_ofHouse 126 = .ok (.goto 4, 3) := by decide +kernel
theorem dX6_ofHouse_129 : decode cX6_ofHouse 129 = .ok (.iconst 0, 1) := by decide +kernel
theorem dX6_ofHouse_130 : decode cX6_ofHouse 130 = .ok (.ior, 1) := by decide +kernel
theorem dX6_ofHouse_131 : decode cX6_ofHouse 131 = .ok (.istore_n 3, 1) := by decide +kernel
theorem dX6_ofHouse_132 : decode cX6_ofHouse 132 = .ok (.iinc 4 1, 3) := by decide +kernel
theorem dX6_ofHouse_135 : decode cX6_ofHouse 135 = .ok (.goto (-68), 3) := by decide +kernel
theorem dX6_ofHouse_138 : decode cX6_ofHouse 138 = .ok (.iload_n 3, 1) := by decide +kernel
theorem dX6_ofHouse_139 : decode cX6_ofHouse 139 = .ok (.ireturn, 1) := by decide +kernel
set_option maxRecDepth 20000 in
theorem ggX6_ofClock_X6_isClock : GoodIn wsX6_ofClock wsX6_isClock := goodIn_r _ [8, 9, 41, 42, 43, 44, 45, 46, 47, 48, 49, 50, 51, 52, 53, 54, 55, 56, 57, 58, 59, 60, 61, 62, 63, 64, 65, 66, 67, 68, 69, 70] (by decide +kernel) (by decide +kernel)
set_option maxRecDepth 20000 in
theorem gX6_ofClock_X6_isClock : GoodIn wsX6_ofClock (wsV RX6 154 RX6 yX6_isClock wsX6_isClock) := goodIn_app (goodIn_of _ (by decide +kernel)) ggX6_ofClock_X6_isClock
set_option maxRecDepth 20000 in
theorem ggX6_ofClock_X6_soundOf : GoodIn wsX6_ofClock wsX6_soundOf := goodIn_r _ [13, 3, 1, 14, 15, 7, 16, 41, 42, 43, 44, 45, 46, 47, 48, 49, 50, 51, 52, 53, 54, 55, 56, 57, 58, 59, 60, 61, 62, 63, 64, 65, 66, 67, 68, 69, 70] (by decide +kernel) (by decide +kernel)
set_option maxRecDepth 20000 in
theorem gX6_ofClock_X6_soundOf : GoodIn wsX6_ofClock (wsV RX6 139 RX6 yX6_soundOf wsX6_soundOf) := goodIn_app (goodIn_of _ (by decide +kernel)) ggX6_ofClock_X6_soundOf
set_option maxRecDepth 20000 in
theorem ggX6_ofClock_X6_wakersOf : GoodIn wsX6_ofClock wsX6_wakersOf := goodIn_r _ [20, 21, 22, 23, 24, 7, 25, 26, 27, 28, 29, 30, 10, 11, 12, 13, 3, 1, 14, 15, 16, 31, 32, 33, 34, 35, 36, 41, 42, 43, 44, 45, 46, 47, 48, 49, 50, 51, 52, 53, 54, 55, 56, 57, 58, 59, 60, 61, 62, 63, 64, 65, 66, 67, 68, 69, 70] (by decide +kernel) (by decide +kernel)
set_option maxRecDepth 20000 in
theorem gX6_ofClock_X6_wakersOf : GoodIn wsX6_ofClock (wsV RX6 157 RX6 yX6_wakersOf wsX6_wakersOf) := goodIn_app (goodIn_of _ (by decide +kernel)) ggX6_ofClock_X6_wakersOf
set_option maxRecDepth 20000 in
theorem ggX6_ofClock_X6_ownerFrom : GoodIn wsX6_ofClock wsX6_ownerFrom := goodIn_r _ [40, 21, 22, 23, 24, 7, 25, 26, 27, 28, 29, 30, 10, 11, 12, 13, 3, 1, 14, 15, 16, 31, 32, 33, 34, 35, 36, 41, 42, 43, 44, 45, 46, 47, 48, 49, 50, 51, 52, 53, 54, 55, 56, 57, 58, 59, 60, 61, 62, 63, 64, 65, 66, 67, 68, 69, 70] (by decide +kernel) (by decide +kernel)
set_option maxRecDepth 20000 in
theorem gX6_ofClock_X6_ownerFrom : GoodIn wsX6_ofClock (wsV RX6 161 RX6 yX6_ownerFrom wsX6_ownerFrom) := goodIn_app (goodIn_of _ (by decide +kernel)) ggX6_ofClock_X6_ownerFrom
theorem dX6_ofClock_0 : decode cX6_ofClock 0 = .ok (.aload_n 0, 1) := by decide +kernel
theorem dX6_ofClock_1 : decode cX6_ofClock 1 = .ok (.iload_n 1, 1) := by decide +kernel
theorem dX6_ofClock_2 : decode cX6_ofClock 2 = .ok (.invokevirtual 154, 3) := by decide +kernel
theorem dX6_ofClock_5 : decode cX6_ofClock 5 = .ok (.ifCond .ne 5, 3) := by decide +kernel
theorem dX6_ofClock_8 : decode cX6_ofClock 8 = .ok (.iconst (-1), 1) := by decide +kernel
theorem dX6_ofClock_9 : decode cX6_ofClock 9 = .ok (.ireturn, 1) := by decide +kernel
theorem dX6_ofClock_10 : decode cX6_ofClock 10 = .ok (.iload_n 2, 1) := by decide +kernel
theorem dX6_ofClock_11 : decode cX6_ofClock 11 = .ok (.tableswitch 90 0 5 #[37, 44, 50, 57, 66, 78], 37) := by decide +kernel
theorem dX6_ofClock_48 : decode cX6_ofClock 48 = .ok (.aload_n 0, 1) := by decide +kernel
theorem dX6_ofClock_49 : decode cX6_ofClock 49 = .ok (.getfield 25, 3) := by decide +kernel
theorem dX6_ofClock_52 : decode cX6_ofClock 52 = .ok (.iload_n 1, 1) := by decide +kernel
theorem dX6_ofClock_53 : decode cX6_ofClock 53 = .ok (.iaload, 1) := by decide +kernel
theorem dX6_ofClock_54 : decode cX6_ofClock 54 = .ok (.ireturn, 1) := by decide +kernel
theorem dX6_ofClock_55 : decode cX6_ofClock 55 = .ok (.aload_n 0, 1) := by decide +kernel
theorem dX6_ofClock_56 : decode cX6_ofClock 56 = .ok (.iload_n 1, 1) := by decide +kernel
theorem dX6_ofClock_57 : decode cX6_ofClock 57 = .ok (.invokevirtual 139, 3) := by decide +kernel
theorem dX6_ofClock_60 : decode cX6_ofClock 60 = .ok (.ireturn, 1) := by decide +kernel
theorem dX6_ofClock_61 : decode cX6_ofClock 61 = .ok (.aload_n 0, 1) := by decide +kernel
theorem dX6_ofClock_62 : decode cX6_ofClock 62 = .ok (.getfield 28, 3) := by decide +kernel
theorem dX6_ofClock_65 : decode cX6_ofClock 65 = .ok (.iload_n 1, 1) := by decide +kernel
theorem dX6_ofClock_66 : decode cX6_ofClock 66 = .ok (.iaload, 1) := by decide +kernel
theorem dX6_ofClock_67 : decode cX6_ofClock 67 = .ok (.ireturn, 1) := by decide +kernel
theorem dX6_ofClock_68 : decode cX6_ofClock 68 = .ok (.aload_n 0, 1) := by decide +kernel
theorem dX6_ofClock_69 : decode cX6_ofClock 69 = .ok (.getfield 114, 3) := by decide +kernel
theorem dX6_ofClock_72 : decode cX6_ofClock 72 = .ok (.iload_n 1, 1) := by decide +kernel
theorem dX6_ofClock_73 : decode cX6_ofClock 73 = .ok (.ishr, 1) := by decide +kernel
theorem dX6_ofClock_74 : decode cX6_ofClock 74 = .ok (.iconst 1, 1) := by decide +kernel
theorem dX6_ofClock_75 : decode cX6_ofClock 75 = .ok (.iand, 1) := by decide +kernel
theorem dX6_ofClock_76 : decode cX6_ofClock 76 = .ok (.ireturn, 1) := by decide +kernel
theorem dX6_ofClock_77 : decode cX6_ofClock 77 = .ok (.aload_n 0, 1) := by decide +kernel
theorem dX6_ofClock_78 : decode cX6_ofClock 78 = .ok (.iload_n 1, 1) := by decide +kernel
theorem dX6_ofClock_79 : decode cX6_ofClock 79 = .ok (.aload_n 0, 1) := by decide +kernel
theorem dX6_ofClock_80 : decode cX6_ofClock 80 = .ok (.getfield 28, 3) := by decide +kernel
theorem dX6_ofClock_83 : decode cX6_ofClock 83 = .ok (.iload_n 1, 1) := by decide +kernel
theorem dX6_ofClock_84 : decode cX6_ofClock 84 = .ok (.iaload, 1) := by decide +kernel
theorem dX6_ofClock_85 : decode cX6_ofClock 85 = .ok (.invokevirtual 157, 3) := by decide +kernel
theorem dX6_ofClock_88 : decode cX6_ofClock 88 = .ok (.ireturn, 1) := by decide +kernel
theorem dX6_ofClock_89 : decode cX6_ofClock 89 = .ok (.aload_n 0, 1) := by decide +kernel
theorem dX6_ofClock_90 : decode cX6_ofClock 90 = .ok (.iload_n 1, 1) := by decide +kernel
theorem dX6_ofClock_91 : decode cX6_ofClock 91 = .ok (.aload_n 0, 1) := by decide +kernel
theorem dX6_ofClock_92 : decode cX6_ofClock 92 = .ok (.getfield 28, 3) := by decide +kernel
theorem dX6_ofClock_95 : decode cX6_ofClock 95 = .ok (.iload_n 1, 1) := by decide +kernel
theorem dX6_ofClock_96 : decode cX6_ofClock 96 = .ok (.iaload, 1) := by decide +kernel
theorem dX6_ofClock_97 : decode cX6_ofClock 97 = .ok (.invokevirtual 161, 3) := by decide +kernel
theorem dX6_ofClock_100 : decode cX6_ofClock 100 = .ok (.ireturn, 1) := by decide +kernel
theorem dX6_ofClock_101 : decode cX6_ofClock 101 = .ok (.bipush (-2), 2) := by decide +kernel
theorem dX6_ofClock_103 : decode cX6_ofClock 103 = .ok (.ireturn, 1) := by decide +kernel
set_option maxRecDepth 20000 in
theorem ggX6_drowse_X6_isHouse : GoodIn wsX6_drowse wsX6_isHouse := goodIn_r _ [6, 7, 11, 12, 13, 14, 15, 16, 17, 18, 19, 20, 21, 22, 23, 24, 25, 26, 27, 28, 29, 30, 31, 32, 33, 34, 35, 36, 37, 38, 39, 40] (by decide +kernel) (by decide +kernel)
set_option maxRecDepth 20000 in
theorem gX6_drowse_X6_isHouse : GoodIn wsX6_drowse (wsV RX6 151 RX6 yX6_isHouse wsX6_isHouse) := goodIn_app (goodIn_of _ (by decide +kernel)) ggX6_drowse_X6_isHouse
set_option maxRecDepth 20000 in
theorem ggX6_drowse_X6_within : GoodIn wsX6_drowse wsX6_within := goodIn_r _ [10] (by decide +kernel) (by decide +kernel)
set_option maxRecDepth 20000 in
theorem gX6_drowse_X6_within : GoodIn wsX6_drowse (va_wsS RX6 64 yX6_within wsX6_within) := goodIn_app (goodIn_of _ (by decide +kernel)) ggX6_drowse_X6_within
theorem dX6_drowse_0 : decode cX6_drowse 0 = .ok (.aload_n 0, 1) := by decide +kernel
theorem dX6_drowse_1 : decode cX6_drowse 1 = .ok (.iload_n 1, 1) := by decide +kernel
theorem dX6_drowse_2 : decode cX6_drowse 2 = .ok (.invokevirtual 151, 3) := by decide +kernel
theorem dX6_drowse_5 : decode cX6_drowse 5 = .ok (.ifCond .ne 5, 3) := by decide +kernel
theorem dX6_drowse_8 : decode cX6_drowse 8 = .ok (.iconst (-1), 1) := by decide +kernel
theorem dX6_drowse_9 : decode cX6_drowse 9 = .ok (.ireturn, 1) := by decide +kernel
theorem dX6_drowse_10 : decode cX6_drowse 10 = .ok (.iload_n 2, 1) := by decide +kernel
theorem dX6_drowse_11 : decode cX6_drowse 11 = .ok (.iconst 1, 1) := by decide +kernel
theorem dX6_drowse_12 : decode cX6_drowse 12 = .ok (.bipush 9, 2) := by decide +kernel
theorem dX6_drowse_14 : decode cX6_drowse 14 = .ok (.invokestatic 64, 3) := by decide +kernel
theorem dX6_drowse_17 : decode cX6_drowse 17 = .ok (.ifCond .ne 6, 3) := by decide +kernel
theorem dX6_drowse_20 : decode cX6_drowse 20 = .ok (.bipush (-2), 2) := by decide +kernel
theorem dX6_drowse_22 : decode cX6_drowse 22 = .ok (.ireturn, 1) := by decide +kernel
theorem dX6_drowse_23 : decode cX6_drowse 23 = .ok (.aload_n 0, 1) := by decide +kernel
theorem dX6_drowse_24 : decode cX6_drowse 24 = .ok (.getfield 22, 3) := by decide +kernel
theorem dX6_drowse_27 : decode cX6_drowse 27 = .ok (.iload_n 1, 1) := by decide +kernel
theorem dX6_drowse_28 : decode cX6_drowse 28 = .ok (.iaload, 1) := by decide +kernel
theorem dX6_drowse_29 : decode cX6_drowse 29 = .ok (.istore_n 3, 1) := by decide +kernel
theorem dX6_drowse_30 : decode cX6_drowse 30 = .ok (.aload_n 0, 1) := by decide +kernel
theorem dX6_drowse_31 : decode cX6_drowse 31 = .ok (.getfield 22, 3) := by decide +kernel
theorem dX6_drowse_34 : decode cX6_drowse 34 = .ok (.iload_n 1, 1) := by decide +kernel
theorem dX6_drowse_35 : decode cX6_drowse 35 = .ok (.iload_n 2, 1) := by decide +kernel
theorem dX6_drowse_36 : decode cX6_drowse 36 = .ok (.iastore, 1) := by decide +kernel
theorem dX6_drowse_37 : decode cX6_drowse 37 = .ok (.iload_n 3, 1) := by decide +kernel
theorem dX6_drowse_38 : decode cX6_drowse 38 = .ok (.ireturn, 1) := by decide +kernel
set_option maxRecDepth 20000 in
theorem ggX6_tune_X6_isClock : GoodIn wsX6_tune wsX6_isClock := goodIn_r _ [6, 7, 11, 12, 13, 14, 15, 16, 17, 18, 19, 20, 21, 22, 23, 24, 25, 26, 27, 28, 29, 30, 31, 32, 33, 34, 35, 36, 37, 38, 39, 40] (by decide +kernel) (by decide +kernel)
set_option maxRecDepth 20000 in
theorem gX6_tune_X6_isClock : GoodIn wsX6_tune (wsV RX6 154 RX6 yX6_isClock wsX6_isClock) := goodIn_app (goodIn_of _ (by decide +kernel)) ggX6_tune_X6_isClock
set_option maxRecDepth 20000 in
theorem ggX6_tune_X6_within : GoodIn wsX6_tune wsX6_within := goodIn_r _ [10] (by decide +kernel) (by decide +kernel)
set_option maxRecDepth 20000 in
theorem gX6_tune_X6_within : GoodIn wsX6_tune (va_wsS RX6 64 yX6_within wsX6_within) := goodIn_app (goodIn_of _ (by decide +kernel)) ggX6_tune_X6_within
theorem dX6_tune_0 : decode cX6_tune 0 = .ok (.aload_n 0, 1) := by decide +kernel
theorem dX6_tune_1 : decode cX6_tune 1 = .ok (.iload_n 1, 1) := by decide +kernel
theorem dX6_tune_2 : decode cX6_tune 2 = .ok (.invokevirtual 154, 3) := by decide +kernel
theorem dX6_tune_5 : decode cX6_tune 5 = .ok (.ifCond .ne 5, 3) := by decide +kernel
theorem dX6_tune_8 : decode cX6_tune 8 = .ok (.iconst (-1), 1) := by decide +kernel
theorem dX6_tune_9 : decode cX6_tune 9 = .ok (.ireturn, 1) := by decide +kernel
theorem dX6_tune_10 : decode cX6_tune 10 = .ok (.iload_n 2, 1) := by decide +kernel
theorem dX6_tune_11 : decode cX6_tune 11 = .ok (.iconst 1, 1) := by decide +kernel
theorem dX6_tune_12 : decode cX6_tune 12 = .ok (.bipush 9, 2) := by decide +kernel
theorem dX6_tune_14 : decode cX6_tune 14 = .ok (.invokestatic 64, 3) := by decide +kernel
theorem dX6_tune_17 : decode cX6_tune 17 = .ok (.ifCond .ne 6, 3) := by decide +kernel
theorem dX6_tune_20 : decode cX6_tune 20 = .ok (.bipush (-2), 2) := by decide +kernel
theorem dX6_tune_22 : decode cX6_tune 22 = .ok (.ireturn, 1) := by decide +kernel
theorem dX6_tune_23 : decode cX6_tune 23 = .ok (.aload_n 0, 1) := by decide +kernel
theorem dX6_tune_24 : decode cX6_tune 24 = .ok (.getfield 25, 3) := by decide +kernel
theorem dX6_tune_27 : decode cX6_tune 27 = .ok (.iload_n 1, 1) := by decide +kernel
theorem dX6_tune_28 : decode cX6_tune 28 = .ok (.iaload, 1) := by decide +kernel
theorem dX6_tune_29 : decode cX6_tune 29 = .ok (.istore_n 3, 1) := by decide +kernel
theorem dX6_tune_30 : decode cX6_tune 30 = .ok (.aload_n 0, 1) := by decide +kernel
theorem dX6_tune_31 : decode cX6_tune 31 = .ok (.getfield 25, 3) := by decide +kernel
theorem dX6_tune_34 : decode cX6_tune 34 = .ok (.iload_n 1, 1) := by decide +kernel
theorem dX6_tune_35 : decode cX6_tune 35 = .ok (.iload_n 2, 1) := by decide +kernel
theorem dX6_tune_36 : decode cX6_tune 36 = .ok (.iastore, 1) := by decide +kernel
theorem dX6_tune_37 : decode cX6_tune 37 = .ok (.iload_n 3, 1) := by decide +kernel
theorem dX6_tune_38 : decode cX6_tune 38 = .ok (.ireturn, 1) := by decide +kernel
set_option maxRecDepth 20000 in
theorem ggX6_wall_X6_within : GoodIn wsX6_wall wsX6_within := goodIn_r _ [6] (by decide +kernel) (by decide +kernel)
set_option maxRecDepth 20000 in
theorem gX6_wall_X6_within : GoodIn wsX6_wall (va_wsS RX6 64 yX6_within wsX6_within) := goodIn_app (goodIn_of _ (by decide +kernel)) ggX6_wall_X6_within
theorem dX6_wall_0 : decode cX6_wall 0 = .ok (.iload_n 1, 1) := by decide +kernel
end
section
theorem dX6_wall_1 : decode cX6_wall 1 = .ok (.iconst 0, 1) := by decide +kernel
theorem dX6_wall_2 : decode cX6_wall 2 = .ok (.iconst 3, 1) := by decide +kernel
theorem dX6_wall_3 : decode cX6_wall 3 = .ok (.invokestatic 64, 3) := by decide +kernel
theorem dX6_wall_6 : decode cX6_wall 6 = .ok (.ifCond .ne 6, 3) := by decide +kernel
theorem dX6_wall_9 : decode cX6_wall 9 = .ok (.bipush (-2), 2) := by decide +kernel
theorem dX6_wall_11 : decode cX6_wall 11 = .ok (.ireturn, 1) := by decide +kernel
theorem dX6_wall_12 : decode cX6_wall 12 = .ok (.aload_n 0, 1) := by decide +kernel
theorem dX6_wall_13 : decode cX6_wall 13 = .ok (.getfield 68, 3) := by decide +kernel
theorem dX6_wall_16 : decode cX6_wall 16 = .ok (.ifCond .ne 6, 3) := by decide +kernel
theorem dX6_wall_19 : decode cX6_wall 19 = .ok (.bipush (-3), 2) := by decide +kernel
theorem dX6_wall_21 : decode cX6_wall 21 = .ok (.ireturn, 1) := by decide +kernel
theorem dX6_wall_22 : decode cX6_wall 22 = .ok (.aload_n 0, 1) := by decide +kernel
theorem dX6_wall_23 : decode cX6_wall 23 = .ok (.getfield 105, 3) := by decide +kernel
theorem dX6_wall_26 : decode cX6_wall 26 = .ok (.istore_n 2, 1) := by decide +kernel
theorem dX6_wall_27 : decode cX6_wall 27 = .ok (.aload_n 0, 1) := by decide +kernel
theorem dX6_wall_28 : decode cX6_wall 28 = .ok (.iload_n 1, 1) := by decide +kernel
theorem dX6_wall_29 : decode cX6_wall 29 = .ok (.putfield 105, 3) := by decide +kernel
theorem dX6_wall_32 : decode cX6_wall 32 = .ok (.iload_n 2, 1) := by decide +kernel
theorem dX6_wall_33 : decode cX6_wall 33 = .ok (.ireturn, 1) := by decide +kernel
set_option maxRecDepth 20000 in
theorem ggX6_hears_X6_isHouse : GoodIn wsX6_hears wsX6_isHouse := goodIn_r _ [7, 8, 28, 29, 30, 31, 32, 33, 34, 35, 36, 37, 38, 39, 40, 41, 42, 43, 44, 45, 46, 47, 48, 49, 50, 51, 52, 53, 54, 55, 56, 57] (by decide +kernel) (by decide +kernel)
set_option maxRecDepth 20000 in
theorem gX6_hears_X6_isHouse : GoodIn wsX6_hears (wsV RX6 151 RX6 yX6_isHouse wsX6_isHouse) := goodIn_app (goodIn_of _ (by decide +kernel)) ggX6_hears_X6_isHouse
set_option maxRecDepth 20000 in
theorem ggX6_hears_X6_isClock : GoodIn wsX6_hears wsX6_isClock := goodIn_r _ [12, 13, 28, 29, 30, 31, 32, 33, 34, 35, 36, 37, 38, 39, 40, 41, 42, 43, 44, 45, 46, 47, 48, 49, 50, 51, 52, 53, 54, 55, 56, 57] (by decide +kernel) (by decide +kernel)
set_option maxRecDepth 20000 in
theorem gX6_hears_X6_isClock : GoodIn wsX6_hears (wsV RX6 154 RX6 yX6_isClock wsX6_isClock) := goodIn_app (goodIn_of _ (by decide +kernel)) ggX6_hears_X6_isClock
set_option maxRecDepth 20000 in
theorem ggX6_hears_X6_heardFrom : GoodIn wsX6_hears wsX6_heardFrom := goodIn_r _ [17, 18, 19, 20, 21, 6, 22, 23, 24, 25, 26, 27, 28, 29, 30, 31, 32, 33, 34, 35, 36, 37, 38, 39, 40, 41, 42, 43, 44, 45, 46, 47, 48, 49, 50, 51, 52, 53, 54, 55, 56, 57] (by decide +kernel) (by decide +kernel)
set_option maxRecDepth 20000 in
theorem gX6_hears_X6_heardFrom : GoodIn wsX6_hears (wsV RX6 142 RX6 yX6_heardFrom wsX6_heardFrom) := goodIn_app (goodIn_of _ (by decide +kernel)) ggX6_hears_X6_heardFrom
theorem dX6_hears_0 : decode cX6_hears 0 = .ok (.aload_n 0, 1) := by decide +kernel
theorem dX6_hears_1 : decode cX6_hears 1 = .ok (.iload_n 1, 1) := by decide +kernel
theorem dX6_hears_2 : decode cX6_hears 2 = .ok (.invokevirtual 151, 3) := by decide +kernel
theorem dX6_hears_5 : decode cX6_hears 5 = .ok (.ifCond .eq 27, 3) := by decide +kernel
theorem dX6_hears_8 : decode cX6_hears 8 = .ok (.aload_n 0, 1) := by decide +kernel
theorem dX6_hears_9 : decode cX6_hears 9 = .ok (.iload_n 2, 1) := by decide +kernel
theorem dX6_hears_10 : decode cX6_hears 10 = .ok (.invokevirtual 154, 3) := by decide +kernel
theorem dX6_hears_13 : decode cX6_hears 13 = .ok (.ifCond .eq 19, 3) := by decide +kernel
theorem dX6_hears_16 : decode cX6_hears 16 = .ok (.aload_n 0, 1) := by decide +kernel
theorem dX6_hears_17 : decode cX6_hears 17 = .ok (.iload_n 1, 1) := by decide +kernel
theorem dX6_hears_18 : decode cX6_hears 18 = .ok (.iload_n 2, 1) := by decide +kernel
theorem dX6_hears_19 : decode cX6_hears 19 = .ok (.aload_n 0, 1) := by decide +kernel
theorem dX6_hears_20 : decode cX6_hears 20 = .ok (.getfield 28, 3) := by decide +kernel
theorem dX6_hears_23 : decode cX6_hears 23 = .ok (.iload_n 2, 1) := by decide +kernel
theorem dX6_hears_24 : decode cX6_hears 24 = .ok (.iaload, 1) := by decide +kernel
theorem dX6_hears_25 : decode cX6_hears 25 = .ok (.invokevirtual 142, 3) := by decide +kernel
theorem dX6_hears_28 : decode cX6_hears 28 = .ok (.i2l, 1) := by decide +kernel
theorem dX6_hears_29 : decode cX6_hears 29 = .ok (.goto 6, 3) := by decide +kernel
theorem dX6_hears_32 : decode cX6_hears 32 = .ok (.ldc2_w 62, 3) := by decide +kernel
theorem dX6_hears_35 : decode cX6_hears 35 = .ok (.lreturn, 1) := by decide +kernel
set_option maxRecDepth 20000 in
theorem ggX6_strikes_X6_ownerFrom : GoodIn wsX6_strikes wsX6_ownerFrom := goodIn_r _ [8, 9, 10, 11, 12, 7, 13, 14, 15, 16, 17, 18, 19, 20, 21, 22, 23, 24, 25, 26, 27, 28, 29, 30, 31, 32, 33, 34, 35, 36, 37, 38, 39, 40, 41, 42, 43, 44, 45, 46, 47, 48, 49, 50, 51, 52, 53, 54, 55, 56, 57, 58, 59, 60, 61, 62, 63] (by decide +kernel) (by decide +kernel)
set_option maxRecDepth 20000 in
theorem gX6_strikes_X6_ownerFrom : GoodIn wsX6_strikes (wsV RX6 161 RX6 yX6_ownerFrom wsX6_ownerFrom) := goodIn_app (goodIn_of _ (by decide +kernel)) ggX6_strikes_X6_ownerFrom
theorem dX6_strikes_0 : decode cX6_strikes 0 = .ok (.aload_n 0, 1) := by decide +kernel
theorem dX6_strikes_1 : decode cX6_strikes 1 = .ok (.iload_n 1, 1) := by decide +kernel
theorem dX6_strikes_2 : decode cX6_strikes 2 = .ok (.aload_n 0, 1) := by decide +kernel
theorem dX6_strikes_3 : decode cX6_strikes 3 = .ok (.getfield 28, 3) := by decide +kernel
theorem dX6_strikes_6 : decode cX6_strikes 6 = .ok (.iload_n 1, 1) := by decide +kernel
theorem dX6_strikes_7 : decode cX6_strikes 7 = .ok (.iaload, 1) := by decide +kernel
theorem dX6_strikes_8 : decode cX6_strikes 8 = .ok (.invokevirtual 161, 3) := by decide +kernel
theorem dX6_strikes_11 : decode cX6_strikes 11 = .ok (.istore_n 2, 1) := by decide +kernel
theorem dX6_strikes_12 : decode cX6_strikes 12 = .ok (.aload_n 0, 1) := by decide +kernel
theorem dX6_strikes_13 : decode cX6_strikes 13 = .ok (.dup, 1) := by decide +kernel
theorem dX6_strikes_14 : decode cX6_strikes 14 = .ok (.getfield 164, 3) := by decide +kernel
theorem dX6_strikes_17 : decode cX6_strikes 17 = .ok (.iload_n 2, 1) := by decide +kernel
theorem dX6_strikes_18 : decode cX6_strikes 18 = .ok (.bipush (-9), 2) := by decide +kernel
theorem dX6_strikes_20 : decode cX6_strikes 20 = .ok (.if_icmp .ne 7, 3) := by decide +kernel
theorem dX6_strikes_23 : decode cX6_strikes 23 = .ok (.iconst 1, 1) := by decide +kernel
theorem dX6_strikes_24 : decode cX6_strikes 24 = .ok (.goto 4, 3) := by decide +kernel
theorem dX6_strikes_27 : decode cX6_strikes 27 = .ok (.iconst 0, 1) := by decide +kernel
theorem dX6_strikes_28 : decode cX6_strikes 28 = .ok (.iadd, 1) := by decide +kernel
theorem dX6_strikes_29 : decode cX6_strikes 29 = .ok (.putfield 164, 3) := by decide +kernel
theorem dX6_strikes_32 : decode cX6_strikes 32 = .ok (.aload_n 0, 1) := by decide +kernel
theorem dX6_strikes_33 : decode cX6_strikes 33 = .ok (.dup, 1) := by decide +kernel
theorem dX6_strikes_34 : decode cX6_strikes 34 = .ok (.getfield 167, 3) := by decide +kernel
theorem dX6_strikes_37 : decode cX6_strikes 37 = .ok (.iload_n 2, 1) := by decide +kernel
theorem dX6_strikes_38 : decode cX6_strikes 38 = .ok (.bipush (-9), 2) := by decide +kernel
theorem dX6_strikes_40 : decode cX6_strikes 40 = .ok (.if_icmp .eq 17, 3) := by decide +kernel
theorem dX6_strikes_43 : decode cX6_strikes 43 = .ok (.iload_n 2, 1) := by decide +kernel
theorem dX6_strikes_44 : decode cX6_strikes 44 = .ok (.aload_n 0, 1) := by decide +kernel
theorem dX6_strikes_45 : decode cX6_strikes 45 = .ok (.getfield 28, 3) := by decide +kernel
theorem dX6_strikes_48 : decode cX6_strikes 48 = .ok (.iload_n 1, 1) := by decide +kernel
theorem dX6_strikes_49 : decode cX6_strikes 49 = .ok (.iaload, 1) := by decide +kernel
theorem dX6_strikes_50 : decode cX6_strikes 50 = .ok (.if_icmp .eq 7, 3) := by decide +kernel
theorem dX6_strikes_53 : decode cX6_strikes 53 = .ok (.iconst 1, 1) := by decide +kernel
theorem dX6_strikes_54 : decode cX6_strikes 54 = .ok (.goto 4, 3) := by decide +kernel
theorem dX6_strikes_57 : decode cX6_strikes 57 = .ok (.iconst 0, 1) := by decide +kernel
theorem dX6_strikes_58 : decode cX6_strikes 58 = .ok (.iadd, 1) := by decide +kernel
theorem dX6_strikes_59 : decode cX6_strikes 59 = .ok (.putfield 167, 3) := by decide +kernel
theorem dX6_strikes_62 : decode cX6_strikes 62 = .ok (.aload_n 0, 1) := by decide +kernel
theorem dX6_strikes_63 : decode cX6_strikes 63 = .ok (.getfield 28, 3) := by decide +kernel
theorem dX6_strikes_66 : decode cX6_strikes 66 = .ok (.iload_n 1, 1) := by decide +kernel
theorem dX6_strikes_67 : decode cX6_strikes 67 = .ok (.iload_n 2, 1) := by decide +kernel
theorem dX6_strikes_68 : decode cX6_strikes 68 = .ok (.bipush (-9), 2) := by decide +kernel
theorem dX6_strikes_70 : decode cX6_strikes 70 = .ok (.if_icmp .ne 12, 3) := by decide +kernel
theorem dX6_strikes_73 : decode cX6_strikes 73 = .ok (.aload_n 0, 1) := by decide +kernel
theorem dX6_strikes_74 : decode cX6_strikes 74 = .ok (.getfield 28, 3) := by decide +kernel
theorem dX6_strikes_77 : decode cX6_strikes 77 = .ok (.iload_n 1, 1) := by decide +kernel
theorem dX6_strikes_78 : decode cX6_strikes 78 = .ok (.iaload, 1) := by decide +kernel
theorem dX6_strikes_79 : decode cX6_strikes 79 = .ok (.goto 4, 3) := by decide +kernel
theorem dX6_strikes_82 : decode cX6_strikes 82 = .ok (.iload_n 2, 1) := by decide +kernel
theorem dX6_strikes_83 : decode cX6_strikes 83 = .ok (.iastore, 1) := by decide +kernel
theorem dX6_strikes_84 : decode cX6_strikes 84 = .ok (.iload_n 2, 1) := by decide +kernel
theorem dX6_strikes_85 : decode cX6_strikes 85 = .ok (.ireturn, 1) := by decide +kernel
set_option maxRecDepth 20000 in
theorem ggX6_oneNight_X6_strikes : GoodIn wsX6_oneNight wsX6_strikes := goodIn_r _ [6, 7, 8, 9, 10, 11, 12, 5, 13, 14, 15, 16, 17, 18, 19, 20, 21, 22, 23, 24, 25, 26, 27, 28, 29, 30, 31, 32, 33, 34, 35, 36, 37, 38, 39, 40, 41, 42, 43, 44, 45, 46, 47, 48, 49, 50, 51, 52, 53, 54, 55, 56, 57, 58, 59, 60, 61, 62, 63, 64, 65, 66, 67, 68] (by decide +kernel) (by decide +kernel)
set_option maxRecDepth 20000 in
theorem gX6_oneNight_X6_strikes : GoodIn wsX6_oneNight (wsV RX6 170 RX6 yX6_strikes wsX6_strikes) := goodIn_app (goodIn_of _ (by decide +kernel)) ggX6_oneNight_X6_strikes
theorem dX6_oneNight_0 : decode cX6_oneNight 0 = .ok (.iconst 0, 1) := by decide +kernel
theorem dX6_oneNight_1 : decode cX6_oneNight 1 = .ok (.istore_n 1, 1) := by decide +kernel
theorem dX6_oneNight_2 : decode cX6_oneNight 2 = .ok (.iload_n 1, 1) := by decide +kernel
theorem dX6_oneNight_3 : decode cX6_oneNight 3 = .ok (.aload_n 0, 1) := by decide +kernel
theorem dX6_oneNight_4 : decode cX6_oneNight 4 = .ok (.getfield 71, 3) := by decide +kernel
theorem dX6_oneNight_7 : decode cX6_oneNight 7 = .ok (.if_icmp .ge 15, 3) := by decide +kernel
theorem dX6_oneNight_10 : decode cX6_oneNight 10 = .ok (.aload_n 0, 1) := by decide +kernel
theorem dX6_oneNight_11 : decode cX6_oneNight 11 = .ok (.iload_n 1, 1) := by decide +kernel
theorem dX6_oneNight_12 : decode cX6_oneNight 12 = .ok (.invokevirtual 170, 3) := by decide +kernel
theorem dX6_oneNight_15 : decode cX6_oneNight 15 = .ok (.pop, 1) := by decide +kernel
theorem dX6_oneNight_16 : decode cX6_oneNight 16 = .ok (.iinc 1 1, 3) := by decide +kernel
theorem dX6_oneNight_19 : decode cX6_oneNight 19 = .ok (.goto (-17), 3) := by decide +kernel
theorem dX6_oneNight_22 : decode cX6_oneNight 22 = .ok (.return_, 1) := by decide +kernel
set_option maxRecDepth 20000 in
theorem ggX6_stroke_X6_isClock : GoodIn wsX6_stroke wsX6_isClock := goodIn_r _ [5, 6, 43, 44, 45, 46, 47, 48, 49, 50, 51, 52, 53, 54, 55, 56, 57, 58, 59, 60, 61, 62, 63, 64, 65, 66, 67, 68, 69, 70, 71, 72] (by decide +kernel) (by decide +kernel)
set_option maxRecDepth 20000 in
theorem gX6_stroke_X6_isClock : GoodIn wsX6_stroke (wsV RX6 154 RX6 yX6_isClock wsX6_isClock) := goodIn_app (goodIn_of _ (by decide +kernel)) ggX6_stroke_X6_isClock
set_option maxRecDepth 20000 in
theorem ggX6_stroke_X6_strikes : GoodIn wsX6_stroke wsX6_strikes := goodIn_r _ [10, 11, 12, 13, 14, 15, 16, 4, 17, 18, 19, 20, 21, 22, 23, 24, 25, 26, 27, 28, 29, 30, 31, 32, 33, 34, 35, 36, 37, 38, 39, 40, 41, 42, 43, 44, 45, 46, 47, 48, 49, 50, 51, 52, 53, 54, 55, 56, 57, 58, 59, 60, 61, 62, 63, 64, 65, 66, 67, 68, 69, 70, 71, 72] (by decide +kernel) (by decide +kernel)
set_option maxRecDepth 20000 in
theorem gX6_stroke_X6_strikes : GoodIn wsX6_stroke (wsV RX6 170 RX6 yX6_strikes wsX6_strikes) := goodIn_app (goodIn_of _ (by decide +kernel)) ggX6_stroke_X6_strikes
theorem dX6_stroke_0 : decode cX6_stroke 0 = .ok (.aload_n 0, 1) := by decide +kernel
theorem dX6_stroke_1 : decode cX6_stroke 1 = .ok (.iload_n 1, 1) := by decide +kernel
theorem dX6_stroke_2 : decode cX6_stroke 2 = .ok (.invokevirtual 154, 3) := by decide +kernel
theorem dX6_stroke_5 : decode cX6_stroke 5 = .ok (.ifCond .eq 11, 3) := by decide +kernel
theorem dX6_stroke_8 : decode cX6_stroke 8 = .ok (.aload_n 0, 1) := by decide +kernel
theorem dX6_stroke_9 : decode cX6_stroke 9 = .ok (.iload_n 1, 1) := by decide +kernel
theorem dX6_stroke_10 : decode cX6_stroke 10 = .ok (.invokevirtual 170, 3) := by decide +kernel
theorem dX6_stroke_13 : decode cX6_stroke 13 = .ok (.goto 4, 3) := by decide +kernel
theorem dX6_stroke_16 : decode cX6_stroke 16 = .ok (.iconst (-1), 1) := by decide +kernel
theorem dX6_stroke_17 : decode cX6_stroke 17 = .ok (.ireturn, 1) := by decide +kernel
theorem dX6_keep_0 : decode cX6_keep 0 = .ok (.iconst 0, 1) := by decide +kernel
theorem dX6_keep_1 : decode cX6_keep 1 = .ok (.istore_n 1, 1) := by decide +kernel
theorem dX6_keep_2 : decode cX6_keep 2 = .ok (.iload_n 1, 1) := by decide +kernel
theorem dX6_keep_3 : decode cX6_keep 3 = .ok (.aload_n 0, 1) := by decide +kernel
theorem dX6_keep_4 : decode cX6_keep 4 = .ok (.getfield 71, 3) := by decide +kernel
theorem dX6_keep_7 : decode cX6_keep 7 = .ok (.if_icmp .ge 21, 3) := by decide +kernel
theorem dX6_keep_10 : decode cX6_keep 10 = .ok (.aload_n 0, 1) := by decide +kernel
theorem dX6_keep_11 : decode cX6_keep 11 = .ok (.getfield 37, 3) := by decide +kernel
theorem dX6_keep_14 : decode cX6_keep 14 = .ok (.iload_n 1, 1) := by decide +kernel
theorem dX6_keep_15 : decode cX6_keep 15 = .ok (.aload_n 0, 1) := by decide +kernel
theorem dX6_keep_16 : decode cX6_keep 16 = .ok (.getfield 28, 3) := by decide +kernel
theorem dX6_keep_19 : decode cX6_keep 19 = .ok (.iload_n 1, 1) := by decide +kernel
theorem dX6_keep_20 : decode cX6_keep 20 = .ok (.iaload, 1) := by decide +kernel
theorem dX6_keep_21 : decode cX6_keep 21 = .ok (.iastore, 1) := by decide +kernel
theorem dX6_keep_22 : decode cX6_keep 22 = .ok (.iinc 1 1, 3) := by decide +kernel
theorem dX6_keep_25 : decode cX6_keep 25 = .ok (.goto (-23), 3) := by decide +kernel
theorem dX6_keep_28 : decode cX6_keep 28 = .ok (.return_, 1) := by decide +kernel
theorem dX6_putBack_0 : decode cX6_putBack 0 = .ok (.iconst 0, 1) := by decide +kernel
theorem dX6_putBack_1 : decode cX6_putBack 1 = .ok (.istore_n 1, 1) := by decide +kernel
theorem dX6_putBack_2 : decode cX6_putBack 2 = .ok (.iload_n 1, 1) := by decide +kernel
theorem dX6_putBack_3 : decode cX6_putBack 3 = .ok (.aload_n 0, 1) := by decide +kernel
theorem dX6_putBack_4 : decode cX6_putBack 4 = .ok (.getfield 71, 3) := by decide +kernel
theorem dX6_putBack_7 : decode cX6_putBack 7 = .ok (.if_icmp .ge 21, 3) := by decide +kernel
theorem dX6_putBack_10 : decode cX6_putBack 10 = .ok (.aload_n 0, 1) := by decide +kernel
theorem dX6_putBack_11 : decode cX6_putBack 11 = .ok (.getfield 28, 3) := by decide +kernel
theorem dX6_putBack_14 : decode cX6_putBack 14 = .ok (.iload_n 1, 1) := by decide +kernel
theorem dX6_putBack_15 : decode cX6_putBack 15 = .ok (.aload_n 0, 1) := by decide +kernel
theorem dX6_putBack_16 : decode cX6_putBack 16 = .ok (.getfield 37, 3) := by decide +kernel
theorem dX6_putBack_19 : decode cX6_putBack 19 = .ok (.iload_n 1, 1) := by decide +kernel
theorem dX6_putBack_20 : decode cX6_putBack 20 = .ok (.iaload, 1) := by decide +kernel
theorem dX6_putBack_21 : decode cX6_putBack 21 = .ok (.iastore, 1) := by decide +kernel
theorem dX6_putBack_22 : decode cX6_putBack 22 = .ok (.iinc 1 1, 3) := by decide +kernel
theorem dX6_putBack_25 : decode cX6_putBack 25 = .ok (.goto (-23), 3) := by decide +kernel
theorem dX6_putBack_28 : decode cX6_putBack 28 = .ok (.return_, 1) := by decide +kernel
theorem dX6_elsewhere_0 : decode cX6_elsewhere 0 = .ok (.iconst 0, 1) := by decide +kernel
theorem dX6_elsewhere_1 : decode cX6_elsewhere 1 = .ok (.istore_n 1, 1) := by decide +kernel
theorem dX6_elsewhere_2 : decode cX6_elsewhere 2 = .ok (.iconst 0, 1) := by decide +kernel
theorem dX6_elsewhere_3 : decode cX6_elsewhere 3 = .ok (.istore_n 2, 1) := by decide +kernel
theorem dX6_elsewhere_4 : decode cX6_elsewhere 4 = .ok (.iload_n 2, 1) := by decide +kernel
theorem dX6_elsewhere_5 : decode cX6_elsewhere 5 = .ok (.aload_n 0, 1) := by decide +kernel
theorem dX6_elsewhere_6 : decode cX6_elsewhere 6 = .ok (.getfield 71, 3) := by decide +kernel
theorem dX6_elsewhere_9 : decode cX6_elsewhere 9 = .ok (.if_icmp .ge 32, 3) := by decide +kernel
theorem dX6_elsewhere_12 : decode cX6_elsewhere 12 = .ok (.iload_n 1, 1) := by decide +kernel
theorem dX6_elsewhere_13 : decode cX6_elsewhere 13 = .ok (.aload_n 0, 1) := by decide +kernel
theorem dX6_elsewhere_14 : decode cX6_elsewhere 14 = .ok (.getfield 28, 3) := by decide +kernel
theorem dX6_elsewhere_17 : decode cX6_elsewhere 17 = .ok (.iload_n 2, 1) := by decide +kernel
theorem dX6_elsewhere_18 : decode cX6_elsewhere 18 = .ok (.iaload, 1) := by decide +kernel
theorem dX6_elsewhere_19 : decode cX6_elsewhere 19 = .ok (.aload_n 0, 1) := by decide +kernel
theorem dX6_elsewhere_20 : decode cX6_elsewhere 20 = .ok (.getfield 37, 3) := by decide +kernel
theorem dX6_elsewhere_23 : decode cX6_elsewhere 23 = .ok (.iload_n 2, 1) := by decide +kernel
theorem dX6_elsewhere_24 : decode cX6_elsewhere 24 = .ok (.iaload, 1) := by decide +kernel
theorem dX6_elsewhere_25 : decode cX6_elsewhere 25 = .ok (.if_icmp .ne 7, 3) := by decide +kernel
theorem dX6_elsewhere_28 : decode cX6_elsewhere 28 = .ok (.iconst 0, 1) := by decide +kernel
theorem dX6_elsewhere_29 : decode cX6_elsewhere 29 = .ok (.goto 4, 3) := by decide +kernel
theorem dX6_elsewhere_32 : decode cX6_elsewhere 32 = .ok (.iconst 1, 1) := by decide +kernel
theorem dX6_elsewhere_33 : decode cX6_elsewhere 33 = .ok (.iadd, 1) := by decide +kernel
theorem dX6_elsewhere_34 : decode cX6_elsewhere 34 = .ok (.istore_n 1, 1) := by decide +kernel
theorem dX6_elsewhere_35 : decode cX6_elsewhere 35 = .ok (.iinc 2 1, 3) := by decide +kernel
theorem dX6_elsewhere_38 : decode cX6_elsewhere 38 = .ok (.goto (-34), 3) := by decide +kernel
theorem dX6_elsewhere_41 : decode cX6_elsewhere 41 = .ok (.iload_n 1, 1) := by decide +kernel
theorem dX6_elsewhere_42 : decode cX6_elsewhere 42 = .ok (.ireturn, 1) := by decide +kernel
set_option maxRecDepth 20000 in
theorem ggX6_nights_X6_within : GoodIn wsX6_nights wsX6_within := goodIn_r _ [6] (by decide +kernel) (by decide +kernel)
set_option maxRecDepth 20000 in
theorem gX6_nights_X6_within : GoodIn wsX6_nights (va_wsS RX6 64 yX6_within wsX6_within) := goodIn_app (goodIn_of _ (by decide +kernel)) ggX6_nights_X6_within
set_option maxRecDepth 20000 in
theorem ggX6_nights_X6_keep : GoodIn wsX6_nights wsX6_keep := goodIn_r _ [10, 11, 12, 13, 56, 57, 58, 59, 60, 61, 62, 63, 64, 65, 66, 67, 68, 69, 70, 71, 72, 73, 74, 75, 76, 77, 78, 79, 80, 81, 82, 83, 84, 85] (by decide +kernel) (by decide +kernel)
set_option maxRecDepth 20000 in
theorem gX6_nights_X6_keep : GoodIn wsX6_nights (wsV RX6 173 RX6 yX6_keep wsX6_keep) := goodIn_app (goodIn_of _ (by decide +kernel)) ggX6_nights_X6_keep
set_option maxRecDepth 20000 in
theorem ggX6_nights_X6_oneNight : GoodIn wsX6_nights wsX6_oneNight := goodIn_r _ [17, 11, 18, 19, 20, 5, 21, 13, 22, 23, 24, 25, 26, 27, 1, 28, 29, 30, 31, 32, 33, 34, 35, 36, 37, 38, 39, 40, 41, 42, 43, 44, 45, 46, 47, 48, 49, 50, 51, 56, 57, 58, 59, 60, 61, 62, 63, 64, 65, 66, 67, 68, 69, 70, 71, 72, 73, 74, 75, 76, 77, 78, 79, 80, 81, 82, 83, 84, 85] (by decide +kernel) (by decide +kernel)
set_option maxRecDepth 20000 in
theorem gX6_nights_X6_oneNight : GoodIn wsX6_nights (wsV RX6 176 RX6 yX6_oneNight wsX6_oneNight) := goodIn_app (goodIn_of _ (by decide +kernel)) ggX6_nights_X6_oneNight
set_option maxRecDepth 20000 in
theorem ggX6_nights_X6_elsewhere : GoodIn wsX6_nights wsX6_elsewhere := goodIn_r _ [55, 11, 13, 12, 56, 57, 58, 59, 60, 61, 62, 63, 64, 65, 66, 67, 68, 69, 70, 71, 72, 73, 74, 75, 76, 77, 78, 79, 80, 81, 82, 83, 84, 85] (by decide +kernel) (by decide +kernel)
set_option maxRecDepth 20000 in
theorem gX6_nights_X6_elsewhere : GoodIn wsX6_nights (wsV RX6 179 RX6 yX6_elsewhere wsX6_elsewhere) := goodIn_app (goodIn_of _ (by decide +kernel)) ggX6_nights_X6_elsewhere
theorem dX6_nights_0 : decode cX6_nights 0 = .ok (.iload_n 1, 1) := by decide +kernel
theorem dX6_nights_1 : decode cX6_nights 1 = .ok (.iconst 1, 1) := by decide +kernel
theorem dX6_nights_2 : decode cX6_nights 2 = .ok (.bipush 60, 2) := by decide +kernel
theorem dX6_nights_4 : decode cX6_nights 4 = .ok (.invokestatic 64, 3) := by decide +kernel
theorem dX6_nights_7 : decode cX6_nights 7 = .ok (.ifCond .ne 6, 3) := by decide +kernel
theorem dX6_nights_10 : decode cX6_nights 10 = .ok (.bipush (-2), 2) := by decide +kernel
theorem dX6_nights_12 : decode cX6_nights 12 = .ok (.ireturn, 1) := by decide +kernel
theorem dX6_nights_13 : decode cX6_nights 13 = .ok (.aload_n 0, 1) := by decide +kernel
theorem dX6_nights_14 : decode cX6_nights 14 = .ok (.getfield 68, 3) := by decide +kernel
theorem dX6_nights_17 : decode cX6_nights 17 = .ok (.ifCond .ne 6, 3) := by decide +kernel
theorem dX6_nights_20 : decode cX6_nights 20 = .ok (.bipush (-3), 2) := by decide +kernel
theorem dX6_nights_22 : decode cX6_nights 22 = .ok (.ireturn, 1) := by decide +kernel
theorem dX6_nights_23 : decode cX6_nights 23 = .ok (.aload_n 0, 1) := by decide +kernel
theorem dX6_nights_24 : decode cX6_nights 24 = .ok (.invokevirtual 173, 3) := by decide +kernel
theorem dX6_nights_27 : decode cX6_nights 27 = .ok (.iconst 0, 1) := by decide +kernel
theorem dX6_nights_28 : decode cX6_nights 28 = .ok (.istore_n 2, 1) := by decide +kernel
theorem dX6_nights_29 : decode cX6_nights 29 = .ok (.iload_n 2, 1) := by decide +kernel
theorem dX6_nights_30 : decode cX6_nights 30 = .ok (.iload_n 1, 1) := by decide +kernel
theorem dX6_nights_31 : decode cX6_nights 31 = .ok (.if_icmp .ge 13, 3) := by decide +kernel
theorem dX6_nights_34 : decode cX6_nights 34 = .ok (.aload_n 0, 1) := by decide +kernel
theorem dX6_nights_35 : decode cX6_nights 35 = .ok (.invokevirtual 176, 3) := by decide +kernel
theorem dX6_nights_38 : decode cX6_nights 38 = .ok (.iinc 2 1, 3) := by decide +kernel
theorem dX6_nights_41 : decode cX6_nights 41 = .ok (.goto (-12), 3) := by decide +kernel
theorem dX6_nights_44 : decode cX6_nights 44 = .ok (.aload_n 0, 1) := by decide +kernel
theorem dX6_nights_45 : decode cX6_nights 45 = .ok (.dup, 1) := by decide +kernel
theorem dX6_nights_46 : decode cX6_nights 46 = .ok (.getfield 117, 3) := by decide +kernel
theorem dX6_nights_49 : decode cX6_nights 49 = .ok (.iload_n 1, 1) := by decide +kernel
theorem dX6_nights_50 : decode cX6_nights 50 = .ok (.iadd, 1) := by decide +kernel
theorem dX6_nights_51 : decode cX6_nights 51 = .ok (.putfield 117, 3) := by decide +kernel
theorem dX6_nights_54 : decode cX6_nights 54 = .ok (.aload_n 0, 1) := by decide +kernel
theorem dX6_nights_55 : decode cX6_nights 55 = .ok (.invokevirtual 179, 3) := by decide +kernel
theorem dX6_nights_58 : decode cX6_nights 58 = .ok (.ireturn, 1) := by decide +kernel
set_option maxRecDepth 20000 in
theorem ggX6_stuff_X6_isClock : GoodIn wsX6_stuff wsX6_isClock := goodIn_r _ [6, 7, 14, 15, 16, 17, 18, 19, 20, 21, 22, 23, 24, 25, 26, 27, 28, 29, 30, 31, 32, 33, 34, 35, 36, 37, 38, 39, 40, 41, 42, 43] (by decide +kernel) (by decide +kernel)
set_option maxRecDepth 20000 in
theorem gX6_stuff_X6_isClock : GoodIn wsX6_stuff (wsV RX6 154 RX6 yX6_isClock wsX6_isClock) := goodIn_app (goodIn_of _ (by decide +kernel)) ggX6_stuff_X6_isClock
set_option maxRecDepth 20000 in
theorem ggX6_stuff_X6_isOf : GoodIn wsX6_stuff wsX6_isOf := goodIn_r _ [10] (by decide +kernel) (by decide +kernel)
set_option maxRecDepth 20000 in
theorem gX6_stuff_X6_isOf : GoodIn wsX6_stuff (va_wsS RX6 136 yX6_isOf wsX6_isOf) := goodIn_app (goodIn_of _ (by decide +kernel)) ggX6_stuff_X6_isOf
set_option maxRecDepth 20000 in
theorem ggX6_stuff_X6_size : GoodIn wsX6_stuff wsX6_size := goodIn_r _ [13] (by decide +kernel) (by decide +kernel)
set_option maxRecDepth 20000 in
theorem gX6_stuff_X6_size : GoodIn wsX6_stuff (va_wsS RX6 183 yX6_size wsX6_size) := goodIn_app (goodIn_of _ (by decide +kernel)) ggX6_stuff_X6_size
theorem dX6_stuff_0 : decode cX6_stuff 0 = .ok (.aload_n 0, 1) := by decide +kernel
theorem dX6_stuff_1 : decode cX6_stuff 1 = .ok (.iload_n 1, 1) := by decide +kernel
theorem dX6_stuff_2 : decode cX6_stuff 2 = .ok (.invokevirtual 154, 3) := by decide +kernel
theorem dX6_stuff_5 : decode cX6_stuff 5 = .ok (.ifCond .ne 5, 3) := by decide +kernel
theorem dX6_stuff_8 : decode cX6_stuff 8 = .ok (.iconst (-1), 1) := by decide +kernel
theorem dX6_stuff_9 : decode cX6_stuff 9 = .ok (.ireturn, 1) := by decide +kernel
theorem dX6_stuff_10 : decode cX6_stuff 10 = .ok (.aload_n 0, 1) := by decide +kernel
theorem dX6_stuff_11 : decode cX6_stuff 11 = .ok (.getfield 114, 3) := by decide +kernel
theorem dX6_stuff_14 : decode cX6_stuff 14 = .ok (.iload_n 1, 1) := by decide +kernel
theorem dX6_stuff_15 : decode cX6_stuff 15 = .ok (.invokestatic 136, 3) := by decide +kernel
theorem dX6_stuff_18 : decode cX6_stuff 18 = .ok (.ifCond .eq 6, 3) := by decide +kernel
theorem dX6_stuff_21 : decode cX6_stuff 21 = .ok (.bipush (-3), 2) := by decide +kernel
theorem dX6_stuff_23 : decode cX6_stuff 23 = .ok (.ireturn, 1) := by decide +kernel
theorem dX6_stuff_24 : decode cX6_stuff 24 = .ok (.aload_n 0, 1) := by decide +kernel
theorem dX6_stuff_25 : decode cX6_stuff 25 = .ok (.dup, 1) := by decide +kernel
theorem dX6_stuff_26 : decode cX6_stuff 26 = .ok (.getfield 114, 3) := by decide +kernel
theorem dX6_stuff_29 : decode cX6_stuff 29 = .ok (.iconst 1, 1) := by decide +kernel
theorem dX6_stuff_30 : decode cX6_stuff 30 = .ok (.iload_n 1, 1) := by decide +kernel
theorem dX6_stuff_31 : decode cX6_stuff 31 = .ok (.ishl, 1) := by decide +kernel
theorem dX6_stuff_32 : decode cX6_stuff 32 = .ok (.ior, 1) := by decide +kernel
theorem dX6_stuff_33 : decode cX6_stuff 33 = .ok (.putfield 114, 3) := by decide +kernel
theorem dX6_stuff_36 : decode cX6_stuff 36 = .ok (.aload_n 0, 1) := by decide +kernel
theorem dX6_stuff_37 : decode cX6_stuff 37 = .ok (.getfield 114, 3) := by decide +kernel
theorem dX6_stuff_40 : decode cX6_stuff 40 = .ok (.invokestatic 183, 3) := by decide +kernel
theorem dX6_stuff_43 : decode cX6_stuff 43 = .ok (.ireturn, 1) := by decide +kernel
set_option maxRecDepth 20000 in
theorem ggX6_ease_X6_isClock : GoodIn wsX6_ease wsX6_isClock := goodIn_r _ [6, 7, 14, 15, 16, 17, 18, 19, 20, 21, 22, 23, 24, 25, 26, 27, 28, 29, 30, 31, 32, 33, 34, 35, 36, 37, 38, 39, 40, 41, 42, 43] (by decide +kernel) (by decide +kernel)
set_option maxRecDepth 20000 in
theorem gX6_ease_X6_isClock : GoodIn wsX6_ease (wsV RX6 154 RX6 yX6_isClock wsX6_isClock) := goodIn_app (goodIn_of _ (by decide +kernel)) ggX6_ease_X6_isClock
set_option maxRecDepth 20000 in
theorem ggX6_ease_X6_isOf : GoodIn wsX6_ease wsX6_isOf := goodIn_r _ [10] (by decide +kernel) (by decide +kernel)
set_option maxRecDepth 20000 in
theorem gX6_ease_X6_isOf : GoodIn wsX6_ease (va_wsS RX6 136 yX6_isOf wsX6_isOf) := goodIn_app (goodIn_of _ (by decide +kernel)) ggX6_ease_X6_isOf
set_option maxRecDepth 20000 in
theorem ggX6_ease_X6_size : GoodIn wsX6_ease wsX6_size := goodIn_r _ [13] (by decide +kernel) (by decide +kernel)
set_option maxRecDepth 20000 in
theorem gX6_ease_X6_size : GoodIn wsX6_ease (va_wsS RX6 183 yX6_size wsX6_size) := goodIn_app (goodIn_of _ (by decide +kernel)) ggX6_ease_X6_size
theorem dX6_ease_0 : decode cX6_ease 0 = .ok (.aload_n 0, 1) := by decide +kernel
theorem dX6_ease_1 : decode cX6_ease 1 = .ok (.iload_n 1, 1) := by decide +kernel
theorem dX6_ease_2 : decode cX6_ease 2 = .ok (.invokevirtual 154, 3) := by decide +kernel
theorem dX6_ease_5 : decode cX6_ease 5 = .ok (.ifCond .ne 5, 3) := by decide +kernel
theorem dX6_ease_8 : decode cX6_ease 8 = .ok (.iconst (-1), 1) := by decide +kernel
theorem dX6_ease_9 : decode cX6_ease 9 = .ok (.ireturn, 1) := by decide +kernel
theorem dX6_ease_10 : decode cX6_ease 10 = .ok (.aload_n 0, 1) := by decide +kernel
theorem dX6_ease_11 : decode cX6_ease 11 = .ok (.getfield 114, 3) := by decide +kernel
theorem dX6_ease_14 : decode cX6_ease 14 = .ok (.iload_n 1, 1) := by decide +kernel
theorem dX6_ease_15 : decode cX6_ease 15 = .ok (.invokestatic 136, 3) := by decide +kernel
theorem dX6_ease_18 : decode cX6_ease 18 = .ok (.ifCond .ne 6, 3) := by decide +kernel
theorem dX6_ease_21 : decode cX6_ease 21 = .ok (.bipush (-3), 2) := by decide +kernel
theorem dX6_ease_23 : decode cX6_ease 23 = .ok (.ireturn, 1) := by decide +kernel
theorem dX6_ease_24 : decode cX6_ease 24 = .ok (.aload_n 0, 1) := by decide +kernel
theorem dX6_ease_25 : decode cX6_ease 25 = .ok (.dup, 1) := by decide +kernel
theorem dX6_ease_26 : decode cX6_ease 26 = .ok (.getfield 114, 3) := by decide +kernel
theorem dX6_ease_29 : decode cX6_ease 29 = .ok (.iconst 1, 1) := by decide +kernel
theorem dX6_ease_30 : decode cX6_ease 30 = .ok (.iload_n 1, 1) := by decide +kernel
theorem dX6_ease_31 : decode cX6_ease 31 = .ok (.ishl, 1) := by decide +kernel
theorem dX6_ease_32 : decode cX6_ease 32 = .ok (.iconst (-1), 1) := by decide +kernel
theorem dX6_ease_33 : decode cX6_ease 33 = .ok (.ixor, 1) := by decide +kernel
theorem dX6_ease_34 : decode cX6_ease 34 = .ok (.iand, 1) := by decide +kernel
theorem dX6_ease_35 : decode cX6_ease 35 = .ok (.putfield 114, 3) := by decide +kernel
theorem dX6_ease_38 : decode cX6_ease 38 = .ok (.aload_n 0, 1) := by decide +kernel
theorem dX6_ease_39 : decode cX6_ease 39 = .ok (.getfield 114, 3) := by decide +kernel
theorem dX6_ease_42 : decode cX6_ease 42 = .ok (.invokestatic 183, 3) := by decide +kernel
theorem dX6_ease_45 : decode cX6_ease 45 = .ok (.ireturn, 1) := by decide +kernel
set_option maxRecDepth 20000 in
theorem ggX6_carry_X6_isClock : GoodIn wsX6_carry wsX6_isClock := goodIn_r _ [6, 7, 13, 14, 15, 16, 17, 18, 19, 20, 21, 22, 23, 24, 25, 26, 27, 28, 29, 30, 31, 32, 33, 34, 35, 36, 37, 38, 39, 40, 41, 42] (by decide +kernel) (by decide +kernel)
set_option maxRecDepth 20000 in
theorem gX6_carry_X6_isClock : GoodIn wsX6_carry (wsV RX6 154 RX6 yX6_isClock wsX6_isClock) := goodIn_app (goodIn_of _ (by decide +kernel)) ggX6_carry_X6_isClock
set_option maxRecDepth 20000 in
theorem ggX6_carry_X6_isHouse : GoodIn wsX6_carry wsX6_isHouse := goodIn_r _ [11, 12, 13, 14, 15, 16, 17, 18, 19, 20, 21, 22, 23, 24, 25, 26, 27, 28, 29, 30, 31, 32, 33, 34, 35, 36, 37, 38, 39, 40, 41, 42] (by decide +kernel) (by decide +kernel)
set_option maxRecDepth 20000 in
theorem gX6_carry_X6_isHouse : GoodIn wsX6_carry (wsV RX6 151 RX6 yX6_isHouse wsX6_isHouse) := goodIn_app (goodIn_of _ (by decide +kernel)) ggX6_carry_X6_isHouse
theorem dX6_carry_0 : decode cX6_carry 0 = .ok (.aload_n 0, 1) := by decide +kernel
theorem dX6_carry_1 : decode cX6_carry 1 = .ok (.iload_n 1, 1) := by decide +kernel
theorem dX6_carry_2 : decode cX6_carry 2 = .ok (.invokevirtual 154, 3) := by decide +kernel
theorem dX6_carry_5 : decode cX6_carry 5 = .ok (.ifCond .eq 11, 3) := by decide +kernel
theorem dX6_carry_8 : decode cX6_carry 8 = .ok (.aload_n 0, 1) := by decide +kernel
theorem dX6_carry_9 : decode cX6_carry 9 = .ok (.iload_n 2, 1) := by decide +kernel
theorem dX6_carry_10 : decode cX6_carry 10 = .ok (.invokevirtual 151, 3) := by decide +kernel
theorem dX6_carry_13 : decode cX6_carry 13 = .ok (.ifCond .ne 5, 3) := by decide +kernel
theorem dX6_carry_16 : decode cX6_carry 16 = .ok (.iconst (-1), 1) := by decide +kernel
theorem dX6_carry_17 : decode cX6_carry 17 = .ok (.ireturn, 1) := by decide +kernel
theorem dX6_carry_18 : decode cX6_carry 18 = .ok (.aload_n 0, 1) := by decide +kernel
theorem dX6_carry_19 : decode cX6_carry 19 = .ok (.getfield 28, 3) := by decide +kernel
theorem dX6_carry_22 : decode cX6_carry 22 = .ok (.iload_n 1, 1) := by decide +kernel
theorem dX6_carry_23 : decode cX6_carry 23 = .ok (.iaload, 1) := by decide +kernel
theorem dX6_carry_24 : decode cX6_carry 24 = .ok (.istore_n 3, 1) := by decide +kernel
theorem dX6_carry_25 : decode cX6_carry 25 = .ok (.aload_n 0, 1) := by decide +kernel
theorem dX6_carry_26 : decode cX6_carry 26 = .ok (.getfield 28, 3) := by decide +kernel
theorem dX6_carry_29 : decode cX6_carry 29 = .ok (.iload_n 1, 1) := by decide +kernel
theorem dX6_carry_30 : decode cX6_carry 30 = .ok (.iload_n 2, 1) := by decide +kernel
theorem dX6_carry_31 : decode cX6_carry 31 = .ok (.iastore, 1) := by decide +kernel
theorem dX6_carry_32 : decode cX6_carry 32 = .ok (.iload_n 3, 1) := by decide +kernel
theorem dX6_carry_33 : decode cX6_carry 33 = .ok (.ireturn, 1) := by decide +kernel
set_option maxRecDepth 20000 in
theorem ggX6_does_X6_oneNight : GoodIn wsX6_does wsX6_oneNight := goodIn_r _ [7, 8, 9, 10, 11, 6, 12, 1, 13, 14, 15, 16, 17, 18, 19, 20, 21, 22, 23, 24, 25, 26, 27, 28, 29, 30, 31, 32, 2, 33, 34, 35, 36, 37, 38, 39, 40, 41, 42, 47, 48, 49, 50, 51, 52, 53, 54, 55, 56, 57, 58, 59, 60, 61, 62, 63, 64, 65, 66, 67, 68, 69, 70, 71, 72, 73, 74, 75, 76] (by decide +kernel) (by decide +kernel)
set_option maxRecDepth 20000 in
theorem gX6_does_X6_oneNight : GoodIn wsX6_does (wsV RX6 176 RX6 yX6_oneNight wsX6_oneNight) := goodIn_app (goodIn_of _ (by decide +kernel)) ggX6_does_X6_oneNight
set_option maxRecDepth 20000 in
theorem ggX6_does_X6_isClock : GoodIn wsX6_does wsX6_isClock := goodIn_r _ [46, 8, 47, 48, 49, 50, 51, 52, 53, 54, 55, 56, 57, 58, 59, 60, 61, 62, 63, 64, 65, 66, 67, 68, 69, 70, 71, 72, 73, 74, 75, 76] (by decide +kernel) (by decide +kernel)
set_option maxRecDepth 20000 in
theorem gX6_does_X6_isClock : GoodIn wsX6_does (wsV RX6 154 RX6 yX6_isClock wsX6_isClock) := goodIn_app (goodIn_of _ (by decide +kernel)) ggX6_does_X6_isClock
set_option maxRecDepth 20000 in
theorem ggX6_does_X6_strikes : GoodIn wsX6_does wsX6_strikes := goodIn_r _ [12, 1, 13, 14, 15, 16, 17, 6, 18, 19, 20, 21, 22, 23, 24, 25, 26, 27, 28, 29, 30, 31, 32, 2, 33, 34, 35, 36, 37, 38, 39, 40, 41, 42, 47, 48, 49, 50, 51, 52, 53, 54, 55, 56, 57, 58, 59, 60, 61, 62, 63, 64, 65, 66, 67, 68, 69, 70, 71, 72, 73, 74, 75, 76] (by decide +kernel) (by decide +kernel)
set_option maxRecDepth 20000 in
theorem gX6_does_X6_strikes : GoodIn wsX6_does (wsV RX6 170 RX6 yX6_strikes wsX6_strikes) := goodIn_app (goodIn_of _ (by decide +kernel)) ggX6_does_X6_strikes
set_option maxRecDepth 20000 in
theorem ggX6_does_X6_isOf : GoodIn wsX6_does wsX6_isOf := goodIn_r _ [36] (by decide +kernel) (by decide +kernel)
set_option maxRecDepth 20000 in
theorem gX6_does_X6_isOf : GoodIn wsX6_does (va_wsS RX6 136 yX6_isOf wsX6_isOf) := goodIn_app (goodIn_of _ (by decide +kernel)) ggX6_does_X6_isOf
theorem dX6_does_0 : decode cX6_does 0 = .ok (.iload_n 2, 1) := by decide +kernel
theorem dX6_does_1 : decode cX6_does 1 = .ok (.iconst 3, 1) := by decide +kernel
theorem dX6_does_2 : decode cX6_does 2 = .ok (.if_icmp .ne 22, 3) := by decide +kernel
theorem dX6_does_5 : decode cX6_does 5 = .ok (.iconst 0, 1) := by decide +kernel
theorem dX6_does_6 : decode cX6_does 6 = .ok (.istore_n 3, 1) := by decide +kernel
theorem dX6_does_7 : decode cX6_does 7 = .ok (.iload_n 3, 1) := by decide +kernel
theorem dX6_does_8 : decode cX6_does 8 = .ok (.iload_n 1, 1) := by decide +kernel
theorem dX6_does_9 : decode cX6_does 9 = .ok (.if_icmp .ge 13, 3) := by decide +kernel
theorem dX6_does_12 : decode cX6_does 12 = .ok (.aload_n 0, 1) := by decide +kernel
theorem dX6_does_13 : decode cX6_does 13 = .ok (.invokevirtual 176, 3) := by decide +kernel
theorem dX6_does_16 : decode cX6_does 16 = .ok (.iinc 3 1, 3) := by decide +kernel
theorem dX6_does_19 : decode cX6_does 19 = .ok (.goto (-12), 3) := by decide +kernel
theorem dX6_does_22 : decode cX6_does 22 = .ok (.iconst 1, 1) := by decide +kernel
theorem dX6_does_23 : decode cX6_does 23 = .ok (.ireturn, 1) := by decide +kernel
theorem dX6_does_24 : decode cX6_does 24 = .ok (.iload_n 2, 1) := by decide +kernel
theorem dX6_does_25 : decode cX6_does 25 = .ok (.bipush 10, 2) := by decide +kernel
theorem dX6_does_27 : decode cX6_does 27 = .ok (.if_icmp .lt 28, 3) := by decide +kernel
theorem dX6_does_30 : decode cX6_does 30 = .ok (.aload_n 0, 1) := by decide +kernel
theorem dX6_does_31 : decode cX6_does 31 = .ok (.iload_n 2, 1) := by decide +kernel
theorem dX6_does_32 : decode cX6_does 32 = .ok (.bipush 10, 2) := by decide +kernel
theorem dX6_does_34 : decode cX6_does 34 = .ok (.isub, 1) := by decide +kernel
theorem dX6_does_35 : decode cX6_does 35 = .ok (.invokevirtual 154, 3) := by decide +kernel
theorem dX6_does_38 : decode cX6_does 38 = .ok (.ifCond .ne 5, 3) := by decide +kernel
theorem dX6_does_41 : decode cX6_does 41 = .ok (.iconst 0, 1) := by decide +kernel
theorem dX6_does_42 : decode cX6_does 42 = .ok (.ireturn, 1) := by decide +kernel
theorem dX6_does_43 : decode cX6_does 43 = .ok (.aload_n 0, 1) := by decide +kernel
theorem dX6_does_44 : decode cX6_does 44 = .ok (.getfield 28, 3) := by decide +kernel
theorem dX6_does_47 : decode cX6_does 47 = .ok (.iload_n 2, 1) := by decide +kernel
theorem dX6_does_48 : decode cX6_does 48 = .ok (.bipush 10, 2) := by decide +kernel
theorem dX6_does_50 : decode cX6_does 50 = .ok (.isub, 1) := by decide +kernel
theorem dX6_does_51 : decode cX6_does 51 = .ok (.iload_n 1, 1) := by decide +kernel
theorem dX6_does_52 : decode cX6_does 52 = .ok (.iastore, 1) := by decide +kernel
theorem dX6_does_53 : decode cX6_does 53 = .ok (.iconst 1, 1) := by decide +kernel
theorem dX6_does_54 : decode cX6_does 54 = .ok (.ireturn, 1) := by decide +kernel
theorem dX6_does_55 : decode cX6_does 55 = .ok (.iload_n 2, 1) := by decide +kernel
theorem dX6_does_56 : decode cX6_does 56 = .ok (.ifCond .ne 11, 3) := by decide +kernel
theorem dX6_does_59 : decode cX6_does 59 = .ok (.aload_n 0, 1) := by decide +kernel
theorem dX6_does_60 : decode cX6_does 60 = .ok (.iload_n 1, 1) := by decide +kernel
theorem dX6_does_61 : decode cX6_does 61 = .ok (.invokevirtual 170, 3) := by decide +kernel
theorem dX6_does_64 : decode cX6_does 64 = .ok (.pop, 1) := by decide +kernel
theorem dX6_does_65 : decode cX6_does 65 = .ok (.iconst 1, 1) := by decide +kernel
theorem dX6_does_66 : decode cX6_does 66 = .ok (.ireturn, 1) := by decide +kernel
theorem dX6_does_67 : decode cX6_does 67 = .ok (.aload_n 0, 1) := by decide +kernel
theorem dX6_does_68 : decode cX6_does 68 = .ok (.getfield 114, 3) := by decide +kernel
theorem dX6_does_71 : decode cX6_does 71 = .ok (.iload_n 1, 1) := by decide +kernel
theorem dX6_does_72 : decode cX6_does 72 = .ok (.invokestatic 136, 3) := by decide +kernel
theorem dX6_does_75 : decode cX6_does 75 = .ok (.iload_n 2, 1) := by decide +kernel
theorem dX6_does_76 : decode cX6_does 76 = .ok (.iconst 2, 1) := by decide +kernel
theorem dX6_does_77 : decode cX6_does 77 = .ok (.if_icmp .ne 7, 3) := by decide +kernel
theorem dX6_does_80 : decode cX6_does 80 = .ok (.iconst 1, 1) := by decide +kernel
theorem dX6_does_81 : decode cX6_does 81 = .ok (.goto 4, 3) := by decide +kernel
theorem dX6_does_84 : decode cX6_does 84 = .ok (.iconst 0, 1) := by decide +kernel
theorem dX6_does_85 : decode cX6_does 85 = .ok (.if_icmp .eq 5, 3) := by decide +kernel
theorem dX6_does_88 : decode cX6_does 88 = .ok (.iconst 0, 1) := by decide +kernel
theorem dX6_does_89 : decode cX6_does 89 = .ok (.ireturn, 1) := by decide +kernel
theorem dX6_does_90 : decode cX6_does 90 = .ok (.aload_n 0, 1) := by decide +kernel
theorem dX6_does_91 : decode cX6_does 91 = .ok (.dup, 1) := by decide +kernel
theorem dX6_does_92 : decode cX6_does 92 = .ok (.getfield 114, 3) := by decide +kernel
theorem dX6_does_95 : decode cX6_does 95 = .ok (.iconst 1, 1) := by decide +kernel
theorem dX6_does_96 : decode cX6_does 96 = .ok (.iload_n 1, 1) := by decide +kernel
theorem dX6_does_97 : decode cX6_does 97 = .ok (.ishl, 1) := by decide +kernel
theorem dX6_does_98 : decode cX6_does 98 = .ok (.ixor, 1) := by decide +kernel
theorem dX6_does_99 : decode cX6_does 99 = .ok (.putfield 114, 3) := by decide +kernel
theorem dX6_does_102 : decode cX6_does 102 = .ok (.iconst 1, 1) := by decide +kernel
theorem dX6_does_103 : decode cX6_does 103 = .ok (.ireturn, 1) := by decide +kernel
set_option maxRecDepth 20000 in
theorem ggX6_goSeason_X6_does : GoodIn wsX6_goSeason wsX6_does := goodIn_r _ [8, 9, 10, 11, 12, 13, 7, 14, 15, 16, 17, 18, 19, 2, 1, 20, 21, 22, 23, 24, 25, 26, 27, 28, 29, 30, 31, 32, 33, 34, 35, 36, 37, 38, 39, 40, 41, 42, 43, 44, 45, 46, 47, 48, 49, 50, 51, 52, 53, 54, 55, 56, 57, 58, 59, 60, 61, 62, 63, 64, 65, 66, 67, 68, 69, 70, 71, 72, 73, 74, 75, 76, 77, 78, 79, 80, 81] (by decide +kernel) (by decide +kernel)
set_option maxRecDepth 20000 in
theorem gX6_goSeason_X6_does : GoodIn wsX6_goSeason (wsV RX6 186 RX6 yX6_does wsX6_does) := goodIn_app (goodIn_of _ (by decide +kernel)) ggX6_goSeason_X6_does
theorem dX6_goSeason_0 : decode cX6_goSeason 0 = .ok (.aload_n 0, 1) := by decide +kernel
theorem dX6_goSeason_1 : decode cX6_goSeason 1 = .ok (.iconst 0, 1) := by decide +kernel
theorem dX6_goSeason_2 : decode cX6_goSeason 2 = .ok (.putfield 167, 3) := by decide +kernel
theorem dX6_goSeason_5 : decode cX6_goSeason 5 = .ok (.aload_n 0, 1) := by decide +kernel
theorem dX6_goSeason_6 : decode cX6_goSeason 6 = .ok (.iconst 0, 1) := by decide +kernel
theorem dX6_goSeason_7 : decode cX6_goSeason 7 = .ok (.putfield 164, 3) := by decide +kernel
theorem dX6_goSeason_10 : decode cX6_goSeason 10 = .ok (.iconst 0, 1) := by decide +kernel
theorem dX6_goSeason_11 : decode cX6_goSeason 11 = .ok (.istore_n 3, 1) := by decide +kernel
theorem dX6_goSeason_12 : decode cX6_goSeason 12 = .ok (.iload_n 3, 1) := by decide +kernel
theorem dX6_goSeason_13 : decode cX6_goSeason 13 = .ok (.iload_n 2, 1) := by decide +kernel
theorem dX6_goSeason_14 : decode cX6_goSeason 14 = .ok (.if_icmp .ge 40, 3) := by decide +kernel
theorem dX6_goSeason_17 : decode cX6_goSeason 17 = .ok (.aload_n 0, 1) := by decide +kernel
theorem dX6_goSeason_18 : decode cX6_goSeason 18 = .ok (.aload_n 0, 1) := by decide +kernel
theorem dX6_goSeason_19 : decode cX6_goSeason 19 = .ok (.getfield 16, 3) := by decide +kernel
theorem dX6_goSeason_22 : decode cX6_goSeason 22 = .ok (.iload_n 1, 1) := by decide +kernel
theorem dX6_goSeason_23 : decode cX6_goSeason 23 = .ok (.iconst 2, 1) := by decide +kernel
theorem dX6_goSeason_24 : decode cX6_goSeason 24 = .ok (.iload_n 3, 1) := by decide +kernel
theorem dX6_goSeason_25 : decode cX6_goSeason 25 = .ok (.imul, 1) := by decide +kernel
theorem dX6_goSeason_26 : decode cX6_goSeason 26 = .ok (.iadd, 1) := by decide +kernel
theorem dX6_goSeason_27 : decode cX6_goSeason 27 = .ok (.iaload, 1) := by decide +kernel
theorem dX6_goSeason_28 : decode cX6_goSeason 28 = .ok (.aload_n 0, 1) := by decide +kernel
theorem dX6_goSeason_29 : decode cX6_goSeason 29 = .ok (.getfield 16, 3) := by decide +kernel
theorem dX6_goSeason_32 : decode cX6_goSeason 32 = .ok (.iload_n 1, 1) := by decide +kernel
theorem dX6_goSeason_33 : decode cX6_goSeason 33 = .ok (.iconst 2, 1) := by decide +kernel
theorem dX6_goSeason_34 : decode cX6_goSeason 34 = .ok (.iload_n 3, 1) := by decide +kernel
theorem dX6_goSeason_35 : decode cX6_goSeason 35 = .ok (.imul, 1) := by decide +kernel
theorem dX6_goSeason_36 : decode cX6_goSeason 36 = .ok (.iadd, 1) := by decide +kernel
theorem dX6_goSeason_37 : decode cX6_goSeason 37 = .ok (.iconst 1, 1) := by decide +kernel
theorem dX6_goSeason_38 : decode cX6_goSeason 38 = .ok (.iadd, 1) := by decide +kernel
theorem dX6_goSeason_39 : decode cX6_goSeason 39 = .ok (.iaload, 1) := by decide +kernel
theorem dX6_goSeason_40 : decode cX6_goSeason 40 = .ok (.invokevirtual 186, 3) := by decide +kernel
theorem dX6_goSeason_43 : decode cX6_goSeason 43 = .ok (.ifCond .ne 5, 3) := by decide +kernel
theorem dX6_goSeason_46 : decode cX6_goSeason 46 = .ok (.iload_n 3, 1) := by decide +kernel
theorem dX6_goSeason_47 : decode cX6_goSeason 47 = .ok (.ireturn, 1) := by decide +kernel
theorem dX6_goSeason_48 : decode cX6_goSeason 48 = .ok (.iinc 3 1, 3) := by decide +kernel
theorem dX6_goSeason_51 : decode cX6_goSeason 51 = .ok (.goto (-39), 3) := by decide +kernel
theorem dX6_goSeason_54 : decode cX6_goSeason 54 = .ok (.bipush (-9), 2) := by decide +kernel
theorem dX6_goSeason_56 : decode cX6_goSeason 56 = .ok (.ireturn, 1) := by decide +kernel
set_option maxRecDepth 20000 in
theorem ggX6_refusesPair_X6_within : GoodIn wsX6_refusesPair wsX6_within := goodIn_r _ [4] (by decide +kernel) (by decide +kernel)
set_option maxRecDepth 20000 in
theorem gX6_refusesPair_X6_within : GoodIn wsX6_refusesPair (va_wsS RX6 64 yX6_within wsX6_within) := goodIn_app (goodIn_of _ (by decide +kernel)) ggX6_refusesPair_X6_within
set_option maxRecDepth 20000 in
theorem ggX6_refusesPair_X6_isHouse : GoodIn wsX6_refusesPair wsX6_isHouse := goodIn_r _ [8, 9, 15, 16, 17, 18, 19, 20, 21, 22, 23, 24, 25, 26, 27, 28, 29, 30, 31, 32, 33, 34, 35, 36, 37, 38, 39, 40, 41, 42, 43, 44] (by decide +kernel) (by decide +kernel)
set_option maxRecDepth 20000 in
theorem gX6_refusesPair_X6_isHouse : GoodIn wsX6_refusesPair (wsV RX6 151 RX6 yX6_isHouse wsX6_isHouse) := goodIn_app (goodIn_of _ (by decide +kernel)) ggX6_refusesPair_X6_isHouse
set_option maxRecDepth 20000 in
theorem ggX6_refusesPair_X6_isClock : GoodIn wsX6_refusesPair wsX6_isClock := goodIn_r _ [13, 14, 15, 16, 17, 18, 19, 20, 21, 22, 23, 24, 25, 26, 27, 28, 29, 30, 31, 32, 33, 34, 35, 36, 37, 38, 39, 40, 41, 42, 43, 44] (by decide +kernel) (by decide +kernel)
set_option maxRecDepth 20000 in
theorem gX6_refusesPair_X6_isClock : GoodIn wsX6_refusesPair (wsV RX6 154 RX6 yX6_isClock wsX6_isClock) := goodIn_app (goodIn_of _ (by decide +kernel)) ggX6_refusesPair_X6_isClock
theorem dX6_refusesPair_0 : decode cX6_refusesPair 0 = .ok (.iload_n 2, 1) := by decide +kernel
theorem dX6_refusesPair_1 : decode cX6_refusesPair 1 = .ok (.bipush 10, 2) := by decide +kernel
theorem dX6_refusesPair_3 : decode cX6_refusesPair 3 = .ok (.bipush 13, 2) := by decide +kernel
theorem dX6_refusesPair_5 : decode cX6_refusesPair 5 = .ok (.invokestatic 64, 3) := by decide +kernel
theorem dX6_refusesPair_8 : decode cX6_refusesPair 8 = .ok (.istore_n 3, 1) := by decide +kernel
theorem dX6_refusesPair_9 : decode cX6_refusesPair 9 = .ok (.iload_n 2, 1) := by decide +kernel
theorem dX6_refusesPair_10 : decode cX6_refusesPair 10 = .ok (.iconst 0, 1) := by decide +kernel
theorem dX6_refusesPair_11 : decode cX6_refusesPair 11 = .ok (.iconst 3, 1) := by decide +kernel
theorem dX6_refusesPair_12 : decode cX6_refusesPair 12 = .ok (.invokestatic 64, 3) := by decide +kernel
theorem dX6_refusesPair_15 : decode cX6_refusesPair 15 = .ok (.ifCond .ne 7, 3) := by decide +kernel
theorem dX6_refusesPair_18 : decode cX6_refusesPair 18 = .ok (.iload_n 3, 1) := by decide +kernel
theorem dX6_refusesPair_19 : decode cX6_refusesPair 19 = .ok (.ifCond .eq 18, 3) := by decide +kernel
theorem dX6_refusesPair_22 : decode cX6_refusesPair 22 = .ok (.iload_n 2, 1) := by decide +kernel
theorem dX6_refusesPair_23 : decode cX6_refusesPair 23 = .ok (.iconst 3, 1) := by decide +kernel
theorem dX6_refusesPair_24 : decode cX6_refusesPair 24 = .ok (.if_icmp .ne 16, 3) := by decide +kernel
theorem dX6_refusesPair_27 : decode cX6_refusesPair 27 = .ok (.iload_n 1, 1) := by decide +kernel
theorem dX6_refusesPair_28 : decode cX6_refusesPair 28 = .ok (.iconst 0, 1) := by decide +kernel
theorem dX6_refusesPair_29 : decode cX6_refusesPair 29 = .ok (.bipush 9, 2) := by decide +kernel
theorem dX6_refusesPair_31 : decode cX6_refusesPair 31 = .ok (.invokestatic 64, 3) := by decide +kernel
theorem dX6_refusesPair_34 : decode cX6_refusesPair 34 = .ok (.ifCond .ne 6, 3) := by decide +kernel
theorem dX6_refusesPair_37 : decode cX6_refusesPair 37 = .ok (.bipush (-2), 2) := by decide +kernel
theorem dX6_refusesPair_39 : decode cX6_refusesPair 39 = .ok (.ireturn, 1) := by decide +kernel
theorem dX6_refusesPair_40 : decode cX6_refusesPair 40 = .ok (.iload_n 3, 1) := by decide +kernel
theorem dX6_refusesPair_41 : decode cX6_refusesPair 41 = .ok (.ifCond .eq 17, 3) := by decide +kernel
theorem dX6_refusesPair_44 : decode cX6_refusesPair 44 = .ok (.aload_n 0, 1) := by decide +kernel
theorem dX6_refusesPair_45 : decode cX6_refusesPair 45 = .ok (.iload_n 1, 1) := by decide +kernel
theorem dX6_refusesPair_46 : decode cX6_refusesPair 46 = .ok (.invokevirtual 151, 3) := by decide +kernel
theorem dX6_refusesPair_49 : decode cX6_refusesPair 49 = .ok (.ifCond .eq 7, 3) := by decide +kernel
theorem dX6_refusesPair_52 : decode cX6_refusesPair 52 = .ok (.iconst 0, 1) := by decide +kernel
theorem dX6_refusesPair_53 : decode cX6_refusesPair 53 = .ok (.goto 4, 3) := by decide +kernel
theorem dX6_refusesPair_56 : decode cX6_refusesPair 56 = .ok (.iconst (-1), 1) := by decide +kernel
theorem dX6_refusesPair_57 : decode cX6_refusesPair 57 = .ok (.ireturn, 1) := by decide +kernel
theorem dX6_refusesPair_58 : decode cX6_refusesPair 58 = .ok (.iload_n 2, 1) := by decide +kernel
theorem dX6_refusesPair_59 : decode cX6_refusesPair 59 = .ok (.iconst 3, 1) := by decide +kernel
theorem dX6_refusesPair_60 : decode cX6_refusesPair 60 = .ok (.if_icmp .eq 11, 3) := by decide +kernel
theorem dX6_refusesPair_63 : decode cX6_refusesPair 63 = .ok (.aload_n 0, 1) := by decide +kernel
theorem dX6_refusesPair_64 : decode cX6_refusesPair 64 = .ok (.iload_n 1, 1) := by decide +kernel
theorem dX6_refusesPair_65 : decode cX6_refusesPair 65 = .ok (.invokevirtual 154, 3) := by decide +kernel
theorem dX6_refusesPair_68 : decode cX6_refusesPair 68 = .ok (.ifCond .eq 7, 3) := by decide +kernel
theorem dX6_refusesPair_71 : decode cX6_refusesPair 71 = .ok (.iconst 0, 1) := by decide +kernel
theorem dX6_refusesPair_72 : decode cX6_refusesPair 72 = .ok (.goto 4, 3) := by decide +kernel
theorem dX6_refusesPair_75 : decode cX6_refusesPair 75 = .ok (.iconst (-1), 1) := by decide +kernel
theorem dX6_refusesPair_76 : decode cX6_refusesPair 76 = .ok (.ireturn, 1) := by decide +kernel
set_option maxRecDepth 20000 in
theorem ggX6_season_X6_isSheet : GoodIn wsX6_season wsX6_isSheet := goodIn_r _ [8, 9, 10, 7, 11] (by decide +kernel) (by decide +kernel)
set_option maxRecDepth 20000 in
theorem gX6_season_X6_isSheet : GoodIn wsX6_season (va_wsS RX6 81 yX6_isSheet wsX6_isSheet) := goodIn_app (goodIn_of _ (by decide +kernel)) ggX6_season_X6_isSheet
set_option maxRecDepth 20000 in
theorem ggX6_season_X6_isSort : GoodIn wsX6_season wsX6_isSort := goodIn_r _ [14, 9, 10, 7, 11] (by decide +kernel) (by decide +kernel)
set_option maxRecDepth 20000 in
theorem gX6_season_X6_isSort : GoodIn wsX6_season (va_wsS RX6 85 yX6_isSort wsX6_isSort) := goodIn_app (goodIn_of _ (by decide +kernel)) ggX6_season_X6_isSort
set_option maxRecDepth 20000 in
theorem ggX6_season_X6_within : GoodIn wsX6_season wsX6_within := goodIn_r _ [11] (by decide +kernel) (by decide +kernel)
set_option maxRecDepth 20000 in
theorem gX6_season_X6_within : GoodIn wsX6_season (va_wsS RX6 64 yX6_within wsX6_within) := goodIn_app (goodIn_of _ (by decide +kernel)) ggX6_season_X6_within
set_option maxRecDepth 20000 in
theorem ggX6_season_X6_against : GoodIn wsX6_season wsX6_against := goodIn_r _ [18, 19, 20, 97, 98, 99, 100, 101, 102, 103, 104, 105, 106, 107, 108, 109, 110, 111, 112, 113, 114, 115, 116, 117, 118, 119, 120, 121, 122, 123, 124, 125, 126] (by decide +kernel) (by decide +kernel)
set_option maxRecDepth 20000 in
theorem gX6_season_X6_against : GoodIn wsX6_season (wsV RX6 88 RX6 yX6_against wsX6_against) := goodIn_app (goodIn_of _ (by decide +kernel)) ggX6_season_X6_against
set_option maxRecDepth 20000 in
theorem ggX6_season_X6_fails : GoodIn wsX6_season wsX6_fails := goodIn_r _ [24, 1, 97, 98, 99, 100, 101, 102, 103, 104, 105, 106, 107, 108, 109, 110, 111, 112, 113, 114, 115, 116, 117, 118, 119, 120, 121, 122, 123, 124, 125, 126] (by decide +kernel) (by decide +kernel)
set_option maxRecDepth 20000 in
theorem gX6_season_X6_fails : GoodIn wsX6_season (wsV RX6 92 RX6 yX6_fails wsX6_fails) := goodIn_app (goodIn_of _ (by decide +kernel)) ggX6_season_X6_fails
set_option maxRecDepth 20000 in
theorem ggX6_season_X6_refusesPair : GoodIn wsX6_season wsX6_refusesPair := goodIn_r _ [28, 9, 10, 7, 11, 29, 30, 31, 32, 2, 33, 34, 35, 36, 37, 97, 98, 99, 100, 101, 102, 103, 104, 105, 106, 107, 108, 109, 110, 111, 112, 113, 114, 115, 116, 117, 118, 119, 120, 121, 122, 123, 124, 125, 126] (by decide +kernel) (by decide +kernel)
set_option maxRecDepth 20000 in
theorem gX6_season_X6_refusesPair : GoodIn wsX6_season (wsV RX6 189 RX6 yX6_refusesPair wsX6_refusesPair) := goodIn_app (goodIn_of _ (by decide +kernel)) ggX6_season_X6_refusesPair
set_option maxRecDepth 20000 in
theorem ggX6_season_X6_keep : GoodIn wsX6_season wsX6_keep := goodIn_r _ [41, 37, 42, 43, 97, 98, 99, 100, 101, 102, 103, 104, 105, 106, 107, 108, 109, 110, 111, 112, 113, 114, 115, 116, 117, 118, 119, 120, 121, 122, 123, 124, 125, 126] (by decide +kernel) (by decide +kernel)
set_option maxRecDepth 20000 in
theorem gX6_season_X6_keep : GoodIn wsX6_season (wsV RX6 173 RX6 yX6_keep wsX6_keep) := goodIn_app (goodIn_of _ (by decide +kernel)) ggX6_season_X6_keep
set_option maxRecDepth 20000 in
theorem ggX6_season_X6_goSeason : GoodIn wsX6_season wsX6_goSeason := goodIn_r _ [47, 48, 49, 3, 50, 51, 52, 7, 53, 43, 4, 54, 55, 56, 57, 37, 58, 59, 60, 61, 62, 63, 64, 65, 2, 66, 67, 68, 69, 70, 71, 72, 73, 74, 75, 76, 77, 78, 79, 80, 81, 82, 83, 84, 85, 86, 87, 88, 33, 34, 35, 36, 97, 98, 99, 100, 101, 102, 103, 104, 105, 106, 107, 108, 109, 110, 111, 112, 113, 114, 115, 116, 117, 118, 119, 120, 121, 122, 123, 124, 125, 126] (by decide +kernel) (by decide +kernel)
set_option maxRecDepth 20000 in
theorem gX6_season_X6_goSeason : GoodIn wsX6_season (wsV RX6 192 RX6 yX6_goSeason wsX6_goSeason) := goodIn_app (goodIn_of _ (by decide +kernel)) ggX6_season_X6_goSeason
set_option maxRecDepth 20000 in
theorem ggX6_season_X6_tellSeason : GoodIn wsX6_season wsX6_tellSeason := goodIn_r _ [92, 43, 4, 48, 49, 37, 33, 34, 35, 7, 36, 97, 98, 99, 100, 101, 102, 103, 104, 105, 106, 107, 108, 109, 110, 111, 112, 113, 114, 115, 116, 117, 118, 119, 120, 121, 122, 123, 124, 125, 126] (by decide +kernel) (by decide +kernel)
set_option maxRecDepth 20000 in
theorem gX6_season_X6_tellSeason : GoodIn wsX6_season (wsV RX6 195 RX6 yX6_tellSeason wsX6_tellSeason) := goodIn_app (goodIn_of _ (by decide +kernel)) ggX6_season_X6_tellSeason
set_option maxRecDepth 20000 in
theorem ggX6_season_X6_putBack : GoodIn wsX6_season wsX6_putBack := goodIn_r _ [96, 37, 43, 42, 97, 98, 99, 100, 101, 102, 103, 104, 105, 106, 107, 108, 109, 110, 111, 112, 113, 114, 115, 116, 117, 118, 119, 120, 121, 122, 123, 124, 125, 126] (by decide +kernel) (by decide +kernel)
set_option maxRecDepth 20000 in
theorem gX6_season_X6_putBack : GoodIn wsX6_season (wsV RX6 198 RX6 yX6_putBack wsX6_putBack) := goodIn_app (goodIn_of _ (by decide +kernel)) ggX6_season_X6_putBack
theorem dX6_season_0 : decode cX6_season 0 = .ok (.aload_n 0, 1) := by decide +kernel
theorem dX6_season_1 : decode cX6_season 1 = .ok (.iconst 0, 1) := by decide +kernel
theorem dX6_season_2 : decode cX6_season 2 = .ok (.putfield 58, 3) := by decide +kernel
theorem dX6_season_5 : decode cX6_season 5 = .ok (.iload_n 1, 1) := by decide +kernel
theorem dX6_season_6 : decode cX6_season 6 = .ok (.invokestatic 81, 3) := by decide +kernel
theorem dX6_season_9 : decode cX6_season 9 = .ok (.ifCond .ne 5, 3) := by decide +kernel
theorem dX6_season_12 : decode cX6_season 12 = .ok (.iconst (-1), 1) := by decide +kernel
theorem dX6_season_13 : decode cX6_season 13 = .ok (.ireturn, 1) := by decide +kernel
theorem dX6_season_14 : decode cX6_season 14 = .ok (.iload_n 2, 1) := by decide +kernel
theorem dX6_season_15 : decode cX6_season 15 = .ok (.invokestatic 85, 3) := by decide +kernel
theorem dX6_season_18 : decode cX6_season 18 = .ok (.ifCond .eq 36, 3) := by decide +kernel
theorem dX6_season_21 : decode cX6_season 21 = .ok (.iload 4, 2) := by decide +kernel
theorem dX6_season_23 : decode cX6_season 23 = .ok (.iconst 0, 1) := by decide +kernel
theorem dX6_season_24 : decode cX6_season 24 = .ok (.bipush 20, 2) := by decide +kernel
theorem dX6_season_26 : decode cX6_season 26 = .ok (.invokestatic 64, 3) := by decide +kernel
theorem dX6_season_29 : decode cX6_season 29 = .ok (.ifCond .eq 25, 3) := by decide +kernel
theorem dX6_season_32 : decode cX6_season 32 = .ok (.iload 5, 2) := by decide +kernel
theorem dX6_season_34 : decode cX6_season 34 = .ok (.iconst 0, 1) := by decide +kernel
theorem dX6_season_35 : decode cX6_season 35 = .ok (.iconst 4, 1) := by decide +kernel
theorem dX6_season_36 : decode cX6_season 36 = .ok (.invokestatic 64, 3) := by decide +kernel
theorem dX6_season_39 : decode cX6_season 39 = .ok (.ifCond .ne 18, 3) := by decide +kernel
theorem dX6_season_42 : decode cX6_season 42 = .ok (.iload 5, 2) := by decide +kernel
theorem dX6_season_44 : decode cX6_season 44 = .ok (.bipush 10, 2) := by decide +kernel
theorem dX6_season_46 : decode cX6_season 46 = .ok (.bipush 13, 2) := by decide +kernel
theorem dX6_season_48 : decode cX6_season 48 = .ok (.invokestatic 64, 3) := by decide +kernel
theorem dX6_season_51 : decode cX6_season 51 = .ok (.ifCond .ne 6, 3) := by decide +kernel
theorem dX6_season_54 : decode cX6_season 54 = .ok (.bipush (-2), 2) := by decide +kernel
theorem dX6_season_56 : decode cX6_season 56 = .ok (.ireturn, 1) := by decide +kernel
theorem dX6_season_57 : decode cX6_season 57 = .ok (.aload_n 0, 1) := by decide +kernel
theorem dX6_season_58 : decode cX6_season 58 = .ok (.iload_n 1, 1) := by decide +kernel
theorem dX6_season_59 : decode cX6_season 59 = .ok (.iload_n 2, 1) := by decide +kernel
theorem dX6_season_60 : decode cX6_season 60 = .ok (.iload_n 3, 1) := by decide +kernel
theorem dX6_season_61 : decode cX6_season 61 = .ok (.iconst 2, 1) := by decide +kernel
theorem dX6_season_62 : decode cX6_season 62 = .ok (.iload 4, 2) := by decide +kernel
theorem dX6_season_64 : decode cX6_season 64 = .ok (.imul, 1) := by decide +kernel
theorem dX6_season_65 : decode cX6_season 65 = .ok (.invokevirtual 88, 3) := by decide +kernel
theorem dX6_season_68 : decode cX6_season 68 = .ok (.istore 6, 2) := by decide +kernel
theorem dX6_season_70 : decode cX6_season 70 = .ok (.iload 6, 2) := by decide +kernel
theorem dX6_season_72 : decode cX6_season 72 = .ok (.ifCond .eq 10, 3) := by decide +kernel
theorem dX6_season_75 : decode cX6_season 75 = .ok (.aload_n 0, 1) := by decide +kernel
theorem dX6_season_76 : decode cX6_season 76 = .ok (.iload 6, 2) := by decide +kernel
theorem dX6_season_78 : decode cX6_season 78 = .ok (.invokevirtual 92, 3) := by decide +kernel
theorem dX6_season_81 : decode cX6_season 81 = .ok (.ireturn, 1) := by decide +kernel
theorem dX6_season_82 : decode cX6_season 82 = .ok (.aload_n 0, 1) := by decide +kernel
theorem dX6_season_83 : decode cX6_season 83 = .ok (.getfield 68, 3) := by decide +kernel
theorem dX6_season_86 : decode cX6_season 86 = .ok (.ifCond .ne 6, 3) := by decide +kernel
theorem dX6_season_89 : decode cX6_season 89 = .ok (.bipush (-3), 2) := by decide +kernel
theorem dX6_season_91 : decode cX6_season 91 = .ok (.ireturn, 1) := by decide +kernel
theorem dX6_season_92 : decode cX6_season 92 = .ok (.bipush 60, 2) := by decide +kernel
theorem dX6_season_94 : decode cX6_season 94 = .ok (.iload_n 1, 1) := by decide +kernel
theorem dX6_season_95 : decode cX6_season 95 = .ok (.imul, 1) := by decide +kernel
theorem dX6_season_96 : decode cX6_season 96 = .ok (.iload_n 3, 1) := by decide +kernel
theorem dX6_season_97 : decode cX6_season 97 = .ok (.iadd, 1) := by decide +kernel
theorem dX6_season_98 : decode cX6_season 98 = .ok (.istore 7, 2) := by decide +kernel
theorem dX6_season_100 : decode cX6_season 100 = .ok (.iconst 0, 1) := by decide +kernel
theorem dX6_season_101 : decode cX6_season 101 = .ok (.istore 8, 2) := by decide +kernel
theorem dX6_season_103 : decode cX6_season 103 = .ok (.iload 8, 2) := by decide +kernel
theorem dX6_season_105 : decode cX6_season 105 = .ok (.iload 4, 2) := by decide +kernel
theorem dX6_season_107 : decode cX6_season 107 = .ok (.if_icmp .ge 49, 3) := by decide +kernel
theorem dX6_season_110 : decode cX6_season 110 = .ok (.aload_n 0, 1) := by decide +kernel
theorem dX6_season_111 : decode cX6_season 111 = .ok (.aload_n 0, 1) := by decide +kernel
theorem dX6_season_112 : decode cX6_season 112 = .ok (.getfield 16, 3) := by decide +kernel
theorem dX6_season_115 : decode cX6_season 115 = .ok (.iload 7, 2) := by decide +kernel
theorem dX6_season_117 : decode cX6_season 117 = .ok (.iconst 2, 1) := by decide +kernel
theorem dX6_season_118 : decode cX6_season 118 = .ok (.iload 8, 2) := by decide +kernel
theorem dX6_season_120 : decode cX6_season 120 = .ok (.imul, 1) := by decide +kernel
theorem dX6_season_121 : decode cX6_season 121 = .ok (.iadd, 1) := by decide +kernel
theorem dX6_season_122 : decode cX6_season 122 = .ok (.iaload, 1) := by decide +kernel
theorem dX6_season_123 : decode cX6_season 123 = .ok (.aload_n 0, 1) := by decide +kernel
theorem dX6_season_124 : decode cX6_season 124 = .ok (.getfield 16, 3) := by decide +kernel
theorem dX6_season_127 : decode cX6_season 127 = .ok (.iload 7, 2) := by decide +kernel
theorem dX6_season_129 : decode cX6_season 129 = .ok (.iconst 2, 1) := by decide +kernel
theorem dX6_season_130 : decode cX6_season 130 = .ok (.iload 8, 2) := by decide +kernel
theorem dX6_season_132 : decode cX6_season 132 = .ok (.imul, 1) := by decide +kernel
theorem dX6_season_133 : decode cX6_season 133 = .ok (.iadd, 1) := by decide +kernel
theorem dX6_season_134 : decode cX6_season 134 = .ok (.iconst 1, 1) := by decide +kernel
theorem dX6_season_135 : decode cX6_season 135 = .ok (.iadd, 1) := by decide +kernel
theorem dX6_season_136 : decode cX6_season 136 = .ok (.iaload, 1) := by decide +kernel
theorem dX6_season_137 : decode cX6_season 137 = .ok (.invokevirtual 189, 3) := by decide +kernel
theorem dX6_season_140 : decode cX6_season 140 = .ok (.istore 9, 2) := by decide +kernel
theorem dX6_season_142 : decode cX6_season 142 = .ok (.iload 9, 2) := by decide +kernel
theorem dX6_season_144 : decode cX6_season 144 = .ok (.ifCond .eq 6, 3) := by decide +kernel
theorem dX6_season_147 : decode cX6_season 147 = .ok (.iload 9, 2) := by decide +kernel
theorem dX6_season_149 : decode cX6_season 149 = .ok (.ireturn, 1) := by decide +kernel
theorem dX6_season_150 : decode cX6_season 150 = .ok (.iinc 8 1, 3) := by decide +kernel
theorem dX6_season_153 : decode cX6_season 153 = .ok (.goto (-50), 3) := by decide +kernel
theorem dX6_season_156 : decode cX6_season 156 = .ok (.aload_n 0, 1) := by decide +kernel
theorem dX6_season_157 : decode cX6_season 157 = .ok (.invokevirtual 173, 3) := by decide +kernel
theorem dX6_season_160 : decode cX6_season 160 = .ok (.aload_n 0, 1) := by decide +kernel
theorem dX6_season_161 : decode cX6_season 161 = .ok (.getfield 114, 3) := by decide +kernel
theorem dX6_season_164 : decode cX6_season 164 = .ok (.istore 8, 2) := by decide +kernel
theorem dX6_season_166 : decode cX6_season 166 = .ok (.aload_n 0, 1) := by decide +kernel
theorem dX6_season_167 : decode cX6_season 167 = .ok (.iload 7, 2) := by decide +kernel
theorem dX6_season_169 : decode cX6_season 169 = .ok (.iload 4, 2) := by decide +kernel
theorem dX6_season_171 : decode cX6_season 171 = .ok (.invokevirtual 192, 3) := by decide +kernel
theorem dX6_season_174 : decode cX6_season 174 = .ok (.istore 9, 2) := by decide +kernel
theorem dX6_season_176 : decode cX6_season 176 = .ok (.aload_n 0, 1) := by decide +kernel
theorem dX6_season_177 : decode cX6_season 177 = .ok (.iload 5, 2) := by decide +kernel
theorem dX6_season_179 : decode cX6_season 179 = .ok (.invokevirtual 195, 3) := by decide +kernel
theorem dX6_season_182 : decode cX6_season 182 = .ok (.istore 10, 2) := by decide +kernel
theorem dX6_season_184 : decode cX6_season 184 = .ok (.aload_n 0, 1) := by decide +kernel
theorem dX6_season_185 : decode cX6_season 185 = .ok (.invokevirtual 198, 3) := by decide +kernel
theorem dX6_season_188 : decode cX6_season 188 = .ok (.aload_n 0, 1) := by decide +kernel
theorem dX6_season_189 : decode cX6_season 189 = .ok (.iload 8, 2) := by decide +kernel
theorem dX6_season_191 : decode cX6_season 191 = .ok (.putfield 114, 3) := by decide +kernel
theorem dX6_season_194 : decode cX6_season 194 = .ok (.iload 5, 2) := by decide +kernel
theorem dX6_season_196 : decode cX6_season 196 = .ok (.iconst 1, 1) := by decide +kernel
theorem dX6_season_197 : decode cX6_season 197 = .ok (.if_icmp .ne 8, 3) := by decide +kernel
theorem dX6_season_200 : decode cX6_season 200 = .ok (.iload 9, 2) := by decide +kernel
theorem dX6_season_202 : decode cX6_season 202 = .ok (.goto 20, 3) := by decide +kernel
theorem dX6_season_205 : decode cX6_season 205 = .ok (.iload 9, 2) := by decide +kernel
theorem dX6_season_207 : decode cX6_season 207 = .ok (.bipush (-9), 2) := by decide +kernel
theorem dX6_season_209 : decode cX6_season 209 = .ok (.if_icmp .ne 8, 3) := by decide +kernel
theorem dX6_season_212 : decode cX6_season 212 = .ok (.iload 10, 2) := by decide +kernel
theorem dX6_season_214 : decode cX6_season 214 = .ok (.goto 8, 3) := by decide +kernel
theorem dX6_season_217 : decode cX6_season 217 = .ok (.bipush (-100), 2) := by decide +kernel
theorem dX6_season_219 : decode cX6_season 219 = .ok (.iload 9, 2) := by decide +kernel
theorem dX6_season_221 : decode cX6_season 221 = .ok (.isub, 1) := by decide +kernel
theorem dX6_season_222 : decode cX6_season 222 = .ok (.ireturn, 1) := by decide +kernel
set_option maxRecDepth 20000 in
theorem ggX6_tellSeason_X6_isClock : GoodIn wsX6_tellSeason wsX6_isClock := goodIn_r _ [10, 5, 11, 12, 13, 14, 15, 16, 17, 18, 19, 20, 21, 22, 23, 24, 25, 26, 27, 28, 29, 30, 31, 32, 33, 34, 35, 36, 37, 38, 39, 40] (by decide +kernel) (by decide +kernel)
set_option maxRecDepth 20000 in
theorem gX6_tellSeason_X6_isClock : GoodIn wsX6_tellSeason (wsV RX6 154 RX6 yX6_isClock wsX6_isClock) := goodIn_app (goodIn_of _ (by decide +kernel)) ggX6_tellSeason_X6_isClock
theorem dX6_tellSeason_0 : decode cX6_tellSeason 0 = .ok (.iload_n 1, 1) := by decide +kernel
theorem dX6_tellSeason_1 : decode cX6_tellSeason 1 = .ok (.bipush 10, 2) := by decide +kernel
theorem dX6_tellSeason_3 : decode cX6_tellSeason 3 = .ok (.if_icmp .lt 29, 3) := by decide +kernel
theorem dX6_tellSeason_6 : decode cX6_tellSeason 6 = .ok (.aload_n 0, 1) := by decide +kernel
theorem dX6_tellSeason_7 : decode cX6_tellSeason 7 = .ok (.iload_n 1, 1) := by decide +kernel
theorem dX6_tellSeason_8 : decode cX6_tellSeason 8 = .ok (.bipush 10, 2) := by decide +kernel
theorem dX6_tellSeason_10 : decode cX6_tellSeason 10 = .ok (.isub, 1) := by decide +kernel
theorem dX6_tellSeason_11 : decode cX6_tellSeason 11 = .ok (.invokevirtual 154, 3) := by decide +kernel
theorem dX6_tellSeason_14 : decode cX6_tellSeason 14 = .ok (.ifCond .eq 15, 3) := by decide +kernel
theorem dX6_tellSeason_17 : decode cX6_tellSeason 17 = .ok (.aload_n 0, 1) := by decide +kernel
theorem dX6_tellSeason_18 : decode cX6_tellSeason 18 = .ok (.getfield 28, 3) := by decide +kernel
theorem dX6_tellSeason_21 : decode cX6_tellSeason 21 = .ok (.iload_n 1, 1) := by decide +kernel
theorem dX6_tellSeason_22 : decode cX6_tellSeason 22 = .ok (.bipush 10, 2) := by decide +kernel
theorem dX6_tellSeason_24 : decode cX6_tellSeason 24 = .ok (.isub, 1) := by decide +kernel
theorem dX6_tellSeason_25 : decode cX6_tellSeason 25 = .ok (.iaload, 1) := by decide +kernel
theorem dX6_tellSeason_26 : decode cX6_tellSeason 26 = .ok (.goto 5, 3) := by decide +kernel
theorem dX6_tellSeason_29 : decode cX6_tellSeason 29 = .ok (.bipush (-9), 2) := by decide +kernel
theorem dX6_tellSeason_31 : decode cX6_tellSeason 31 = .ok (.ireturn, 1) := by decide +kernel
theorem dX6_tellSeason_32 : decode cX6_tellSeason 32 = .ok (.iload_n 1, 1) := by decide +kernel
theorem dX6_tellSeason_33 : decode cX6_tellSeason 33 = .ok (.iconst 4, 1) := by decide +kernel
theorem dX6_tellSeason_34 : decode cX6_tellSeason 34 = .ok (.if_icmp .ge 31, 3) := by decide +kernel
theorem dX6_tellSeason_37 : decode cX6_tellSeason 37 = .ok (.iload_n 1, 1) := by decide +kernel
theorem dX6_tellSeason_38 : decode cX6_tellSeason 38 = .ok (.ifCond .ne 10, 3) := by decide +kernel
theorem dX6_tellSeason_41 : decode cX6_tellSeason 41 = .ok (.aload_n 0, 1) := by decide +kernel
theorem dX6_tellSeason_42 : decode cX6_tellSeason 42 = .ok (.getfield 114, 3) := by decide +kernel
theorem dX6_tellSeason_45 : decode cX6_tellSeason 45 = .ok (.goto 19, 3) := by decide +kernel
theorem dX6_tellSeason_48 : decode cX6_tellSeason 48 = .ok (.iload_n 1, 1) := by decide +kernel
theorem dX6_tellSeason_49 : decode cX6_tellSeason 49 = .ok (.iconst 2, 1) := by decide +kernel
theorem dX6_tellSeason_50 : decode cX6_tellSeason 50 = .ok (.if_icmp .ne 10, 3) := by decide +kernel
theorem dX6_tellSeason_53 : decode cX6_tellSeason 53 = .ok (.aload_n 0, 1) := by decide +kernel
theorem dX6_tellSeason_54 : decode cX6_tellSeason 54 = .ok (.getfield 167, 3) := by decide +kernel
theorem dX6_tellSeason_57 : decode cX6_tellSeason 57 = .ok (.goto 7, 3) := by decide +kernel
theorem dX6_tellSeason_60 : decode cX6_tellSeason 60 = .ok (.aload_n 0, 1) := by decide +kernel
theorem dX6_tellSeason_61 : decode cX6_tellSeason 61 = .ok (.getfield 164, 3) := by decide +kernel
theorem dX6_tellSeason_64 : decode cX6_tellSeason 64 = .ok (.ireturn, 1) := by decide +kernel
theorem dX6_tellSeason_65 : decode cX6_tellSeason 65 = .ok (.iconst 0, 1) := by decide +kernel
theorem dX6_tellSeason_66 : decode cX6_tellSeason 66 = .ok (.istore_n 2, 1) := by decide +kernel
theorem dX6_tellSeason_67 : decode cX6_tellSeason 67 = .ok (.iconst 0, 1) := by decide +kernel
theorem dX6_tellSeason_68 : decode cX6_tellSeason 68 = .ok (.istore_n 3, 1) := by decide +kernel
theorem dX6_tellSeason_69 : decode cX6_tellSeason 69 = .ok (.iload_n 3, 1) := by decide +kernel
theorem dX6_tellSeason_70 : decode cX6_tellSeason 70 = .ok (.aload_n 0, 1) := by decide +kernel
theorem dX6_tellSeason_71 : decode cX6_tellSeason 71 = .ok (.getfield 71, 3) := by decide +kernel
theorem dX6_tellSeason_74 : decode cX6_tellSeason 74 = .ok (.if_icmp .ge 20, 3) := by decide +kernel
theorem dX6_tellSeason_77 : decode cX6_tellSeason 77 = .ok (.iload_n 2, 1) := by decide +kernel
theorem dX6_tellSeason_78 : decode cX6_tellSeason 78 = .ok (.iconst 1, 1) := by decide +kernel
theorem dX6_tellSeason_79 : decode cX6_tellSeason 79 = .ok (.aload_n 0, 1) := by decide +kernel
theorem dX6_tellSeason_80 : decode cX6_tellSeason 80 = .ok (.getfield 28, 3) := by decide +kernel
theorem dX6_tellSeason_83 : decode cX6_tellSeason 83 = .ok (.iload_n 3, 1) := by decide +kernel
theorem dX6_tellSeason_84 : decode cX6_tellSeason 84 = .ok (.iaload, 1) := by decide +kernel
theorem dX6_tellSeason_85 : decode cX6_tellSeason 85 = .ok (.ishl, 1) := by decide +kernel
theorem dX6_tellSeason_86 : decode cX6_tellSeason 86 = .ok (.ior, 1) := by decide +kernel
theorem dX6_tellSeason_87 : decode cX6_tellSeason 87 = .ok (.istore_n 2, 1) := by decide +kernel
theorem dX6_tellSeason_88 : decode cX6_tellSeason 88 = .ok (.iinc 3 1, 3) := by decide +kernel
theorem dX6_tellSeason_91 : decode cX6_tellSeason 91 = .ok (.goto (-22), 3) := by decide +kernel
theorem dX6_tellSeason_94 : decode cX6_tellSeason 94 = .ok (.iload_n 2, 1) := by decide +kernel
theorem dX6_tellSeason_95 : decode cX6_tellSeason 95 = .ok (.ireturn, 1) := by decide +kernel
set_option maxRecDepth 20000 in
theorem ggX6_nextFrom_X6_ownerFrom : GoodIn wsX6_nextFrom wsX6_ownerFrom := goodIn_r _ [5, 6, 7, 8, 9, 4, 10, 11, 12, 13, 14, 15, 16, 17, 18, 19, 20, 21, 22, 23, 24, 25, 26, 27, 28, 29, 30, 31, 32, 33, 34, 35, 36, 37, 38, 39, 40, 41, 42, 43, 44, 45, 46, 47, 48, 49, 50, 51, 52, 53, 54, 55, 56, 57, 58, 59, 60] (by decide +kernel) (by decide +kernel)
set_option maxRecDepth 20000 in
theorem gX6_nextFrom_X6_ownerFrom : GoodIn wsX6_nextFrom (wsV RX6 161 RX6 yX6_ownerFrom wsX6_ownerFrom) := goodIn_app (goodIn_of _ (by decide +kernel)) ggX6_nextFrom_X6_ownerFrom
theorem dX6_nextFrom_0 : decode cX6_nextFrom 0 = .ok (.aload_n 0, 1) := by decide +kernel
theorem dX6_nextFrom_1 : decode cX6_nextFrom 1 = .ok (.iload_n 1, 1) := by decide +kernel
theorem dX6_nextFrom_2 : decode cX6_nextFrom 2 = .ok (.iload_n 2, 1) := by decide +kernel
theorem dX6_nextFrom_3 : decode cX6_nextFrom 3 = .ok (.invokevirtual 161, 3) := by decide +kernel
theorem dX6_nextFrom_6 : decode cX6_nextFrom 6 = .ok (.istore_n 3, 1) := by decide +kernel
theorem dX6_nextFrom_7 : decode cX6_nextFrom 7 = .ok (.iload_n 3, 1) := by decide +kernel
theorem dX6_nextFrom_8 : decode cX6_nextFrom 8 = .ok (.bipush (-9), 2) := by decide +kernel
theorem dX6_nextFrom_10 : decode cX6_nextFrom 10 = .ok (.if_icmp .ne 7, 3) := by decide +kernel
theorem dX6_nextFrom_13 : decode cX6_nextFrom 13 = .ok (.iload_n 2, 1) := by decide +kernel
theorem dX6_nextFrom_14 : decode cX6_nextFrom 14 = .ok (.goto 4, 3) := by decide +kernel
theorem dX6_nextFrom_17 : decode cX6_nextFrom 17 = .ok (.iload_n 3, 1) := by decide +kernel
theorem dX6_nextFrom_18 : decode cX6_nextFrom 18 = .ok (.ireturn, 1) := by decide +kernel
set_option maxRecDepth 20000 in
theorem ggX6_round_X6_isClock : GoodIn wsX6_round wsX6_isClock := goodIn_r _ [7, 8, 44, 45, 46, 47, 48, 49, 50, 51, 52, 53, 54, 55, 56, 57, 58, 59, 60, 61, 62, 63, 64, 65, 66, 67, 68, 69, 70, 71, 72, 73] (by decide +kernel) (by decide +kernel)
set_option maxRecDepth 20000 in
theorem gX6_round_X6_isClock : GoodIn wsX6_round (wsV RX6 154 RX6 yX6_isClock wsX6_isClock) := goodIn_app (goodIn_of _ (by decide +kernel)) ggX6_round_X6_isClock
set_option maxRecDepth 20000 in
theorem ggX6_round_X6_within : GoodIn wsX6_round wsX6_within := goodIn_r _ [11] (by decide +kernel) (by decide +kernel)
set_option maxRecDepth 20000 in
theorem gX6_round_X6_within : GoodIn wsX6_round (va_wsS RX6 64 yX6_within wsX6_within) := goodIn_app (goodIn_of _ (by decide +kernel)) ggX6_round_X6_within
set_option maxRecDepth 20000 in
theorem ggX6_round_X6_nextFrom : GoodIn wsX6_round wsX6_nextFrom := goodIn_r _ [15, 16, 17, 18, 6, 19, 2, 20, 21, 22, 23, 24, 25, 26, 27, 28, 29, 30, 31, 32, 33, 34, 35, 36, 37, 38, 39, 40, 41, 42, 43, 44, 45, 46, 47, 48, 49, 50, 51, 52, 53, 54, 55, 56, 57, 58, 59, 60, 61, 62, 63, 64, 65, 66, 67, 68, 69, 70, 71, 72, 73] (by decide +kernel) (by decide +kernel)
set_option maxRecDepth 20000 in
theorem gX6_round_X6_nextFrom : GoodIn wsX6_round (wsV RX6 201 RX6 yX6_nextFrom wsX6_nextFrom) := goodIn_app (goodIn_of _ (by decide +kernel)) ggX6_round_X6_nextFrom
theorem dX6_round_0 : decode cX6_round 0 = .ok (.aload_n 0, 1) := by decide +kernel
theorem dX6_round_1 : decode cX6_round 1 = .ok (.iload_n 1, 1) := by decide +kernel
theorem dX6_round_2 : decode cX6_round 2 = .ok (.invokevirtual 154, 3) := by decide +kernel
theorem dX6_round_5 : decode cX6_round 5 = .ok (.ifCond .ne 5, 3) := by decide +kernel
theorem dX6_round_8 : decode cX6_round 8 = .ok (.iconst (-1), 1) := by decide +kernel
theorem dX6_round_9 : decode cX6_round 9 = .ok (.ireturn, 1) := by decide +kernel
theorem dX6_round_10 : decode cX6_round 10 = .ok (.iload_n 2, 1) := by decide +kernel
theorem dX6_round_11 : decode cX6_round 11 = .ok (.iconst 0, 1) := by decide +kernel
theorem dX6_round_12 : decode cX6_round 12 = .ok (.iconst 1, 1) := by decide +kernel
theorem dX6_round_13 : decode cX6_round 13 = .ok (.invokestatic 64, 3) := by decide +kernel
theorem dX6_round_16 : decode cX6_round 16 = .ok (.ifCond .ne 6, 3) := by decide +kernel
theorem dX6_round_19 : decode cX6_round 19 = .ok (.bipush (-2), 2) := by decide +kernel
theorem dX6_round_21 : decode cX6_round 21 = .ok (.ireturn, 1) := by decide +kernel
theorem dX6_round_22 : decode cX6_round 22 = .ok (.aload_n 0, 1) := by decide +kernel
theorem dX6_round_23 : decode cX6_round 23 = .ok (.getfield 28, 3) := by decide +kernel
theorem dX6_round_26 : decode cX6_round 26 = .ok (.iload_n 1, 1) := by decide +kernel
theorem dX6_round_27 : decode cX6_round 27 = .ok (.iaload, 1) := by decide +kernel
theorem dX6_round_28 : decode cX6_round 28 = .ok (.istore_n 3, 1) := by decide +kernel
theorem dX6_round_29 : decode cX6_round 29 = .ok (.iconst 0, 1) := by decide +kernel
theorem dX6_round_30 : decode cX6_round 30 = .ok (.istore 4, 2) := by decide +kernel
theorem dX6_round_32 : decode cX6_round 32 = .ok (.iload 4, 2) := by decide +kernel
theorem dX6_round_34 : decode cX6_round 34 = .ok (.aload_n 0, 1) := by decide +kernel
theorem dX6_round_35 : decode cX6_round 35 = .ok (.getfield 68, 3) := by decide +kernel
theorem dX6_round_38 : decode cX6_round 38 = .ok (.if_icmp .ge 16, 3) := by decide +kernel
theorem dX6_round_41 : decode cX6_round 41 = .ok (.aload_n 0, 1) := by decide +kernel
theorem dX6_round_42 : decode cX6_round 42 = .ok (.iload_n 1, 1) := by decide +kernel
theorem dX6_round_43 : decode cX6_round 43 = .ok (.iload_n 3, 1) := by decide +kernel
theorem dX6_round_44 : decode cX6_round 44 = .ok (.invokevirtual 201, 3) := by decide +kernel
theorem dX6_round_47 : decode cX6_round 47 = .ok (.istore_n 3, 1) := by decide +kernel
theorem dX6_round_48 : decode cX6_round 48 = .ok (.iinc 4 1, 3) := by decide +kernel
theorem dX6_round_51 : decode cX6_round 51 = .ok (.goto (-19), 3) := by decide +kernel
theorem dX6_round_54 : decode cX6_round 54 = .ok (.iconst 1, 1) := by decide +kernel
theorem dX6_round_55 : decode cX6_round 55 = .ok (.istore 4, 2) := by decide +kernel
theorem dX6_round_57 : decode cX6_round 57 = .ok (.aload_n 0, 1) := by decide +kernel
theorem dX6_round_58 : decode cX6_round 58 = .ok (.iload_n 1, 1) := by decide +kernel
theorem dX6_round_59 : decode cX6_round 59 = .ok (.iload_n 3, 1) := by decide +kernel
theorem dX6_round_60 : decode cX6_round 60 = .ok (.invokevirtual 201, 3) := by decide +kernel
theorem dX6_round_63 : decode cX6_round 63 = .ok (.istore 5, 2) := by decide +kernel
theorem dX6_round_65 : decode cX6_round 65 = .ok (.iload 5, 2) := by decide +kernel
theorem dX6_round_67 : decode cX6_round 67 = .ok (.iload_n 3, 1) := by decide +kernel
theorem dX6_round_68 : decode cX6_round 68 = .ok (.if_icmp .eq 18, 3) := by decide +kernel
theorem dX6_round_71 : decode cX6_round 71 = .ok (.iinc 4 1, 3) := by decide +kernel
theorem dX6_round_74 : decode cX6_round 74 = .ok (.aload_n 0, 1) := by decide +kernel
theorem dX6_round_75 : decode cX6_round 75 = .ok (.iload_n 1, 1) := by decide +kernel
theorem dX6_round_76 : decode cX6_round 76 = .ok (.iload 5, 2) := by decide +kernel
theorem dX6_round_78 : decode cX6_round 78 = .ok (.invokevirtual 201, 3) := by decide +kernel
theorem dX6_round_81 : decode cX6_round 81 = .ok (.istore 5, 2) := by decide +kernel
theorem dX6_round_83 : decode cX6_round 83 = .ok (.goto (-18), 3) := by decide +kernel
theorem dX6_round_86 : decode cX6_round 86 = .ok (.aload_n 0, 1) := by decide +kernel
theorem dX6_round_87 : decode cX6_round 87 = .ok (.getfield 28, 3) := by decide +kernel
theorem dX6_round_90 : decode cX6_round 90 = .ok (.iload_n 1, 1) := by decide +kernel
theorem dX6_round_91 : decode cX6_round 91 = .ok (.iaload, 1) := by decide +kernel
theorem dX6_round_92 : decode cX6_round 92 = .ok (.istore 5, 2) := by decide +kernel
theorem dX6_round_94 : decode cX6_round 94 = .ok (.iload 5, 2) := by decide +kernel
theorem dX6_round_96 : decode cX6_round 96 = .ok (.istore 6, 2) := by decide +kernel
theorem dX6_round_98 : decode cX6_round 98 = .ok (.iconst 0, 1) := by decide +kernel
theorem dX6_round_99 : decode cX6_round 99 = .ok (.istore 7, 2) := by decide +kernel
theorem dX6_round_101 : decode cX6_round 101 = .ok (.iload 7, 2) := by decide +kernel
theorem dX6_round_103 : decode cX6_round 103 = .ok (.iload 4, 2) := by decide +kernel
theorem dX6_round_105 : decode cX6_round 105 = .ok (.if_icmp .ge 18, 3) := by decide +kernel
theorem dX6_round_108 : decode cX6_round 108 = .ok (.aload_n 0, 1) := by decide +kernel
theorem dX6_round_109 : decode cX6_round 109 = .ok (.iload_n 1, 1) := by decide +kernel
theorem dX6_round_110 : decode cX6_round 110 = .ok (.iload 6, 2) := by decide +kernel
theorem dX6_round_112 : decode cX6_round 112 = .ok (.invokevirtual 201, 3) := by decide +kernel
theorem dX6_round_115 : decode cX6_round 115 = .ok (.istore 6, 2) := by decide +kernel
theorem dX6_round_117 : decode cX6_round 117 = .ok (.iinc 7 1, 3) := by decide +kernel
theorem dX6_round_120 : decode cX6_round 120 = .ok (.goto (-19), 3) := by decide +kernel
theorem dX6_round_123 : decode cX6_round 123 = .ok (.iconst 0, 1) := by decide +kernel
theorem dX6_round_124 : decode cX6_round 124 = .ok (.istore 7, 2) := by decide +kernel
theorem dX6_round_126 : decode cX6_round 126 = .ok (.iload 5, 2) := by decide +kernel
theorem dX6_round_128 : decode cX6_round 128 = .ok (.iload 6, 2) := by decide +kernel
theorem dX6_round_130 : decode cX6_round 130 = .ok (.if_icmp .eq 27, 3) := by decide +kernel
theorem dX6_round_133 : decode cX6_round 133 = .ok (.aload_n 0, 1) := by decide +kernel
theorem dX6_round_134 : decode cX6_round 134 = .ok (.iload_n 1, 1) := by decide +kernel
theorem dX6_round_135 : decode cX6_round 135 = .ok (.iload 5, 2) := by decide +kernel
theorem dX6_round_137 : decode cX6_round 137 = .ok (.invokevirtual 201, 3) := by decide +kernel
theorem dX6_round_140 : decode cX6_round 140 = .ok (.istore 5, 2) := by decide +kernel
theorem dX6_round_142 : decode cX6_round 142 = .ok (.aload_n 0, 1) := by decide +kernel
theorem dX6_round_143 : decode cX6_round 143 = .ok (.iload_n 1, 1) := by decide +kernel
theorem dX6_round_144 : decode cX6_round 144 = .ok (.iload 6, 2) := by decide +kernel
theorem dX6_round_146 : decode cX6_round 146 = .ok (.invokevirtual 201, 3) := by decide +kernel
theorem dX6_round_149 : decode cX6_round 149 = .ok (.istore 6, 2) := by decide +kernel
theorem dX6_round_151 : decode cX6_round 151 = .ok (.iinc 7 1, 3) := by decide +kernel
theorem dX6_round_154 : decode cX6_round 154 = .ok (.goto (-28), 3) := by decide +kernel
theorem dX6_round_157 : decode cX6_round 157 = .ok (.iload_n 2, 1) := by decide +kernel
theorem dX6_round_158 : decode cX6_round 158 = .ok (.ifCond .ne 8, 3) := by decide +kernel
theorem dX6_round_161 : decode cX6_round 161 = .ok (.iload 7, 2) := by decide +kernel
theorem dX6_round_163 : decode cX6_round 163 = .ok (.goto 5, 3) := by decide +kernel
theorem dX6_round_166 : decode cX6_round 166 = .ok (.iload 4, 2) := by decide +kernel
theorem dX6_round_168 : decode cX6_round 168 = .ok (.ireturn, 1) := by decide +kernel
set_option maxRecDepth 20000 in
theorem ggX6_from_X6_isHouse : GoodIn wsX6_from wsX6_isHouse := goodIn_r _ [6, 1, 40, 41, 42, 43, 44, 45, 46, 47, 48, 49, 50, 51, 52, 53, 54, 55, 56, 57, 58, 59, 60, 61, 62, 63, 64, 65, 66, 67, 68, 69] (by decide +kernel) (by decide +kernel)
set_option maxRecDepth 20000 in
theorem gX6_from_X6_isHouse : GoodIn wsX6_from (wsV RX6 151 RX6 yX6_isHouse wsX6_isHouse) := goodIn_app (goodIn_of _ (by decide +kernel)) ggX6_from_X6_isHouse
set_option maxRecDepth 20000 in
theorem ggX6_from_X6_isClock : GoodIn wsX6_from wsX6_isClock := goodIn_r _ [10, 11, 40, 41, 42, 43, 44, 45, 46, 47, 48, 49, 50, 51, 52, 53, 54, 55, 56, 57, 58, 59, 60, 61, 62, 63, 64, 65, 66, 67, 68, 69] (by decide +kernel) (by decide +kernel)
set_option maxRecDepth 20000 in
theorem gX6_from_X6_isClock : GoodIn wsX6_from (wsV RX6 154 RX6 yX6_isClock wsX6_isClock) := goodIn_app (goodIn_of _ (by decide +kernel)) ggX6_from_X6_isClock
set_option maxRecDepth 20000 in
theorem ggX6_from_X6_ownerFrom : GoodIn wsX6_from wsX6_ownerFrom := goodIn_r _ [15, 1, 16, 17, 18, 5, 19, 20, 21, 22, 23, 24, 25, 26, 27, 28, 29, 30, 31, 32, 33, 34, 35, 36, 37, 38, 39, 40, 41, 42, 43, 44, 45, 46, 47, 48, 49, 50, 51, 52, 53, 54, 55, 56, 57, 58, 59, 60, 61, 62, 63, 64, 65, 66, 67, 68, 69] (by decide +kernel) (by decide +kernel)
set_option maxRecDepth 20000 in
theorem gX6_from_X6_ownerFrom : GoodIn wsX6_from (wsV RX6 161 RX6 yX6_ownerFrom wsX6_ownerFrom) := goodIn_app (goodIn_of _ (by decide +kernel)) ggX6_from_X6_ownerFrom
theorem dX6_from_0 : decode cX6_from 0 = .ok (.aload_n 0, 1) := by decide +kernel
theorem dX6_from_1 : decode cX6_from 1 = .ok (.iload_n 1, 1) := by decide +kernel
theorem dX6_from_2 : decode cX6_from 2 = .ok (.invokevirtual 151, 3) := by decide +kernel
theorem dX6_from_5 : decode cX6_from 5 = .ok (.ifCond .eq 11, 3) := by decide +kernel
theorem dX6_from_8 : decode cX6_from 8 = .ok (.aload_n 0, 1) := by decide +kernel
theorem dX6_from_9 : decode cX6_from 9 = .ok (.iload_n 2, 1) := by decide +kernel
theorem dX6_from_10 : decode cX6_from 10 = .ok (.invokevirtual 154, 3) := by decide +kernel
theorem dX6_from_13 : decode cX6_from 13 = .ok (.ifCond .ne 5, 3) := by decide +kernel
theorem dX6_from_16 : decode cX6_from 16 = .ok (.iconst (-1), 1) := by decide +kernel
theorem dX6_from_17 : decode cX6_from 17 = .ok (.ireturn, 1) := by decide +kernel
theorem dX6_from_18 : decode cX6_from 18 = .ok (.iconst 0, 1) := by decide +kernel
theorem dX6_from_19 : decode cX6_from 19 = .ok (.istore_n 3, 1) := by decide +kernel
theorem dX6_from_20 : decode cX6_from 20 = .ok (.iconst 0, 1) := by decide +kernel
theorem dX6_from_21 : decode cX6_from 21 = .ok (.istore 4, 2) := by decide +kernel
theorem dX6_from_23 : decode cX6_from 23 = .ok (.iload 4, 2) := by decide +kernel
theorem dX6_from_25 : decode cX6_from 25 = .ok (.aload_n 0, 1) := by decide +kernel
theorem dX6_from_26 : decode cX6_from 26 = .ok (.getfield 68, 3) := by decide +kernel
theorem dX6_from_29 : decode cX6_from 29 = .ok (.if_icmp .ge 31, 3) := by decide +kernel
theorem dX6_from_32 : decode cX6_from 32 = .ok (.iload_n 3, 1) := by decide +kernel
theorem dX6_from_33 : decode cX6_from 33 = .ok (.aload_n 0, 1) := by decide +kernel
theorem dX6_from_34 : decode cX6_from 34 = .ok (.iload_n 2, 1) := by decide +kernel
theorem dX6_from_35 : decode cX6_from 35 = .ok (.iload 4, 2) := by decide +kernel
theorem dX6_from_37 : decode cX6_from 37 = .ok (.invokevirtual 161, 3) := by decide +kernel
theorem dX6_from_40 : decode cX6_from 40 = .ok (.iload_n 1, 1) := by decide +kernel
theorem dX6_from_41 : decode cX6_from 41 = .ok (.if_icmp .ne 10, 3) := by decide +kernel
theorem dX6_from_44 : decode cX6_from 44 = .ok (.iconst 1, 1) := by decide +kernel
theorem dX6_from_45 : decode cX6_from 45 = .ok (.iload 4, 2) := by decide +kernel
theorem dX6_from_47 : decode cX6_from 47 = .ok (.ishl, 1) := by decide +kernel
theorem dX6_from_48 : decode cX6_from 48 = .ok (.goto 4, 3) := by decide +kernel
theorem dX6_from_51 : decode cX6_from 51 = .ok (.iconst 0, 1) := by decide +kernel
theorem dX6_from_52 : decode cX6_from 52 = .ok (.ior, 1) := by decide +kernel
theorem dX6_from_53 : decode cX6_from 53 = .ok (.istore_n 3, 1) := by decide +kernel
theorem dX6_from_54 : decode cX6_from 54 = .ok (.iinc 4 1, 3) := by decide +kernel
theorem dX6_from_57 : decode cX6_from 57 = .ok (.goto (-34), 3) := by decide +kernel
theorem dX6_from_60 : decode cX6_from 60 = .ok (.iload_n 3, 1) := by decide +kernel
theorem dX6_from_61 : decode cX6_from 61 = .ok (.ireturn, 1) := by decide +kernel
set_option maxRecDepth 20000 in
theorem ggX6_isSettled_X6_oneNight : GoodIn wsX6_isSettled wsX6_oneNight := goodIn_r _ [8, 1, 9, 10, 11, 7, 12, 3, 13, 14, 15, 16, 17, 18, 19, 20, 21, 22, 23, 24, 25, 26, 27, 28, 29, 30, 31, 32, 33, 34, 35, 36, 37, 38, 39, 40, 41, 42, 43, 44, 45, 46, 47, 48, 49, 50, 51, 52, 53, 54, 55, 56, 57, 58, 59, 60, 61, 62, 63, 64, 65, 66, 67, 68, 69, 70, 71, 72, 73] (by decide +kernel) (by decide +kernel)
set_option maxRecDepth 20000 in
theorem gX6_isSettled_X6_oneNight : GoodIn wsX6_isSettled (wsV RX6 176 RX6 yX6_oneNight wsX6_oneNight) := goodIn_app (goodIn_of _ (by decide +kernel)) ggX6_isSettled_X6_oneNight
theorem dX6_isSettled_0 : decode cX6_isSettled 0 = .ok (.iconst 0, 1) := by decide +kernel
theorem dX6_isSettled_1 : decode cX6_isSettled 1 = .ok (.istore_n 1, 1) := by decide +kernel
theorem dX6_isSettled_2 : decode cX6_isSettled 2 = .ok (.iload_n 1, 1) := by decide +kernel
theorem dX6_isSettled_3 : decode cX6_isSettled 3 = .ok (.aload_n 0, 1) := by decide +kernel
theorem dX6_isSettled_4 : decode cX6_isSettled 4 = .ok (.getfield 71, 3) := by decide +kernel
theorem dX6_isSettled_7 : decode cX6_isSettled 7 = .ok (.if_icmp .ge 21, 3) := by decide +kernel
theorem dX6_isSettled_10 : decode cX6_isSettled 10 = .ok (.aload_n 0, 1) := by decide +kernel
theorem dX6_isSettled_11 : decode cX6_isSettled 11 = .ok (.getfield 40, 3) := by decide +kernel
theorem dX6_isSettled_14 : decode cX6_isSettled 14 = .ok (.iload_n 1, 1) := by decide +kernel
theorem dX6_isSettled_15 : decode cX6_isSettled 15 = .ok (.aload_n 0, 1) := by decide +kernel
theorem dX6_isSettled_16 : decode cX6_isSettled 16 = .ok (.getfield 28, 3) := by decide +kernel
theorem dX6_isSettled_19 : decode cX6_isSettled 19 = .ok (.iload_n 1, 1) := by decide +kernel
theorem dX6_isSettled_20 : decode cX6_isSettled 20 = .ok (.iaload, 1) := by decide +kernel
theorem dX6_isSettled_21 : decode cX6_isSettled 21 = .ok (.iastore, 1) := by decide +kernel
theorem dX6_isSettled_22 : decode cX6_isSettled 22 = .ok (.iinc 1 1, 3) := by decide +kernel
theorem dX6_isSettled_25 : decode cX6_isSettled 25 = .ok (.goto (-23), 3) := by decide +kernel
theorem dX6_isSettled_28 : decode cX6_isSettled 28 = .ok (.aload_n 0, 1) := by decide +kernel
theorem dX6_isSettled_29 : decode cX6_isSettled 29 = .ok (.invokevirtual 176, 3) := by decide +kernel
theorem dX6_isSettled_32 : decode cX6_isSettled 32 = .ok (.iconst 0, 1) := by decide +kernel
theorem dX6_isSettled_33 : decode cX6_isSettled 33 = .ok (.istore_n 1, 1) := by decide +kernel
theorem dX6_isSettled_34 : decode cX6_isSettled 34 = .ok (.iload_n 1, 1) := by decide +kernel
theorem dX6_isSettled_35 : decode cX6_isSettled 35 = .ok (.aload_n 0, 1) := by decide +kernel
theorem dX6_isSettled_36 : decode cX6_isSettled 36 = .ok (.getfield 71, 3) := by decide +kernel
theorem dX6_isSettled_39 : decode cX6_isSettled 39 = .ok (.if_icmp .ge 26, 3) := by decide +kernel
theorem dX6_isSettled_42 : decode cX6_isSettled 42 = .ok (.aload_n 0, 1) := by decide +kernel
theorem dX6_isSettled_43 : decode cX6_isSettled 43 = .ok (.getfield 28, 3) := by decide +kernel
theorem dX6_isSettled_46 : decode cX6_isSettled 46 = .ok (.iload_n 1, 1) := by decide +kernel
theorem dX6_isSettled_47 : decode cX6_isSettled 47 = .ok (.iaload, 1) := by decide +kernel
theorem dX6_isSettled_48 : decode cX6_isSettled 48 = .ok (.aload_n 0, 1) := by decide +kernel
theorem dX6_isSettled_49 : decode cX6_isSettled 49 = .ok (.getfield 40, 3) := by decide +kernel
theorem dX6_isSettled_52 : decode cX6_isSettled 52 = .ok (.iload_n 1, 1) := by decide +kernel
theorem dX6_isSettled_53 : decode cX6_isSettled 53 = .ok (.iaload, 1) := by decide +kernel
theorem dX6_isSettled_54 : decode cX6_isSettled 54 = .ok (.if_icmp .eq 5, 3) := by decide +kernel
theorem dX6_isSettled_57 : decode cX6_isSettled 57 = .ok (.iconst 0, 1) := by decide +kernel
theorem dX6_isSettled_58 : decode cX6_isSettled 58 = .ok (.ireturn, 1) := by decide +kernel
theorem dX6_isSettled_59 : decode cX6_isSettled 59 = .ok (.iinc 1 1, 3) := by decide +kernel
theorem dX6_isSettled_62 : decode cX6_isSettled 62 = .ok (.goto (-28), 3) := by decide +kernel
theorem dX6_isSettled_65 : decode cX6_isSettled 65 = .ok (.iconst 1, 1) := by decide +kernel
theorem dX6_isSettled_66 : decode cX6_isSettled 66 = .ok (.ireturn, 1) := by decide +kernel
set_option maxRecDepth 20000 in
theorem ggX6_settle_X6_keep : GoodIn wsX6_settle wsX6_keep := goodIn_r _ [6, 7, 8, 9, 57, 58, 59, 60, 61, 62, 63, 64, 65, 66, 67, 68, 69, 70, 71, 72, 73, 74, 75, 76, 77, 78, 79, 80, 81, 82, 83, 84, 85, 86] (by decide +kernel) (by decide +kernel)
set_option maxRecDepth 20000 in
theorem gX6_settle_X6_keep : GoodIn wsX6_settle (wsV RX6 173 RX6 yX6_keep wsX6_keep) := goodIn_app (goodIn_of _ (by decide +kernel)) ggX6_settle_X6_keep
set_option maxRecDepth 20000 in
theorem ggX6_settle_X6_isSettled : GoodIn wsX6_settle wsX6_isSettled := goodIn_r _ [13, 7, 14, 9, 15, 16, 17, 5, 18, 19, 20, 21, 22, 23, 24, 25, 26, 27, 28, 1, 29, 30, 31, 32, 33, 34, 35, 36, 37, 38, 39, 40, 41, 42, 43, 44, 45, 46, 47, 48, 49, 50, 51, 52, 57, 58, 59, 60, 61, 62, 63, 64, 65, 66, 67, 68, 69, 70, 71, 72, 73, 74, 75, 76, 77, 78, 79, 80, 81, 82, 83, 84, 85, 86] (by decide +kernel) (by decide +kernel)
set_option maxRecDepth 20000 in
theorem gX6_settle_X6_isSettled : GoodIn wsX6_settle (wsV RX6 204 RX6 yX6_isSettled wsX6_isSettled) := goodIn_app (goodIn_of _ (by decide +kernel)) ggX6_settle_X6_isSettled
set_option maxRecDepth 20000 in
theorem ggX6_settle_X6_putBack : GoodIn wsX6_settle wsX6_putBack := goodIn_r _ [56, 7, 9, 8, 57, 58, 59, 60, 61, 62, 63, 64, 65, 66, 67, 68, 69, 70, 71, 72, 73, 74, 75, 76, 77, 78, 79, 80, 81, 82, 83, 84, 85, 86] (by decide +kernel) (by decide +kernel)
set_option maxRecDepth 20000 in
theorem gX6_settle_X6_putBack : GoodIn wsX6_settle (wsV RX6 198 RX6 yX6_putBack wsX6_putBack) := goodIn_app (goodIn_of _ (by decide +kernel)) ggX6_settle_X6_putBack
theorem dX6_settle_0 : decode cX6_settle 0 = .ok (.aload_n 0, 1) := by decide +kernel
theorem dX6_settle_1 : decode cX6_settle 1 = .ok (.getfield 68, 3) := by decide +kernel
theorem dX6_settle_4 : decode cX6_settle 4 = .ok (.ifCond .ne 6, 3) := by decide +kernel
theorem dX6_settle_7 : decode cX6_settle 7 = .ok (.bipush (-3), 2) := by decide +kernel
theorem dX6_settle_9 : decode cX6_settle 9 = .ok (.ireturn, 1) := by decide +kernel
theorem dX6_settle_10 : decode cX6_settle 10 = .ok (.aload_n 0, 1) := by decide +kernel
theorem dX6_settle_11 : decode cX6_settle 11 = .ok (.invokevirtual 173, 3) := by decide +kernel
theorem dX6_settle_14 : decode cX6_settle 14 = .ok (.bipush (-9), 2) := by decide +kernel
theorem dX6_settle_16 : decode cX6_settle 16 = .ok (.istore_n 1, 1) := by decide +kernel
theorem dX6_settle_17 : decode cX6_settle 17 = .ok (.iconst 0, 1) := by decide +kernel
theorem dX6_settle_18 : decode cX6_settle 18 = .ok (.istore_n 2, 1) := by decide +kernel
theorem dX6_settle_19 : decode cX6_settle 19 = .ok (.iload_n 2, 1) := by decide +kernel
theorem dX6_settle_20 : decode cX6_settle 20 = .ok (.bipush 99, 2) := by decide +kernel
theorem dX6_settle_22 : decode cX6_settle 22 = .ok (.if_icmp .gt 29, 3) := by decide +kernel
theorem dX6_settle_25 : decode cX6_settle 25 = .ok (.iload_n 1, 1) := by decide +kernel
theorem dX6_settle_26 : decode cX6_settle 26 = .ok (.bipush (-9), 2) := by decide +kernel
theorem dX6_settle_28 : decode cX6_settle 28 = .ok (.if_icmp .ne 23, 3) := by decide +kernel
theorem dX6_settle_31 : decode cX6_settle 31 = .ok (.aload_n 0, 1) := by decide +kernel
theorem dX6_settle_32 : decode cX6_settle 32 = .ok (.invokevirtual 204, 3) := by decide +kernel
theorem dX6_settle_35 : decode cX6_settle 35 = .ok (.ifCond .eq 7, 3) := by decide +kernel
theorem dX6_settle_38 : decode cX6_settle 38 = .ok (.iload_n 2, 1) := by decide +kernel
theorem dX6_settle_39 : decode cX6_settle 39 = .ok (.goto 5, 3) := by decide +kernel
theorem dX6_settle_42 : decode cX6_settle 42 = .ok (.bipush (-9), 2) := by decide +kernel
theorem dX6_settle_44 : decode cX6_settle 44 = .ok (.istore_n 1, 1) := by decide +kernel
theorem dX6_settle_45 : decode cX6_settle 45 = .ok (.iinc 2 1, 3) := by decide +kernel
theorem dX6_settle_48 : decode cX6_settle 48 = .ok (.goto (-29), 3) := by decide +kernel
theorem dX6_settle_51 : decode cX6_settle 51 = .ok (.aload_n 0, 1) := by decide +kernel
theorem dX6_settle_52 : decode cX6_settle 52 = .ok (.invokevirtual 198, 3) := by decide +kernel
theorem dX6_settle_55 : decode cX6_settle 55 = .ok (.iload_n 1, 1) := by decide +kernel
theorem dX6_settle_56 : decode cX6_settle 56 = .ok (.ireturn, 1) := by decide +kernel
set_option maxRecDepth 20000 in
theorem ggX6_wakersBy_X6_wakersOf : GoodIn wsX6_wakersBy wsX6_wakersOf := goodIn_r _ [8, 3, 9, 10, 11, 7, 12, 13, 14, 15, 16, 17, 18, 19, 20, 21, 22, 23, 24, 25, 26, 27, 28, 29, 30, 31, 32, 33, 34, 35, 36, 37, 38, 39, 40, 41, 42, 43, 44, 45, 46, 47, 48, 49, 50, 51, 52, 53, 54, 55, 56, 57, 58, 59, 60, 61, 62] (by decide +kernel) (by decide +kernel)
set_option maxRecDepth 20000 in
theorem gX6_wakersBy_X6_wakersOf : GoodIn wsX6_wakersBy (wsV RX6 157 RX6 yX6_wakersOf wsX6_wakersOf) := goodIn_app (goodIn_of _ (by decide +kernel)) ggX6_wakersBy_X6_wakersOf
theorem dX6_wakersBy_0 : decode cX6_wakersBy 0 = .ok (.iload_n 1, 1) := by decide +kernel
theorem dX6_wakersBy_1 : decode cX6_wakersBy 1 = .ok (.istore_n 2, 1) := by decide +kernel
theorem dX6_wakersBy_2 : decode cX6_wakersBy 2 = .ok (.iconst 0, 1) := by decide +kernel
theorem dX6_wakersBy_3 : decode cX6_wakersBy 3 = .ok (.istore_n 3, 1) := by decide +kernel
theorem dX6_wakersBy_4 : decode cX6_wakersBy 4 = .ok (.aload_n 0, 1) := by decide +kernel
theorem dX6_wakersBy_5 : decode cX6_wakersBy 5 = .ok (.getfield 71, 3) := by decide +kernel
theorem dX6_wakersBy_8 : decode cX6_wakersBy 8 = .ok (.iconst 1, 1) := by decide +kernel
theorem dX6_wakersBy_9 : decode cX6_wakersBy 9 = .ok (.isub, 1) := by decide +kernel
theorem dX6_wakersBy_10 : decode cX6_wakersBy 10 = .ok (.istore 4, 2) := by decide +kernel
theorem dX6_wakersBy_12 : decode cX6_wakersBy 12 = .ok (.iload 4, 2) := by decide +kernel
theorem dX6_wakersBy_14 : decode cX6_wakersBy 14 = .ok (.ifCond .lt 45, 3) := by decide +kernel
theorem dX6_wakersBy_17 : decode cX6_wakersBy 17 = .ok (.aload_n 0, 1) := by decide +kernel
theorem dX6_wakersBy_18 : decode cX6_wakersBy 18 = .ok (.getfield 43, 3) := by decide +kernel
theorem dX6_wakersBy_21 : decode cX6_wakersBy 21 = .ok (.iload 4, 2) := by decide +kernel
theorem dX6_wakersBy_23 : decode cX6_wakersBy 23 = .ok (.iload_n 2, 1) := by decide +kernel
theorem dX6_wakersBy_24 : decode cX6_wakersBy 24 = .ok (.aload_n 0, 1) := by decide +kernel
theorem dX6_wakersBy_25 : decode cX6_wakersBy 25 = .ok (.getfield 68, 3) := by decide +kernel
theorem dX6_wakersBy_28 : decode cX6_wakersBy 28 = .ok (.irem, 1) := by decide +kernel
theorem dX6_wakersBy_29 : decode cX6_wakersBy 29 = .ok (.iastore, 1) := by decide +kernel
theorem dX6_wakersBy_30 : decode cX6_wakersBy 30 = .ok (.iload_n 2, 1) := by decide +kernel
theorem dX6_wakersBy_31 : decode cX6_wakersBy 31 = .ok (.aload_n 0, 1) := by decide +kernel
theorem dX6_wakersBy_32 : decode cX6_wakersBy 32 = .ok (.getfield 68, 3) := by decide +kernel
theorem dX6_wakersBy_35 : decode cX6_wakersBy 35 = .ok (.idiv, 1) := by decide +kernel
theorem dX6_wakersBy_36 : decode cX6_wakersBy 36 = .ok (.istore_n 2, 1) := by decide +kernel
theorem dX6_wakersBy_37 : decode cX6_wakersBy 37 = .ok (.iload_n 3, 1) := by decide +kernel
theorem dX6_wakersBy_38 : decode cX6_wakersBy 38 = .ok (.aload_n 0, 1) := by decide +kernel
theorem dX6_wakersBy_39 : decode cX6_wakersBy 39 = .ok (.iload 4, 2) := by decide +kernel
theorem dX6_wakersBy_41 : decode cX6_wakersBy 41 = .ok (.aload_n 0, 1) := by decide +kernel
theorem dX6_wakersBy_42 : decode cX6_wakersBy 42 = .ok (.getfield 43, 3) := by decide +kernel
theorem dX6_wakersBy_45 : decode cX6_wakersBy 45 = .ok (.iload 4, 2) := by decide +kernel
theorem dX6_wakersBy_47 : decode cX6_wakersBy 47 = .ok (.iaload, 1) := by decide +kernel
theorem dX6_wakersBy_48 : decode cX6_wakersBy 48 = .ok (.invokevirtual 157, 3) := by decide +kernel
theorem dX6_wakersBy_51 : decode cX6_wakersBy 51 = .ok (.ior, 1) := by decide +kernel
theorem dX6_wakersBy_52 : decode cX6_wakersBy 52 = .ok (.istore_n 3, 1) := by decide +kernel
theorem dX6_wakersBy_53 : decode cX6_wakersBy 53 = .ok (.iinc 4 (-1), 3) := by decide +kernel
theorem dX6_wakersBy_56 : decode cX6_wakersBy 56 = .ok (.goto (-44), 3) := by decide +kernel
theorem dX6_wakersBy_59 : decode cX6_wakersBy 59 = .ok (.iload_n 3, 1) := by decide +kernel
theorem dX6_wakersBy_60 : decode cX6_wakersBy 60 = .ok (.ireturn, 1) := by decide +kernel
set_option maxRecDepth 20000 in
theorem ggX6_still_X6_within : GoodIn wsX6_still wsX6_within := goodIn_r _ [7] (by decide +kernel) (by decide +kernel)
set_option maxRecDepth 20000 in
theorem gX6_still_X6_within : GoodIn wsX6_still (va_wsS RX6 64 yX6_within wsX6_within) := goodIn_app (goodIn_of _ (by decide +kernel)) ggX6_still_X6_within
set_option maxRecDepth 20000 in
theorem ggX6_still_X6_wakersBy : GoodIn wsX6_still wsX6_wakersBy := goodIn_r _ [11, 2, 3, 1, 12, 13, 14, 6, 15, 16, 17, 18, 19, 20, 21, 22, 23, 24, 25, 26, 27, 28, 29, 30, 31, 32, 33, 34, 35, 36, 37, 38, 39, 47, 48, 49, 50, 51, 52, 53, 54, 55, 56, 57, 58, 59, 60, 61, 62, 63, 64, 65, 66, 67, 68, 69, 70, 71, 72, 73, 74, 75, 76] (by decide +kernel) (by decide +kernel)
set_option maxRecDepth 20000 in
theorem gX6_still_X6_wakersBy : GoodIn wsX6_still (wsV RX6 208 RX6 yX6_wakersBy wsX6_wakersBy) := goodIn_app (goodIn_of _ (by decide +kernel)) ggX6_still_X6_wakersBy
set_option maxRecDepth 20000 in
theorem ggX6_still_X6_size : GoodIn wsX6_still wsX6_size := goodIn_r _ [42] (by decide +kernel) (by decide +kernel)
set_option maxRecDepth 20000 in
theorem gX6_still_X6_size : GoodIn wsX6_still (va_wsS RX6 183 yX6_size wsX6_size) := goodIn_app (goodIn_of _ (by decide +kernel)) ggX6_still_X6_size
set_option maxRecDepth 20000 in
theorem ggX6_still_X6_isClock : GoodIn wsX6_still wsX6_isClock := goodIn_r _ [46, 2, 47, 48, 49, 50, 51, 52, 53, 54, 55, 56, 57, 58, 59, 60, 61, 62, 63, 64, 65, 66, 67, 68, 69, 70, 71, 72, 73, 74, 75, 76] (by decide +kernel) (by decide +kernel)
set_option maxRecDepth 20000 in
theorem gX6_still_X6_isClock : GoodIn wsX6_still (wsV RX6 154 RX6 yX6_isClock wsX6_isClock) := goodIn_app (goodIn_of _ (by decide +kernel)) ggX6_still_X6_isClock
theorem dX6_still_0 : decode cX6_still 0 = .ok (.iload_n 1, 1) := by decide +kernel
theorem dX6_still_1 : decode cX6_still 1 = .ok (.iconst (-1), 1) := by decide +kernel
theorem dX6_still_2 : decode cX6_still 2 = .ok (.iconst 3, 1) := by decide +kernel
theorem dX6_still_3 : decode cX6_still 3 = .ok (.invokestatic 64, 3) := by decide +kernel
theorem dX6_still_6 : decode cX6_still 6 = .ok (.ifCond .ne 6, 3) := by decide +kernel
theorem dX6_still_9 : decode cX6_still 9 = .ok (.bipush (-2), 2) := by decide +kernel
theorem dX6_still_11 : decode cX6_still 11 = .ok (.ireturn, 1) := by decide +kernel
theorem dX6_still_12 : decode cX6_still 12 = .ok (.aload_n 0, 1) := by decide +kernel
theorem dX6_still_13 : decode cX6_still 13 = .ok (.getfield 68, 3) := by decide +kernel
theorem dX6_still_16 : decode cX6_still 16 = .ok (.ifCond .ne 6, 3) := by decide +kernel
theorem dX6_still_19 : decode cX6_still 19 = .ok (.bipush (-3), 2) := by decide +kernel
theorem dX6_still_21 : decode cX6_still 21 = .ok (.ireturn, 1) := by decide +kernel
theorem dX6_still_22 : decode cX6_still 22 = .ok (.iconst 1, 1) := by decide +kernel
theorem dX6_still_23 : decode cX6_still 23 = .ok (.istore_n 2, 1) := by decide +kernel
theorem dX6_still_24 : decode cX6_still 24 = .ok (.iconst 0, 1) := by decide +kernel
theorem dX6_still_25 : decode cX6_still 25 = .ok (.istore_n 3, 1) := by decide +kernel
theorem dX6_still_26 : decode cX6_still 26 = .ok (.iload_n 3, 1) := by decide +kernel
theorem dX6_still_27 : decode cX6_still 27 = .ok (.aload_n 0, 1) := by decide +kernel
theorem dX6_still_28 : decode cX6_still 28 = .ok (.getfield 71, 3) := by decide +kernel
theorem dX6_still_31 : decode cX6_still 31 = .ok (.if_icmp .ge 16, 3) := by decide +kernel
theorem dX6_still_34 : decode cX6_still 34 = .ok (.iload_n 2, 1) := by decide +kernel
theorem dX6_still_35 : decode cX6_still 35 = .ok (.aload_n 0, 1) := by decide +kernel
theorem dX6_still_36 : decode cX6_still 36 = .ok (.getfield 68, 3) := by decide +kernel
theorem dX6_still_39 : decode cX6_still 39 = .ok (.imul, 1) := by decide +kernel
theorem dX6_still_40 : decode cX6_still 40 = .ok (.istore_n 2, 1) := by decide +kernel
theorem dX6_still_41 : decode cX6_still 41 = .ok (.iinc 3 1, 3) := by decide +kernel
theorem dX6_still_44 : decode cX6_still 44 = .ok (.goto (-18), 3) := by decide +kernel
theorem dX6_still_47 : decode cX6_still 47 = .ok (.bipush (-9), 2) := by decide +kernel
theorem dX6_still_49 : decode cX6_still 49 = .ok (.istore_n 3, 1) := by decide +kernel
theorem dX6_still_50 : decode cX6_still 50 = .ok (.iconst 0, 1) := by decide +kernel
theorem dX6_still_51 : decode cX6_still 51 = .ok (.istore 4, 2) := by decide +kernel
theorem dX6_still_53 : decode cX6_still 53 = .ok (.iconst 0, 1) := by decide +kernel
theorem dX6_still_54 : decode cX6_still 54 = .ok (.istore 5, 2) := by decide +kernel
theorem dX6_still_56 : decode cX6_still 56 = .ok (.iload 5, 2) := by decide +kernel
theorem dX6_still_58 : decode cX6_still 58 = .ok (.iload_n 2, 1) := by decide +kernel
theorem dX6_still_59 : decode cX6_still 59 = .ok (.if_icmp .ge 40, 3) := by decide +kernel
theorem dX6_still_62 : decode cX6_still 62 = .ok (.aload_n 0, 1) := by decide +kernel
theorem dX6_still_63 : decode cX6_still 63 = .ok (.iload 5, 2) := by decide +kernel
theorem dX6_still_65 : decode cX6_still 65 = .ok (.invokevirtual 208, 3) := by decide +kernel
theorem dX6_still_68 : decode cX6_still 68 = .ok (.invokestatic 183, 3) := by decide +kernel
theorem dX6_still_71 : decode cX6_still 71 = .ok (.istore 6, 2) := by decide +kernel
theorem dX6_still_73 : decode cX6_still 73 = .ok (.iload_n 3, 1) := by decide +kernel
theorem dX6_still_74 : decode cX6_still 74 = .ok (.bipush (-9), 2) := by decide +kernel
theorem dX6_still_76 : decode cX6_still 76 = .ok (.if_icmp .eq 10, 3) := by decide +kernel
theorem dX6_still_79 : decode cX6_still 79 = .ok (.iload 6, 2) := by decide +kernel
theorem dX6_still_81 : decode cX6_still 81 = .ok (.iload 4, 2) := by decide +kernel
theorem dX6_still_83 : decode cX6_still 83 = .ok (.if_icmp .ge 10, 3) := by decide +kernel
theorem dX6_still_86 : decode cX6_still 86 = .ok (.iload 5, 2) := by decide +kernel
theorem dX6_still_88 : decode cX6_still 88 = .ok (.istore_n 3, 1) := by decide +kernel
theorem dX6_still_89 : decode cX6_still 89 = .ok (.iload 6, 2) := by decide +kernel
theorem dX6_still_91 : decode cX6_still 91 = .ok (.istore 4, 2) := by decide +kernel
theorem dX6_still_93 : decode cX6_still 93 = .ok (.iinc 5 1, 3) := by decide +kernel
theorem dX6_still_96 : decode cX6_still 96 = .ok (.goto (-40), 3) := by decide +kernel
theorem dX6_still_99 : decode cX6_still 99 = .ok (.iload_n 1, 1) := by decide +kernel
theorem dX6_still_100 : decode cX6_still 100 = .ok (.iconst (-1), 1) := by decide +kernel
theorem dX6_still_101 : decode cX6_still 101 = .ok (.if_icmp .ne 6, 3) := by decide +kernel
theorem dX6_still_104 : decode cX6_still 104 = .ok (.iload 4, 2) := by decide +kernel
theorem dX6_still_106 : decode cX6_still 106 = .ok (.ireturn, 1) := by decide +kernel
theorem dX6_still_107 : decode cX6_still 107 = .ok (.aload_n 0, 1) := by decide +kernel
theorem dX6_still_108 : decode cX6_still 108 = .ok (.iload_n 3, 1) := by decide +kernel
theorem dX6_still_109 : decode cX6_still 109 = .ok (.invokevirtual 208, 3) := by decide +kernel
theorem dX6_still_112 : decode cX6_still 112 = .ok (.pop, 1) := by decide +kernel
theorem dX6_still_113 : decode cX6_still 113 = .ok (.aload_n 0, 1) := by decide +kernel
theorem dX6_still_114 : decode cX6_still 114 = .ok (.iload_n 1, 1) := by decide +kernel
theorem dX6_still_115 : decode cX6_still 115 = .ok (.invokevirtual 154, 3) := by decide +kernel
theorem dX6_still_118 : decode cX6_still 118 = .ok (.ifCond .eq 12, 3) := by decide +kernel
theorem dX6_still_121 : decode cX6_still 121 = .ok (.aload_n 0, 1) := by decide +kernel
theorem dX6_still_122 : decode cX6_still 122 = .ok (.getfield 43, 3) := by decide +kernel
theorem dX6_still_125 : decode cX6_still 125 = .ok (.iload_n 1, 1) := by decide +kernel
theorem dX6_still_126 : decode cX6_still 126 = .ok (.iaload, 1) := by decide +kernel
theorem dX6_still_127 : decode cX6_still 127 = .ok (.goto 5, 3) := by decide +kernel
theorem dX6_still_130 : decode cX6_still 130 = .ok (.bipush (-9), 2) := by decide +kernel
theorem dX6_still_132 : decode cX6_still 132 = .ok (.ireturn, 1) := by decide +kernel
set_option maxRecDepth 20000 in
theorem ggX6_hush_X6_isHouse : GoodIn wsX6_hush wsX6_isHouse := goodIn_r _ [8, 9, 33, 34, 35, 36, 37, 38, 39, 40, 41, 42, 43, 44, 45, 46, 47, 48, 49, 50, 51, 52, 53, 54, 55, 56, 57, 58, 59, 60, 61, 62] (by decide +kernel) (by decide +kernel)
set_option maxRecDepth 20000 in
theorem gX6_hush_X6_isHouse : GoodIn wsX6_hush (wsV RX6 151 RX6 yX6_isHouse wsX6_isHouse) := goodIn_app (goodIn_of _ (by decide +kernel)) ggX6_hush_X6_isHouse
set_option maxRecDepth 20000 in
theorem ggX6_hush_X6_wakesFrom : GoodIn wsX6_hush wsX6_wakesFrom := goodIn_r _ [13, 14, 15, 16, 7, 17, 18, 19, 20, 21, 22, 1, 23, 24, 25, 26, 27, 28, 29, 30, 31, 32, 33, 34, 35, 36, 37, 38, 39, 40, 41, 42, 43, 44, 45, 46, 47, 48, 49, 50, 51, 52, 53, 54, 55, 56, 57, 58, 59, 60, 61, 62] (by decide +kernel) (by decide +kernel)
set_option maxRecDepth 20000 in
theorem gX6_hush_X6_wakesFrom : GoodIn wsX6_hush (wsV RX6 148 RX6 yX6_wakesFrom wsX6_wakesFrom) := goodIn_app (goodIn_of _ (by decide +kernel)) ggX6_hush_X6_wakesFrom
set_option maxRecDepth 20000 in
theorem ggX6_hush_X6_isOf : GoodIn wsX6_hush wsX6_isOf := goodIn_r _ [26] (by decide +kernel) (by decide +kernel)
set_option maxRecDepth 20000 in
theorem gX6_hush_X6_isOf : GoodIn wsX6_hush (va_wsS RX6 136 yX6_isOf wsX6_isOf) := goodIn_app (goodIn_of _ (by decide +kernel)) ggX6_hush_X6_isOf
theorem dX6_hush_0 : decode cX6_hush 0 = .ok (.aload_n 0, 1) := by decide +kernel
theorem dX6_hush_1 : decode cX6_hush 1 = .ok (.iload_n 1, 1) := by decide +kernel
theorem dX6_hush_2 : decode cX6_hush 2 = .ok (.invokevirtual 151, 3) := by decide +kernel
theorem dX6_hush_5 : decode cX6_hush 5 = .ok (.ifCond .ne 5, 3) := by decide +kernel
theorem dX6_hush_8 : decode cX6_hush 8 = .ok (.iconst (-1), 1) := by decide +kernel
theorem dX6_hush_9 : decode cX6_hush 9 = .ok (.ireturn, 1) := by decide +kernel
theorem dX6_hush_10 : decode cX6_hush 10 = .ok (.aload_n 0, 1) := by decide +kernel
theorem dX6_hush_11 : decode cX6_hush 11 = .ok (.getfield 114, 3) := by decide +kernel
theorem dX6_hush_14 : decode cX6_hush 14 = .ok (.istore_n 2, 1) := by decide +kernel
theorem dX6_hush_15 : decode cX6_hush 15 = .ok (.iconst 0, 1) := by decide +kernel
theorem dX6_hush_16 : decode cX6_hush 16 = .ok (.istore_n 3, 1) := by decide +kernel
theorem dX6_hush_17 : decode cX6_hush 17 = .ok (.iconst 1, 1) := by decide +kernel
theorem dX6_hush_18 : decode cX6_hush 18 = .ok (.istore 4, 2) := by decide +kernel
theorem dX6_hush_20 : decode cX6_hush 20 = .ok (.iconst 0, 1) := by decide +kernel
theorem dX6_hush_21 : decode cX6_hush 21 = .ok (.istore 5, 2) := by decide +kernel
theorem dX6_hush_23 : decode cX6_hush 23 = .ok (.iload 5, 2) := by decide +kernel
theorem dX6_hush_25 : decode cX6_hush 25 = .ok (.aload_n 0, 1) := by decide +kernel
theorem dX6_hush_26 : decode cX6_hush 26 = .ok (.getfield 71, 3) := by decide +kernel
theorem dX6_hush_29 : decode cX6_hush 29 = .ok (.if_icmp .ge 88, 3) := by decide +kernel
theorem dX6_hush_32 : decode cX6_hush 32 = .ok (.aload_n 0, 1) := by decide +kernel
theorem dX6_hush_33 : decode cX6_hush 33 = .ok (.iload_n 1, 1) := by decide +kernel
theorem dX6_hush_34 : decode cX6_hush 34 = .ok (.iload 5, 2) := by decide +kernel
theorem dX6_hush_36 : decode cX6_hush 36 = .ok (.aload_n 0, 1) := by decide +kernel
theorem dX6_hush_37 : decode cX6_hush 37 = .ok (.getfield 28, 3) := by decide +kernel
theorem dX6_hush_40 : decode cX6_hush 40 = .ok (.iload 5, 2) := by decide +kernel
theorem dX6_hush_42 : decode cX6_hush 42 = .ok (.iaload, 1) := by decide +kernel
theorem dX6_hush_43 : decode cX6_hush 43 = .ok (.invokevirtual 148, 3) := by decide +kernel
theorem dX6_hush_46 : decode cX6_hush 46 = .ok (.ifCond .eq 65, 3) := by decide +kernel
theorem dX6_hush_49 : decode cX6_hush 49 = .ok (.iload_n 3, 1) := by decide +kernel
theorem dX6_hush_50 : decode cX6_hush 50 = .ok (.iload_n 2, 1) := by decide +kernel
theorem dX6_hush_51 : decode cX6_hush 51 = .ok (.iload 5, 2) := by decide +kernel
theorem dX6_hush_53 : decode cX6_hush 53 = .ok (.invokestatic 136, 3) := by decide +kernel
theorem dX6_hush_56 : decode cX6_hush 56 = .ok (.ifCond .eq 7, 3) := by decide +kernel
theorem dX6_hush_59 : decode cX6_hush 59 = .ok (.iconst 0, 1) := by decide +kernel
theorem dX6_hush_60 : decode cX6_hush 60 = .ok (.goto 7, 3) := by decide +kernel
theorem dX6_hush_63 : decode cX6_hush 63 = .ok (.iconst 1, 1) := by decide +kernel
theorem dX6_hush_64 : decode cX6_hush 64 = .ok (.iload 5, 2) := by decide +kernel
theorem dX6_hush_66 : decode cX6_hush 66 = .ok (.ishl, 1) := by decide +kernel
theorem dX6_hush_67 : decode cX6_hush 67 = .ok (.ior, 1) := by decide +kernel
theorem dX6_hush_68 : decode cX6_hush 68 = .ok (.istore_n 3, 1) := by decide +kernel
theorem dX6_hush_69 : decode cX6_hush 69 = .ok (.aload_n 0, 1) := by decide +kernel
theorem dX6_hush_70 : decode cX6_hush 70 = .ok (.dup, 1) := by decide +kernel
theorem dX6_hush_71 : decode cX6_hush 71 = .ok (.getfield 114, 3) := by decide +kernel
theorem dX6_hush_74 : decode cX6_hush 74 = .ok (.iconst 1, 1) := by decide +kernel
theorem dX6_hush_75 : decode cX6_hush 75 = .ok (.iload 5, 2) := by decide +kernel
theorem dX6_hush_77 : decode cX6_hush 77 = .ok (.ishl, 1) := by decide +kernel
theorem dX6_hush_78 : decode cX6_hush 78 = .ok (.ior, 1) := by decide +kernel
theorem dX6_hush_79 : decode cX6_hush 79 = .ok (.putfield 114, 3) := by decide +kernel
theorem dX6_hush_82 : decode cX6_hush 82 = .ok (.iload 4, 2) := by decide +kernel
theorem dX6_hush_84 : decode cX6_hush 84 = .ok (.ifCond .eq 24, 3) := by decide +kernel
theorem dX6_hush_87 : decode cX6_hush 87 = .ok (.aload_n 0, 1) := by decide +kernel
theorem dX6_hush_88 : decode cX6_hush 88 = .ok (.iload_n 1, 1) := by decide +kernel
theorem dX6_hush_89 : decode cX6_hush 89 = .ok (.iload 5, 2) := by decide +kernel
theorem dX6_hush_91 : decode cX6_hush 91 = .ok (.aload_n 0, 1) := by decide +kernel
theorem dX6_hush_92 : decode cX6_hush 92 = .ok (.getfield 28, 3) := by decide +kernel
theorem dX6_hush_95 : decode cX6_hush 95 = .ok (.iload 5, 2) := by decide +kernel
theorem dX6_hush_97 : decode cX6_hush 97 = .ok (.iaload, 1) := by decide +kernel
theorem dX6_hush_98 : decode cX6_hush 98 = .ok (.invokevirtual 148, 3) := by decide +kernel
theorem dX6_hush_101 : decode cX6_hush 101 = .ok (.ifCond .ne 7, 3) := by decide +kernel
theorem dX6_hush_104 : decode cX6_hush 104 = .ok (.iconst 1, 1) := by decide +kernel
theorem dX6_hush_105 : decode cX6_hush 105 = .ok (.goto 4, 3) := by decide +kernel
theorem dX6_hush_108 : decode cX6_hush 108 = .ok (.iconst 0, 1) := by decide +kernel
theorem dX6_hush_109 : decode cX6_hush 109 = .ok (.istore 4, 2) := by decide +kernel
theorem dX6_hush_111 : decode cX6_hush 111 = .ok (.iinc 5 1, 3) := by decide +kernel
theorem dX6_hush_114 : decode cX6_hush 114 = .ok (.goto (-91), 3) := by decide +kernel
theorem dX6_hush_117 : decode cX6_hush 117 = .ok (.aload_n 0, 1) := by decide +kernel
theorem dX6_hush_118 : decode cX6_hush 118 = .ok (.iload_n 2, 1) := by decide +kernel
theorem dX6_hush_119 : decode cX6_hush 119 = .ok (.putfield 114, 3) := by decide +kernel
theorem dX6_hush_122 : decode cX6_hush 122 = .ok (.iload 4, 2) := by decide +kernel
theorem dX6_hush_124 : decode cX6_hush 124 = .ok (.ifCond .eq 7, 3) := by decide +kernel
theorem dX6_hush_127 : decode cX6_hush 127 = .ok (.iload_n 3, 1) := by decide +kernel
theorem dX6_hush_128 : decode cX6_hush 128 = .ok (.goto 5, 3) := by decide +kernel
theorem dX6_hush_131 : decode cX6_hush 131 = .ok (.bipush (-9), 2) := by decide +kernel
theorem dX6_hush_133 : decode cX6_hush 133 = .ok (.ireturn, 1) := by decide +kernel
set_option maxRecDepth 20000 in
theorem ggX6_reading_X6_isClock : GoodIn wsX6_reading wsX6_isClock := goodIn_r _ [10, 11, 20, 21, 22, 23, 24, 25, 26, 27, 28, 29, 30, 31, 32, 33, 34, 35, 36, 37, 38, 39, 40, 41, 42, 43, 44, 45, 46, 47, 48, 49] (by decide +kernel) (by decide +kernel)
set_option maxRecDepth 20000 in
theorem gX6_reading_X6_isClock : GoodIn wsX6_reading (wsV RX6 154 RX6 yX6_isClock wsX6_isClock) := goodIn_app (goodIn_of _ (by decide +kernel)) ggX6_reading_X6_isClock
set_option maxRecDepth 20000 in
theorem ggX6_reading_X6_isHouse : GoodIn wsX6_reading wsX6_isHouse := goodIn_r _ [15, 16, 20, 21, 22, 23, 24, 25, 26, 27, 28, 29, 30, 31, 32, 33, 34, 35, 36, 37, 38, 39, 40, 41, 42, 43, 44, 45, 46, 47, 48, 49] (by decide +kernel) (by decide +kernel)
set_option maxRecDepth 20000 in
theorem gX6_reading_X6_isHouse : GoodIn wsX6_reading (wsV RX6 151 RX6 yX6_isHouse wsX6_isHouse) := goodIn_app (goodIn_of _ (by decide +kernel)) ggX6_reading_X6_isHouse
set_option maxRecDepth 20000 in
theorem ggX6_reading_X6_within : GoodIn wsX6_reading wsX6_within := goodIn_r _ [19] (by decide +kernel) (by decide +kernel)
set_option maxRecDepth 20000 in
theorem gX6_reading_X6_within : GoodIn wsX6_reading (va_wsS RX6 64 yX6_within wsX6_within) := goodIn_app (goodIn_of _ (by decide +kernel)) ggX6_reading_X6_within
theorem dX6_reading_0 : decode cX6_reading 0 = .ok (.aload_n 0, 1) := by decide +kernel
theorem dX6_reading_1 : decode cX6_reading 1 = .ok (.iload_n 1, 1) := by decide +kernel
theorem dX6_reading_2 : decode cX6_reading 2 = .ok (.invokevirtual 154, 3) := by decide +kernel
theorem dX6_reading_5 : decode cX6_reading 5 = .ok (.ifCond .eq 19, 3) := by decide +kernel
theorem dX6_reading_8 : decode cX6_reading 8 = .ok (.aload_n 0, 1) := by decide +kernel
theorem dX6_reading_9 : decode cX6_reading 9 = .ok (.iload_n 2, 1) := by decide +kernel
theorem dX6_reading_10 : decode cX6_reading 10 = .ok (.invokevirtual 151, 3) := by decide +kernel
theorem dX6_reading_13 : decode cX6_reading 13 = .ok (.ifCond .eq 11, 3) := by decide +kernel
theorem dX6_reading_16 : decode cX6_reading 16 = .ok (.aload_n 0, 1) := by decide +kernel
theorem dX6_reading_17 : decode cX6_reading 17 = .ok (.iload_n 3, 1) := by decide +kernel
theorem dX6_reading_18 : decode cX6_reading 18 = .ok (.invokevirtual 151, 3) := by decide +kernel
theorem dX6_reading_21 : decode cX6_reading 21 = .ok (.ifCond .ne 5, 3) := by decide +kernel
theorem dX6_reading_24 : decode cX6_reading 24 = .ok (.iconst (-1), 1) := by decide +kernel
theorem dX6_reading_25 : decode cX6_reading 25 = .ok (.ireturn, 1) := by decide +kernel
theorem dX6_reading_26 : decode cX6_reading 26 = .ok (.iload 4, 2) := by decide +kernel
theorem dX6_reading_28 : decode cX6_reading 28 = .ok (.iconst 0, 1) := by decide +kernel
theorem dX6_reading_29 : decode cX6_reading 29 = .ok (.iconst 1, 1) := by decide +kernel
theorem dX6_reading_30 : decode cX6_reading 30 = .ok (.invokestatic 64, 3) := by decide +kernel
theorem dX6_reading_33 : decode cX6_reading 33 = .ok (.ifCond .ne 6, 3) := by decide +kernel
theorem dX6_reading_36 : decode cX6_reading 36 = .ok (.bipush (-2), 2) := by decide +kernel
theorem dX6_reading_38 : decode cX6_reading 38 = .ok (.ireturn, 1) := by decide +kernel
theorem dX6_reading_39 : decode cX6_reading 39 = .ok (.aload_n 0, 1) := by decide +kernel
theorem dX6_reading_40 : decode cX6_reading 40 = .ok (.getfield 120, 3) := by decide +kernel
theorem dX6_reading_43 : decode cX6_reading 43 = .ok (.bipush 8, 2) := by decide +kernel
theorem dX6_reading_45 : decode cX6_reading 45 = .ok (.if_icmp .ne 6, 3) := by decide +kernel
theorem dX6_reading_48 : decode cX6_reading 48 = .ok (.bipush (-4), 2) := by decide +kernel
theorem dX6_reading_50 : decode cX6_reading 50 = .ok (.ireturn, 1) := by decide +kernel
theorem dX6_reading_51 : decode cX6_reading 51 = .ok (.aload_n 0, 1) := by decide +kernel
theorem dX6_reading_52 : decode cX6_reading 52 = .ok (.getfield 46, 3) := by decide +kernel
theorem dX6_reading_55 : decode cX6_reading 55 = .ok (.aload_n 0, 1) := by decide +kernel
theorem dX6_reading_56 : decode cX6_reading 56 = .ok (.getfield 120, 3) := by decide +kernel
theorem dX6_reading_59 : decode cX6_reading 59 = .ok (.iload_n 1, 1) := by decide +kernel
theorem dX6_reading_60 : decode cX6_reading 60 = .ok (.iastore, 1) := by decide +kernel
theorem dX6_reading_61 : decode cX6_reading 61 = .ok (.aload_n 0, 1) := by decide +kernel
theorem dX6_reading_62 : decode cX6_reading 62 = .ok (.getfield 49, 3) := by decide +kernel
theorem dX6_reading_65 : decode cX6_reading 65 = .ok (.aload_n 0, 1) := by decide +kernel
theorem dX6_reading_66 : decode cX6_reading 66 = .ok (.getfield 120, 3) := by decide +kernel
theorem dX6_reading_69 : decode cX6_reading 69 = .ok (.iload_n 2, 1) := by decide +kernel
theorem dX6_reading_70 : decode cX6_reading 70 = .ok (.iastore, 1) := by decide +kernel
theorem dX6_reading_71 : decode cX6_reading 71 = .ok (.aload_n 0, 1) := by decide +kernel
theorem dX6_reading_72 : decode cX6_reading 72 = .ok (.getfield 52, 3) := by decide +kernel
theorem dX6_reading_75 : decode cX6_reading 75 = .ok (.aload_n 0, 1) := by decide +kernel
theorem dX6_reading_76 : decode cX6_reading 76 = .ok (.getfield 120, 3) := by decide +kernel
theorem dX6_reading_79 : decode cX6_reading 79 = .ok (.iload_n 3, 1) := by decide +kernel
theorem dX6_reading_80 : decode cX6_reading 80 = .ok (.iastore, 1) := by decide +kernel
theorem dX6_reading_81 : decode cX6_reading 81 = .ok (.aload_n 0, 1) := by decide +kernel
theorem dX6_reading_82 : decode cX6_reading 82 = .ok (.getfield 55, 3) := by decide +kernel
theorem dX6_reading_85 : decode cX6_reading 85 = .ok (.aload_n 0, 1) := by decide +kernel
theorem dX6_reading_86 : decode cX6_reading 86 = .ok (.getfield 120, 3) := by decide +kernel
theorem dX6_reading_89 : decode cX6_reading 89 = .ok (.iload 4, 2) := by decide +kernel
theorem dX6_reading_91 : decode cX6_reading 91 = .ok (.iastore, 1) := by decide +kernel
theorem dX6_reading_92 : decode cX6_reading 92 = .ok (.aload_n 0, 1) := by decide +kernel
theorem dX6_reading_93 : decode cX6_reading 93 = .ok (.dup, 1) := by decide +kernel
theorem dX6_reading_94 : decode cX6_reading 94 = .ok (.getfield 120, 3) := by decide +kernel
theorem dX6_reading_97 : decode cX6_reading 97 = .ok (.iconst 1, 1) := by decide +kernel
theorem dX6_reading_98 : decode cX6_reading 98 = .ok (.iadd, 1) := by decide +kernel
theorem dX6_reading_99 : decode cX6_reading 99 = .ok (.putfield 120, 3) := by decide +kernel
theorem dX6_reading_102 : decode cX6_reading 102 = .ok (.aload_n 0, 1) := by decide +kernel
theorem dX6_reading_103 : decode cX6_reading 103 = .ok (.getfield 120, 3) := by decide +kernel
theorem dX6_reading_106 : decode cX6_reading 106 = .ok (.iconst 1, 1) := by decide +kernel
theorem dX6_reading_107 : decode cX6_reading 107 = .ok (.isub, 1) := by decide +kernel
theorem dX6_reading_108 : decode cX6_reading 108 = .ok (.ireturn, 1) := by decide +kernel
set_option maxRecDepth 20000 in
theorem ggX6_back_X6_within : GoodIn wsX6_back wsX6_within := goodIn_r _ [5] (by decide +kernel) (by decide +kernel)
set_option maxRecDepth 20000 in
theorem gX6_back_X6_within : GoodIn wsX6_back (va_wsS RX6 64 yX6_within wsX6_within) := goodIn_app (goodIn_of _ (by decide +kernel)) ggX6_back_X6_within
theorem dX6_back_0 : decode cX6_back 0 = .ok (.iload_n 1, 1) := by decide +kernel
theorem dX6_back_1 : decode cX6_back 1 = .ok (.iconst 0, 1) := by decide +kernel
theorem dX6_back_2 : decode cX6_back 2 = .ok (.aload_n 0, 1) := by decide +kernel
theorem dX6_back_3 : decode cX6_back 3 = .ok (.getfield 120, 3) := by decide +kernel
theorem dX6_back_6 : decode cX6_back 6 = .ok (.invokestatic 64, 3) := by decide +kernel
theorem dX6_back_9 : decode cX6_back 9 = .ok (.ifCond .ne 6, 3) := by decide +kernel
theorem dX6_back_12 : decode cX6_back 12 = .ok (.bipush (-2), 2) := by decide +kernel
theorem dX6_back_14 : decode cX6_back 14 = .ok (.ireturn, 1) := by decide +kernel
theorem dX6_back_15 : decode cX6_back 15 = .ok (.aload_n 0, 1) := by decide +kernel
theorem dX6_back_16 : decode cX6_back 16 = .ok (.dup, 1) := by decide +kernel
theorem dX6_back_17 : decode cX6_back 17 = .ok (.getfield 120, 3) := by decide +kernel
theorem dX6_back_20 : decode cX6_back 20 = .ok (.iload_n 1, 1) := by decide +kernel
theorem dX6_back_21 : decode cX6_back 21 = .ok (.isub, 1) := by decide +kernel
theorem dX6_back_22 : decode cX6_back 22 = .ok (.putfield 120, 3) := by decide +kernel
theorem dX6_back_25 : decode cX6_back 25 = .ok (.aload_n 0, 1) := by decide +kernel
theorem dX6_back_26 : decode cX6_back 26 = .ok (.getfield 120, 3) := by decide +kernel
theorem dX6_back_29 : decode cX6_back 29 = .ok (.ireturn, 1) := by decide +kernel
set_option maxRecDepth 20000 in
theorem ggX6_areSo_X6_wakesFrom : GoodIn wsX6_areSo wsX6_wakesFrom := goodIn_r _ [10, 11, 12, 13, 9, 14, 15, 16, 17, 18, 19, 20, 21, 22, 23, 24, 25, 26, 27, 28, 29, 30, 31, 32, 33, 34, 35, 36, 37, 38, 39, 40, 41, 42, 43, 44, 45, 46, 47, 48, 49, 50, 51, 52, 53, 54, 55, 56, 57, 58, 59, 60] (by decide +kernel) (by decide +kernel)
set_option maxRecDepth 20000 in
theorem gX6_areSo_X6_wakesFrom : GoodIn wsX6_areSo (wsV RX6 148 RX6 yX6_wakesFrom wsX6_wakesFrom) := goodIn_app (goodIn_of _ (by decide +kernel)) ggX6_areSo_X6_wakesFrom
theorem dX6_areSo_0 : decode cX6_areSo 0 = .ok (.iconst 0, 1) := by decide +kernel
theorem dX6_areSo_1 : decode cX6_areSo 1 = .ok (.istore_n 1, 1) := by decide +kernel
theorem dX6_areSo_2 : decode cX6_areSo 2 = .ok (.iload_n 1, 1) := by decide +kernel
theorem dX6_areSo_3 : decode cX6_areSo 3 = .ok (.aload_n 0, 1) := by decide +kernel
theorem dX6_areSo_4 : decode cX6_areSo 4 = .ok (.getfield 120, 3) := by decide +kernel
theorem dX6_areSo_7 : decode cX6_areSo 7 = .ok (.if_icmp .ge 52, 3) := by decide +kernel
theorem dX6_areSo_10 : decode cX6_areSo 10 = .ok (.aload_n 0, 1) := by decide +kernel
theorem dX6_areSo_11 : decode cX6_areSo 11 = .ok (.aload_n 0, 1) := by decide +kernel
theorem dX6_areSo_12 : decode cX6_areSo 12 = .ok (.getfield 52, 3) := by decide +kernel
theorem dX6_areSo_15 : decode cX6_areSo 15 = .ok (.iload_n 1, 1) := by decide +kernel
theorem dX6_areSo_16 : decode cX6_areSo 16 = .ok (.iaload, 1) := by decide +kernel
theorem dX6_areSo_17 : decode cX6_areSo 17 = .ok (.aload_n 0, 1) := by decide +kernel
theorem dX6_areSo_18 : decode cX6_areSo 18 = .ok (.getfield 46, 3) := by decide +kernel
theorem dX6_areSo_21 : decode cX6_areSo 21 = .ok (.iload_n 1, 1) := by decide +kernel
theorem dX6_areSo_22 : decode cX6_areSo 22 = .ok (.iaload, 1) := by decide +kernel
theorem dX6_areSo_23 : decode cX6_areSo 23 = .ok (.aload_n 0, 1) := by decide +kernel
theorem dX6_areSo_24 : decode cX6_areSo 24 = .ok (.getfield 49, 3) := by decide +kernel
theorem dX6_areSo_27 : decode cX6_areSo 27 = .ok (.iload_n 1, 1) := by decide +kernel
theorem dX6_areSo_28 : decode cX6_areSo 28 = .ok (.iaload, 1) := by decide +kernel
theorem dX6_areSo_29 : decode cX6_areSo 29 = .ok (.invokevirtual 148, 3) := by decide +kernel
theorem dX6_areSo_32 : decode cX6_areSo 32 = .ok (.ifCond .eq 7, 3) := by decide +kernel
theorem dX6_areSo_35 : decode cX6_areSo 35 = .ok (.iconst 1, 1) := by decide +kernel
theorem dX6_areSo_36 : decode cX6_areSo 36 = .ok (.goto 4, 3) := by decide +kernel
theorem dX6_areSo_39 : decode cX6_areSo 39 = .ok (.iconst 0, 1) := by decide +kernel
theorem dX6_areSo_40 : decode cX6_areSo 40 = .ok (.istore_n 2, 1) := by decide +kernel
theorem dX6_areSo_41 : decode cX6_areSo 41 = .ok (.iload_n 2, 1) := by decide +kernel
theorem dX6_areSo_42 : decode cX6_areSo 42 = .ok (.aload_n 0, 1) := by decide +kernel
theorem dX6_areSo_43 : decode cX6_areSo 43 = .ok (.getfield 55, 3) := by decide +kernel
theorem dX6_areSo_46 : decode cX6_areSo 46 = .ok (.iload_n 1, 1) := by decide +kernel
theorem dX6_areSo_47 : decode cX6_areSo 47 = .ok (.iaload, 1) := by decide +kernel
theorem dX6_areSo_48 : decode cX6_areSo 48 = .ok (.if_icmp .eq 5, 3) := by decide +kernel
theorem dX6_areSo_51 : decode cX6_areSo 51 = .ok (.iconst 0, 1) := by decide +kernel
theorem dX6_areSo_52 : decode cX6_areSo 52 = .ok (.ireturn, 1) := by decide +kernel
theorem dX6_areSo_53 : decode cX6_areSo 53 = .ok (.iinc 1 1, 3) := by decide +kernel
theorem dX6_areSo_56 : decode cX6_areSo 56 = .ok (.goto (-54), 3) := by decide +kernel
theorem dX6_areSo_59 : decode cX6_areSo 59 = .ok (.iconst 1, 1) := by decide +kernel
theorem dX6_areSo_60 : decode cX6_areSo 60 = .ok (.ireturn, 1) := by decide +kernel
set_option maxRecDepth 20000 in
theorem ggX6_depths_X6_isHouse : GoodIn wsX6_depths wsX6_isHouse := goodIn_r _ [6, 7, 40, 41, 42, 43, 44, 45, 46, 47, 48, 49, 50, 51, 52, 53, 54, 55, 56, 57, 58, 59, 60, 61, 62, 63, 64, 65, 66, 67, 68, 69] (by decide +kernel) (by decide +kernel)
set_option maxRecDepth 20000 in
theorem gX6_depths_X6_isHouse : GoodIn wsX6_depths (wsV RX6 151 RX6 yX6_isHouse wsX6_isHouse) := goodIn_app (goodIn_of _ (by decide +kernel)) ggX6_depths_X6_isHouse
set_option maxRecDepth 20000 in
theorem ggX6_depths_X6_areSo : GoodIn wsX6_depths wsX6_areSo := goodIn_r _ [11, 12, 13, 14, 15, 16, 17, 18, 19, 5, 20, 21, 22, 23, 24, 25, 26, 27, 28, 29, 30, 31, 32, 33, 34, 35, 36, 37, 38, 39, 1, 40, 41, 42, 43, 44, 45, 46, 47, 48, 49, 50, 51, 52, 53, 54, 55, 56, 57, 58, 59, 60, 61, 62, 63, 64, 65, 66, 67, 68, 69] (by decide +kernel) (by decide +kernel)
set_option maxRecDepth 20000 in
theorem gX6_depths_X6_areSo : GoodIn wsX6_depths (wsV RX6 211 RX6 yX6_areSo wsX6_areSo) := goodIn_app (goodIn_of _ (by decide +kernel)) ggX6_depths_X6_areSo
theorem dX6_depths_0 : decode cX6_depths 0 = .ok (.aload_n 0, 1) := by decide +kernel
theorem dX6_depths_1 : decode cX6_depths 1 = .ok (.iload_n 1, 1) := by decide +kernel
theorem dX6_depths_2 : decode cX6_depths 2 = .ok (.invokevirtual 151, 3) := by decide +kernel
theorem dX6_depths_5 : decode cX6_depths 5 = .ok (.ifCond .ne 5, 3) := by decide +kernel
theorem dX6_depths_8 : decode cX6_depths 8 = .ok (.iconst (-1), 1) := by decide +kernel
theorem dX6_depths_9 : decode cX6_depths 9 = .ok (.ireturn, 1) := by decide +kernel
theorem dX6_depths_10 : decode cX6_depths 10 = .ok (.aload_n 0, 1) := by decide +kernel
theorem dX6_depths_11 : decode cX6_depths 11 = .ok (.getfield 22, 3) := by decide +kernel
theorem dX6_depths_14 : decode cX6_depths 14 = .ok (.iload_n 1, 1) := by decide +kernel
theorem dX6_depths_15 : decode cX6_depths 15 = .ok (.iaload, 1) := by decide +kernel
theorem dX6_depths_16 : decode cX6_depths 16 = .ok (.istore_n 2, 1) := by decide +kernel
theorem dX6_depths_17 : decode cX6_depths 17 = .ok (.iconst 0, 1) := by decide +kernel
theorem dX6_depths_18 : decode cX6_depths 18 = .ok (.istore_n 3, 1) := by decide +kernel
theorem dX6_depths_19 : decode cX6_depths 19 = .ok (.iconst 1, 1) := by decide +kernel
theorem dX6_depths_20 : decode cX6_depths 20 = .ok (.istore 4, 2) := by decide +kernel
theorem dX6_depths_22 : decode cX6_depths 22 = .ok (.iload 4, 2) := by decide +kernel
theorem dX6_depths_24 : decode cX6_depths 24 = .ok (.bipush 9, 2) := by decide +kernel
theorem dX6_depths_26 : decode cX6_depths 26 = .ok (.if_icmp .gt 35, 3) := by decide +kernel
theorem dX6_depths_29 : decode cX6_depths 29 = .ok (.aload_n 0, 1) := by decide +kernel
theorem dX6_depths_30 : decode cX6_depths 30 = .ok (.getfield 22, 3) := by decide +kernel
theorem dX6_depths_33 : decode cX6_depths 33 = .ok (.iload_n 1, 1) := by decide +kernel
theorem dX6_depths_34 : decode cX6_depths 34 = .ok (.iload 4, 2) := by decide +kernel
theorem dX6_depths_36 : decode cX6_depths 36 = .ok (.iastore, 1) := by decide +kernel
theorem dX6_depths_37 : decode cX6_depths 37 = .ok (.iload_n 3, 1) := by decide +kernel
theorem dX6_depths_38 : decode cX6_depths 38 = .ok (.aload_n 0, 1) := by decide +kernel
theorem dX6_depths_39 : decode cX6_depths 39 = .ok (.invokevirtual 211, 3) := by decide +kernel
theorem dX6_depths_42 : decode cX6_depths 42 = .ok (.ifCond .eq 10, 3) := by decide +kernel
theorem dX6_depths_45 : decode cX6_depths 45 = .ok (.iconst 1, 1) := by decide +kernel
theorem dX6_depths_46 : decode cX6_depths 46 = .ok (.iload 4, 2) := by decide +kernel
theorem dX6_depths_48 : decode cX6_depths 48 = .ok (.ishl, 1) := by decide +kernel
theorem dX6_depths_49 : decode cX6_depths 49 = .ok (.goto 4, 3) := by decide +kernel
theorem dX6_depths_52 : decode cX6_depths 52 = .ok (.iconst 0, 1) := by decide +kernel
theorem dX6_depths_53 : decode cX6_depths 53 = .ok (.ior, 1) := by decide +kernel
theorem dX6_depths_54 : decode cX6_depths 54 = .ok (.istore_n 3, 1) := by decide +kernel
theorem dX6_depths_55 : decode cX6_depths 55 = .ok (.iinc 4 1, 3) := by decide +kernel
theorem dX6_depths_58 : decode cX6_depths 58 = .ok (.goto (-36), 3) := by decide +kernel
theorem dX6_depths_61 : decode cX6_depths 61 = .ok (.aload_n 0, 1) := by decide +kernel
theorem dX6_depths_62 : decode cX6_depths 62 = .ok (.getfield 22, 3) := by decide +kernel
theorem dX6_depths_65 : decode cX6_depths 65 = .ok (.iload_n 1, 1) := by decide +kernel
theorem dX6_depths_66 : decode cX6_depths 66 = .ok (.iload_n 2, 1) := by decide +kernel
theorem dX6_depths_67 : decode cX6_depths 67 = .ok (.iastore, 1) := by decide +kernel
theorem dX6_depths_68 : decode cX6_depths 68 = .ok (.iload_n 3, 1) := by decide +kernel
theorem dX6_depths_69 : decode cX6_depths 69 = .ok (.ireturn, 1) := by decide +kernel
set_option maxRecDepth 20000 in
theorem ggX6_kinds_X6_isHouse : GoodIn wsX6_kinds wsX6_isHouse := goodIn_r _ [6, 7, 40, 41, 42, 43, 44, 45, 46, 47, 48, 49, 50, 51, 52, 53, 54, 55, 56, 57, 58, 59, 60, 61, 62, 63, 64, 65, 66, 67, 68, 69] (by decide +kernel) (by decide +kernel)
set_option maxRecDepth 20000 in
theorem gX6_kinds_X6_isHouse : GoodIn wsX6_kinds (wsV RX6 151 RX6 yX6_isHouse wsX6_isHouse) := goodIn_app (goodIn_of _ (by decide +kernel)) ggX6_kinds_X6_isHouse
set_option maxRecDepth 20000 in
theorem ggX6_kinds_X6_areSo : GoodIn wsX6_kinds wsX6_areSo := goodIn_r _ [11, 12, 13, 14, 15, 16, 17, 18, 19, 5, 20, 21, 22, 23, 24, 25, 26, 27, 28, 29, 30, 31, 32, 33, 34, 35, 36, 37, 38, 1, 39, 40, 41, 42, 43, 44, 45, 46, 47, 48, 49, 50, 51, 52, 53, 54, 55, 56, 57, 58, 59, 60, 61, 62, 63, 64, 65, 66, 67, 68, 69] (by decide +kernel) (by decide +kernel)
set_option maxRecDepth 20000 in
theorem gX6_kinds_X6_areSo : GoodIn wsX6_kinds (wsV RX6 211 RX6 yX6_areSo wsX6_areSo) := goodIn_app (goodIn_of _ (by decide +kernel)) ggX6_kinds_X6_areSo
theorem dX6_kinds_0 : decode cX6_kinds 0 = .ok (.aload_n 0, 1) := by decide +kernel
theorem dX6_kinds_1 : decode cX6_kinds 1 = .ok (.iload_n 1, 1) := by decide +kernel
theorem dX6_kinds_2 : decode cX6_kinds 2 = .ok (.invokevirtual 151, 3) := by decide +kernel
theorem dX6_kinds_5 : decode cX6_kinds 5 = .ok (.ifCond .ne 5, 3) := by decide +kernel
theorem dX6_kinds_8 : decode cX6_kinds 8 = .ok (.iconst (-1), 1) := by decide +kernel
theorem dX6_kinds_9 : decode cX6_kinds 9 = .ok (.ireturn, 1) := by decide +kernel
theorem dX6_kinds_10 : decode cX6_kinds 10 = .ok (.aload_n 0, 1) := by decide +kernel
theorem dX6_kinds_11 : decode cX6_kinds 11 = .ok (.getfield 19, 3) := by decide +kernel
theorem dX6_kinds_14 : decode cX6_kinds 14 = .ok (.iload_n 1, 1) := by decide +kernel
theorem dX6_kinds_15 : decode cX6_kinds 15 = .ok (.iaload, 1) := by decide +kernel
theorem dX6_kinds_16 : decode cX6_kinds 16 = .ok (.istore_n 2, 1) := by decide +kernel
theorem dX6_kinds_17 : decode cX6_kinds 17 = .ok (.iconst 0, 1) := by decide +kernel
theorem dX6_kinds_18 : decode cX6_kinds 18 = .ok (.istore_n 3, 1) := by decide +kernel
theorem dX6_kinds_19 : decode cX6_kinds 19 = .ok (.iconst 0, 1) := by decide +kernel
theorem dX6_kinds_20 : decode cX6_kinds 20 = .ok (.istore 4, 2) := by decide +kernel
theorem dX6_kinds_22 : decode cX6_kinds 22 = .ok (.iload 4, 2) := by decide +kernel
theorem dX6_kinds_24 : decode cX6_kinds 24 = .ok (.iconst 3, 1) := by decide +kernel
theorem dX6_kinds_25 : decode cX6_kinds 25 = .ok (.if_icmp .ge 35, 3) := by decide +kernel
theorem dX6_kinds_28 : decode cX6_kinds 28 = .ok (.aload_n 0, 1) := by decide +kernel
theorem dX6_kinds_29 : decode cX6_kinds 29 = .ok (.getfield 19, 3) := by decide +kernel
theorem dX6_kinds_32 : decode cX6_kinds 32 = .ok (.iload_n 1, 1) := by decide +kernel
theorem dX6_kinds_33 : decode cX6_kinds 33 = .ok (.iload 4, 2) := by decide +kernel
theorem dX6_kinds_35 : decode cX6_kinds 35 = .ok (.iastore, 1) := by decide +kernel
theorem dX6_kinds_36 : decode cX6_kinds 36 = .ok (.iload_n 3, 1) := by decide +kernel
theorem dX6_kinds_37 : decode cX6_kinds 37 = .ok (.aload_n 0, 1) := by decide +kernel
theorem dX6_kinds_38 : decode cX6_kinds 38 = .ok (.invokevirtual 211, 3) := by decide +kernel
theorem dX6_kinds_41 : decode cX6_kinds 41 = .ok (.ifCond .eq 10, 3) := by decide +kernel
theorem dX6_kinds_44 : decode cX6_kinds 44 = .ok (.iconst 1, 1) := by decide +kernel
theorem dX6_kinds_45 : decode cX6_kinds 45 = .ok (.iload 4, 2) := by decide +kernel
theorem dX6_kinds_47 : decode cX6_kinds 47 = .ok (.ishl, 1) := by decide +kernel
theorem dX6_kinds_48 : decode cX6_kinds 48 = .ok (.goto 4, 3) := by decide +kernel
theorem dX6_kinds_51 : decode cX6_kinds 51 = .ok (.iconst 0, 1) := by decide +kernel
theorem dX6_kinds_52 : decode cX6_kinds 52 = .ok (.ior, 1) := by decide +kernel
theorem dX6_kinds_53 : decode cX6_kinds 53 = .ok (.istore_n 3, 1) := by decide +kernel
theorem dX6_kinds_54 : decode cX6_kinds 54 = .ok (.iinc 4 1, 3) := by decide +kernel
theorem dX6_kinds_57 : decode cX6_kinds 57 = .ok (.goto (-35), 3) := by decide +kernel
theorem dX6_kinds_60 : decode cX6_kinds 60 = .ok (.aload_n 0, 1) := by decide +kernel
theorem dX6_kinds_61 : decode cX6_kinds 61 = .ok (.getfield 19, 3) := by decide +kernel
theorem dX6_kinds_64 : decode cX6_kinds 64 = .ok (.iload_n 1, 1) := by decide +kernel
theorem dX6_kinds_65 : decode cX6_kinds 65 = .ok (.iload_n 2, 1) := by decide +kernel
theorem dX6_kinds_66 : decode cX6_kinds 66 = .ok (.iastore, 1) := by decide +kernel
theorem dX6_kinds_67 : decode cX6_kinds 67 = .ok (.iload_n 3, 1) := by decide +kernel
theorem dX6_kinds_68 : decode cX6_kinds 68 = .ok (.ireturn, 1) := by decide +kernel
set_option maxRecDepth 20000 in
theorem ggX6_louds_X6_isClock : GoodIn wsX6_louds wsX6_isClock := goodIn_r _ [6, 7, 40, 41, 42, 43, 44, 45, 46, 47, 48, 49, 50, 51, 52, 53, 54, 55, 56, 57, 58, 59, 60, 61, 62, 63, 64, 65, 66, 67, 68, 69] (by decide +kernel) (by decide +kernel)
set_option maxRecDepth 20000 in
theorem gX6_louds_X6_isClock : GoodIn wsX6_louds (wsV RX6 154 RX6 yX6_isClock wsX6_isClock) := goodIn_app (goodIn_of _ (by decide +kernel)) ggX6_louds_X6_isClock
set_option maxRecDepth 20000 in
theorem ggX6_louds_X6_areSo : GoodIn wsX6_louds wsX6_areSo := goodIn_r _ [11, 12, 13, 14, 15, 16, 17, 18, 19, 5, 20, 21, 22, 23, 24, 25, 26, 27, 28, 29, 30, 1, 31, 32, 33, 34, 35, 36, 37, 38, 39, 40, 41, 42, 43, 44, 45, 46, 47, 48, 49, 50, 51, 52, 53, 54, 55, 56, 57, 58, 59, 60, 61, 62, 63, 64, 65, 66, 67, 68, 69] (by decide +kernel) (by decide +kernel)
set_option maxRecDepth 20000 in
theorem gX6_louds_X6_areSo : GoodIn wsX6_louds (wsV RX6 211 RX6 yX6_areSo wsX6_areSo) := goodIn_app (goodIn_of _ (by decide +kernel)) ggX6_louds_X6_areSo
theorem dX6_louds_0 : decode cX6_louds 0 = .ok (.aload_n 0, 1) := by decide +kernel
theorem dX6_louds_1 : decode cX6_louds 1 = .ok (.iload_n 1, 1) := by decide +kernel
theorem dX6_louds_2 : decode cX6_louds 2 = .ok (.invokevirtual 154, 3) := by decide +kernel
theorem dX6_louds_5 : decode cX6_louds 5 = .ok (.ifCond .ne 5, 3) := by decide +kernel
theorem dX6_louds_8 : decode cX6_louds 8 = .ok (.iconst (-1), 1) := by decide +kernel
theorem dX6_louds_9 : decode cX6_louds 9 = .ok (.ireturn, 1) := by decide +kernel
theorem dX6_louds_10 : decode cX6_louds 10 = .ok (.aload_n 0, 1) := by decide +kernel
theorem dX6_louds_11 : decode cX6_louds 11 = .ok (.getfield 25, 3) := by decide +kernel
theorem dX6_louds_14 : decode cX6_louds 14 = .ok (.iload_n 1, 1) := by decide +kernel
theorem dX6_louds_15 : decode cX6_louds 15 = .ok (.iaload, 1) := by decide +kernel
theorem dX6_louds_16 : decode cX6_louds 16 = .ok (.istore_n 2, 1) := by decide +kernel
theorem dX6_louds_17 : decode cX6_louds 17 = .ok (.iconst 0, 1) := by decide +kernel
theorem dX6_louds_18 : decode cX6_louds 18 = .ok (.istore_n 3, 1) := by decide +kernel
theorem dX6_louds_19 : decode cX6_louds 19 = .ok (.iconst 1, 1) := by decide +kernel
theorem dX6_louds_20 : decode cX6_louds 20 = .ok (.istore 4, 2) := by decide +kernel
theorem dX6_louds_22 : decode cX6_louds 22 = .ok (.iload 4, 2) := by decide +kernel
theorem dX6_louds_24 : decode cX6_louds 24 = .ok (.bipush 9, 2) := by decide +kernel
theorem dX6_louds_26 : decode cX6_louds 26 = .ok (.if_icmp .gt 35, 3) := by decide +kernel
theorem dX6_louds_29 : decode cX6_louds 29 = .ok (.aload_n 0, 1) := by decide +kernel
theorem dX6_louds_30 : decode cX6_louds 30 = .ok (.getfield 25, 3) := by decide +kernel
theorem dX6_louds_33 : decode cX6_louds 33 = .ok (.iload_n 1, 1) := by decide +kernel
theorem dX6_louds_34 : decode cX6_louds 34 = .ok (.iload 4, 2) := by decide +kernel
theorem dX6_louds_36 : decode cX6_louds 36 = .ok (.iastore, 1) := by decide +kernel
theorem dX6_louds_37 : decode cX6_louds 37 = .ok (.iload_n 3, 1) := by decide +kernel
theorem dX6_louds_38 : decode cX6_louds 38 = .ok (.aload_n 0, 1) := by decide +kernel
theorem dX6_louds_39 : decode cX6_louds 39 = .ok (.invokevirtual 211, 3) := by decide +kernel
theorem dX6_louds_42 : decode cX6_louds 42 = .ok (.ifCond .eq 10, 3) := by decide +kernel
theorem dX6_louds_45 : decode cX6_louds 45 = .ok (.iconst 1, 1) := by decide +kernel
theorem dX6_louds_46 : decode cX6_louds 46 = .ok (.iload 4, 2) := by decide +kernel
theorem dX6_louds_48 : decode cX6_louds 48 = .ok (.ishl, 1) := by decide +kernel
theorem dX6_louds_49 : decode cX6_louds 49 = .ok (.goto 4, 3) := by decide +kernel
theorem dX6_louds_52 : decode cX6_louds 52 = .ok (.iconst 0, 1) := by decide +kernel
theorem dX6_louds_53 : decode cX6_louds 53 = .ok (.ior, 1) := by decide +kernel
end
section
theorem dX6_louds_54 : decode cX6_louds 54 = .ok (.istore_n 3, 1) := by decide +kernel
theorem dX6_louds_55 : decode cX6_louds 55 = .ok (.iinc 4 1, 3) := by decide +kernel
theorem dX6_louds_58 : decode cX6_louds 58 = .ok (.goto (-36), 3) := by decide +kernel
theorem dX6_louds_61 : decode cX6_louds 61 = .ok (.aload_n 0, 1) := by decide +kernel
theorem dX6_louds_62 : decode cX6_louds 62 = .ok (.getfield 25, 3) := by decide +kernel
theorem dX6_louds_65 : decode cX6_louds 65 = .ok (.iload_n 1, 1) := by decide +kernel
theorem dX6_louds_66 : decode cX6_louds 66 = .ok (.iload_n 2, 1) := by decide +kernel
theorem dX6_louds_67 : decode cX6_louds 67 = .ok (.iastore, 1) := by decide +kernel
theorem dX6_louds_68 : decode cX6_louds 68 = .ok (.iload_n 3, 1) := by decide +kernel
theorem dX6_louds_69 : decode cX6_louds 69 = .ok (.ireturn, 1) := by decide +kernel
set_option maxRecDepth 20000 in
theorem ggX6_walls_X6_areSo : GoodIn wsX6_walls wsX6_areSo := goodIn_r _ [7, 8, 9, 10, 11, 12, 13, 14, 15, 6, 16, 17, 18, 19, 20, 2, 21, 22, 23, 24, 25, 26, 27, 28, 29, 30, 31, 32, 33, 34, 35, 36, 37, 38, 39, 40, 41, 42, 43, 44, 45, 46, 47, 48, 49, 50, 51, 52, 53, 54, 55, 56, 57, 58, 59, 60, 61, 62, 63, 64, 65] (by decide +kernel) (by decide +kernel)
set_option maxRecDepth 20000 in
theorem gX6_walls_X6_areSo : GoodIn wsX6_walls (wsV RX6 211 RX6 yX6_areSo wsX6_areSo) := goodIn_app (goodIn_of _ (by decide +kernel)) ggX6_walls_X6_areSo
theorem dX6_walls_0 : decode cX6_walls 0 = .ok (.aload_n 0, 1) := by decide +kernel
theorem dX6_walls_1 : decode cX6_walls 1 = .ok (.getfield 68, 3) := by decide +kernel
theorem dX6_walls_4 : decode cX6_walls 4 = .ok (.ifCond .ne 6, 3) := by decide +kernel
theorem dX6_walls_7 : decode cX6_walls 7 = .ok (.bipush (-3), 2) := by decide +kernel
theorem dX6_walls_9 : decode cX6_walls 9 = .ok (.ireturn, 1) := by decide +kernel
theorem dX6_walls_10 : decode cX6_walls 10 = .ok (.aload_n 0, 1) := by decide +kernel
theorem dX6_walls_11 : decode cX6_walls 11 = .ok (.getfield 105, 3) := by decide +kernel
theorem dX6_walls_14 : decode cX6_walls 14 = .ok (.istore_n 1, 1) := by decide +kernel
theorem dX6_walls_15 : decode cX6_walls 15 = .ok (.iconst 0, 1) := by decide +kernel
theorem dX6_walls_16 : decode cX6_walls 16 = .ok (.istore_n 2, 1) := by decide +kernel
theorem dX6_walls_17 : decode cX6_walls 17 = .ok (.iconst 0, 1) := by decide +kernel
theorem dX6_walls_18 : decode cX6_walls 18 = .ok (.istore_n 3, 1) := by decide +kernel
theorem dX6_walls_19 : decode cX6_walls 19 = .ok (.iload_n 3, 1) := by decide +kernel
theorem dX6_walls_20 : decode cX6_walls 20 = .ok (.iconst 3, 1) := by decide +kernel
theorem dX6_walls_21 : decode cX6_walls 21 = .ok (.if_icmp .gt 31, 3) := by decide +kernel
theorem dX6_walls_24 : decode cX6_walls 24 = .ok (.aload_n 0, 1) := by decide +kernel
theorem dX6_walls_25 : decode cX6_walls 25 = .ok (.iload_n 3, 1) := by decide +kernel
theorem dX6_walls_26 : decode cX6_walls 26 = .ok (.putfield 105, 3) := by decide +kernel
theorem dX6_walls_29 : decode cX6_walls 29 = .ok (.iload_n 2, 1) := by decide +kernel
theorem dX6_walls_30 : decode cX6_walls 30 = .ok (.aload_n 0, 1) := by decide +kernel
theorem dX6_walls_31 : decode cX6_walls 31 = .ok (.invokevirtual 211, 3) := by decide +kernel
theorem dX6_walls_34 : decode cX6_walls 34 = .ok (.ifCond .eq 9, 3) := by decide +kernel
theorem dX6_walls_37 : decode cX6_walls 37 = .ok (.iconst 1, 1) := by decide +kernel
theorem dX6_walls_38 : decode cX6_walls 38 = .ok (.iload_n 3, 1) := by decide +kernel
theorem dX6_walls_39 : decode cX6_walls 39 = .ok (.ishl, 1) := by decide +kernel
theorem dX6_walls_40 : decode cX6_walls 40 = .ok (.goto 4, 3) := by decide +kernel
theorem dX6_walls_43 : decode cX6_walls 43 = .ok (.iconst 0, 1) := by decide +kernel
theorem dX6_walls_44 : decode cX6_walls 44 = .ok (.ior, 1) := by decide +kernel
theorem dX6_walls_45 : decode cX6_walls 45 = .ok (.istore_n 2, 1) := by decide +kernel
theorem dX6_walls_46 : decode cX6_walls 46 = .ok (.iinc 3 1, 3) := by decide +kernel
theorem dX6_walls_49 : decode cX6_walls 49 = .ok (.goto (-30), 3) := by decide +kernel
theorem dX6_walls_52 : decode cX6_walls 52 = .ok (.aload_n 0, 1) := by decide +kernel
theorem dX6_walls_53 : decode cX6_walls 53 = .ok (.iload_n 1, 1) := by decide +kernel
theorem dX6_walls_54 : decode cX6_walls 54 = .ok (.putfield 105, 3) := by decide +kernel
theorem dX6_walls_57 : decode cX6_walls 57 = .ok (.iload_n 2, 1) := by decide +kernel
theorem dX6_walls_58 : decode cX6_walls 58 = .ok (.ireturn, 1) := by decide +kernel
theorem dX6_inLeastTerms_0 : decode cX6_inLeastTerms 0 = .ok (.lload_n 0, 1) := by decide +kernel
theorem dX6_inLeastTerms_1 : decode cX6_inLeastTerms 1 = .ok (.lstore 5, 2) := by decide +kernel
theorem dX6_inLeastTerms_3 : decode cX6_inLeastTerms 3 = .ok (.lload_n 2, 1) := by decide +kernel
theorem dX6_inLeastTerms_4 : decode cX6_inLeastTerms 4 = .ok (.lstore 7, 2) := by decide +kernel
theorem dX6_inLeastTerms_6 : decode cX6_inLeastTerms 6 = .ok (.lload 7, 2) := by decide +kernel
theorem dX6_inLeastTerms_8 : decode cX6_inLeastTerms 8 = .ok (.lconst 0, 1) := by decide +kernel
theorem dX6_inLeastTerms_9 : decode cX6_inLeastTerms 9 = .ok (.lcmp, 1) := by decide +kernel
theorem dX6_inLeastTerms_10 : decode cX6_inLeastTerms 10 = .ok (.ifCond .eq 21, 3) := by decide +kernel
theorem dX6_inLeastTerms_13 : decode cX6_inLeastTerms 13 = .ok (.lload 5, 2) := by decide +kernel
theorem dX6_inLeastTerms_15 : decode cX6_inLeastTerms 15 = .ok (.lload 7, 2) := by decide +kernel
theorem dX6_inLeastTerms_17 : decode cX6_inLeastTerms 17 = .ok (.lrem, 1) := by decide +kernel
theorem dX6_inLeastTerms_18 : decode cX6_inLeastTerms 18 = .ok (.lstore 9, 2) := by decide +kernel
theorem dX6_inLeastTerms_20 : decode cX6_inLeastTerms 20 = .ok (.lload 7, 2) := by decide +kernel
theorem dX6_inLeastTerms_22 : decode cX6_inLeastTerms 22 = .ok (.lstore 5, 2) := by decide +kernel
theorem dX6_inLeastTerms_24 : decode cX6_inLeastTerms 24 = .ok (.lload 9, 2) := by decide +kernel
theorem dX6_inLeastTerms_26 : decode cX6_inLeastTerms 26 = .ok (.lstore 7, 2) := by decide +kernel
theorem dX6_inLeastTerms_28 : decode cX6_inLeastTerms 28 = .ok (.goto (-22), 3) := by decide +kernel
theorem dX6_inLeastTerms_31 : decode cX6_inLeastTerms 31 = .ok (.iload 4, 2) := by decide +kernel
theorem dX6_inLeastTerms_33 : decode cX6_inLeastTerms 33 = .ok (.ifCond .ne 10, 3) := by decide +kernel
theorem dX6_inLeastTerms_36 : decode cX6_inLeastTerms 36 = .ok (.lload_n 0, 1) := by decide +kernel
theorem dX6_inLeastTerms_37 : decode cX6_inLeastTerms 37 = .ok (.lload 5, 2) := by decide +kernel
theorem dX6_inLeastTerms_39 : decode cX6_inLeastTerms 39 = .ok (.ldiv, 1) := by decide +kernel
theorem dX6_inLeastTerms_40 : decode cX6_inLeastTerms 40 = .ok (.goto 7, 3) := by decide +kernel
theorem dX6_inLeastTerms_43 : decode cX6_inLeastTerms 43 = .ok (.lload_n 2, 1) := by decide +kernel
theorem dX6_inLeastTerms_44 : decode cX6_inLeastTerms 44 = .ok (.lload 5, 2) := by decide +kernel
theorem dX6_inLeastTerms_46 : decode cX6_inLeastTerms 46 = .ok (.ldiv, 1) := by decide +kernel
theorem dX6_inLeastTerms_47 : decode cX6_inLeastTerms 47 = .ok (.lreturn, 1) := by decide +kernel
set_option maxRecDepth 20000 in
theorem ggX6_odds_X6_isHouse : GoodIn wsX6_odds wsX6_isHouse := goodIn_r _ [8, 3, 39, 40, 41, 42, 43, 44, 45, 46, 47, 48, 49, 50, 51, 52, 53, 54, 55, 56, 57, 58, 59, 60, 61, 62, 63, 64, 65, 66, 67, 68] (by decide +kernel) (by decide +kernel)
set_option maxRecDepth 20000 in
theorem gX6_odds_X6_isHouse : GoodIn wsX6_odds (wsV RX6 151 RX6 yX6_isHouse wsX6_isHouse) := goodIn_app (goodIn_of _ (by decide +kernel)) ggX6_odds_X6_isHouse
set_option maxRecDepth 20000 in
theorem ggX6_odds_X6_within : GoodIn wsX6_odds wsX6_within := goodIn_r _ [11] (by decide +kernel) (by decide +kernel)
set_option maxRecDepth 20000 in
theorem gX6_odds_X6_within : GoodIn wsX6_odds (va_wsS RX6 64 yX6_within wsX6_within) := goodIn_app (goodIn_of _ (by decide +kernel)) ggX6_odds_X6_within
set_option maxRecDepth 20000 in
theorem ggX6_odds_X6_wakesFrom : GoodIn wsX6_odds wsX6_wakesFrom := goodIn_r _ [15, 16, 17, 18, 7, 19, 20, 21, 22, 23, 24, 25, 26, 27, 28, 29, 30, 31, 32, 33, 34, 35, 39, 40, 41, 42, 43, 44, 45, 46, 47, 48, 49, 50, 51, 52, 53, 54, 55, 56, 57, 58, 59, 60, 61, 62, 63, 64, 65, 66, 67, 68] (by decide +kernel) (by decide +kernel)
set_option maxRecDepth 20000 in
theorem gX6_odds_X6_wakesFrom : GoodIn wsX6_odds (wsV RX6 148 RX6 yX6_wakesFrom wsX6_wakesFrom) := goodIn_app (goodIn_of _ (by decide +kernel)) ggX6_odds_X6_wakesFrom
set_option maxRecDepth 20000 in
theorem ggX6_odds_X6_inLeastTerms : GoodIn wsX6_odds wsX6_inLeastTerms := goodIn_r _ [38] (by decide +kernel) (by decide +kernel)
set_option maxRecDepth 20000 in
theorem gX6_odds_X6_inLeastTerms : GoodIn wsX6_odds (va_wsS RX6 214 yX6_inLeastTerms wsX6_inLeastTerms) := goodIn_app (goodIn_of _ (by decide +kernel)) ggX6_odds_X6_inLeastTerms
theorem dX6_odds_0 : decode cX6_odds 0 = .ok (.aload_n 0, 1) := by decide +kernel
theorem dX6_odds_1 : decode cX6_odds 1 = .ok (.iload_n 1, 1) := by decide +kernel
theorem dX6_odds_2 : decode cX6_odds 2 = .ok (.invokevirtual 151, 3) := by decide +kernel
theorem dX6_odds_5 : decode cX6_odds 5 = .ok (.ifCond .eq 12, 3) := by decide +kernel
theorem dX6_odds_8 : decode cX6_odds 8 = .ok (.iload_n 2, 1) := by decide +kernel
theorem dX6_odds_9 : decode cX6_odds 9 = .ok (.iconst 0, 1) := by decide +kernel
theorem dX6_odds_10 : decode cX6_odds 10 = .ok (.iconst 1, 1) := by decide +kernel
theorem dX6_odds_11 : decode cX6_odds 11 = .ok (.invokestatic 64, 3) := by decide +kernel
theorem dX6_odds_14 : decode cX6_odds 14 = .ok (.ifCond .ne 7, 3) := by decide +kernel
theorem dX6_odds_17 : decode cX6_odds 17 = .ok (.ldc2_w 62, 3) := by decide +kernel
theorem dX6_odds_20 : decode cX6_odds 20 = .ok (.lreturn, 1) := by decide +kernel
theorem dX6_odds_21 : decode cX6_odds 21 = .ok (.iconst 0, 1) := by decide +kernel
theorem dX6_odds_22 : decode cX6_odds 22 = .ok (.istore_n 3, 1) := by decide +kernel
theorem dX6_odds_23 : decode cX6_odds 23 = .ok (.iconst 0, 1) := by decide +kernel
theorem dX6_odds_24 : decode cX6_odds 24 = .ok (.istore 4, 2) := by decide +kernel
theorem dX6_odds_26 : decode cX6_odds 26 = .ok (.iload 4, 2) := by decide +kernel
theorem dX6_odds_28 : decode cX6_odds 28 = .ok (.aload_n 0, 1) := by decide +kernel
theorem dX6_odds_29 : decode cX6_odds 29 = .ok (.getfield 71, 3) := by decide +kernel
theorem dX6_odds_32 : decode cX6_odds 32 = .ok (.if_icmp .ge 47, 3) := by decide +kernel
theorem dX6_odds_35 : decode cX6_odds 35 = .ok (.iconst 0, 1) := by decide +kernel
theorem dX6_odds_36 : decode cX6_odds 36 = .ok (.istore 5, 2) := by decide +kernel
theorem dX6_odds_38 : decode cX6_odds 38 = .ok (.iload 5, 2) := by decide +kernel
theorem dX6_odds_40 : decode cX6_odds 40 = .ok (.aload_n 0, 1) := by decide +kernel
theorem dX6_odds_41 : decode cX6_odds 41 = .ok (.getfield 68, 3) := by decide +kernel
theorem dX6_odds_44 : decode cX6_odds 44 = .ok (.if_icmp .ge 29, 3) := by decide +kernel
theorem dX6_odds_47 : decode cX6_odds 47 = .ok (.iload_n 3, 1) := by decide +kernel
theorem dX6_odds_48 : decode cX6_odds 48 = .ok (.aload_n 0, 1) := by decide +kernel
theorem dX6_odds_49 : decode cX6_odds 49 = .ok (.iload_n 1, 1) := by decide +kernel
theorem dX6_odds_50 : decode cX6_odds 50 = .ok (.iload 4, 2) := by decide +kernel
theorem dX6_odds_52 : decode cX6_odds 52 = .ok (.iload 5, 2) := by decide +kernel
theorem dX6_odds_54 : decode cX6_odds 54 = .ok (.invokevirtual 148, 3) := by decide +kernel
theorem dX6_odds_57 : decode cX6_odds 57 = .ok (.ifCond .eq 7, 3) := by decide +kernel
theorem dX6_odds_60 : decode cX6_odds 60 = .ok (.iconst 1, 1) := by decide +kernel
theorem dX6_odds_61 : decode cX6_odds 61 = .ok (.goto 4, 3) := by decide +kernel
theorem dX6_odds_64 : decode cX6_odds 64 = .ok (.iconst 0, 1) := by decide +kernel
theorem dX6_odds_65 : decode cX6_odds 65 = .ok (.iadd, 1) := by decide +kernel
theorem dX6_odds_66 : decode cX6_odds 66 = .ok (.istore_n 3, 1) := by decide +kernel
theorem dX6_odds_67 : decode cX6_odds 67 = .ok (.iinc 5 1, 3) := by decide +kernel
theorem dX6_odds_70 : decode cX6_odds 70 = .ok (.goto (-32), 3) := by decide +kernel
theorem dX6_odds_73 : decode cX6_odds 73 = .ok (.iinc 4 1, 3) := by decide +kernel
theorem dX6_odds_76 : decode cX6_odds 76 = .ok (.goto (-50), 3) := by decide +kernel
theorem dX6_odds_79 : decode cX6_odds 79 = .ok (.iload_n 3, 1) := by decide +kernel
theorem dX6_odds_80 : decode cX6_odds 80 = .ok (.i2l, 1) := by decide +kernel
theorem dX6_odds_81 : decode cX6_odds 81 = .ok (.aload_n 0, 1) := by decide +kernel
theorem dX6_odds_82 : decode cX6_odds 82 = .ok (.getfield 71, 3) := by decide +kernel
theorem dX6_odds_85 : decode cX6_odds 85 = .ok (.aload_n 0, 1) := by decide +kernel
theorem dX6_odds_86 : decode cX6_odds 86 = .ok (.getfield 68, 3) := by decide +kernel
theorem dX6_odds_89 : decode cX6_odds 89 = .ok (.imul, 1) := by decide +kernel
theorem dX6_odds_90 : decode cX6_odds 90 = .ok (.i2l, 1) := by decide +kernel
theorem dX6_odds_91 : decode cX6_odds 91 = .ok (.iload_n 2, 1) := by decide +kernel
theorem dX6_odds_92 : decode cX6_odds 92 = .ok (.invokestatic 214, 3) := by decide +kernel
theorem dX6_odds_95 : decode cX6_odds 95 = .ok (.lreturn, 1) := by decide +kernel
set_option maxRecDepth 20000 in
theorem ggX6_sheet_X6_isSheet : GoodIn wsX6_sheet wsX6_isSheet := goodIn_r _ [8, 9, 10, 7, 11] (by decide +kernel) (by decide +kernel)
set_option maxRecDepth 20000 in
theorem gX6_sheet_X6_isSheet : GoodIn wsX6_sheet (va_wsS RX6 81 yX6_isSheet wsX6_isSheet) := goodIn_app (goodIn_of _ (by decide +kernel)) ggX6_sheet_X6_isSheet
set_option maxRecDepth 20000 in
theorem ggX6_sheet_X6_isSort : GoodIn wsX6_sheet wsX6_isSort := goodIn_r _ [14, 9, 10, 7, 11] (by decide +kernel) (by decide +kernel)
set_option maxRecDepth 20000 in
theorem gX6_sheet_X6_isSort : GoodIn wsX6_sheet (va_wsS RX6 85 yX6_isSort wsX6_isSort) := goodIn_app (goodIn_of _ (by decide +kernel)) ggX6_sheet_X6_isSort
set_option maxRecDepth 20000 in
theorem ggX6_sheet_X6_fails : GoodIn wsX6_sheet wsX6_fails := goodIn_r _ [18, 1, 19, 20, 21, 22, 23, 24, 25, 26, 27, 28, 29, 30, 31, 32, 33, 34, 35, 36, 37, 38, 39, 40, 41, 42, 43, 44, 45, 46, 47, 48] (by decide +kernel) (by decide +kernel)
set_option maxRecDepth 20000 in
theorem gX6_sheet_X6_fails : GoodIn wsX6_sheet (wsV RX6 92 RX6 yX6_fails wsX6_fails) := goodIn_app (goodIn_of _ (by decide +kernel)) ggX6_sheet_X6_fails
theorem dX6_sheet_0 : decode cX6_sheet 0 = .ok (.aload_n 0, 1) := by decide +kernel
theorem dX6_sheet_1 : decode cX6_sheet 1 = .ok (.iconst 0, 1) := by decide +kernel
theorem dX6_sheet_2 : decode cX6_sheet 2 = .ok (.putfield 58, 3) := by decide +kernel
theorem dX6_sheet_5 : decode cX6_sheet 5 = .ok (.iload_n 1, 1) := by decide +kernel
theorem dX6_sheet_6 : decode cX6_sheet 6 = .ok (.invokestatic 81, 3) := by decide +kernel
theorem dX6_sheet_9 : decode cX6_sheet 9 = .ok (.ifCond .ne 5, 3) := by decide +kernel
theorem dX6_sheet_12 : decode cX6_sheet 12 = .ok (.iconst (-1), 1) := by decide +kernel
theorem dX6_sheet_13 : decode cX6_sheet 13 = .ok (.ireturn, 1) := by decide +kernel
theorem dX6_sheet_14 : decode cX6_sheet 14 = .ok (.iload_n 2, 1) := by decide +kernel
theorem dX6_sheet_15 : decode cX6_sheet 15 = .ok (.invokestatic 85, 3) := by decide +kernel
theorem dX6_sheet_18 : decode cX6_sheet 18 = .ok (.ifCond .eq 9, 3) := by decide +kernel
theorem dX6_sheet_21 : decode cX6_sheet 21 = .ok (.iload_n 3, 1) := by decide +kernel
theorem dX6_sheet_22 : decode cX6_sheet 22 = .ok (.bipush 60, 2) := by decide +kernel
theorem dX6_sheet_24 : decode cX6_sheet 24 = .ok (.if_icmp .le 6, 3) := by decide +kernel
theorem dX6_sheet_27 : decode cX6_sheet 27 = .ok (.bipush (-2), 2) := by decide +kernel
theorem dX6_sheet_29 : decode cX6_sheet 29 = .ok (.ireturn, 1) := by decide +kernel
theorem dX6_sheet_30 : decode cX6_sheet 30 = .ok (.iload_n 3, 1) := by decide +kernel
theorem dX6_sheet_31 : decode cX6_sheet 31 = .ok (.ifCond .ge 9, 3) := by decide +kernel
theorem dX6_sheet_34 : decode cX6_sheet 34 = .ok (.aload_n 0, 1) := by decide +kernel
theorem dX6_sheet_35 : decode cX6_sheet 35 = .ok (.iconst 4, 1) := by decide +kernel
theorem dX6_sheet_36 : decode cX6_sheet 36 = .ok (.invokevirtual 92, 3) := by decide +kernel
theorem dX6_sheet_39 : decode cX6_sheet 39 = .ok (.ireturn, 1) := by decide +kernel
theorem dX6_sheet_40 : decode cX6_sheet 40 = .ok (.aload_n 0, 1) := by decide +kernel
theorem dX6_sheet_41 : decode cX6_sheet 41 = .ok (.getfield 9, 3) := by decide +kernel
theorem dX6_sheet_44 : decode cX6_sheet 44 = .ok (.iload_n 1, 1) := by decide +kernel
theorem dX6_sheet_45 : decode cX6_sheet 45 = .ok (.iload_n 2, 1) := by decide +kernel
theorem dX6_sheet_46 : decode cX6_sheet 46 = .ok (.iastore, 1) := by decide +kernel
theorem dX6_sheet_47 : decode cX6_sheet 47 = .ok (.aload_n 0, 1) := by decide +kernel
theorem dX6_sheet_48 : decode cX6_sheet 48 = .ok (.getfield 13, 3) := by decide +kernel
theorem dX6_sheet_51 : decode cX6_sheet 51 = .ok (.iload_n 1, 1) := by decide +kernel
theorem dX6_sheet_52 : decode cX6_sheet 52 = .ok (.iload_n 3, 1) := by decide +kernel
theorem dX6_sheet_53 : decode cX6_sheet 53 = .ok (.iastore, 1) := by decide +kernel
theorem dX6_sheet_54 : decode cX6_sheet 54 = .ok (.iconst 0, 1) := by decide +kernel
theorem dX6_sheet_55 : decode cX6_sheet 55 = .ok (.istore 4, 2) := by decide +kernel
theorem dX6_sheet_57 : decode cX6_sheet 57 = .ok (.iload 4, 2) := by decide +kernel
theorem dX6_sheet_59 : decode cX6_sheet 59 = .ok (.bipush 60, 2) := by decide +kernel
theorem dX6_sheet_61 : decode cX6_sheet 61 = .ok (.if_icmp .ge 22, 3) := by decide +kernel
theorem dX6_sheet_64 : decode cX6_sheet 64 = .ok (.aload_n 0, 1) := by decide +kernel
theorem dX6_sheet_65 : decode cX6_sheet 65 = .ok (.getfield 16, 3) := by decide +kernel
theorem dX6_sheet_68 : decode cX6_sheet 68 = .ok (.bipush 60, 2) := by decide +kernel
theorem dX6_sheet_70 : decode cX6_sheet 70 = .ok (.iload_n 1, 1) := by decide +kernel
theorem dX6_sheet_71 : decode cX6_sheet 71 = .ok (.imul, 1) := by decide +kernel
theorem dX6_sheet_72 : decode cX6_sheet 72 = .ok (.iload 4, 2) := by decide +kernel
theorem dX6_sheet_74 : decode cX6_sheet 74 = .ok (.iadd, 1) := by decide +kernel
theorem dX6_sheet_75 : decode cX6_sheet 75 = .ok (.iconst 0, 1) := by decide +kernel
theorem dX6_sheet_76 : decode cX6_sheet 76 = .ok (.iastore, 1) := by decide +kernel
theorem dX6_sheet_77 : decode cX6_sheet 77 = .ok (.iinc 4 1, 3) := by decide +kernel
theorem dX6_sheet_80 : decode cX6_sheet 80 = .ok (.goto (-23), 3) := by decide +kernel
theorem dX6_sheet_83 : decode cX6_sheet 83 = .ok (.iconst 1, 1) := by decide +kernel
theorem dX6_sheet_84 : decode cX6_sheet 84 = .ok (.ireturn, 1) := by decide +kernel
set_option maxRecDepth 20000 in
theorem ggX6_lose_X6_isSheet : GoodIn wsX6_lose wsX6_isSheet := goodIn_r _ [5, 6, 7, 4, 8] (by decide +kernel) (by decide +kernel)
set_option maxRecDepth 20000 in
theorem gX6_lose_X6_isSheet : GoodIn wsX6_lose (va_wsS RX6 81 yX6_isSheet wsX6_isSheet) := goodIn_app (goodIn_of _ (by decide +kernel)) ggX6_lose_X6_isSheet
theorem dX6_lose_0 : decode cX6_lose 0 = .ok (.iload_n 1, 1) := by decide +kernel
theorem dX6_lose_1 : decode cX6_lose 1 = .ok (.invokestatic 81, 3) := by decide +kernel
theorem dX6_lose_4 : decode cX6_lose 4 = .ok (.ifCond .ne 5, 3) := by decide +kernel
theorem dX6_lose_7 : decode cX6_lose 7 = .ok (.iconst (-1), 1) := by decide +kernel
theorem dX6_lose_8 : decode cX6_lose 8 = .ok (.ireturn, 1) := by decide +kernel
theorem dX6_lose_9 : decode cX6_lose 9 = .ok (.aload_n 0, 1) := by decide +kernel
theorem dX6_lose_10 : decode cX6_lose 10 = .ok (.getfield 9, 3) := by decide +kernel
theorem dX6_lose_13 : decode cX6_lose 13 = .ok (.iload_n 1, 1) := by decide +kernel
theorem dX6_lose_14 : decode cX6_lose 14 = .ok (.iaload, 1) := by decide +kernel
theorem dX6_lose_15 : decode cX6_lose 15 = .ok (.bipush (-9), 2) := by decide +kernel
theorem dX6_lose_17 : decode cX6_lose 17 = .ok (.if_icmp .ne 7, 3) := by decide +kernel
theorem dX6_lose_20 : decode cX6_lose 20 = .ok (.iconst 0, 1) := by decide +kernel
theorem dX6_lose_21 : decode cX6_lose 21 = .ok (.goto 4, 3) := by decide +kernel
theorem dX6_lose_24 : decode cX6_lose 24 = .ok (.iconst 1, 1) := by decide +kernel
theorem dX6_lose_25 : decode cX6_lose 25 = .ok (.istore_n 2, 1) := by decide +kernel
theorem dX6_lose_26 : decode cX6_lose 26 = .ok (.aload_n 0, 1) := by decide +kernel
theorem dX6_lose_27 : decode cX6_lose 27 = .ok (.getfield 9, 3) := by decide +kernel
theorem dX6_lose_30 : decode cX6_lose 30 = .ok (.iload_n 1, 1) := by decide +kernel
theorem dX6_lose_31 : decode cX6_lose 31 = .ok (.bipush (-9), 2) := by decide +kernel
theorem dX6_lose_33 : decode cX6_lose 33 = .ok (.iastore, 1) := by decide +kernel
theorem dX6_lose_34 : decode cX6_lose 34 = .ok (.iload_n 2, 1) := by decide +kernel
theorem dX6_lose_35 : decode cX6_lose 35 = .ok (.ireturn, 1) := by decide +kernel
set_option maxRecDepth 20000 in
theorem ggX6_put_X6_isSheet : GoodIn wsX6_put wsX6_isSheet := goodIn_r _ [8, 9, 10, 7, 11] (by decide +kernel) (by decide +kernel)
set_option maxRecDepth 20000 in
theorem gX6_put_X6_isSheet : GoodIn wsX6_put (va_wsS RX6 81 yX6_isSheet wsX6_isSheet) := goodIn_app (goodIn_of _ (by decide +kernel)) ggX6_put_X6_isSheet
set_option maxRecDepth 20000 in
theorem ggX6_put_X6_fails : GoodIn wsX6_put wsX6_fails := goodIn_r _ [15, 1, 16, 17, 18, 19, 20, 21, 22, 23, 24, 25, 26, 27, 28, 29, 30, 31, 32, 33, 34, 35, 36, 37, 38, 39, 40, 41, 42, 43, 44, 45] (by decide +kernel) (by decide +kernel)
set_option maxRecDepth 20000 in
theorem gX6_put_X6_fails : GoodIn wsX6_put (wsV RX6 92 RX6 yX6_fails wsX6_fails) := goodIn_app (goodIn_of _ (by decide +kernel)) ggX6_put_X6_fails
set_option maxRecDepth 20000 in
theorem ggX6_put_X6_within : GoodIn wsX6_put wsX6_within := goodIn_r _ [11] (by decide +kernel) (by decide +kernel)
set_option maxRecDepth 20000 in
theorem gX6_put_X6_within : GoodIn wsX6_put (va_wsS RX6 64 yX6_within wsX6_within) := goodIn_app (goodIn_of _ (by decide +kernel)) ggX6_put_X6_within
theorem dX6_put_0 : decode cX6_put 0 = .ok (.aload_n 0, 1) := by decide +kernel
theorem dX6_put_1 : decode cX6_put 1 = .ok (.iconst 0, 1) := by decide +kernel
theorem dX6_put_2 : decode cX6_put 2 = .ok (.putfield 58, 3) := by decide +kernel
theorem dX6_put_5 : decode cX6_put 5 = .ok (.iload_n 1, 1) := by decide +kernel
theorem dX6_put_6 : decode cX6_put 6 = .ok (.invokestatic 81, 3) := by decide +kernel
theorem dX6_put_9 : decode cX6_put 9 = .ok (.ifCond .ne 5, 3) := by decide +kernel
theorem dX6_put_12 : decode cX6_put 12 = .ok (.iconst (-1), 1) := by decide +kernel
theorem dX6_put_13 : decode cX6_put 13 = .ok (.ireturn, 1) := by decide +kernel
theorem dX6_put_14 : decode cX6_put 14 = .ok (.aload_n 0, 1) := by decide +kernel
theorem dX6_put_15 : decode cX6_put 15 = .ok (.getfield 9, 3) := by decide +kernel
theorem dX6_put_18 : decode cX6_put 18 = .ok (.iload_n 1, 1) := by decide +kernel
theorem dX6_put_19 : decode cX6_put 19 = .ok (.iaload, 1) := by decide +kernel
theorem dX6_put_20 : decode cX6_put 20 = .ok (.bipush (-9), 2) := by decide +kernel
theorem dX6_put_22 : decode cX6_put 22 = .ok (.if_icmp .ne 9, 3) := by decide +kernel
theorem dX6_put_25 : decode cX6_put 25 = .ok (.aload_n 0, 1) := by decide +kernel
theorem dX6_put_26 : decode cX6_put 26 = .ok (.iconst 1, 1) := by decide +kernel
theorem dX6_put_27 : decode cX6_put 27 = .ok (.invokevirtual 92, 3) := by decide +kernel
theorem dX6_put_30 : decode cX6_put 30 = .ok (.ireturn, 1) := by decide +kernel
theorem dX6_put_31 : decode cX6_put 31 = .ok (.iload_n 2, 1) := by decide +kernel
theorem dX6_put_32 : decode cX6_put 32 = .ok (.iconst 0, 1) := by decide +kernel
theorem dX6_put_33 : decode cX6_put 33 = .ok (.aload_n 0, 1) := by decide +kernel
theorem dX6_put_34 : decode cX6_put 34 = .ok (.getfield 13, 3) := by decide +kernel
theorem dX6_put_37 : decode cX6_put 37 = .ok (.iload_n 1, 1) := by decide +kernel
theorem dX6_put_38 : decode cX6_put 38 = .ok (.iaload, 1) := by decide +kernel
theorem dX6_put_39 : decode cX6_put 39 = .ok (.iconst 1, 1) := by decide +kernel
theorem dX6_put_40 : decode cX6_put 40 = .ok (.isub, 1) := by decide +kernel
theorem dX6_put_41 : decode cX6_put 41 = .ok (.invokestatic 64, 3) := by decide +kernel
theorem dX6_put_44 : decode cX6_put 44 = .ok (.ifCond .ne 9, 3) := by decide +kernel
theorem dX6_put_47 : decode cX6_put 47 = .ok (.aload_n 0, 1) := by decide +kernel
theorem dX6_put_48 : decode cX6_put 48 = .ok (.iconst 3, 1) := by decide +kernel
theorem dX6_put_49 : decode cX6_put 49 = .ok (.invokevirtual 92, 3) := by decide +kernel
theorem dX6_put_52 : decode cX6_put 52 = .ok (.ireturn, 1) := by decide +kernel
theorem dX6_put_53 : decode cX6_put 53 = .ok (.aload_n 0, 1) := by decide +kernel
theorem dX6_put_54 : decode cX6_put 54 = .ok (.getfield 16, 3) := by decide +kernel
theorem dX6_put_57 : decode cX6_put 57 = .ok (.bipush 60, 2) := by decide +kernel
theorem dX6_put_59 : decode cX6_put 59 = .ok (.iload_n 1, 1) := by decide +kernel
theorem dX6_put_60 : decode cX6_put 60 = .ok (.imul, 1) := by decide +kernel
theorem dX6_put_61 : decode cX6_put 61 = .ok (.iload_n 2, 1) := by decide +kernel
theorem dX6_put_62 : decode cX6_put 62 = .ok (.iadd, 1) := by decide +kernel
theorem dX6_put_63 : decode cX6_put 63 = .ok (.aload_n 0, 1) := by decide +kernel
theorem dX6_put_64 : decode cX6_put 64 = .ok (.getfield 9, 3) := by decide +kernel
theorem dX6_put_67 : decode cX6_put 67 = .ok (.iload_n 1, 1) := by decide +kernel
theorem dX6_put_68 : decode cX6_put 68 = .ok (.iaload, 1) := by decide +kernel
theorem dX6_put_69 : decode cX6_put 69 = .ok (.ifCond .ne 8, 3) := by decide +kernel
theorem dX6_put_72 : decode cX6_put 72 = .ok (.iload_n 3, 1) := by decide +kernel
theorem dX6_put_73 : decode cX6_put 73 = .ok (.i2b, 1) := by decide +kernel
theorem dX6_put_74 : decode cX6_put 74 = .ok (.goto 19, 3) := by decide +kernel
theorem dX6_put_77 : decode cX6_put 77 = .ok (.aload_n 0, 1) := by decide +kernel
theorem dX6_put_78 : decode cX6_put 78 = .ok (.getfield 9, 3) := by decide +kernel
theorem dX6_put_81 : decode cX6_put 81 = .ok (.iload_n 1, 1) := by decide +kernel
theorem dX6_put_82 : decode cX6_put 82 = .ok (.iaload, 1) := by decide +kernel
theorem dX6_put_83 : decode cX6_put 83 = .ok (.iconst 1, 1) := by decide +kernel
theorem dX6_put_84 : decode cX6_put 84 = .ok (.if_icmp .ne 8, 3) := by decide +kernel
theorem dX6_put_87 : decode cX6_put 87 = .ok (.iload_n 3, 1) := by decide +kernel
theorem dX6_put_88 : decode cX6_put 88 = .ok (.i2s, 1) := by decide +kernel
theorem dX6_put_89 : decode cX6_put 89 = .ok (.goto 4, 3) := by decide +kernel
theorem dX6_put_92 : decode cX6_put 92 = .ok (.iload_n 3, 1) := by decide +kernel
theorem dX6_put_93 : decode cX6_put 93 = .ok (.iastore, 1) := by decide +kernel
theorem dX6_put_94 : decode cX6_put 94 = .ok (.iconst 1, 1) := by decide +kernel
theorem dX6_put_95 : decode cX6_put 95 = .ok (.ireturn, 1) := by decide +kernel
set_option maxRecDepth 20000 in
theorem ggX6_cell_X6_isSheet : GoodIn wsX6_cell wsX6_isSheet := goodIn_r _ [9, 10, 11, 8, 12] (by decide +kernel) (by decide +kernel)
set_option maxRecDepth 20000 in
theorem gX6_cell_X6_isSheet : GoodIn wsX6_cell (va_wsS RX6 81 yX6_isSheet wsX6_isSheet) := goodIn_app (goodIn_of _ (by decide +kernel)) ggX6_cell_X6_isSheet
set_option maxRecDepth 20000 in
theorem ggX6_cell_X6_isSort : GoodIn wsX6_cell wsX6_isSort := goodIn_r _ [15, 10, 11, 8, 12] (by decide +kernel) (by decide +kernel)
set_option maxRecDepth 20000 in
theorem gX6_cell_X6_isSort : GoodIn wsX6_cell (va_wsS RX6 85 yX6_isSort wsX6_isSort) := goodIn_app (goodIn_of _ (by decide +kernel)) ggX6_cell_X6_isSort
set_option maxRecDepth 20000 in
theorem ggX6_cell_X6_lost : GoodIn wsX6_cell wsX6_lost := goodIn_r _ [19, 1, 2, 20, 21, 22, 23, 24, 25, 26, 27, 28, 29, 30, 31, 32, 33, 34, 35, 36, 37, 38, 39, 40, 41, 42, 43, 44, 45, 46, 47, 48, 49] (by decide +kernel) (by decide +kernel)
set_option maxRecDepth 20000 in
theorem gX6_cell_X6_lost : GoodIn wsX6_cell (wsV RX6 218 RX6 yX6_lost wsX6_lost) := goodIn_app (goodIn_of _ (by decide +kernel)) ggX6_cell_X6_lost
set_option maxRecDepth 20000 in
theorem ggX6_cell_X6_within : GoodIn wsX6_cell wsX6_within := goodIn_r _ [12] (by decide +kernel) (by decide +kernel)
set_option maxRecDepth 20000 in
theorem gX6_cell_X6_within : GoodIn wsX6_cell (va_wsS RX6 64 yX6_within wsX6_within) := goodIn_app (goodIn_of _ (by decide +kernel)) ggX6_cell_X6_within
theorem dX6_cell_0 : decode cX6_cell 0 = .ok (.aload_n 0, 1) := by decide +kernel
theorem dX6_cell_1 : decode cX6_cell 1 = .ok (.iconst 0, 1) := by decide +kernel
theorem dX6_cell_2 : decode cX6_cell 2 = .ok (.putfield 58, 3) := by decide +kernel
theorem dX6_cell_5 : decode cX6_cell 5 = .ok (.iload_n 1, 1) := by decide +kernel
theorem dX6_cell_6 : decode cX6_cell 6 = .ok (.invokestatic 81, 3) := by decide +kernel
theorem dX6_cell_9 : decode cX6_cell 9 = .ok (.ifCond .eq 10, 3) := by decide +kernel
theorem dX6_cell_12 : decode cX6_cell 12 = .ok (.iload_n 3, 1) := by decide +kernel
theorem dX6_cell_13 : decode cX6_cell 13 = .ok (.invokestatic 85, 3) := by decide +kernel
theorem dX6_cell_16 : decode cX6_cell 16 = .ok (.ifCond .ne 7, 3) := by decide +kernel
theorem dX6_cell_19 : decode cX6_cell 19 = .ok (.ldc2_w 62, 3) := by decide +kernel
theorem dX6_cell_22 : decode cX6_cell 22 = .ok (.lreturn, 1) := by decide +kernel
theorem dX6_cell_23 : decode cX6_cell 23 = .ok (.aload_n 0, 1) := by decide +kernel
theorem dX6_cell_24 : decode cX6_cell 24 = .ok (.getfield 9, 3) := by decide +kernel
theorem dX6_cell_27 : decode cX6_cell 27 = .ok (.iload_n 1, 1) := by decide +kernel
theorem dX6_cell_28 : decode cX6_cell 28 = .ok (.iaload, 1) := by decide +kernel
theorem dX6_cell_29 : decode cX6_cell 29 = .ok (.bipush (-9), 2) := by decide +kernel
theorem dX6_cell_31 : decode cX6_cell 31 = .ok (.if_icmp .eq 19, 3) := by decide +kernel
theorem dX6_cell_34 : decode cX6_cell 34 = .ok (.aload_n 0, 1) := by decide +kernel
theorem dX6_cell_35 : decode cX6_cell 35 = .ok (.getfield 9, 3) := by decide +kernel
theorem dX6_cell_38 : decode cX6_cell 38 = .ok (.iload_n 1, 1) := by decide +kernel
theorem dX6_cell_39 : decode cX6_cell 39 = .ok (.iaload, 1) := by decide +kernel
theorem dX6_cell_40 : decode cX6_cell 40 = .ok (.iload_n 3, 1) := by decide +kernel
theorem dX6_cell_41 : decode cX6_cell 41 = .ok (.if_icmp .eq 9, 3) := by decide +kernel
theorem dX6_cell_44 : decode cX6_cell 44 = .ok (.aload_n 0, 1) := by decide +kernel
theorem dX6_cell_45 : decode cX6_cell 45 = .ok (.iconst 2, 1) := by decide +kernel
theorem dX6_cell_46 : decode cX6_cell 46 = .ok (.invokevirtual 218, 3) := by decide +kernel
theorem dX6_cell_49 : decode cX6_cell 49 = .ok (.lreturn, 1) := by decide +kernel
theorem dX6_cell_50 : decode cX6_cell 50 = .ok (.aload_n 0, 1) := by decide +kernel
theorem dX6_cell_51 : decode cX6_cell 51 = .ok (.getfield 9, 3) := by decide +kernel
theorem dX6_cell_54 : decode cX6_cell 54 = .ok (.iload_n 1, 1) := by decide +kernel
theorem dX6_cell_55 : decode cX6_cell 55 = .ok (.iaload, 1) := by decide +kernel
theorem dX6_cell_56 : decode cX6_cell 56 = .ok (.bipush (-9), 2) := by decide +kernel
theorem dX6_cell_58 : decode cX6_cell 58 = .ok (.if_icmp .ne 9, 3) := by decide +kernel
theorem dX6_cell_61 : decode cX6_cell 61 = .ok (.aload_n 0, 1) := by decide +kernel
theorem dX6_cell_62 : decode cX6_cell 62 = .ok (.iconst 1, 1) := by decide +kernel
theorem dX6_cell_63 : decode cX6_cell 63 = .ok (.invokevirtual 218, 3) := by decide +kernel
theorem dX6_cell_66 : decode cX6_cell 66 = .ok (.lreturn, 1) := by decide +kernel
theorem dX6_cell_67 : decode cX6_cell 67 = .ok (.iload_n 2, 1) := by decide +kernel
theorem dX6_cell_68 : decode cX6_cell 68 = .ok (.iconst 0, 1) := by decide +kernel
theorem dX6_cell_69 : decode cX6_cell 69 = .ok (.aload_n 0, 1) := by decide +kernel
theorem dX6_cell_70 : decode cX6_cell 70 = .ok (.getfield 13, 3) := by decide +kernel
theorem dX6_cell_73 : decode cX6_cell 73 = .ok (.iload_n 1, 1) := by decide +kernel
theorem dX6_cell_74 : decode cX6_cell 74 = .ok (.iaload, 1) := by decide +kernel
theorem dX6_cell_75 : decode cX6_cell 75 = .ok (.iconst 1, 1) := by decide +kernel
theorem dX6_cell_76 : decode cX6_cell 76 = .ok (.isub, 1) := by decide +kernel
theorem dX6_cell_77 : decode cX6_cell 77 = .ok (.invokestatic 64, 3) := by decide +kernel
theorem dX6_cell_80 : decode cX6_cell 80 = .ok (.ifCond .ne 9, 3) := by decide +kernel
theorem dX6_cell_83 : decode cX6_cell 83 = .ok (.aload_n 0, 1) := by decide +kernel
theorem dX6_cell_84 : decode cX6_cell 84 = .ok (.iconst 3, 1) := by decide +kernel
theorem dX6_cell_85 : decode cX6_cell 85 = .ok (.invokevirtual 218, 3) := by decide +kernel
theorem dX6_cell_88 : decode cX6_cell 88 = .ok (.lreturn, 1) := by decide +kernel
theorem dX6_cell_89 : decode cX6_cell 89 = .ok (.aload_n 0, 1) := by decide +kernel
theorem dX6_cell_90 : decode cX6_cell 90 = .ok (.getfield 16, 3) := by decide +kernel
theorem dX6_cell_93 : decode cX6_cell 93 = .ok (.bipush 60, 2) := by decide +kernel
theorem dX6_cell_95 : decode cX6_cell 95 = .ok (.iload_n 1, 1) := by decide +kernel
theorem dX6_cell_96 : decode cX6_cell 96 = .ok (.imul, 1) := by decide +kernel
theorem dX6_cell_97 : decode cX6_cell 97 = .ok (.iload_n 2, 1) := by decide +kernel
theorem dX6_cell_98 : decode cX6_cell 98 = .ok (.iadd, 1) := by decide +kernel
theorem dX6_cell_99 : decode cX6_cell 99 = .ok (.iaload, 1) := by decide +kernel
theorem dX6_cell_100 : decode cX6_cell 100 = .ok (.i2l, 1) := by decide +kernel
theorem dX6_cell_101 : decode cX6_cell 101 = .ok (.lreturn, 1) := by decide +kernel
set_option maxRecDepth 20000 in
theorem ggX6_copy_X6_isSheet : GoodIn wsX6_copy wsX6_isSheet := goodIn_r _ [8, 9, 10, 7, 11] (by decide +kernel) (by decide +kernel)
set_option maxRecDepth 20000 in
theorem gX6_copy_X6_isSheet : GoodIn wsX6_copy (va_wsS RX6 81 yX6_isSheet wsX6_isSheet) := goodIn_app (goodIn_of _ (by decide +kernel)) ggX6_copy_X6_isSheet
set_option maxRecDepth 20000 in
theorem ggX6_copy_X6_fails : GoodIn wsX6_copy wsX6_fails := goodIn_r _ [15, 1, 16, 17, 18, 19, 20, 21, 22, 23, 24, 25, 26, 27, 28, 29, 30, 31, 32, 33, 34, 35, 36, 37, 38, 39, 40, 41, 42, 43, 44, 45] (by decide +kernel) (by decide +kernel)
set_option maxRecDepth 20000 in
theorem gX6_copy_X6_fails : GoodIn wsX6_copy (wsV RX6 92 RX6 yX6_fails wsX6_fails) := goodIn_app (goodIn_of _ (by decide +kernel)) ggX6_copy_X6_fails
theorem dX6_copy_0 : decode cX6_copy 0 = .ok (.aload_n 0, 1) := by decide +kernel
theorem dX6_copy_1 : decode cX6_copy 1 = .ok (.iconst 0, 1) := by decide +kernel
theorem dX6_copy_2 : decode cX6_copy 2 = .ok (.putfield 58, 3) := by decide +kernel
theorem dX6_copy_5 : decode cX6_copy 5 = .ok (.iload_n 1, 1) := by decide +kernel
theorem dX6_copy_6 : decode cX6_copy 6 = .ok (.invokestatic 81, 3) := by decide +kernel
theorem dX6_copy_9 : decode cX6_copy 9 = .ok (.ifCond .eq 10, 3) := by decide +kernel
theorem dX6_copy_12 : decode cX6_copy 12 = .ok (.iload_n 3, 1) := by decide +kernel
theorem dX6_copy_13 : decode cX6_copy 13 = .ok (.invokestatic 81, 3) := by decide +kernel
theorem dX6_copy_16 : decode cX6_copy 16 = .ok (.ifCond .ne 5, 3) := by decide +kernel
theorem dX6_copy_19 : decode cX6_copy 19 = .ok (.iconst (-1), 1) := by decide +kernel
theorem dX6_copy_20 : decode cX6_copy 20 = .ok (.ireturn, 1) := by decide +kernel
theorem dX6_copy_21 : decode cX6_copy 21 = .ok (.aload_n 0, 1) := by decide +kernel
theorem dX6_copy_22 : decode cX6_copy 22 = .ok (.getfield 9, 3) := by decide +kernel
theorem dX6_copy_25 : decode cX6_copy 25 = .ok (.iload_n 1, 1) := by decide +kernel
theorem dX6_copy_26 : decode cX6_copy 26 = .ok (.iaload, 1) := by decide +kernel
theorem dX6_copy_27 : decode cX6_copy 27 = .ok (.bipush (-9), 2) := by decide +kernel
theorem dX6_copy_29 : decode cX6_copy 29 = .ok (.if_icmp .eq 14, 3) := by decide +kernel
theorem dX6_copy_32 : decode cX6_copy 32 = .ok (.aload_n 0, 1) := by decide +kernel
theorem dX6_copy_33 : decode cX6_copy 33 = .ok (.getfield 9, 3) := by decide +kernel
theorem dX6_copy_36 : decode cX6_copy 36 = .ok (.iload_n 3, 1) := by decide +kernel
theorem dX6_copy_37 : decode cX6_copy 37 = .ok (.iaload, 1) := by decide +kernel
theorem dX6_copy_38 : decode cX6_copy 38 = .ok (.bipush (-9), 2) := by decide +kernel
theorem dX6_copy_40 : decode cX6_copy 40 = .ok (.if_icmp .ne 9, 3) := by decide +kernel
theorem dX6_copy_43 : decode cX6_copy 43 = .ok (.aload_n 0, 1) := by decide +kernel
theorem dX6_copy_44 : decode cX6_copy 44 = .ok (.iconst 1, 1) := by decide +kernel
theorem dX6_copy_45 : decode cX6_copy 45 = .ok (.invokevirtual 92, 3) := by decide +kernel
theorem dX6_copy_48 : decode cX6_copy 48 = .ok (.ireturn, 1) := by decide +kernel
theorem dX6_copy_49 : decode cX6_copy 49 = .ok (.aload_n 0, 1) := by decide +kernel
theorem dX6_copy_50 : decode cX6_copy 50 = .ok (.getfield 9, 3) := by decide +kernel
theorem dX6_copy_53 : decode cX6_copy 53 = .ok (.iload_n 1, 1) := by decide +kernel
theorem dX6_copy_54 : decode cX6_copy 54 = .ok (.iaload, 1) := by decide +kernel
theorem dX6_copy_55 : decode cX6_copy 55 = .ok (.aload_n 0, 1) := by decide +kernel
theorem dX6_copy_56 : decode cX6_copy 56 = .ok (.getfield 9, 3) := by decide +kernel
theorem dX6_copy_59 : decode cX6_copy 59 = .ok (.iload_n 3, 1) := by decide +kernel
theorem dX6_copy_60 : decode cX6_copy 60 = .ok (.iaload, 1) := by decide +kernel
theorem dX6_copy_61 : decode cX6_copy 61 = .ok (.if_icmp .eq 9, 3) := by decide +kernel
theorem dX6_copy_64 : decode cX6_copy 64 = .ok (.aload_n 0, 1) := by decide +kernel
theorem dX6_copy_65 : decode cX6_copy 65 = .ok (.iconst 2, 1) := by decide +kernel
theorem dX6_copy_66 : decode cX6_copy 66 = .ok (.invokevirtual 92, 3) := by decide +kernel
theorem dX6_copy_69 : decode cX6_copy 69 = .ok (.ireturn, 1) := by decide +kernel
theorem dX6_copy_70 : decode cX6_copy 70 = .ok (.iload_n 2, 1) := by decide +kernel
theorem dX6_copy_71 : decode cX6_copy 71 = .ok (.ifCond .lt 38, 3) := by decide +kernel
theorem dX6_copy_74 : decode cX6_copy 74 = .ok (.iload 4, 2) := by decide +kernel
theorem dX6_copy_76 : decode cX6_copy 76 = .ok (.ifCond .lt 33, 3) := by decide +kernel
theorem dX6_copy_79 : decode cX6_copy 79 = .ok (.iload 5, 2) := by decide +kernel
theorem dX6_copy_81 : decode cX6_copy 81 = .ok (.ifCond .lt 28, 3) := by decide +kernel
theorem dX6_copy_84 : decode cX6_copy 84 = .ok (.iload_n 2, 1) := by decide +kernel
theorem dX6_copy_85 : decode cX6_copy 85 = .ok (.aload_n 0, 1) := by decide +kernel
theorem dX6_copy_86 : decode cX6_copy 86 = .ok (.getfield 13, 3) := by decide +kernel
theorem dX6_copy_89 : decode cX6_copy 89 = .ok (.iload_n 1, 1) := by decide +kernel
theorem dX6_copy_90 : decode cX6_copy 90 = .ok (.iaload, 1) := by decide +kernel
theorem dX6_copy_91 : decode cX6_copy 91 = .ok (.if_icmp .gt 18, 3) := by decide +kernel
theorem dX6_copy_94 : decode cX6_copy 94 = .ok (.iload 4, 2) := by decide +kernel
theorem dX6_copy_96 : decode cX6_copy 96 = .ok (.aload_n 0, 1) := by decide +kernel
theorem dX6_copy_97 : decode cX6_copy 97 = .ok (.getfield 13, 3) := by decide +kernel
theorem dX6_copy_100 : decode cX6_copy 100 = .ok (.iload_n 3, 1) := by decide +kernel
theorem dX6_copy_101 : decode cX6_copy 101 = .ok (.iaload, 1) := by decide +kernel
theorem dX6_copy_102 : decode cX6_copy 102 = .ok (.if_icmp .gt 7, 3) := by decide +kernel
theorem dX6_copy_105 : decode cX6_copy 105 = .ok (.iconst 1, 1) := by decide +kernel
theorem dX6_copy_106 : decode cX6_copy 106 = .ok (.goto 4, 3) := by decide +kernel
theorem dX6_copy_109 : decode cX6_copy 109 = .ok (.iconst 0, 1) := by decide +kernel
theorem dX6_copy_110 : decode cX6_copy 110 = .ok (.istore 6, 2) := by decide +kernel
theorem dX6_copy_112 : decode cX6_copy 112 = .ok (.iload 6, 2) := by decide +kernel
theorem dX6_copy_114 : decode cX6_copy 114 = .ok (.ifCond .eq 30, 3) := by decide +kernel
theorem dX6_copy_117 : decode cX6_copy 117 = .ok (.iload 5, 2) := by decide +kernel
theorem dX6_copy_119 : decode cX6_copy 119 = .ok (.aload_n 0, 1) := by decide +kernel
theorem dX6_copy_120 : decode cX6_copy 120 = .ok (.getfield 13, 3) := by decide +kernel
theorem dX6_copy_123 : decode cX6_copy 123 = .ok (.iload_n 1, 1) := by decide +kernel
theorem dX6_copy_124 : decode cX6_copy 124 = .ok (.iaload, 1) := by decide +kernel
theorem dX6_copy_125 : decode cX6_copy 125 = .ok (.iload_n 2, 1) := by decide +kernel
theorem dX6_copy_126 : decode cX6_copy 126 = .ok (.isub, 1) := by decide +kernel
theorem dX6_copy_127 : decode cX6_copy 127 = .ok (.if_icmp .gt 17, 3) := by decide +kernel
theorem dX6_copy_130 : decode cX6_copy 130 = .ok (.iload 5, 2) := by decide +kernel
theorem dX6_copy_132 : decode cX6_copy 132 = .ok (.aload_n 0, 1) := by decide +kernel
theorem dX6_copy_133 : decode cX6_copy 133 = .ok (.getfield 13, 3) := by decide +kernel
theorem dX6_copy_136 : decode cX6_copy 136 = .ok (.iload_n 3, 1) := by decide +kernel
theorem dX6_copy_137 : decode cX6_copy 137 = .ok (.iaload, 1) := by decide +kernel
theorem dX6_copy_138 : decode cX6_copy 138 = .ok (.iload 4, 2) := by decide +kernel
theorem dX6_copy_140 : decode cX6_copy 140 = .ok (.isub, 1) := by decide +kernel
theorem dX6_copy_141 : decode cX6_copy 141 = .ok (.if_icmp .le 9, 3) := by decide +kernel
theorem dX6_copy_144 : decode cX6_copy 144 = .ok (.aload_n 0, 1) := by decide +kernel
theorem dX6_copy_145 : decode cX6_copy 145 = .ok (.iconst 3, 1) := by decide +kernel
theorem dX6_copy_146 : decode cX6_copy 146 = .ok (.invokevirtual 92, 3) := by decide +kernel
theorem dX6_copy_149 : decode cX6_copy 149 = .ok (.ireturn, 1) := by decide +kernel
theorem dX6_copy_150 : decode cX6_copy 150 = .ok (.iload_n 2, 1) := by decide +kernel
theorem dX6_copy_151 : decode cX6_copy 151 = .ok (.iload 4, 2) := by decide +kernel
theorem dX6_copy_153 : decode cX6_copy 153 = .ok (.if_icmp .ge 7, 3) := by decide +kernel
theorem dX6_copy_156 : decode cX6_copy 156 = .ok (.iconst 1, 1) := by decide +kernel
theorem dX6_copy_157 : decode cX6_copy 157 = .ok (.goto 4, 3) := by decide +kernel
theorem dX6_copy_160 : decode cX6_copy 160 = .ok (.iconst 0, 1) := by decide +kernel
theorem dX6_copy_161 : decode cX6_copy 161 = .ok (.istore 7, 2) := by decide +kernel
theorem dX6_copy_163 : decode cX6_copy 163 = .ok (.iconst 0, 1) := by decide +kernel
theorem dX6_copy_164 : decode cX6_copy 164 = .ok (.istore 8, 2) := by decide +kernel
theorem dX6_copy_166 : decode cX6_copy 166 = .ok (.iload 8, 2) := by decide +kernel
theorem dX6_copy_168 : decode cX6_copy 168 = .ok (.iload 5, 2) := by decide +kernel
theorem dX6_copy_170 : decode cX6_copy 170 = .ok (.if_icmp .ge 57, 3) := by decide +kernel
theorem dX6_copy_173 : decode cX6_copy 173 = .ok (.iload 7, 2) := by decide +kernel
theorem dX6_copy_175 : decode cX6_copy 175 = .ok (.ifCond .eq 13, 3) := by decide +kernel
theorem dX6_copy_178 : decode cX6_copy 178 = .ok (.iload 5, 2) := by decide +kernel
theorem dX6_copy_180 : decode cX6_copy 180 = .ok (.iconst 1, 1) := by decide +kernel
theorem dX6_copy_181 : decode cX6_copy 181 = .ok (.isub, 1) := by decide +kernel
theorem dX6_copy_182 : decode cX6_copy 182 = .ok (.iload 8, 2) := by decide +kernel
theorem dX6_copy_184 : decode cX6_copy 184 = .ok (.isub, 1) := by decide +kernel
theorem dX6_copy_185 : decode cX6_copy 185 = .ok (.goto 5, 3) := by decide +kernel
theorem dX6_copy_188 : decode cX6_copy 188 = .ok (.iload 8, 2) := by decide +kernel
theorem dX6_copy_190 : decode cX6_copy 190 = .ok (.istore 9, 2) := by decide +kernel
theorem dX6_copy_192 : decode cX6_copy 192 = .ok (.aload_n 0, 1) := by decide +kernel
theorem dX6_copy_193 : decode cX6_copy 193 = .ok (.getfield 16, 3) := by decide +kernel
theorem dX6_copy_196 : decode cX6_copy 196 = .ok (.bipush 60, 2) := by decide +kernel
theorem dX6_copy_198 : decode cX6_copy 198 = .ok (.iload_n 3, 1) := by decide +kernel
theorem dX6_copy_199 : decode cX6_copy 199 = .ok (.imul, 1) := by decide +kernel
theorem dX6_copy_200 : decode cX6_copy 200 = .ok (.iload 4, 2) := by decide +kernel
theorem dX6_copy_202 : decode cX6_copy 202 = .ok (.iadd, 1) := by decide +kernel
theorem dX6_copy_203 : decode cX6_copy 203 = .ok (.iload 9, 2) := by decide +kernel
theorem dX6_copy_205 : decode cX6_copy 205 = .ok (.iadd, 1) := by decide +kernel
theorem dX6_copy_206 : decode cX6_copy 206 = .ok (.aload_n 0, 1) := by decide +kernel
theorem dX6_copy_207 : decode cX6_copy 207 = .ok (.getfield 16, 3) := by decide +kernel
theorem dX6_copy_210 : decode cX6_copy 210 = .ok (.bipush 60, 2) := by decide +kernel
theorem dX6_copy_212 : decode cX6_copy 212 = .ok (.iload_n 1, 1) := by decide +kernel
theorem dX6_copy_213 : decode cX6_copy 213 = .ok (.imul, 1) := by decide +kernel
theorem dX6_copy_214 : decode cX6_copy 214 = .ok (.iload_n 2, 1) := by decide +kernel
theorem dX6_copy_215 : decode cX6_copy 215 = .ok (.iadd, 1) := by decide +kernel
theorem dX6_copy_216 : decode cX6_copy 216 = .ok (.iload 9, 2) := by decide +kernel
theorem dX6_copy_218 : decode cX6_copy 218 = .ok (.iadd, 1) := by decide +kernel
theorem dX6_copy_219 : decode cX6_copy 219 = .ok (.iaload, 1) := by decide +kernel
theorem dX6_copy_220 : decode cX6_copy 220 = .ok (.iastore, 1) := by decide +kernel
theorem dX6_copy_221 : decode cX6_copy 221 = .ok (.iinc 8 1, 3) := by decide +kernel
theorem dX6_copy_224 : decode cX6_copy 224 = .ok (.goto (-58), 3) := by decide +kernel
theorem dX6_copy_227 : decode cX6_copy 227 = .ok (.iload 5, 2) := by decide +kernel
theorem dX6_copy_229 : decode cX6_copy 229 = .ok (.ireturn, 1) := by decide +kernel
theorem dX6_begins_0 : decode cX6_begins 0 = .ok (.aload_n 0, 1) := by decide +kernel
theorem dX6_begins_1 : decode cX6_begins 1 = .ok (.bipush 31, 2) := by decide +kernel
theorem dX6_begins_3 : decode cX6_begins 3 = .ok (.aload_n 0, 1) := by decide +kernel
theorem dX6_begins_4 : decode cX6_begins 4 = .ok (.getfield 222, 3) := by decide +kernel
theorem dX6_begins_7 : decode cX6_begins 7 = .ok (.imul, 1) := by decide +kernel
theorem dX6_begins_8 : decode cX6_begins 8 = .ok (.iload_n 1, 1) := by decide +kernel
theorem dX6_begins_9 : decode cX6_begins 9 = .ok (.iadd, 1) := by decide +kernel
theorem dX6_begins_10 : decode cX6_begins 10 = .ok (.putfield 222, 3) := by decide +kernel
theorem dX6_begins_13 : decode cX6_begins 13 = .ok (.return_, 1) := by decide +kernel
set_option maxRecDepth 20000 in
theorem ggX6_tell_X6_isHouse : GoodIn wsX6_tell wsX6_isHouse := goodIn_r _ [7, 8, 14, 15, 16, 17, 18, 19, 20, 21, 22, 23, 24, 25, 26, 27, 28, 29, 30, 31, 32, 33, 34, 35, 36, 37, 38, 39, 40, 41, 42, 43] (by decide +kernel) (by decide +kernel)
set_option maxRecDepth 20000 in
theorem gX6_tell_X6_isHouse : GoodIn wsX6_tell (wsV RX6 151 RX6 yX6_isHouse wsX6_isHouse) := goodIn_app (goodIn_of _ (by decide +kernel)) ggX6_tell_X6_isHouse
set_option maxRecDepth 20000 in
theorem ggX6_tell_X6_begins : GoodIn wsX6_tell wsX6_begins := goodIn_r _ [12, 13, 14, 15, 16, 17, 18, 19, 20, 21, 22, 23, 24, 25, 26, 27, 28, 29, 30, 31, 32, 33, 34, 35, 36, 37, 38, 39, 40, 41, 42, 43] (by decide +kernel) (by decide +kernel)
set_option maxRecDepth 20000 in
theorem gX6_tell_X6_begins : GoodIn wsX6_tell (wsV RX6 225 RX6 yX6_begins wsX6_begins) := goodIn_app (goodIn_of _ (by decide +kernel)) ggX6_tell_X6_begins
theorem dX6_tell_0 : decode cX6_tell 0 = .ok (.aload_n 0, 1) := by decide +kernel
theorem dX6_tell_1 : decode cX6_tell 1 = .ok (.iload_n 1, 1) := by decide +kernel
theorem dX6_tell_2 : decode cX6_tell 2 = .ok (.invokevirtual 151, 3) := by decide +kernel
theorem dX6_tell_5 : decode cX6_tell 5 = .ok (.ifCond .ne 5, 3) := by decide +kernel
theorem dX6_tell_8 : decode cX6_tell 8 = .ok (.iconst (-1), 1) := by decide +kernel
theorem dX6_tell_9 : decode cX6_tell 9 = .ok (.ireturn, 1) := by decide +kernel
theorem dX6_tell_10 : decode cX6_tell 10 = .ok (.aload_n 0, 1) := by decide +kernel
theorem dX6_tell_11 : decode cX6_tell 11 = .ok (.getfield 22, 3) := by decide +kernel
theorem dX6_tell_14 : decode cX6_tell 14 = .ok (.iload_n 1, 1) := by decide +kernel
theorem dX6_tell_15 : decode cX6_tell 15 = .ok (.iaload, 1) := by decide +kernel
theorem dX6_tell_16 : decode cX6_tell 16 = .ok (.istore_n 2, 1) := by decide +kernel
theorem dX6_tell_17 : decode cX6_tell 17 = .ok (.aload_n 0, 1) := by decide +kernel
theorem dX6_tell_18 : decode cX6_tell 18 = .ok (.getfield 19, 3) := by decide +kernel
theorem dX6_tell_21 : decode cX6_tell 21 = .ok (.iload_n 1, 1) := by decide +kernel
theorem dX6_tell_22 : decode cX6_tell 22 = .ok (.iaload, 1) := by decide +kernel
theorem dX6_tell_23 : decode cX6_tell 23 = .ok (.lookupswitch 67 #[(1, 25), (2, 40)], 25) := by decide +kernel
theorem dX6_tell_48 : decode cX6_tell 48 = .ok (.aload_n 0, 1) := by decide +kernel
theorem dX6_tell_49 : decode cX6_tell 49 = .ok (.iconst 2, 1) := by decide +kernel
theorem dX6_tell_50 : decode cX6_tell 50 = .ok (.invokevirtual 225, 3) := by decide +kernel
theorem dX6_tell_53 : decode cX6_tell 53 = .ok (.aload_n 0, 1) := by decide +kernel
theorem dX6_tell_54 : decode cX6_tell 54 = .ok (.iconst 1, 1) := by decide +kernel
theorem dX6_tell_55 : decode cX6_tell 55 = .ok (.invokevirtual 225, 3) := by decide +kernel
theorem dX6_tell_58 : decode cX6_tell 58 = .ok (.iload_n 2, 1) := by decide +kernel
theorem dX6_tell_59 : decode cX6_tell 59 = .ok (.bipush 100, 2) := by decide +kernel
theorem dX6_tell_61 : decode cX6_tell 61 = .ok (.iadd, 1) := by decide +kernel
theorem dX6_tell_62 : decode cX6_tell 62 = .ok (.ireturn, 1) := by decide +kernel
theorem dX6_tell_63 : decode cX6_tell 63 = .ok (.aload_n 0, 1) := by decide +kernel
theorem dX6_tell_64 : decode cX6_tell 64 = .ok (.iconst 3, 1) := by decide +kernel
theorem dX6_tell_65 : decode cX6_tell 65 = .ok (.invokevirtual 225, 3) := by decide +kernel
theorem dX6_tell_68 : decode cX6_tell 68 = .ok (.aload_n 0, 1) := by decide +kernel
theorem dX6_tell_69 : decode cX6_tell 69 = .ok (.iconst 2, 1) := by decide +kernel
theorem dX6_tell_70 : decode cX6_tell 70 = .ok (.invokevirtual 225, 3) := by decide +kernel
theorem dX6_tell_73 : decode cX6_tell 73 = .ok (.aload_n 0, 1) := by decide +kernel
theorem dX6_tell_74 : decode cX6_tell 74 = .ok (.iconst 1, 1) := by decide +kernel
theorem dX6_tell_75 : decode cX6_tell 75 = .ok (.invokevirtual 225, 3) := by decide +kernel
theorem dX6_tell_78 : decode cX6_tell 78 = .ok (.aload_n 0, 1) := by decide +kernel
theorem dX6_tell_79 : decode cX6_tell 79 = .ok (.iconst 1, 1) := by decide +kernel
theorem dX6_tell_80 : decode cX6_tell 80 = .ok (.invokevirtual 225, 3) := by decide +kernel
theorem dX6_tell_83 : decode cX6_tell 83 = .ok (.iconst 2, 1) := by decide +kernel
theorem dX6_tell_84 : decode cX6_tell 84 = .ok (.iload_n 2, 1) := by decide +kernel
theorem dX6_tell_85 : decode cX6_tell 85 = .ok (.imul, 1) := by decide +kernel
theorem dX6_tell_86 : decode cX6_tell 86 = .ok (.bipush 100, 2) := by decide +kernel
theorem dX6_tell_88 : decode cX6_tell 88 = .ok (.iadd, 1) := by decide +kernel
theorem dX6_tell_89 : decode cX6_tell 89 = .ok (.ireturn, 1) := by decide +kernel
theorem dX6_tell_90 : decode cX6_tell 90 = .ok (.aload_n 0, 1) := by decide +kernel
theorem dX6_tell_91 : decode cX6_tell 91 = .ok (.iconst 1, 1) := by decide +kernel
theorem dX6_tell_92 : decode cX6_tell 92 = .ok (.invokevirtual 225, 3) := by decide +kernel
theorem dX6_tell_95 : decode cX6_tell 95 = .ok (.iload_n 2, 1) := by decide +kernel
theorem dX6_tell_96 : decode cX6_tell 96 = .ok (.ireturn, 1) := by decide +kernel
set_option maxRecDepth 20000 in
theorem ggX6_call_X6_isHouse : GoodIn wsX6_call wsX6_isHouse := goodIn_r _ [6, 7, 13, 14, 15, 16, 17, 18, 19, 20, 21, 22, 23, 24, 25, 26, 27, 28, 29, 30, 31, 32, 33, 34, 35, 36, 37, 38, 39, 40, 41, 42] (by decide +kernel) (by decide +kernel)
set_option maxRecDepth 20000 in
theorem gX6_call_X6_isHouse : GoodIn wsX6_call (wsV RX6 151 RX6 yX6_isHouse wsX6_isHouse) := goodIn_app (goodIn_of _ (by decide +kernel)) ggX6_call_X6_isHouse
set_option maxRecDepth 20000 in
theorem ggX6_call_X6_begins : GoodIn wsX6_call wsX6_begins := goodIn_r _ [11, 12, 13, 14, 15, 16, 17, 18, 19, 20, 21, 22, 23, 24, 25, 26, 27, 28, 29, 30, 31, 32, 33, 34, 35, 36, 37, 38, 39, 40, 41, 42] (by decide +kernel) (by decide +kernel)
set_option maxRecDepth 20000 in
theorem gX6_call_X6_begins : GoodIn wsX6_call (wsV RX6 225 RX6 yX6_begins wsX6_begins) := goodIn_app (goodIn_of _ (by decide +kernel)) ggX6_call_X6_begins
theorem dX6_call_0 : decode cX6_call 0 = .ok (.aload_n 0, 1) := by decide +kernel
theorem dX6_call_1 : decode cX6_call 1 = .ok (.iload_n 1, 1) := by decide +kernel
theorem dX6_call_2 : decode cX6_call 2 = .ok (.invokevirtual 151, 3) := by decide +kernel
theorem dX6_call_5 : decode cX6_call 5 = .ok (.ifCond .ne 5, 3) := by decide +kernel
theorem dX6_call_8 : decode cX6_call 8 = .ok (.iconst (-1), 1) := by decide +kernel
theorem dX6_call_9 : decode cX6_call 9 = .ok (.ireturn, 1) := by decide +kernel
theorem dX6_call_10 : decode cX6_call 10 = .ok (.aload_n 0, 1) := by decide +kernel
theorem dX6_call_11 : decode cX6_call 11 = .ok (.aload_n 0, 1) := by decide +kernel
theorem dX6_call_12 : decode cX6_call 12 = .ok (.getfield 19, 3) := by decide +kernel
theorem dX6_call_15 : decode cX6_call 15 = .ok (.iload_n 1, 1) := by decide +kernel
theorem dX6_call_16 : decode cX6_call 16 = .ok (.iaload, 1) := by decide +kernel
theorem dX6_call_17 : decode cX6_call 17 = .ok (.iconst 2, 1) := by decide +kernel
theorem dX6_call_18 : decode cX6_call 18 = .ok (.if_icmp .ne 7, 3) := by decide +kernel
theorem dX6_call_21 : decode cX6_call 21 = .ok (.iconst 5, 1) := by decide +kernel
theorem dX6_call_22 : decode cX6_call 22 = .ok (.goto 4, 3) := by decide +kernel
theorem dX6_call_25 : decode cX6_call 25 = .ok (.iconst 4, 1) := by decide +kernel
theorem dX6_call_26 : decode cX6_call 26 = .ok (.invokevirtual 225, 3) := by decide +kernel
theorem dX6_call_29 : decode cX6_call 29 = .ok (.aload_n 0, 1) := by decide +kernel
theorem dX6_call_30 : decode cX6_call 30 = .ok (.getfield 19, 3) := by decide +kernel
theorem dX6_call_33 : decode cX6_call 33 = .ok (.iload_n 1, 1) := by decide +kernel
theorem dX6_call_34 : decode cX6_call 34 = .ok (.iaload, 1) := by decide +kernel
theorem dX6_call_35 : decode cX6_call 35 = .ok (.iconst 2, 1) := by decide +kernel
theorem dX6_call_36 : decode cX6_call 36 = .ok (.if_icmp .ne 8, 3) := by decide +kernel
theorem dX6_call_39 : decode cX6_call 39 = .ok (.bipush 80, 2) := by decide +kernel
theorem dX6_call_41 : decode cX6_call 41 = .ok (.goto 4, 3) := by decide +kernel
theorem dX6_call_44 : decode cX6_call 44 = .ok (.iload_n 1, 1) := by decide +kernel
theorem dX6_call_45 : decode cX6_call 45 = .ok (.ireturn, 1) := by decide +kernel
set_option maxRecDepth 20000 in
theorem ggX6_as_X6_isHouse : GoodIn wsX6_as wsX6_isHouse := goodIn_r _ [7, 8, 16, 17, 18, 19, 20, 21, 22, 23, 24, 25, 26, 27, 28, 29, 30, 31, 32, 33, 34, 35, 36, 37, 38, 39, 40, 41, 42, 43, 44, 45] (by decide +kernel) (by decide +kernel)
set_option maxRecDepth 20000 in
theorem gX6_as_X6_isHouse : GoodIn wsX6_as (wsV RX6 151 RX6 yX6_isHouse wsX6_isHouse) := goodIn_app (goodIn_of _ (by decide +kernel)) ggX6_as_X6_isHouse
set_option maxRecDepth 20000 in
theorem ggX6_as_X6_within : GoodIn wsX6_as wsX6_within := goodIn_r _ [11] (by decide +kernel) (by decide +kernel)
set_option maxRecDepth 20000 in
theorem gX6_as_X6_within : GoodIn wsX6_as (va_wsS RX6 64 yX6_within wsX6_within) := goodIn_app (goodIn_of _ (by decide +kernel)) ggX6_as_X6_within
set_option maxRecDepth 20000 in
theorem ggX6_as_X6_fails : GoodIn wsX6_as wsX6_fails := goodIn_r _ [15, 1, 16, 17, 18, 19, 20, 21, 22, 23, 24, 25, 26, 27, 28, 29, 30, 31, 32, 33, 34, 35, 36, 37, 38, 39, 40, 41, 42, 43, 44, 45] (by decide +kernel) (by decide +kernel)
set_option maxRecDepth 20000 in
theorem gX6_as_X6_fails : GoodIn wsX6_as (wsV RX6 92 RX6 yX6_fails wsX6_fails) := goodIn_app (goodIn_of _ (by decide +kernel)) ggX6_as_X6_fails
theorem dX6_as_0 : decode cX6_as 0 = .ok (.aload_n 0, 1) := by decide +kernel
theorem dX6_as_1 : decode cX6_as 1 = .ok (.iconst 0, 1) := by decide +kernel
theorem dX6_as_2 : decode cX6_as 2 = .ok (.putfield 58, 3) := by decide +kernel
theorem dX6_as_5 : decode cX6_as 5 = .ok (.aload_n 0, 1) := by decide +kernel
theorem dX6_as_6 : decode cX6_as 6 = .ok (.iload_n 1, 1) := by decide +kernel
theorem dX6_as_7 : decode cX6_as 7 = .ok (.invokevirtual 151, 3) := by decide +kernel
theorem dX6_as_10 : decode cX6_as 10 = .ok (.ifCond .ne 5, 3) := by decide +kernel
theorem dX6_as_13 : decode cX6_as 13 = .ok (.iconst (-1), 1) := by decide +kernel
theorem dX6_as_14 : decode cX6_as 14 = .ok (.ireturn, 1) := by decide +kernel
theorem dX6_as_15 : decode cX6_as 15 = .ok (.iload_n 2, 1) := by decide +kernel
theorem dX6_as_16 : decode cX6_as 16 = .ok (.iconst 0, 1) := by decide +kernel
theorem dX6_as_17 : decode cX6_as 17 = .ok (.iconst 2, 1) := by decide +kernel
theorem dX6_as_18 : decode cX6_as 18 = .ok (.invokestatic 64, 3) := by decide +kernel
theorem dX6_as_21 : decode cX6_as 21 = .ok (.ifCond .ne 6, 3) := by decide +kernel
theorem dX6_as_24 : decode cX6_as 24 = .ok (.bipush (-2), 2) := by decide +kernel
theorem dX6_as_26 : decode cX6_as 26 = .ok (.ireturn, 1) := by decide +kernel
theorem dX6_as_27 : decode cX6_as 27 = .ok (.aload_n 0, 1) := by decide +kernel
theorem dX6_as_28 : decode cX6_as 28 = .ok (.getfield 19, 3) := by decide +kernel
theorem dX6_as_31 : decode cX6_as 31 = .ok (.iload_n 1, 1) := by decide +kernel
theorem dX6_as_32 : decode cX6_as 32 = .ok (.iaload, 1) := by decide +kernel
theorem dX6_as_33 : decode cX6_as 33 = .ok (.iload_n 2, 1) := by decide +kernel
theorem dX6_as_34 : decode cX6_as 34 = .ok (.if_icmp .lt 7, 3) := by decide +kernel
theorem dX6_as_37 : decode cX6_as 37 = .ok (.iconst 1, 1) := by decide +kernel
theorem dX6_as_38 : decode cX6_as 38 = .ok (.goto 8, 3) := by decide +kernel
theorem dX6_as_41 : decode cX6_as 41 = .ok (.aload_n 0, 1) := by decide +kernel
theorem dX6_as_42 : decode cX6_as 42 = .ok (.iconst 2, 1) := by decide +kernel
theorem dX6_as_43 : decode cX6_as 43 = .ok (.invokevirtual 92, 3) := by decide +kernel
theorem dX6_as_46 : decode cX6_as 46 = .ok (.ireturn, 1) := by decide +kernel
theorem dX6_trace_0 : decode cX6_trace 0 = .ok (.aload_n 0, 1) := by decide +kernel
theorem dX6_trace_1 : decode cX6_trace 1 = .ok (.getfield 222, 3) := by decide +kernel
theorem dX6_trace_4 : decode cX6_trace 4 = .ok (.ireturn, 1) := by decide +kernel
theorem dX6_fault_0 : decode cX6_fault 0 = .ok (.aload_n 0, 1) := by decide +kernel
theorem dX6_fault_1 : decode cX6_fault 1 = .ok (.getfield 58, 3) := by decide +kernel
theorem dX6_fault_4 : decode cX6_fault 4 = .ok (.ireturn, 1) := by decide +kernel
theorem dX6_many_0 : decode cX6_many 0 = .ok (.iload_n 1, 1) := by decide +kernel
theorem dX6_many_1 : decode cX6_many 1 = .ok (.tableswitch 60 0 4 #[35, 40, 45, 50, 55], 35) := by decide +kernel
theorem dX6_many_36 : decode cX6_many 36 = .ok (.aload_n 0, 1) := by decide +kernel
theorem dX6_many_37 : decode cX6_many 37 = .ok (.getfield 68, 3) := by decide +kernel
theorem dX6_many_40 : decode cX6_many 40 = .ok (.ireturn, 1) := by decide +kernel
theorem dX6_many_41 : decode cX6_many 41 = .ok (.aload_n 0, 1) := by decide +kernel
theorem dX6_many_42 : decode cX6_many 42 = .ok (.getfield 71, 3) := by decide +kernel
theorem dX6_many_45 : decode cX6_many 45 = .ok (.ireturn, 1) := by decide +kernel
theorem dX6_many_46 : decode cX6_many 46 = .ok (.aload_n 0, 1) := by decide +kernel
theorem dX6_many_47 : decode cX6_many 47 = .ok (.getfield 105, 3) := by decide +kernel
theorem dX6_many_50 : decode cX6_many 50 = .ok (.ireturn, 1) := by decide +kernel
theorem dX6_many_51 : decode cX6_many 51 = .ok (.aload_n 0, 1) := by decide +kernel
theorem dX6_many_52 : decode cX6_many 52 = .ok (.getfield 117, 3) := by decide +kernel
theorem dX6_many_55 : decode cX6_many 55 = .ok (.ireturn, 1) := by decide +kernel
theorem dX6_many_56 : decode cX6_many 56 = .ok (.aload_n 0, 1) := by decide +kernel
theorem dX6_many_57 : decode cX6_many 57 = .ok (.getfield 120, 3) := by decide +kernel
theorem dX6_many_60 : decode cX6_many 60 = .ok (.ireturn, 1) := by decide +kernel
theorem dX6_many_61 : decode cX6_many 61 = .ok (.bipush (-2), 2) := by decide +kernel
theorem dX6_many_63 : decode cX6_many 63 = .ok (.ireturn, 1) := by decide +kernel
theorem dJ6_bitCount_0f7a4_0 : decode cJ6_bitCount_0f7a4 0 = .ok (.iload_n 0, 1) := by decide +kernel
theorem dJ6_bitCount_0f7a4_1 : decode cJ6_bitCount_0f7a4 1 = .ok (.iload_n 0, 1) := by decide +kernel
theorem dJ6_bitCount_0f7a4_2 : decode cJ6_bitCount_0f7a4 2 = .ok (.iconst 1, 1) := by decide +kernel
theorem dJ6_bitCount_0f7a4_3 : decode cJ6_bitCount_0f7a4 3 = .ok (.iushr, 1) := by decide +kernel
theorem dJ6_bitCount_0f7a4_4 : decode cJ6_bitCount_0f7a4 4 = .ok (.ldc_w 265, 3) := by decide +kernel
theorem dJ6_bitCount_0f7a4_7 : decode cJ6_bitCount_0f7a4 7 = .ok (.iand, 1) := by decide +kernel
theorem dJ6_bitCount_0f7a4_8 : decode cJ6_bitCount_0f7a4 8 = .ok (.isub, 1) := by decide +kernel
theorem dJ6_bitCount_0f7a4_9 : decode cJ6_bitCount_0f7a4 9 = .ok (.istore_n 0, 1) := by decide +kernel
theorem dJ6_bitCount_0f7a4_10 : decode cJ6_bitCount_0f7a4 10 = .ok (.iload_n 0, 1) := by decide +kernel
theorem dJ6_bitCount_0f7a4_11 : decode cJ6_bitCount_0f7a4 11 = .ok (.ldc_w 266, 3) := by decide +kernel
theorem dJ6_bitCount_0f7a4_14 : decode cJ6_bitCount_0f7a4 14 = .ok (.iand, 1) := by decide +kernel
theorem dJ6_bitCount_0f7a4_15 : decode cJ6_bitCount_0f7a4 15 = .ok (.iload_n 0, 1) := by decide +kernel
theorem dJ6_bitCount_0f7a4_16 : decode cJ6_bitCount_0f7a4 16 = .ok (.iconst 2, 1) := by decide +kernel
theorem dJ6_bitCount_0f7a4_17 : decode cJ6_bitCount_0f7a4 17 = .ok (.iushr, 1) := by decide +kernel
theorem dJ6_bitCount_0f7a4_18 : decode cJ6_bitCount_0f7a4 18 = .ok (.ldc_w 266, 3) := by decide +kernel
theorem dJ6_bitCount_0f7a4_21 : decode cJ6_bitCount_0f7a4 21 = .ok (.iand, 1) := by decide +kernel
theorem dJ6_bitCount_0f7a4_22 : decode cJ6_bitCount_0f7a4 22 = .ok (.iadd, 1) := by decide +kernel
theorem dJ6_bitCount_0f7a4_23 : decode cJ6_bitCount_0f7a4 23 = .ok (.istore_n 0, 1) := by decide +kernel
theorem dJ6_bitCount_0f7a4_24 : decode cJ6_bitCount_0f7a4 24 = .ok (.iload_n 0, 1) := by decide +kernel
theorem dJ6_bitCount_0f7a4_25 : decode cJ6_bitCount_0f7a4 25 = .ok (.iload_n 0, 1) := by decide +kernel
theorem dJ6_bitCount_0f7a4_26 : decode cJ6_bitCount_0f7a4 26 = .ok (.iconst 4, 1) := by decide +kernel
theorem dJ6_bitCount_0f7a4_27 : decode cJ6_bitCount_0f7a4 27 = .ok (.iushr, 1) := by decide +kernel
theorem dJ6_bitCount_0f7a4_28 : decode cJ6_bitCount_0f7a4 28 = .ok (.iadd, 1) := by decide +kernel
theorem dJ6_bitCount_0f7a4_29 : decode cJ6_bitCount_0f7a4 29 = .ok (.ldc_w 267, 3) := by decide +kernel
theorem dJ6_bitCount_0f7a4_32 : decode cJ6_bitCount_0f7a4 32 = .ok (.iand, 1) := by decide +kernel
theorem dJ6_bitCount_0f7a4_33 : decode cJ6_bitCount_0f7a4 33 = .ok (.istore_n 0, 1) := by decide +kernel
theorem dJ6_bitCount_0f7a4_34 : decode cJ6_bitCount_0f7a4 34 = .ok (.iload_n 0, 1) := by decide +kernel
theorem dJ6_bitCount_0f7a4_35 : decode cJ6_bitCount_0f7a4 35 = .ok (.iload_n 0, 1) := by decide +kernel
theorem dJ6_bitCount_0f7a4_36 : decode cJ6_bitCount_0f7a4 36 = .ok (.bipush 8, 2) := by decide +kernel
theorem dJ6_bitCount_0f7a4_38 : decode cJ6_bitCount_0f7a4 38 = .ok (.iushr, 1) := by decide +kernel
theorem dJ6_bitCount_0f7a4_39 : decode cJ6_bitCount_0f7a4 39 = .ok (.iadd, 1) := by decide +kernel
theorem dJ6_bitCount_0f7a4_40 : decode cJ6_bitCount_0f7a4 40 = .ok (.istore_n 0, 1) := by decide +kernel
theorem dJ6_bitCount_0f7a4_41 : decode cJ6_bitCount_0f7a4 41 = .ok (.iload_n 0, 1) := by decide +kernel
theorem dJ6_bitCount_0f7a4_42 : decode cJ6_bitCount_0f7a4 42 = .ok (.iload_n 0, 1) := by decide +kernel
theorem dJ6_bitCount_0f7a4_43 : decode cJ6_bitCount_0f7a4 43 = .ok (.bipush 16, 2) := by decide +kernel
theorem dJ6_bitCount_0f7a4_45 : decode cJ6_bitCount_0f7a4 45 = .ok (.iushr, 1) := by decide +kernel
theorem dJ6_bitCount_0f7a4_46 : decode cJ6_bitCount_0f7a4 46 = .ok (.iadd, 1) := by decide +kernel
theorem dJ6_bitCount_0f7a4_47 : decode cJ6_bitCount_0f7a4 47 = .ok (.istore_n 0, 1) := by decide +kernel
theorem dJ6_bitCount_0f7a4_48 : decode cJ6_bitCount_0f7a4 48 = .ok (.iload_n 0, 1) := by decide +kernel
theorem dJ6_bitCount_0f7a4_49 : decode cJ6_bitCount_0f7a4 49 = .ok (.bipush 63, 2) := by decide +kernel
theorem dJ6_bitCount_0f7a4_51 : decode cJ6_bitCount_0f7a4 51 = .ok (.iand, 1) := by decide +kernel
theorem dJ6_bitCount_0f7a4_52 : decode cJ6_bitCount_0f7a4 52 = .ok (.ireturn, 1) := by decide +kernel
theorem dJ9_abs_0f7a4_0 : decode cJ9_abs_0f7a4 0 = .ok (.iload_n 0, 1) := by decide +kernel
theorem dJ9_abs_0f7a4_1 : decode cJ9_abs_0f7a4 1 = .ok (.ifCond .ge 8, 3) := by decide +kernel
theorem dJ9_abs_0f7a4_4 : decode cJ9_abs_0f7a4 4 = .ok (.iload_n 0, 1) := by decide +kernel
theorem dJ9_abs_0f7a4_5 : decode cJ9_abs_0f7a4 5 = .ok (.ineg, 1) := by decide +kernel
theorem dJ9_abs_0f7a4_6 : decode cJ9_abs_0f7a4 6 = .ok (.goto 4, 3) := by decide +kernel
theorem dJ9_abs_0f7a4_9 : decode cJ9_abs_0f7a4 9 = .ok (.iload_n 0, 1) := by decide +kernel
theorem dJ9_abs_0f7a4_10 : decode cJ9_abs_0f7a4 10 = .ok (.ireturn, 1) := by decide +kernel
theorem dJ7_fill_53178_0 : decode cJ7_fill_53178 0 = .ok (.iconst 0, 1) := by decide +kernel
theorem dJ7_fill_53178_1 : decode cJ7_fill_53178 1 = .ok (.istore_n 2, 1) := by decide +kernel
theorem dJ7_fill_53178_2 : decode cJ7_fill_53178 2 = .ok (.aload_n 0, 1) := by decide +kernel
theorem dJ7_fill_53178_3 : decode cJ7_fill_53178 3 = .ok (.arraylength, 1) := by decide +kernel
theorem dJ7_fill_53178_4 : decode cJ7_fill_53178 4 = .ok (.istore_n 3, 1) := by decide +kernel
theorem dJ7_fill_53178_5 : decode cJ7_fill_53178 5 = .ok (.iload_n 2, 1) := by decide +kernel
theorem dJ7_fill_53178_6 : decode cJ7_fill_53178 6 = .ok (.iload_n 3, 1) := by decide +kernel
theorem dJ7_fill_53178_7 : decode cJ7_fill_53178 7 = .ok (.if_icmp .ge 13, 3) := by decide +kernel
theorem dJ7_fill_53178_10 : decode cJ7_fill_53178 10 = .ok (.aload_n 0, 1) := by decide +kernel
theorem dJ7_fill_53178_11 : decode cJ7_fill_53178 11 = .ok (.iload_n 2, 1) := by decide +kernel
theorem dJ7_fill_53178_12 : decode cJ7_fill_53178 12 = .ok (.iload_n 1, 1) := by decide +kernel
theorem dJ7_fill_53178_13 : decode cJ7_fill_53178 13 = .ok (.iastore, 1) := by decide +kernel
theorem dJ7_fill_53178_14 : decode cJ7_fill_53178 14 = .ok (.iinc 2 1, 3) := by decide +kernel
theorem dJ7_fill_53178_17 : decode cJ7_fill_53178 17 = .ok (.goto (-12), 3) := by decide +kernel
theorem dJ7_fill_53178_20 : decode cJ7_fill_53178 20 = .ok (.return_, 1) := by decide +kernel
end
