section
-- ===== PART A: goes FIRST, ahead of the names: the tables' words, and 'selects' of the private methods out of them =====
/-- a private method of a class that the tables say can be made, by its rows of tables_1 -/
def lw_okq (q : MethodName × Nat) : Prop := (q.1.cls ≠ "java/lang/invoke/MethodHandle" ∧ q.1.cls ≠ "java/lang/invoke/VarHandle") ∧ Cond.instantiable q.1.cls q.2 ∈ tables_1 ∧ Cond.privateMethod q.1 ∈ tables_1 ∧ Cond.instanceMethod q.1 ∈ tables_1
theorem lw_p0 : lw_okq (⟨"VelvetStates", "put", "(I)V"⟩, 19) := ⟨⟨by decide +kernel, by decide +kernel⟩, List.mem_of_getElem? (i := 22) (by decide +kernel), List.mem_of_getElem? (i := 400) (by decide +kernel), List.mem_of_getElem? (i := 401) (by decide +kernel)⟩
theorem lw_p1 : lw_okq (⟨"VelvetStates$RoomReader", "readClause", "()I"⟩, 6) := ⟨⟨by decide +kernel, by decide +kernel⟩, List.mem_of_getElem? (i := 30) (by decide +kernel), List.mem_of_getElem? (i := 435) (by decide +kernel), List.mem_of_getElem? (i := 436) (by decide +kernel)⟩
theorem lw_p2 : lw_okq (⟨"VelvetStates$RoomReader", "isFree", "(I)Z"⟩, 6) := ⟨⟨by decide +kernel, by decide +kernel⟩, List.mem_of_getElem? (i := 30) (by decide +kernel), List.mem_of_getElem? (i := 445) (by decide +kernel), List.mem_of_getElem? (i := 446) (by decide +kernel)⟩
theorem lw_p3 : lw_okq (⟨"VelvetStates$RoomReader", "readItems", "(II)I"⟩, 6) := ⟨⟨by decide +kernel, by decide +kernel⟩, List.mem_of_getElem? (i := 30) (by decide +kernel), List.mem_of_getElem? (i := 453) (by decide +kernel), List.mem_of_getElem? (i := 454) (by decide +kernel)⟩
theorem lw_p4 : lw_okq (⟨"VelvetStates$RoomReader", "readNumber", "(I)I"⟩, 6) := ⟨⟨by decide +kernel, by decide +kernel⟩, List.mem_of_getElem? (i := 30) (by decide +kernel), List.mem_of_getElem? (i := 465) (by decide +kernel), List.mem_of_getElem? (i := 466) (by decide +kernel)⟩
theorem lw_p5 : lw_okq (⟨"VelvetStates$Room", "laySquares", "()V"⟩, 18) := ⟨⟨by decide +kernel, by decide +kernel⟩, List.mem_of_getElem? (i := 39) (by decide +kernel), List.mem_of_getElem? (i := 493) (by decide +kernel), List.mem_of_getElem? (i := 494) (by decide +kernel)⟩
theorem lw_p6 : lw_okq (⟨"VelvetStates$Room", "hangRails", "()Z"⟩, 18) := ⟨⟨by decide +kernel, by decide +kernel⟩, List.mem_of_getElem? (i := 39) (by decide +kernel), List.mem_of_getElem? (i := 497) (by decide +kernel), List.mem_of_getElem? (i := 498) (by decide +kernel)⟩
theorem lw_p7 : lw_okq (⟨"VelvetStates$LawReader", "readClause", "()Z"⟩, 5) := ⟨⟨by decide +kernel, by decide +kernel⟩, List.mem_of_getElem? (i := 169) (by decide +kernel), List.mem_of_getElem? (i := 509) (by decide +kernel), List.mem_of_getElem? (i := 510) (by decide +kernel)⟩
theorem lw_p8 : lw_okq (⟨"VelvetStates$LawReader", "take", "(I)Z"⟩, 5) := ⟨⟨by decide +kernel, by decide +kernel⟩, List.mem_of_getElem? (i := 169) (by decide +kernel), List.mem_of_getElem? (i := 513) (by decide +kernel), List.mem_of_getElem? (i := 514) (by decide +kernel)⟩
theorem lw_p9 : lw_okq (⟨"VelvetStates$LawReader", "readSum", "(I)Z"⟩, 5) := ⟨⟨by decide +kernel, by decide +kernel⟩, List.mem_of_getElem? (i := 169) (by decide +kernel), List.mem_of_getElem? (i := 520) (by decide +kernel), List.mem_of_getElem? (i := 521) (by decide +kernel)⟩
theorem lw_p10 : lw_okq (⟨"VelvetStates$LawReader", "readTerm", "(I)Z"⟩, 5) := ⟨⟨by decide +kernel, by decide +kernel⟩, List.mem_of_getElem? (i := 169) (by decide +kernel), List.mem_of_getElem? (i := 524) (by decide +kernel), List.mem_of_getElem? (i := 525) (by decide +kernel)⟩
theorem lw_p11 : lw_okq (⟨"VelvetStates$LawReader", "readAtom", "(I)Z"⟩, 5) := ⟨⟨by decide +kernel, by decide +kernel⟩, List.mem_of_getElem? (i := 169) (by decide +kernel), List.mem_of_getElem? (i := 528) (by decide +kernel), List.mem_of_getElem? (i := 529) (by decide +kernel)⟩
theorem lw_p12 : lw_okq (⟨"VelvetStates$LawReader", "readNumber", "()Z"⟩, 5) := ⟨⟨by decide +kernel, by decide +kernel⟩, List.mem_of_getElem? (i := 169) (by decide +kernel), List.mem_of_getElem? (i := 534) (by decide +kernel), List.mem_of_getElem? (i := 535) (by decide +kernel)⟩
theorem lw_p13 : lw_okq (⟨"VelvetStates$LawReader", "write", "(II)V"⟩, 5) := ⟨⟨by decide +kernel, by decide +kernel⟩, List.mem_of_getElem? (i := 169) (by decide +kernel), List.mem_of_getElem? (i := 538) (by decide +kernel), List.mem_of_getElem? (i := 539) (by decide +kernel)⟩
theorem lw_p14 : lw_okq (⟨"VelvetStates$LawReader", "readCondition", "(IZ)Z"⟩, 5) := ⟨⟨by decide +kernel, by decide +kernel⟩, List.mem_of_getElem? (i := 169) (by decide +kernel), List.mem_of_getElem? (i := 547) (by decide +kernel), List.mem_of_getElem? (i := 548) (by decide +kernel)⟩
theorem lw_p15 : lw_okq (⟨"VelvetStates$LawReader", "readTruth", "(IZ)Z"⟩, 5) := ⟨⟨by decide +kernel, by decide +kernel⟩, List.mem_of_getElem? (i := 169) (by decide +kernel), List.mem_of_getElem? (i := 551) (by decide +kernel), List.mem_of_getElem? (i := 552) (by decide +kernel)⟩
def lw_privs_1 : List (MethodName × Nat) := [(⟨"VelvetStates", "put", "(I)V"⟩, 19), (⟨"VelvetStates$RoomReader", "readClause", "()I"⟩, 6), (⟨"VelvetStates$RoomReader", "isFree", "(I)Z"⟩, 6), (⟨"VelvetStates$RoomReader", "readItems", "(II)I"⟩, 6), (⟨"VelvetStates$RoomReader", "readNumber", "(I)I"⟩, 6), (⟨"VelvetStates$Room", "laySquares", "()V"⟩, 18), (⟨"VelvetStates$Room", "hangRails", "()Z"⟩, 18), (⟨"VelvetStates$LawReader", "readClause", "()Z"⟩, 5), (⟨"VelvetStates$LawReader", "take", "(I)Z"⟩, 5), (⟨"VelvetStates$LawReader", "readSum", "(I)Z"⟩, 5), (⟨"VelvetStates$LawReader", "readTerm", "(I)Z"⟩, 5), (⟨"VelvetStates$LawReader", "readAtom", "(I)Z"⟩, 5), (⟨"VelvetStates$LawReader", "readNumber", "()Z"⟩, 5), (⟨"VelvetStates$LawReader", "write", "(II)V"⟩, 5), (⟨"VelvetStates$LawReader", "readCondition", "(IZ)Z"⟩, 5), (⟨"VelvetStates$LawReader", "readTruth", "(IZ)Z"⟩, 5)]
theorem lw_r1 : ∀ q ∈ lw_privs_1, lw_okq q := List.forall_mem_cons.mpr ⟨lw_p0, List.forall_mem_cons.mpr ⟨lw_p1, List.forall_mem_cons.mpr ⟨lw_p2, List.forall_mem_cons.mpr ⟨lw_p3, List.forall_mem_cons.mpr ⟨lw_p4, List.forall_mem_cons.mpr ⟨lw_p5, List.forall_mem_cons.mpr ⟨lw_p6, List.forall_mem_cons.mpr ⟨lw_p7, List.forall_mem_cons.mpr ⟨lw_p8, List.forall_mem_cons.mpr ⟨lw_p9, List.forall_mem_cons.mpr ⟨lw_p10, List.forall_mem_cons.mpr ⟨lw_p11, List.forall_mem_cons.mpr ⟨lw_p12, List.forall_mem_cons.mpr ⟨lw_p13, List.forall_mem_cons.mpr ⟨lw_p14, List.forall_mem_cons.mpr ⟨lw_p15, fun _ h => absurd h List.not_mem_nil⟩⟩⟩⟩⟩⟩⟩⟩⟩⟩⟩⟩⟩⟩⟩⟩
theorem lw_p16 : lw_okq (⟨"VelvetStates$LawReader", "readUnit", "(IZ)Z"⟩, 5) := ⟨⟨by decide +kernel, by decide +kernel⟩, List.mem_of_getElem? (i := 169) (by decide +kernel), List.mem_of_getElem? (i := 555) (by decide +kernel), List.mem_of_getElem? (i := 556) (by decide +kernel)⟩
theorem lw_p17 : lw_okq (⟨"VelvetStates$LawReader", "readComparison", "(I)Z"⟩, 5) := ⟨⟨by decide +kernel, by decide +kernel⟩, List.mem_of_getElem? (i := 169) (by decide +kernel), List.mem_of_getElem? (i := 559) (by decide +kernel), List.mem_of_getElem? (i := 560) (by decide +kernel)⟩
theorem lw_p18 : lw_okq (⟨"VelvetStates$LawReader", "readAnswer", "()Z"⟩, 5) := ⟨⟨by decide +kernel, by decide +kernel⟩, List.mem_of_getElem? (i := 169) (by decide +kernel), List.mem_of_getElem? (i := 563) (by decide +kernel), List.mem_of_getElem? (i := 564) (by decide +kernel)⟩
theorem lw_p19 : lw_okq (⟨"VelvetStates", "enterSpare", "()I"⟩, 19) := ⟨⟨by decide +kernel, by decide +kernel⟩, List.mem_of_getElem? (i := 22) (by decide +kernel), List.mem_of_getElem? (i := 572) (by decide +kernel), List.mem_of_getElem? (i := 573) (by decide +kernel)⟩
theorem lw_p20 : lw_okq (⟨"VelvetStates", "hasRoom", "()Z"⟩, 19) := ⟨⟨by decide +kernel, by decide +kernel⟩, List.mem_of_getElem? (i := 22) (by decide +kernel), List.mem_of_getElem? (i := 595) (by decide +kernel), List.mem_of_getElem? (i := 596) (by decide +kernel)⟩
theorem lw_p21 : lw_okq (⟨"VelvetStates", "isCurtain", "(I)Z"⟩, 19) := ⟨⟨by decide +kernel, by decide +kernel⟩, List.mem_of_getElem? (i := 22) (by decide +kernel), List.mem_of_getElem? (i := 603) (by decide +kernel), List.mem_of_getElem? (i := 604) (by decide +kernel)⟩
theorem lw_p22 : lw_okq (⟨"VelvetStates$Laws", "worthBy", "([II)I"⟩, 7) := ⟨⟨by decide +kernel, by decide +kernel⟩, List.mem_of_getElem? (i := 187) (by decide +kernel), List.mem_of_getElem? (i := 624) (by decide +kernel), List.mem_of_getElem? (i := 625) (by decide +kernel)⟩
theorem lw_p23 : lw_okq (⟨"VelvetStates$Laws", "push", "(I)V"⟩, 7) := ⟨⟨by decide +kernel, by decide +kernel⟩, List.mem_of_getElem? (i := 187) (by decide +kernel), List.mem_of_getElem? (i := 629) (by decide +kernel), List.mem_of_getElem? (i := 630) (by decide +kernel)⟩
theorem lw_p24 : lw_okq (⟨"VelvetStates$Laws", "pop", "()I"⟩, 7) := ⟨⟨by decide +kernel, by decide +kernel⟩, List.mem_of_getElem? (i := 187) (by decide +kernel), List.mem_of_getElem? (i := 633) (by decide +kernel), List.mem_of_getElem? (i := 634) (by decide +kernel)⟩
theorem lw_p25 : lw_okq (⟨"VelvetStates", "isSquare", "(I)Z"⟩, 19) := ⟨⟨by decide +kernel, by decide +kernel⟩, List.mem_of_getElem? (i := 22) (by decide +kernel), List.mem_of_getElem? (i := 659) (by decide +kernel), List.mem_of_getElem? (i := 660) (by decide +kernel)⟩
theorem lw_p26 : lw_okq (⟨"VelvetStates", "stateAround", "(I)I"⟩, 19) := ⟨⟨by decide +kernel, by decide +kernel⟩, List.mem_of_getElem? (i := 22) (by decide +kernel), List.mem_of_getElem? (i := 663) (by decide +kernel), List.mem_of_getElem? (i := 664) (by decide +kernel)⟩
theorem lw_p27 : lw_okq (⟨"VelvetStates", "lordIn", "(I)I"⟩, 19) := ⟨⟨by decide +kernel, by decide +kernel⟩, List.mem_of_getElem? (i := 22) (by decide +kernel), List.mem_of_getElem? (i := 687) (by decide +kernel), List.mem_of_getElem? (i := 688) (by decide +kernel)⟩
theorem lw_p28 : lw_okq (⟨"VelvetStates", "shine", "(LVelvetStates$Scene;)V"⟩, 19) := ⟨⟨by decide +kernel, by decide +kernel⟩, List.mem_of_getElem? (i := 22) (by decide +kernel), List.mem_of_getElem? (i := 695) (by decide +kernel), List.mem_of_getElem? (i := 696) (by decide +kernel)⟩
theorem lw_p29 : lw_okq (⟨"VelvetStates$Light", "carry", "(LVelvetStates$Room;)Z"⟩, 4) := ⟨⟨by decide +kernel, by decide +kernel⟩, List.mem_of_getElem? (i := 299) (by decide +kernel), List.mem_of_getElem? (i := 717) (by decide +kernel), List.mem_of_getElem? (i := 718) (by decide +kernel)⟩
theorem lw_p30 : lw_okq (⟨"VelvetStates$Light", "pass", "(III)Z"⟩, 4) := ⟨⟨by decide +kernel, by decide +kernel⟩, List.mem_of_getElem? (i := 299) (by decide +kernel), List.mem_of_getElem? (i := 721) (by decide +kernel), List.mem_of_getElem? (i := 722) (by decide +kernel)⟩
theorem lw_p31 : lw_okq (⟨"VelvetStates", "bordersOf", "(I)I"⟩, 19) := ⟨⟨by decide +kernel, by decide +kernel⟩, List.mem_of_getElem? (i := 22) (by decide +kernel), List.mem_of_getElem? (i := 729) (by decide +kernel), List.mem_of_getElem? (i := 730) (by decide +kernel)⟩
def lw_privs_2 : List (MethodName × Nat) := [(⟨"VelvetStates$LawReader", "readUnit", "(IZ)Z"⟩, 5), (⟨"VelvetStates$LawReader", "readComparison", "(I)Z"⟩, 5), (⟨"VelvetStates$LawReader", "readAnswer", "()Z"⟩, 5), (⟨"VelvetStates", "enterSpare", "()I"⟩, 19), (⟨"VelvetStates", "hasRoom", "()Z"⟩, 19), (⟨"VelvetStates", "isCurtain", "(I)Z"⟩, 19), (⟨"VelvetStates$Laws", "worthBy", "([II)I"⟩, 7), (⟨"VelvetStates$Laws", "push", "(I)V"⟩, 7), (⟨"VelvetStates$Laws", "pop", "()I"⟩, 7), (⟨"VelvetStates", "isSquare", "(I)Z"⟩, 19), (⟨"VelvetStates", "stateAround", "(I)I"⟩, 19), (⟨"VelvetStates", "lordIn", "(I)I"⟩, 19), (⟨"VelvetStates", "shine", "(LVelvetStates$Scene;)V"⟩, 19), (⟨"VelvetStates$Light", "carry", "(LVelvetStates$Room;)Z"⟩, 4), (⟨"VelvetStates$Light", "pass", "(III)Z"⟩, 4), (⟨"VelvetStates", "bordersOf", "(I)I"⟩, 19)]
theorem lw_r2 : ∀ q ∈ lw_privs_2, lw_okq q := List.forall_mem_cons.mpr ⟨lw_p16, List.forall_mem_cons.mpr ⟨lw_p17, List.forall_mem_cons.mpr ⟨lw_p18, List.forall_mem_cons.mpr ⟨lw_p19, List.forall_mem_cons.mpr ⟨lw_p20, List.forall_mem_cons.mpr ⟨lw_p21, List.forall_mem_cons.mpr ⟨lw_p22, List.forall_mem_cons.mpr ⟨lw_p23, List.forall_mem_cons.mpr ⟨lw_p24, List.forall_mem_cons.mpr ⟨lw_p25, List.forall_mem_cons.mpr ⟨lw_p26, List.forall_mem_cons.mpr ⟨lw_p27, List.forall_mem_cons.mpr ⟨lw_p28, List.forall_mem_cons.mpr ⟨lw_p29, List.forall_mem_cons.mpr ⟨lw_p30, List.forall_mem_cons.mpr ⟨lw_p31, fun _ h => absurd h List.not_mem_nil⟩⟩⟩⟩⟩⟩⟩⟩⟩⟩⟩⟩⟩⟩⟩⟩
theorem lw_p32 : lw_okq (⟨"VelvetStates", "isPerson", "(I)Z"⟩, 19) := ⟨⟨by decide +kernel, by decide +kernel⟩, List.mem_of_getElem? (i := 22) (by decide +kernel), List.mem_of_getElem? (i := 737) (by decide +kernel), List.mem_of_getElem? (i := 738) (by decide +kernel)⟩
theorem lw_p33 : lw_okq (⟨"VelvetStates", "refuse", "(I)I"⟩, 19) := ⟨⟨by decide +kernel, by decide +kernel⟩, List.mem_of_getElem? (i := 22) (by decide +kernel), List.mem_of_getElem? (i := 741) (by decide +kernel), List.mem_of_getElem? (i := 742) (by decide +kernel)⟩
theorem lw_p34 : lw_okq (⟨"VelvetStates", "rightsOf", "(I)I"⟩, 19) := ⟨⟨by decide +kernel, by decide +kernel⟩, List.mem_of_getElem? (i := 22) (by decide +kernel), List.mem_of_getElem? (i := 746) (by decide +kernel), List.mem_of_getElem? (i := 747) (by decide +kernel)⟩
theorem lw_p35 : lw_okq (⟨"VelvetStates", "statesOf", "(LVelvetStates$Scene;)I"⟩, 19) := ⟨⟨by decide +kernel, by decide +kernel⟩, List.mem_of_getElem? (i := 22) (by decide +kernel), List.mem_of_getElem? (i := 760) (by decide +kernel), List.mem_of_getElem? (i := 761) (by decide +kernel)⟩
theorem lw_p36 : lw_okq (⟨"VelvetStates", "besides", "(I)I"⟩, 19) := ⟨⟨by decide +kernel, by decide +kernel⟩, List.mem_of_getElem? (i := 22) (by decide +kernel), List.mem_of_getElem? (i := 781) (by decide +kernel), List.mem_of_getElem? (i := 782) (by decide +kernel)⟩
theorem lw_p37 : lw_okq (⟨"VelvetStates", "liveYear", "()V"⟩, 19) := ⟨⟨by decide +kernel, by decide +kernel⟩, List.mem_of_getElem? (i := 22) (by decide +kernel), List.mem_of_getElem? (i := 793) (by decide +kernel), List.mem_of_getElem? (i := 794) (by decide +kernel)⟩
theorem lw_p38 : lw_okq (⟨"VelvetStates", "drawCurtains", "()V"⟩, 19) := ⟨⟨by decide +kernel, by decide +kernel⟩, List.mem_of_getElem? (i := 22) (by decide +kernel), List.mem_of_getElem? (i := 826) (by decide +kernel), List.mem_of_getElem? (i := 827) (by decide +kernel)⟩
theorem lw_p39 : lw_okq (⟨"VelvetStates", "draw", "(I)I"⟩, 19) := ⟨⟨by decide +kernel, by decide +kernel⟩, List.mem_of_getElem? (i := 22) (by decide +kernel), List.mem_of_getElem? (i := 830) (by decide +kernel), List.mem_of_getElem? (i := 831) (by decide +kernel)⟩
theorem lw_p40 : lw_okq (⟨"VelvetStates", "drawPerson", "()V"⟩, 19) := ⟨⟨by decide +kernel, by decide +kernel⟩, List.mem_of_getElem? (i := 22) (by decide +kernel), List.mem_of_getElem? (i := 838) (by decide +kernel), List.mem_of_getElem? (i := 839) (by decide +kernel)⟩
theorem lw_p41 : lw_okq (⟨"VelvetStates", "logged", "()I"⟩, 19) := ⟨⟨by decide +kernel, by decide +kernel⟩, List.mem_of_getElem? (i := 22) (by decide +kernel), List.mem_of_getElem? (i := 862) (by decide +kernel), List.mem_of_getElem? (i := 863) (by decide +kernel)⟩
theorem lw_p42 : lw_okq (⟨"VelvetStates", "areSquares", "(I)Z"⟩, 19) := ⟨⟨by decide +kernel, by decide +kernel⟩, List.mem_of_getElem? (i := 22) (by decide +kernel), List.mem_of_getElem? (i := 876) (by decide +kernel), List.mem_of_getElem? (i := 877) (by decide +kernel)⟩
theorem lw_p43 : lw_okq (⟨"VelvetStates", "brightWith", "(IIII)I"⟩, 19) := ⟨⟨by decide +kernel, by decide +kernel⟩, List.mem_of_getElem? (i := 22) (by decide +kernel), List.mem_of_getElem? (i := 894) (by decide +kernel), List.mem_of_getElem? (i := 895) (by decide +kernel)⟩
theorem lw_p44 : lw_okq (⟨"VelvetStates", "wideEnough", "(I)I"⟩, 19) := ⟨⟨by decide +kernel, by decide +kernel⟩, List.mem_of_getElem? (i := 22) (by decide +kernel), List.mem_of_getElem? (i := 910) (by decide +kernel), List.mem_of_getElem? (i := 911) (by decide +kernel)⟩
theorem lw_p45 : lw_okq (⟨"VelvetStates", "beyond", "(II)I"⟩, 19) := ⟨⟨by decide +kernel, by decide +kernel⟩, List.mem_of_getElem? (i := 22) (by decide +kernel), List.mem_of_getElem? (i := 914) (by decide +kernel), List.mem_of_getElem? (i := 915) (by decide +kernel)⟩
theorem lw_p46 : lw_okq (⟨"VelvetStates", "arePlayers", "(II)Z"⟩, 19) := ⟨⟨by decide +kernel, by decide +kernel⟩, List.mem_of_getElem? (i := 22) (by decide +kernel), List.mem_of_getElem? (i := 942) (by decide +kernel), List.mem_of_getElem? (i := 943) (by decide +kernel)⟩
theorem lw_p47 : lw_okq (⟨"VelvetStates", "shareOf", "(I)I"⟩, 19) := ⟨⟨by decide +kernel, by decide +kernel⟩, List.mem_of_getElem? (i := 22) (by decide +kernel), List.mem_of_getElem? (i := 947) (by decide +kernel), List.mem_of_getElem? (i := 948) (by decide +kernel)⟩
def lw_privs_3 : List (MethodName × Nat) := [(⟨"VelvetStates", "isPerson", "(I)Z"⟩, 19), (⟨"VelvetStates", "refuse", "(I)I"⟩, 19), (⟨"VelvetStates", "rightsOf", "(I)I"⟩, 19), (⟨"VelvetStates", "statesOf", "(LVelvetStates$Scene;)I"⟩, 19), (⟨"VelvetStates", "besides", "(I)I"⟩, 19), (⟨"VelvetStates", "liveYear", "()V"⟩, 19), (⟨"VelvetStates", "drawCurtains", "()V"⟩, 19), (⟨"VelvetStates", "draw", "(I)I"⟩, 19), (⟨"VelvetStates", "drawPerson", "()V"⟩, 19), (⟨"VelvetStates", "logged", "()I"⟩, 19), (⟨"VelvetStates", "areSquares", "(I)Z"⟩, 19), (⟨"VelvetStates", "brightWith", "(IIII)I"⟩, 19), (⟨"VelvetStates", "wideEnough", "(I)I"⟩, 19), (⟨"VelvetStates", "beyond", "(II)I"⟩, 19), (⟨"VelvetStates", "arePlayers", "(II)Z"⟩, 19), (⟨"VelvetStates", "shareOf", "(I)I"⟩, 19)]
theorem lw_r3 : ∀ q ∈ lw_privs_3, lw_okq q := List.forall_mem_cons.mpr ⟨lw_p32, List.forall_mem_cons.mpr ⟨lw_p33, List.forall_mem_cons.mpr ⟨lw_p34, List.forall_mem_cons.mpr ⟨lw_p35, List.forall_mem_cons.mpr ⟨lw_p36, List.forall_mem_cons.mpr ⟨lw_p37, List.forall_mem_cons.mpr ⟨lw_p38, List.forall_mem_cons.mpr ⟨lw_p39, List.forall_mem_cons.mpr ⟨lw_p40, List.forall_mem_cons.mpr ⟨lw_p41, List.forall_mem_cons.mpr ⟨lw_p42, List.forall_mem_cons.mpr ⟨lw_p43, List.forall_mem_cons.mpr ⟨lw_p44, List.forall_mem_cons.mpr ⟨lw_p45, List.forall_mem_cons.mpr ⟨lw_p46, List.forall_mem_cons.mpr ⟨lw_p47, fun _ h => absurd h List.not_mem_nil⟩⟩⟩⟩⟩⟩⟩⟩⟩⟩⟩⟩⟩⟩⟩⟩
theorem lw_p48 : lw_okq (⟨"VelvetStates", "playAll", "(II)V"⟩, 19) := ⟨⟨by decide +kernel, by decide +kernel⟩, List.mem_of_getElem? (i := 22) (by decide +kernel), List.mem_of_getElem? (i := 955) (by decide +kernel), List.mem_of_getElem? (i := 956) (by decide +kernel)⟩
theorem lw_p49 : lw_okq (⟨"VelvetStates", "canLean", "(I)Z"⟩, 19) := ⟨⟨by decide +kernel, by decide +kernel⟩, List.mem_of_getElem? (i := 22) (by decide +kernel), List.mem_of_getElem? (i := 989) (by decide +kernel), List.mem_of_getElem? (i := 990) (by decide +kernel)⟩
theorem lw_p50 : lw_okq (⟨"VelvetStates", "fits", "(II)Z"⟩, 19) := ⟨⟨by decide +kernel, by decide +kernel⟩, List.mem_of_getElem? (i := 22) (by decide +kernel), List.mem_of_getElem? (i := 997) (by decide +kernel), List.mem_of_getElem? (i := 998) (by decide +kernel)⟩
theorem lw_p51 : lw_okq (⟨"VelvetStates", "leanedOnBy", "(I)I"⟩, 19) := ⟨⟨by decide +kernel, by decide +kernel⟩, List.mem_of_getElem? (i := 22) (by decide +kernel), List.mem_of_getElem? (i := 1001) (by decide +kernel), List.mem_of_getElem? (i := 1002) (by decide +kernel)⟩
theorem lw_p52 : lw_okq (⟨"VelvetStates", "apartBy", "(II)I"⟩, 19) := ⟨⟨by decide +kernel, by decide +kernel⟩, List.mem_of_getElem? (i := 22) (by decide +kernel), List.mem_of_getElem? (i := 1014) (by decide +kernel), List.mem_of_getElem? (i := 1015) (by decide +kernel)⟩
theorem lw_p53 : lw_okq (⟨"java/lang/Throwable", "fillInStackTrace", "(I)Ljava/lang/Throwable;"⟩, 6) := ⟨⟨by decide +kernel, by decide +kernel⟩, List.mem_of_getElem? (i := 1110) (by decide +kernel), List.mem_of_getElem? (i := 1108) (by decide +kernel), List.mem_of_getElem? (i := 1109) (by decide +kernel)⟩
theorem lw_p54 : lw_okq (⟨"VelvetStatesModel", "readRoom", "()I"⟩, 47) := ⟨⟨by decide +kernel, by decide +kernel⟩, List.mem_of_getElem? (i := 1135) (by decide +kernel), List.mem_of_getElem? (i := 1303) (by decide +kernel), List.mem_of_getElem? (i := 1304) (by decide +kernel)⟩
theorem lw_p55 : lw_okq (⟨"VelvetStatesModel", "look", "()I"⟩, 47) := ⟨⟨by decide +kernel, by decide +kernel⟩, List.mem_of_getElem? (i := 1135) (by decide +kernel), List.mem_of_getElem? (i := 1310) (by decide +kernel), List.mem_of_getElem? (i := 1311) (by decide +kernel)⟩
theorem lw_p56 : lw_okq (⟨"VelvetStatesModel", "here", "()I"⟩, 47) := ⟨⟨by decide +kernel, by decide +kernel⟩, List.mem_of_getElem? (i := 1135) (by decide +kernel), List.mem_of_getElem? (i := 1314) (by decide +kernel), List.mem_of_getElem? (i := 1315) (by decide +kernel)⟩
theorem lw_p57 : lw_okq (⟨"VelvetStatesModel", "items", "(I[III)V"⟩, 47) := ⟨⟨by decide +kernel, by decide +kernel⟩, List.mem_of_getElem? (i := 1135) (by decide +kernel), List.mem_of_getElem? (i := 1318) (by decide +kernel), List.mem_of_getElem? (i := 1319) (by decide +kernel)⟩
theorem lw_p58 : lw_okq (⟨"VelvetStatesModel", "number", "(II)I"⟩, 47) := ⟨⟨by decide +kernel, by decide +kernel⟩, List.mem_of_getElem? (i := 1135) (by decide +kernel), List.mem_of_getElem? (i := 1334) (by decide +kernel), List.mem_of_getElem? (i := 1335) (by decide +kernel)⟩
theorem lw_p59 : lw_okq (⟨"VelvetStatesModel", "bad", "()V"⟩, 47) := ⟨⟨by decide +kernel, by decide +kernel⟩, List.mem_of_getElem? (i := 1135) (by decide +kernel), List.mem_of_getElem? (i := 1341) (by decide +kernel), List.mem_of_getElem? (i := 1342) (by decide +kernel)⟩
theorem lw_p60 : lw_okq (⟨"VelvetStatesModel", "isWhole", "()Z"⟩, 47) := ⟨⟨by decide +kernel, by decide +kernel⟩, List.mem_of_getElem? (i := 1135) (by decide +kernel), List.mem_of_getElem? (i := 1348) (by decide +kernel), List.mem_of_getElem? (i := 1349) (by decide +kernel)⟩
theorem lw_p61 : lw_okq (⟨"VelvetStatesModel", "readLaw", "(I)I"⟩, 47) := ⟨⟨by decide +kernel, by decide +kernel⟩, List.mem_of_getElem? (i := 1135) (by decide +kernel), List.mem_of_getElem? (i := 1352) (by decide +kernel), List.mem_of_getElem? (i := 1353) (by decide +kernel)⟩
theorem lw_p62 : lw_okq (⟨"VelvetStatesModel", "open", "(I)V"⟩, 47) := ⟨⟨by decide +kernel, by decide +kernel⟩, List.mem_of_getElem? (i := 1135) (by decide +kernel), List.mem_of_getElem? (i := 1356) (by decide +kernel), List.mem_of_getElem? (i := 1357) (by decide +kernel)⟩
theorem lw_p63 : lw_okq (⟨"VelvetStatesModel", "clause", "()V"⟩, 47) := ⟨⟨by decide +kernel, by decide +kernel⟩, List.mem_of_getElem? (i := 1135) (by decide +kernel), List.mem_of_getElem? (i := 1360) (by decide +kernel), List.mem_of_getElem? (i := 1361) (by decide +kernel)⟩
def lw_privs_4 : List (MethodName × Nat) := [(⟨"VelvetStates", "playAll", "(II)V"⟩, 19), (⟨"VelvetStates", "canLean", "(I)Z"⟩, 19), (⟨"VelvetStates", "fits", "(II)Z"⟩, 19), (⟨"VelvetStates", "leanedOnBy", "(I)I"⟩, 19), (⟨"VelvetStates", "apartBy", "(II)I"⟩, 19), (⟨"java/lang/Throwable", "fillInStackTrace", "(I)Ljava/lang/Throwable;"⟩, 6), (⟨"VelvetStatesModel", "readRoom", "()I"⟩, 47), (⟨"VelvetStatesModel", "look", "()I"⟩, 47), (⟨"VelvetStatesModel", "here", "()I"⟩, 47), (⟨"VelvetStatesModel", "items", "(I[III)V"⟩, 47), (⟨"VelvetStatesModel", "number", "(II)I"⟩, 47), (⟨"VelvetStatesModel", "bad", "()V"⟩, 47), (⟨"VelvetStatesModel", "isWhole", "()Z"⟩, 47), (⟨"VelvetStatesModel", "readLaw", "(I)I"⟩, 47), (⟨"VelvetStatesModel", "open", "(I)V"⟩, 47), (⟨"VelvetStatesModel", "clause", "()V"⟩, 47)]
theorem lw_r4 : ∀ q ∈ lw_privs_4, lw_okq q := List.forall_mem_cons.mpr ⟨lw_p48, List.forall_mem_cons.mpr ⟨lw_p49, List.forall_mem_cons.mpr ⟨lw_p50, List.forall_mem_cons.mpr ⟨lw_p51, List.forall_mem_cons.mpr ⟨lw_p52, List.forall_mem_cons.mpr ⟨lw_p53, List.forall_mem_cons.mpr ⟨lw_p54, List.forall_mem_cons.mpr ⟨lw_p55, List.forall_mem_cons.mpr ⟨lw_p56, List.forall_mem_cons.mpr ⟨lw_p57, List.forall_mem_cons.mpr ⟨lw_p58, List.forall_mem_cons.mpr ⟨lw_p59, List.forall_mem_cons.mpr ⟨lw_p60, List.forall_mem_cons.mpr ⟨lw_p61, List.forall_mem_cons.mpr ⟨lw_p62, List.forall_mem_cons.mpr ⟨lw_p63, fun _ h => absurd h List.not_mem_nil⟩⟩⟩⟩⟩⟩⟩⟩⟩⟩⟩⟩⟩⟩⟩⟩
theorem lw_p64 : lw_okq (⟨"VelvetStatesModel", "condition", "()V"⟩, 47) := ⟨⟨by decide +kernel, by decide +kernel⟩, List.mem_of_getElem? (i := 1135) (by decide +kernel), List.mem_of_getElem? (i := 1364) (by decide +kernel), List.mem_of_getElem? (i := 1365) (by decide +kernel)⟩
theorem lw_p65 : lw_okq (⟨"VelvetStatesModel", "unit", "()V"⟩, 47) := ⟨⟨by decide +kernel, by decide +kernel⟩, List.mem_of_getElem? (i := 1135) (by decide +kernel), List.mem_of_getElem? (i := 1368) (by decide +kernel), List.mem_of_getElem? (i := 1369) (by decide +kernel)⟩
theorem lw_p66 : lw_okq (⟨"VelvetStatesModel", "opens", "()V"⟩, 47) := ⟨⟨by decide +kernel, by decide +kernel⟩, List.mem_of_getElem? (i := 1135) (by decide +kernel), List.mem_of_getElem? (i := 1372) (by decide +kernel), List.mem_of_getElem? (i := 1373) (by decide +kernel)⟩
theorem lw_p67 : lw_okq (⟨"VelvetStatesModel", "put", "(II)V"⟩, 47) := ⟨⟨by decide +kernel, by decide +kernel⟩, List.mem_of_getElem? (i := 1135) (by decide +kernel), List.mem_of_getElem? (i := 1376) (by decide +kernel), List.mem_of_getElem? (i := 1377) (by decide +kernel)⟩
theorem lw_p68 : lw_okq (⟨"VelvetStatesModel", "closes", "(I)V"⟩, 47) := ⟨⟨by decide +kernel, by decide +kernel⟩, List.mem_of_getElem? (i := 1135) (by decide +kernel), List.mem_of_getElem? (i := 1380) (by decide +kernel), List.mem_of_getElem? (i := 1381) (by decide +kernel)⟩
theorem lw_p69 : lw_okq (⟨"VelvetStatesModel", "sum", "()V"⟩, 47) := ⟨⟨by decide +kernel, by decide +kernel⟩, List.mem_of_getElem? (i := 1135) (by decide +kernel), List.mem_of_getElem? (i := 1384) (by decide +kernel), List.mem_of_getElem? (i := 1385) (by decide +kernel)⟩
theorem lw_p70 : lw_okq (⟨"VelvetStatesModel", "term", "()V"⟩, 47) := ⟨⟨by decide +kernel, by decide +kernel⟩, List.mem_of_getElem? (i := 1135) (by decide +kernel), List.mem_of_getElem? (i := 1388) (by decide +kernel), List.mem_of_getElem? (i := 1389) (by decide +kernel)⟩
theorem lw_p71 : lw_okq (⟨"VelvetStatesModel", "atom", "()V"⟩, 47) := ⟨⟨by decide +kernel, by decide +kernel⟩, List.mem_of_getElem? (i := 1135) (by decide +kernel), List.mem_of_getElem? (i := 1392) (by decide +kernel), List.mem_of_getElem? (i := 1393) (by decide +kernel)⟩
theorem lw_p72 : lw_okq (⟨"VelvetStatesModel", "plainNumber", "()I"⟩, 47) := ⟨⟨by decide +kernel, by decide +kernel⟩, List.mem_of_getElem? (i := 1135) (by decide +kernel), List.mem_of_getElem? (i := 1396) (by decide +kernel), List.mem_of_getElem? (i := 1397) (by decide +kernel)⟩
theorem lw_p73 : lw_okq (⟨"VelvetStatesModel", "compare", "()V"⟩, 47) := ⟨⟨by decide +kernel, by decide +kernel⟩, List.mem_of_getElem? (i := 1135) (by decide +kernel), List.mem_of_getElem? (i := 1403) (by decide +kernel), List.mem_of_getElem? (i := 1404) (by decide +kernel)⟩
theorem lw_p74 : lw_okq (⟨"VelvetStatesModel", "goOnAnd", "()V"⟩, 47) := ⟨⟨by decide +kernel, by decide +kernel⟩, List.mem_of_getElem? (i := 1135) (by decide +kernel), List.mem_of_getElem? (i := 1410) (by decide +kernel), List.mem_of_getElem? (i := 1411) (by decide +kernel)⟩
theorem lw_p75 : lw_okq (⟨"VelvetStatesModel", "goOnOr", "()V"⟩, 47) := ⟨⟨by decide +kernel, by decide +kernel⟩, List.mem_of_getElem? (i := 1135) (by decide +kernel), List.mem_of_getElem? (i := 1414) (by decide +kernel), List.mem_of_getElem? (i := 1415) (by decide +kernel)⟩
theorem lw_p76 : lw_okq (⟨"VelvetStatesModel", "atEnd", "()I"⟩, 47) := ⟨⟨by decide +kernel, by decide +kernel⟩, List.mem_of_getElem? (i := 1135) (by decide +kernel), List.mem_of_getElem? (i := 1418) (by decide +kernel), List.mem_of_getElem? (i := 1419) (by decide +kernel)⟩
theorem lw_p77 : lw_okq (⟨"VelvetStatesModel", "takeRoom", "()I"⟩, 47) := ⟨⟨by decide +kernel, by decide +kernel⟩, List.mem_of_getElem? (i := 1135) (by decide +kernel), List.mem_of_getElem? (i := 1426) (by decide +kernel), List.mem_of_getElem? (i := 1427) (by decide +kernel)⟩
theorem lw_p78 : lw_okq (⟨"VelvetStatesModel", "of", "(II)I"⟩, 47) := ⟨⟨by decide +kernel, by decide +kernel⟩, List.mem_of_getElem? (i := 1135) (by decide +kernel), List.mem_of_getElem? (i := 1430) (by decide +kernel), List.mem_of_getElem? (i := 1431) (by decide +kernel)⟩
theorem lw_p79 : lw_okq (⟨"VelvetStatesModel", "beside", "(II)I"⟩, 47) := ⟨⟨by decide +kernel, by decide +kernel⟩, List.mem_of_getElem? (i := 1135) (by decide +kernel), List.mem_of_getElem? (i := 1434) (by decide +kernel), List.mem_of_getElem? (i := 1435) (by decide +kernel)⟩
def lw_privs_5 : List (MethodName × Nat) := [(⟨"VelvetStatesModel", "condition", "()V"⟩, 47), (⟨"VelvetStatesModel", "unit", "()V"⟩, 47), (⟨"VelvetStatesModel", "opens", "()V"⟩, 47), (⟨"VelvetStatesModel", "put", "(II)V"⟩, 47), (⟨"VelvetStatesModel", "closes", "(I)V"⟩, 47), (⟨"VelvetStatesModel", "sum", "()V"⟩, 47), (⟨"VelvetStatesModel", "term", "()V"⟩, 47), (⟨"VelvetStatesModel", "atom", "()V"⟩, 47), (⟨"VelvetStatesModel", "plainNumber", "()I"⟩, 47), (⟨"VelvetStatesModel", "compare", "()V"⟩, 47), (⟨"VelvetStatesModel", "goOnAnd", "()V"⟩, 47), (⟨"VelvetStatesModel", "goOnOr", "()V"⟩, 47), (⟨"VelvetStatesModel", "atEnd", "()I"⟩, 47), (⟨"VelvetStatesModel", "takeRoom", "()I"⟩, 47), (⟨"VelvetStatesModel", "of", "(II)I"⟩, 47), (⟨"VelvetStatesModel", "beside", "(II)I"⟩, 47)]
theorem lw_r5 : ∀ q ∈ lw_privs_5, lw_okq q := List.forall_mem_cons.mpr ⟨lw_p64, List.forall_mem_cons.mpr ⟨lw_p65, List.forall_mem_cons.mpr ⟨lw_p66, List.forall_mem_cons.mpr ⟨lw_p67, List.forall_mem_cons.mpr ⟨lw_p68, List.forall_mem_cons.mpr ⟨lw_p69, List.forall_mem_cons.mpr ⟨lw_p70, List.forall_mem_cons.mpr ⟨lw_p71, List.forall_mem_cons.mpr ⟨lw_p72, List.forall_mem_cons.mpr ⟨lw_p73, List.forall_mem_cons.mpr ⟨lw_p74, List.forall_mem_cons.mpr ⟨lw_p75, List.forall_mem_cons.mpr ⟨lw_p76, List.forall_mem_cons.mpr ⟨lw_p77, List.forall_mem_cons.mpr ⟨lw_p78, List.forall_mem_cons.mpr ⟨lw_p79, fun _ h => absurd h List.not_mem_nil⟩⟩⟩⟩⟩⟩⟩⟩⟩⟩⟩⟩⟩⟩⟩⟩
theorem lw_p80 : lw_okq (⟨"VelvetStatesModel", "between", "(II)I"⟩, 47) := ⟨⟨by decide +kernel, by decide +kernel⟩, List.mem_of_getElem? (i := 1135) (by decide +kernel), List.mem_of_getElem? (i := 1438) (by decide +kernel), List.mem_of_getElem? (i := 1439) (by decide +kernel)⟩
theorem lw_p81 : lw_okq (⟨"VelvetStatesModel", "firstSide", "(I)I"⟩, 47) := ⟨⟨by decide +kernel, by decide +kernel⟩, List.mem_of_getElem? (i := 1135) (by decide +kernel), List.mem_of_getElem? (i := 1442) (by decide +kernel), List.mem_of_getElem? (i := 1443) (by decide +kernel)⟩
theorem lw_p82 : lw_okq (⟨"VelvetStatesModel", "secondSide", "(I)I"⟩, 47) := ⟨⟨by decide +kernel, by decide +kernel⟩, List.mem_of_getElem? (i := 1135) (by decide +kernel), List.mem_of_getElem? (i := 1447) (by decide +kernel), List.mem_of_getElem? (i := 1448) (by decide +kernel)⟩
theorem lw_p83 : lw_okq (⟨"VelvetStatesModel", "isCurtain", "(I)Z"⟩, 47) := ⟨⟨by decide +kernel, by decide +kernel⟩, List.mem_of_getElem? (i := 1135) (by decide +kernel), List.mem_of_getElem? (i := 1460) (by decide +kernel), List.mem_of_getElem? (i := 1461) (by decide +kernel)⟩
theorem lw_p84 : lw_okq (⟨"VelvetStatesModel", "hangs", "(I)Z"⟩, 47) := ⟨⟨by decide +kernel, by decide +kernel⟩, List.mem_of_getElem? (i := 1135) (by decide +kernel), List.mem_of_getElem? (i := 1464) (by decide +kernel), List.mem_of_getElem? (i := 1465) (by decide +kernel)⟩
theorem lw_p85 : lw_okq (⟨"VelvetStatesModel", "isFallen", "(I)Z"⟩, 47) := ⟨⟨by decide +kernel, by decide +kernel⟩, List.mem_of_getElem? (i := 1135) (by decide +kernel), List.mem_of_getElem? (i := 1468) (by decide +kernel), List.mem_of_getElem? (i := 1469) (by decide +kernel)⟩
theorem lw_p86 : lw_okq (⟨"VelvetStatesModel", "takes", "(I)I"⟩, 47) := ⟨⟨by decide +kernel, by decide +kernel⟩, List.mem_of_getElem? (i := 1135) (by decide +kernel), List.mem_of_getElem? (i := 1472) (by decide +kernel), List.mem_of_getElem? (i := 1473) (by decide +kernel)⟩
theorem lw_p87 : lw_okq (⟨"VelvetStatesModel", "worthOf", "(I)I"⟩, 47) := ⟨⟨by decide +kernel, by decide +kernel⟩, List.mem_of_getElem? (i := 1135) (by decide +kernel), List.mem_of_getElem? (i := 1476) (by decide +kernel), List.mem_of_getElem? (i := 1477) (by decide +kernel)⟩
theorem lw_p88 : lw_okq (⟨"VelvetStatesModel", "workOut", "(III)I"⟩, 47) := ⟨⟨by decide +kernel, by decide +kernel⟩, List.mem_of_getElem? (i := 1135) (by decide +kernel), List.mem_of_getElem? (i := 1480) (by decide +kernel), List.mem_of_getElem? (i := 1481) (by decide +kernel)⟩
theorem lw_p89 : lw_okq (⟨"VelvetStatesModel", "isPerson", "(I)Z"⟩, 47) := ⟨⟨by decide +kernel, by decide +kernel⟩, List.mem_of_getElem? (i := 1135) (by decide +kernel), List.mem_of_getElem? (i := 1502) (by decide +kernel), List.mem_of_getElem? (i := 1503) (by decide +kernel)⟩
theorem lw_p90 : lw_okq (⟨"VelvetStatesModel", "stateOf", "(I)I"⟩, 47) := ⟨⟨by decide +kernel, by decide +kernel⟩, List.mem_of_getElem? (i := 1135) (by decide +kernel), List.mem_of_getElem? (i := 1506) (by decide +kernel), List.mem_of_getElem? (i := 1507) (by decide +kernel)⟩
theorem lw_p91 : lw_okq (⟨"VelvetStatesModel", "hanging", "()I"⟩, 47) := ⟨⟨by decide +kernel, by decide +kernel⟩, List.mem_of_getElem? (i := 1135) (by decide +kernel), List.mem_of_getElem? (i := 1510) (by decide +kernel), List.mem_of_getElem? (i := 1511) (by decide +kernel)⟩
theorem lw_p92 : lw_okq (⟨"VelvetStatesModel", "joinedBy", "(II)I"⟩, 47) := ⟨⟨by decide +kernel, by decide +kernel⟩, List.mem_of_getElem? (i := 1135) (by decide +kernel), List.mem_of_getElem? (i := 1514) (by decide +kernel), List.mem_of_getElem? (i := 1515) (by decide +kernel)⟩
theorem lw_p93 : lw_okq (⟨"VelvetStatesModel", "nameOf", "(I)I"⟩, 47) := ⟨⟨by decide +kernel, by decide +kernel⟩, List.mem_of_getElem? (i := 1135) (by decide +kernel), List.mem_of_getElem? (i := 1518) (by decide +kernel), List.mem_of_getElem? (i := 1519) (by decide +kernel)⟩
theorem lw_p94 : lw_okq (⟨"VelvetStatesModel", "lordOf", "(I)I"⟩, 47) := ⟨⟨by decide +kernel, by decide +kernel⟩, List.mem_of_getElem? (i := 1135) (by decide +kernel), List.mem_of_getElem? (i := 1523) (by decide +kernel), List.mem_of_getElem? (i := 1524) (by decide +kernel)⟩
theorem lw_p95 : lw_okq (⟨"VelvetStatesModel", "isSquare", "(I)Z"⟩, 47) := ⟨⟨by decide +kernel, by decide +kernel⟩, List.mem_of_getElem? (i := 1135) (by decide +kernel), List.mem_of_getElem? (i := 1535) (by decide +kernel), List.mem_of_getElem? (i := 1536) (by decide +kernel)⟩
def lw_privs_6 : List (MethodName × Nat) := [(⟨"VelvetStatesModel", "between", "(II)I"⟩, 47), (⟨"VelvetStatesModel", "firstSide", "(I)I"⟩, 47), (⟨"VelvetStatesModel", "secondSide", "(I)I"⟩, 47), (⟨"VelvetStatesModel", "isCurtain", "(I)Z"⟩, 47), (⟨"VelvetStatesModel", "hangs", "(I)Z"⟩, 47), (⟨"VelvetStatesModel", "isFallen", "(I)Z"⟩, 47), (⟨"VelvetStatesModel", "takes", "(I)I"⟩, 47), (⟨"VelvetStatesModel", "worthOf", "(I)I"⟩, 47), (⟨"VelvetStatesModel", "workOut", "(III)I"⟩, 47), (⟨"VelvetStatesModel", "isPerson", "(I)Z"⟩, 47), (⟨"VelvetStatesModel", "stateOf", "(I)I"⟩, 47), (⟨"VelvetStatesModel", "hanging", "()I"⟩, 47), (⟨"VelvetStatesModel", "joinedBy", "(II)I"⟩, 47), (⟨"VelvetStatesModel", "nameOf", "(I)I"⟩, 47), (⟨"VelvetStatesModel", "lordOf", "(I)I"⟩, 47), (⟨"VelvetStatesModel", "isSquare", "(I)Z"⟩, 47)]
theorem lw_r6 : ∀ q ∈ lw_privs_6, lw_okq q := List.forall_mem_cons.mpr ⟨lw_p80, List.forall_mem_cons.mpr ⟨lw_p81, List.forall_mem_cons.mpr ⟨lw_p82, List.forall_mem_cons.mpr ⟨lw_p83, List.forall_mem_cons.mpr ⟨lw_p84, List.forall_mem_cons.mpr ⟨lw_p85, List.forall_mem_cons.mpr ⟨lw_p86, List.forall_mem_cons.mpr ⟨lw_p87, List.forall_mem_cons.mpr ⟨lw_p88, List.forall_mem_cons.mpr ⟨lw_p89, List.forall_mem_cons.mpr ⟨lw_p90, List.forall_mem_cons.mpr ⟨lw_p91, List.forall_mem_cons.mpr ⟨lw_p92, List.forall_mem_cons.mpr ⟨lw_p93, List.forall_mem_cons.mpr ⟨lw_p94, List.forall_mem_cons.mpr ⟨lw_p95, fun _ h => absurd h List.not_mem_nil⟩⟩⟩⟩⟩⟩⟩⟩⟩⟩⟩⟩⟩⟩⟩⟩
theorem lw_p96 : lw_okq (⟨"VelvetStatesModel", "layLit", "()V"⟩, 47) := ⟨⟨by decide +kernel, by decide +kernel⟩, List.mem_of_getElem? (i := 1135) (by decide +kernel), List.mem_of_getElem? (i := 1547) (by decide +kernel), List.mem_of_getElem? (i := 1548) (by decide +kernel)⟩
theorem lw_p97 : lw_okq (⟨"VelvetStatesModel", "layBright", "(III)V"⟩, 47) := ⟨⟨by decide +kernel, by decide +kernel⟩, List.mem_of_getElem? (i := 1135) (by decide +kernel), List.mem_of_getElem? (i := 1551) (by decide +kernel), List.mem_of_getElem? (i := 1552) (by decide +kernel)⟩
theorem lw_p98 : lw_okq (⟨"VelvetStatesModel", "hasRight", "(II)Z"⟩, 47) := ⟨⟨by decide +kernel, by decide +kernel⟩, List.mem_of_getElem? (i := 1135) (by decide +kernel), List.mem_of_getElem? (i := 1563) (by decide +kernel), List.mem_of_getElem? (i := 1564) (by decide +kernel)⟩
theorem lw_p99 : lw_okq (⟨"VelvetStatesModel", "isRefused", "(I)Z"⟩, 47) := ⟨⟨by decide +kernel, by decide +kernel⟩, List.mem_of_getElem? (i := 1135) (by decide +kernel), List.mem_of_getElem? (i := 1567) (by decide +kernel), List.mem_of_getElem? (i := 1568) (by decide +kernel)⟩
theorem lw_p100 : lw_okq (⟨"VelvetStatesModel", "keep", "()V"⟩, 47) := ⟨⟨by decide +kernel, by decide +kernel⟩, List.mem_of_getElem? (i := 1135) (by decide +kernel), List.mem_of_getElem? (i := 1571) (by decide +kernel), List.mem_of_getElem? (i := 1572) (by decide +kernel)⟩
theorem lw_p101 : lw_okq (⟨"VelvetStatesModel", "states", "()I"⟩, 47) := ⟨⟨by decide +kernel, by decide +kernel⟩, List.mem_of_getElem? (i := 1135) (by decide +kernel), List.mem_of_getElem? (i := 1575) (by decide +kernel), List.mem_of_getElem? (i := 1576) (by decide +kernel)⟩
theorem lw_p102 : lw_okq (⟨"VelvetStatesModel", "isAt", "(II)Z"⟩, 47) := ⟨⟨by decide +kernel, by decide +kernel⟩, List.mem_of_getElem? (i := 1135) (by decide +kernel), List.mem_of_getElem? (i := 1588) (by decide +kernel), List.mem_of_getElem? (i := 1589) (by decide +kernel)⟩
theorem lw_p103 : lw_okq (⟨"VelvetStatesModel", "areYears", "(I)Z"⟩, 47) := ⟨⟨by decide +kernel, by decide +kernel⟩, List.mem_of_getElem? (i := 1135) (by decide +kernel), List.mem_of_getElem? (i := 1600) (by decide +kernel), List.mem_of_getElem? (i := 1601) (by decide +kernel)⟩
theorem lw_p104 : lw_okq (⟨"VelvetStatesModel", "passYear", "()V"⟩, 47) := ⟨⟨by decide +kernel, by decide +kernel⟩, List.mem_of_getElem? (i := 1135) (by decide +kernel), List.mem_of_getElem? (i := 1604) (by decide +kernel), List.mem_of_getElem? (i := 1605) (by decide +kernel)⟩
theorem lw_p105 : lw_okq (⟨"VelvetStatesModel", "live", "()I"⟩, 47) := ⟨⟨by decide +kernel, by decide +kernel⟩, List.mem_of_getElem? (i := 1135) (by decide +kernel), List.mem_of_getElem? (i := 1608) (by decide +kernel), List.mem_of_getElem? (i := 1609) (by decide +kernel)⟩
theorem lw_p106 : lw_okq (⟨"VelvetStatesModel", "litOfAll", "()I"⟩, 47) := ⟨⟨by decide +kernel, by decide +kernel⟩, List.mem_of_getElem? (i := 1135) (by decide +kernel), List.mem_of_getElem? (i := 1612) (by decide +kernel), List.mem_of_getElem? (i := 1613) (by decide +kernel)⟩
theorem lw_p107 : lw_okq (⟨"VelvetStatesModel", "drawYear", "()V"⟩, 47) := ⟨⟨by decide +kernel, by decide +kernel⟩, List.mem_of_getElem? (i := 1135) (by decide +kernel), List.mem_of_getElem? (i := 1624) (by decide +kernel), List.mem_of_getElem? (i := 1625) (by decide +kernel)⟩
theorem lw_p108 : lw_okq (⟨"VelvetStatesModel", "draw", "(I)I"⟩, 47) := ⟨⟨by decide +kernel, by decide +kernel⟩, List.mem_of_getElem? (i := 1135) (by decide +kernel), List.mem_of_getElem? (i := 1628) (by decide +kernel), List.mem_of_getElem? (i := 1629) (by decide +kernel)⟩
theorem lw_p109 : lw_okq (⟨"VelvetStatesModel", "fallen", "()I"⟩, 47) := ⟨⟨by decide +kernel, by decide +kernel⟩, List.mem_of_getElem? (i := 1135) (by decide +kernel), List.mem_of_getElem? (i := 1650) (by decide +kernel), List.mem_of_getElem? (i := 1651) (by decide +kernel)⟩
theorem lw_p110 : lw_okq (⟨"VelvetStatesModel", "drawnBack", "()I"⟩, 47) := ⟨⟨by decide +kernel, by decide +kernel⟩, List.mem_of_getElem? (i := 1135) (by decide +kernel), List.mem_of_getElem? (i := 1662) (by decide +kernel), List.mem_of_getElem? (i := 1663) (by decide +kernel)⟩
theorem lw_p111 : lw_okq (⟨"VelvetStatesModel", "lowEnough", "(I)I"⟩, 47) := ⟨⟨by decide +kernel, by decide +kernel⟩, List.mem_of_getElem? (i := 1135) (by decide +kernel), List.mem_of_getElem? (i := 1674) (by decide +kernel), List.mem_of_getElem? (i := 1675) (by decide +kernel)⟩
def lw_privs_7 : List (MethodName × Nat) := [(⟨"VelvetStatesModel", "layLit", "()V"⟩, 47), (⟨"VelvetStatesModel", "layBright", "(III)V"⟩, 47), (⟨"VelvetStatesModel", "hasRight", "(II)Z"⟩, 47), (⟨"VelvetStatesModel", "isRefused", "(I)Z"⟩, 47), (⟨"VelvetStatesModel", "keep", "()V"⟩, 47), (⟨"VelvetStatesModel", "states", "()I"⟩, 47), (⟨"VelvetStatesModel", "isAt", "(II)Z"⟩, 47), (⟨"VelvetStatesModel", "areYears", "(I)Z"⟩, 47), (⟨"VelvetStatesModel", "passYear", "()V"⟩, 47), (⟨"VelvetStatesModel", "live", "()I"⟩, 47), (⟨"VelvetStatesModel", "litOfAll", "()I"⟩, 47), (⟨"VelvetStatesModel", "drawYear", "()V"⟩, 47), (⟨"VelvetStatesModel", "draw", "(I)I"⟩, 47), (⟨"VelvetStatesModel", "fallen", "()I"⟩, 47), (⟨"VelvetStatesModel", "drawnBack", "()I"⟩, 47), (⟨"VelvetStatesModel", "lowEnough", "(I)I"⟩, 47)]
theorem lw_r7 : ∀ q ∈ lw_privs_7, lw_okq q := List.forall_mem_cons.mpr ⟨lw_p96, List.forall_mem_cons.mpr ⟨lw_p97, List.forall_mem_cons.mpr ⟨lw_p98, List.forall_mem_cons.mpr ⟨lw_p99, List.forall_mem_cons.mpr ⟨lw_p100, List.forall_mem_cons.mpr ⟨lw_p101, List.forall_mem_cons.mpr ⟨lw_p102, List.forall_mem_cons.mpr ⟨lw_p103, List.forall_mem_cons.mpr ⟨lw_p104, List.forall_mem_cons.mpr ⟨lw_p105, List.forall_mem_cons.mpr ⟨lw_p106, List.forall_mem_cons.mpr ⟨lw_p107, List.forall_mem_cons.mpr ⟨lw_p108, List.forall_mem_cons.mpr ⟨lw_p109, List.forall_mem_cons.mpr ⟨lw_p110, List.forall_mem_cons.mpr ⟨lw_p111, fun _ h => absurd h List.not_mem_nil⟩⟩⟩⟩⟩⟩⟩⟩⟩⟩⟩⟩⟩⟩⟩⟩
theorem lw_p112 : lw_okq (⟨"VelvetStatesModel", "putAside", "()V"⟩, 47) := ⟨⟨by decide +kernel, by decide +kernel⟩, List.mem_of_getElem? (i := 1135) (by decide +kernel), List.mem_of_getElem? (i := 1686) (by decide +kernel), List.mem_of_getElem? (i := 1687) (by decide +kernel)⟩
theorem lw_p113 : lw_okq (⟨"VelvetStatesModel", "takeBack", "()V"⟩, 47) := ⟨⟨by decide +kernel, by decide +kernel⟩, List.mem_of_getElem? (i := 1135) (by decide +kernel), List.mem_of_getElem? (i := 1690) (by decide +kernel), List.mem_of_getElem? (i := 1691) (by decide +kernel)⟩
theorem lw_p114 : lw_okq (⟨"VelvetStatesModel", "clothOfAll", "()I"⟩, 47) := ⟨⟨by decide +kernel, by decide +kernel⟩, List.mem_of_getElem? (i := 1135) (by decide +kernel), List.mem_of_getElem? (i := 1698) (by decide +kernel), List.mem_of_getElem? (i := 1699) (by decide +kernel)⟩
theorem lw_p115 : lw_okq (⟨"VelvetStatesModel", "areTwo", "(II)Z"⟩, 47) := ⟨⟨by decide +kernel, by decide +kernel⟩, List.mem_of_getElem? (i := 1135) (by decide +kernel), List.mem_of_getElem? (i := 1706) (by decide +kernel), List.mem_of_getElem? (i := 1707) (by decide +kernel)⟩
theorem lw_p116 : lw_okq (⟨"VelvetStatesModel", "gameOf", "(IIIII)I"⟩, 47) := ⟨⟨by decide +kernel, by decide +kernel⟩, List.mem_of_getElem? (i := 1135) (by decide +kernel), List.mem_of_getElem? (i := 1711) (by decide +kernel), List.mem_of_getElem? (i := 1712) (by decide +kernel)⟩
theorem lw_p117 : lw_okq (⟨"VelvetStatesModel", "turnOf", "(II)I"⟩, 47) := ⟨⟨by decide +kernel, by decide +kernel⟩, List.mem_of_getElem? (i := 1135) (by decide +kernel), List.mem_of_getElem? (i := 1715) (by decide +kernel), List.mem_of_getElem? (i := 1716) (by decide +kernel)⟩
theorem lw_p118 : lw_okq (⟨"VelvetStatesModel", "hasBy", "(II)I"⟩, 47) := ⟨⟨by decide +kernel, by decide +kernel⟩, List.mem_of_getElem? (i := 1135) (by decide +kernel), List.mem_of_getElem? (i := 1719) (by decide +kernel), List.mem_of_getElem? (i := 1720) (by decide +kernel)⟩
theorem lw_p119 : lw_okq (⟨"VelvetStatesModel", "layGame", "(II)V"⟩, 47) := ⟨⟨by decide +kernel, by decide +kernel⟩, List.mem_of_getElem? (i := 1135) (by decide +kernel), List.mem_of_getElem? (i := 1727) (by decide +kernel), List.mem_of_getElem? (i := 1728) (by decide +kernel)⟩
theorem lw_p120 : lw_okq (⟨"VelvetStatesModel", "isRest", "(II)Z"⟩, 47) := ⟨⟨by decide +kernel, by decide +kernel⟩, List.mem_of_getElem? (i := 1135) (by decide +kernel), List.mem_of_getElem? (i := 1731) (by decide +kernel), List.mem_of_getElem? (i := 1732) (by decide +kernel)⟩
theorem lw_p121 : lw_okq (⟨"VelvetStatesModel", "personsIn", "(I)I"⟩, 47) := ⟨⟨by decide +kernel, by decide +kernel⟩, List.mem_of_getElem? (i := 1135) (by decide +kernel), List.mem_of_getElem? (i := 1743) (by decide +kernel), List.mem_of_getElem? (i := 1744) (by decide +kernel)⟩
theorem lw_p122 : lw_okq (⟨"VelvetStatesModel", "areLeaning", "(I)Z"⟩, 47) := ⟨⟨by decide +kernel, by decide +kernel⟩, List.mem_of_getElem? (i := 1135) (by decide +kernel), List.mem_of_getElem? (i := 1755) (by decide +kernel), List.mem_of_getElem? (i := 1756) (by decide +kernel)⟩
theorem lw_p123 : lw_okq (⟨"VelvetStatesModel", "isLeant", "(II)Z"⟩, 47) := ⟨⟨by decide +kernel, by decide +kernel⟩, List.mem_of_getElem? (i := 1135) (by decide +kernel), List.mem_of_getElem? (i := 1759) (by decide +kernel), List.mem_of_getElem? (i := 1760) (by decide +kernel)⟩
theorem lw_p124 : lw_okq (⟨"VelvetStatesModel", "couldLean", "(II)Z"⟩, 47) := ⟨⟨by decide +kernel, by decide +kernel⟩, List.mem_of_getElem? (i := 1135) (by decide +kernel), List.mem_of_getElem? (i := 1763) (by decide +kernel), List.mem_of_getElem? (i := 1764) (by decide +kernel)⟩
def lw_privs_8 : List (MethodName × Nat) := [(⟨"VelvetStatesModel", "putAside", "()V"⟩, 47), (⟨"VelvetStatesModel", "takeBack", "()V"⟩, 47), (⟨"VelvetStatesModel", "clothOfAll", "()I"⟩, 47), (⟨"VelvetStatesModel", "areTwo", "(II)Z"⟩, 47), (⟨"VelvetStatesModel", "gameOf", "(IIIII)I"⟩, 47), (⟨"VelvetStatesModel", "turnOf", "(II)I"⟩, 47), (⟨"VelvetStatesModel", "hasBy", "(II)I"⟩, 47), (⟨"VelvetStatesModel", "layGame", "(II)V"⟩, 47), (⟨"VelvetStatesModel", "isRest", "(II)Z"⟩, 47), (⟨"VelvetStatesModel", "personsIn", "(I)I"⟩, 47), (⟨"VelvetStatesModel", "areLeaning", "(I)Z"⟩, 47), (⟨"VelvetStatesModel", "isLeant", "(II)Z"⟩, 47), (⟨"VelvetStatesModel", "couldLean", "(II)Z"⟩, 47)]
theorem lw_r8 : ∀ q ∈ lw_privs_8, lw_okq q := List.forall_mem_cons.mpr ⟨lw_p112, List.forall_mem_cons.mpr ⟨lw_p113, List.forall_mem_cons.mpr ⟨lw_p114, List.forall_mem_cons.mpr ⟨lw_p115, List.forall_mem_cons.mpr ⟨lw_p116, List.forall_mem_cons.mpr ⟨lw_p117, List.forall_mem_cons.mpr ⟨lw_p118, List.forall_mem_cons.mpr ⟨lw_p119, List.forall_mem_cons.mpr ⟨lw_p120, List.forall_mem_cons.mpr ⟨lw_p121, List.forall_mem_cons.mpr ⟨lw_p122, List.forall_mem_cons.mpr ⟨lw_p123, List.forall_mem_cons.mpr ⟨lw_p124, fun _ h => absurd h List.not_mem_nil⟩⟩⟩⟩⟩⟩⟩⟩⟩⟩⟩⟩⟩
def lw_privs : List (MethodName × Nat) := lw_privs_1 ++ (lw_privs_2 ++ (lw_privs_3 ++ (lw_privs_4 ++ (lw_privs_5 ++ (lw_privs_6 ++ (lw_privs_7 ++ (lw_privs_8)))))))
def lw_tbl : List Cond := k2_sels lw_privs ++ tables_1
theorem lw_privs_ok : ∀ q ∈ lw_privs, lw_okq q := by
  show ∀ q ∈ lw_privs_1 ++ (lw_privs_2 ++ (lw_privs_3 ++ (lw_privs_4 ++ (lw_privs_5 ++ (lw_privs_6 ++ (lw_privs_7 ++ (lw_privs_8))))))), lw_okq q
  exact List.forall_mem_append.mpr ⟨lw_r1, List.forall_mem_append.mpr ⟨lw_r2, List.forall_mem_append.mpr ⟨lw_r3, List.forall_mem_append.mpr ⟨lw_r4, List.forall_mem_append.mpr ⟨lw_r5, List.forall_mem_append.mpr ⟨lw_r6, List.forall_mem_append.mpr ⟨lw_r7, lw_r8⟩⟩⟩⟩⟩⟩⟩
-- ===== end of PART A; then your names; then what follows =====
end
section
/-! ===== BEGIN words of one list among another's, by their places ===== -/
theorem goodIn_r {big : List Cond} (ws : List Cond) (ps : List Nat) (hp : ws = ps.filterMap (fun i => big[i]?)) (h : ws.all goodWord = true) : GoodIn big ws := by
  intro w hw
  have h1 := List.all_eq_true.mp h w hw
  rw [hp] at hw
  obtain ⟨i, -, hi⟩ := List.mem_filterMap.mp hw
  have hm : w ∈ big := by first | exact List.mem_of_getElem? hi | exact List.getElem?_mem hi
  exact ⟨hm, good_of_word h1⟩
theorem goodIn_app {big a b : List Cond} (ha : GoodIn big a) (hb : GoodIn big b) : GoodIn big (a ++ b) := fun w h => (List.mem_append.mp h).elim (ha w) (hb w)
theorem goodIn_ca {big a b : List Cond} {c : Cond} (ha : GoodIn big (c :: a)) (hb : GoodIn big b) : GoodIn big (c :: (a ++ b)) := fun w h => (List.mem_cons.mp h).elim (fun e => ha w (List.mem_cons.mpr (Or.inl e))) (fun h => (List.mem_append.mp h).elim (fun h => ha w (List.mem_cons.mpr (Or.inr h))) (hb w))
theorem goodIn_sub {big ws : List Cond} (hm : ∀ w ∈ ws, w ∈ big) (h : ws.all goodWord = true) : GoodIn big ws := fun w hw => ⟨hm w hw, good_of_word (List.all_eq_true.mp h w hw)⟩
/-! ===== END ===== -/

def RX0 : String := "VelvetStates$Floor"
def TX0 : u_T := fun k => match k with
  | 0 => ("VelvetStates$Floor", "width", "I", false)
  | 1 => ("VelvetStates$Floor", "right", "I", false)
  | _ => ("VelvetStates$Floor", "below", "I", false)
def tyX0 : Nat → FieldType := fun k => match k with
  | 0 => .int
  | 1 => .int
  | _ => .int
abbrev wsX00 : List Cond := u_ws RX0 TX0 3
theorem nmX0 : ∀ a, a < 3 → ∀ b, b < 3 → a ≠ b → (TX0 a).2.1 ≠ (TX0 b).2.1 := by decide +kernel
theorem tyX0_ok : ∀ k, k < 3 → parseFieldDescriptor (TX0 k).2.2.1 = some (tyX0 k) := by decide +kernel
abbrev cX0_init : ByteArray := prog_2_method_1_code
def yX0_init : MethodName := ⟨RX0, "<init>", "()V"⟩
abbrev cX0_part : ByteArray := prog_2_method_2_code
def yX0_part : MethodName := ⟨RX0, "part", "(LVelvetStates$Room;I)V"⟩
abbrev cX0_reach : ByteArray := prog_2_method_3_code
def yX0_reach : MethodName := ⟨RX0, "reach", "(I)I"⟩
abbrev cX0_parts : ByteArray := prog_2_method_4_code
def yX0_parts : MethodName := ⟨RX0, "parts", "(I)I"⟩
def RX1 : String := "VelvetStates$LawReader"
def TX1 : u_T := fun k => match k with
  | 0 => ("VelvetStates$Reader", "tape", "[I", false)
  | 1 => ("VelvetStates$Reader", "length", "I", false)
  | 2 => ("VelvetStates$Reader", "at", "I", false)
  | 3 => ("VelvetStates$LawReader", "code", "[I", true)
  | _ => ("VelvetStates$LawReader", "steps", "I", false)
def tyX1 : Nat → FieldType := fun k => match k with
  | 0 => .array .int
  | 1 => .int
  | 2 => .int
  | 3 => .array .int
  | _ => .int
abbrev wsX10 : List Cond := u_ws RX1 TX1 5
theorem nmX1 : ∀ a, a < 5 → ∀ b, b < 5 → a ≠ b → (TX1 a).2.1 ≠ (TX1 b).2.1 := by decide +kernel
theorem tyX1_ok : ∀ k, k < 5 → parseFieldDescriptor (TX1 k).2.2.1 = some (tyX1 k) := by decide +kernel
abbrev cX1_init : ByteArray := prog_3_method_1_code
def yX1_init : MethodName := ⟨RX1, "<init>", "()V"⟩
abbrev cX1_read : ByteArray := prog_3_method_2_code
def yX1_read : MethodName := ⟨RX1, "read", "([II)I"⟩
abbrev cX1_take : ByteArray := prog_3_method_3_code
def yX1_take : MethodName := ⟨RX1, "take", "(I)Z"⟩
abbrev cX1_write : ByteArray := prog_3_method_4_code
def yX1_write : MethodName := ⟨RX1, "write", "(II)V"⟩
abbrev cX1_readClause : ByteArray := prog_3_method_5_code
def yX1_readClause : MethodName := ⟨RX1, "readClause", "()Z"⟩
abbrev cX1_readAnswer : ByteArray := prog_3_method_6_code
def yX1_readAnswer : MethodName := ⟨RX1, "readAnswer", "()Z"⟩
abbrev cX1_readCondition : ByteArray := prog_3_method_7_code
def yX1_readCondition : MethodName := ⟨RX1, "readCondition", "(IZ)Z"⟩
abbrev cX1_readTruth : ByteArray := prog_3_method_8_code
def yX1_readTruth : MethodName := ⟨RX1, "readTruth", "(IZ)Z"⟩
abbrev cX1_readUnit : ByteArray := prog_3_method_9_code
def yX1_readUnit : MethodName := ⟨RX1, "readUnit", "(IZ)Z"⟩
abbrev cX1_readComparison : ByteArray := prog_3_method_10_code
def yX1_readComparison : MethodName := ⟨RX1, "readComparison", "(I)Z"⟩
abbrev cX1_isComparison : ByteArray := prog_3_method_11_code
def yX1_isComparison : MethodName := ⟨RX1, "isComparison", "(I)Z"⟩
abbrev cX1_readSum : ByteArray := prog_3_method_12_code
def yX1_readSum : MethodName := ⟨RX1, "readSum", "(I)Z"⟩
abbrev cX1_readTerm : ByteArray := prog_3_method_13_code
def yX1_readTerm : MethodName := ⟨RX1, "readTerm", "(I)Z"⟩
abbrev cX1_readAtom : ByteArray := prog_3_method_14_code
def yX1_readAtom : MethodName := ⟨RX1, "readAtom", "(I)Z"⟩
abbrev cX1_readNumber : ByteArray := prog_3_method_15_code
def yX1_readNumber : MethodName := ⟨RX1, "readNumber", "()Z"⟩
def RX2 : String := "VelvetStates$Laws"
def TX2 : u_T := fun k => match k with
  | 0 => ("VelvetStates$Laws", "known", "I", false)
  | 1 => ("VelvetStates$Laws", "holding", "I", false)
  | 2 => ("VelvetStates$Laws", "codes", "[[I", true)
  | 3 => ("VelvetStates$Laws", "sizes", "[I", true)
  | 4 => ("VelvetStates$Laws", "letters", "[I", true)
  | 5 => ("VelvetStates$Laws", "stack", "[I", true)
  | _ => ("VelvetStates$Laws", "top", "I", false)
def tyX2 : Nat → FieldType := fun k => match k with
  | 0 => .int
  | 1 => .int
  | 2 => .array (.array .int)
  | 3 => .array .int
  | 4 => .array .int
  | 5 => .array .int
  | _ => .int
abbrev wsX20 : List Cond := u_ws RX2 TX2 7
theorem nmX2 : ∀ a, a < 7 → ∀ b, b < 7 → a ≠ b → (TX2 a).2.1 ≠ (TX2 b).2.1 := by decide +kernel
theorem tyX2_ok : ∀ k, k < 7 → parseFieldDescriptor (TX2 k).2.2.1 = some (tyX2 k) := by decide +kernel
abbrev cX2_init : ByteArray := prog_4_method_1_code
def yX2_init : MethodName := ⟨RX2, "<init>", "()V"⟩
abbrev cX2_add : ByteArray := prog_4_method_2_code
def yX2_add : MethodName := ⟨RX2, "add", "([II)I"⟩
abbrev cX2_takes : ByteArray := prog_4_method_3_code
def yX2_takes : MethodName := ⟨RX2, "takes", "(LVelvetStates$Scene;I)I"⟩
abbrev cX2_worthBy : ByteArray := prog_4_method_4_code
def yX2_worthBy : MethodName := ⟨RX2, "worthBy", "([II)I"⟩
abbrev cX2_put : ByteArray := prog_4_method_5_code
def yX2_put : MethodName := ⟨RX2, "put", "(III)I"⟩
abbrev cX2_held : ByteArray := prog_4_method_6_code
def yX2_held : MethodName := ⟨RX2, "held", "(J)I"⟩
abbrev cX2_push : ByteArray := prog_4_method_7_code
def yX2_push : MethodName := ⟨RX2, "push", "(I)V"⟩
abbrev cX2_pop : ByteArray := prog_4_method_8_code
def yX2_pop : MethodName := ⟨RX2, "pop", "()I"⟩
def RX3 : String := "VelvetStates$Light"
def TX3 : u_T := fun k => match k with
  | 0 => ("VelvetStates$Light", "bright", "[I", true)
  | 1 => ("VelvetStates$Light", "taken", "[I", true)
  | 2 => ("VelvetStates$Light", "toRight", "[I", true)
  | _ => ("VelvetStates$Light", "toBelow", "[I", true)
def tyX3 : Nat → FieldType := fun k => match k with
  | 0 => .array .int
  | 1 => .array .int
  | 2 => .array .int
  | _ => .array .int
abbrev wsX30 : List Cond := u_ws RX3 TX3 4
theorem nmX3 : ∀ a, a < 4 → ∀ b, b < 4 → a ≠ b → (TX3 a).2.1 ≠ (TX3 b).2.1 := by decide +kernel
theorem tyX3_ok : ∀ k, k < 4 → parseFieldDescriptor (TX3 k).2.2.1 = some (tyX3 k) := by decide +kernel
abbrev cX3_init : ByteArray := prog_5_method_1_code
def yX3_init : MethodName := ⟨RX3, "<init>", "()V"⟩
abbrev cX3_weigh : ByteArray := prog_5_method_2_code
def yX3_weigh : MethodName := ⟨RX3, "weigh", "(LVelvetStates$Scene;LVelvetStates$Laws;I)V"⟩
abbrev cX3_hang : ByteArray := prog_5_method_3_code
def yX3_hang : MethodName := ⟨RX3, "hang", "(LVelvetStates$Room;I)V"⟩
abbrev cX3_spread : ByteArray := prog_5_method_4_code
def yX3_spread : MethodName := ⟨RX3, "spread", "(LVelvetStates$Room;II)V"⟩
abbrev cX3_carry : ByteArray := prog_5_method_5_code
def yX3_carry : MethodName := ⟨RX3, "carry", "(LVelvetStates$Room;)Z"⟩
abbrev cX3_pass : ByteArray := prog_5_method_6_code
def yX3_pass : MethodName := ⟨RX3, "pass", "(III)Z"⟩
abbrev cX3_sum : ByteArray := prog_5_method_7_code
def yX3_sum : MethodName := ⟨RX3, "sum", "(I)I"⟩
abbrev cX3_darkness : ByteArray := prog_5_method_8_code
def yX3_darkness : MethodName := ⟨RX3, "darkness", "(I)I"⟩
def RX4 : String := "VelvetStates$Past"
def TX4 : u_T := fun k => match k with
  | 0 => ("VelvetStates$Past", "acts", "I", false)
  | 1 => ("VelvetStates$Past", "next", "I", false)
  | 2 => ("VelvetStates$Past", "scenes", "[I", true)
  | 3 => ("VelvetStates$Past", "rows", "[I", true)
  | 4 => ("VelvetStates$Past", "imaged", "Z", false)
  | 5 => ("VelvetStates$Past", "imageScene", "[I", true)
  | _ => ("VelvetStates$Past", "imageRows", "[I", true)
def tyX4 : Nat → FieldType := fun k => match k with
  | 0 => .int
  | 1 => .int
  | 2 => .array .int
  | 3 => .array .int
  | 4 => .boolean
  | 5 => .array .int
  | _ => .array .int
abbrev wsX40 : List Cond := u_ws RX4 TX4 7
theorem nmX4 : ∀ a, a < 7 → ∀ b, b < 7 → a ≠ b → (TX4 a).2.1 ≠ (TX4 b).2.1 := by decide +kernel
theorem tyX4_ok : ∀ k, k < 7 → parseFieldDescriptor (TX4 k).2.2.1 = some (tyX4 k) := by decide +kernel
abbrev cX4_init : ByteArray := prog_6_method_1_code
def yX4_init : MethodName := ⟨RX4, "<init>", "()V"⟩
abbrev cX4_forget : ByteArray := prog_6_method_2_code
def yX4_forget : MethodName := ⟨RX4, "forget", "()V"⟩
abbrev cX4_remember : ByteArray := prog_6_method_3_code
def yX4_remember : MethodName := ⟨RX4, "remember", "(LVelvetStates$Scene;)V"⟩
abbrev cX4_recall : ByteArray := prog_6_method_4_code
def yX4_recall : MethodName := ⟨RX4, "recall", "(LVelvetStates$Scene;)V"⟩
abbrev cX4_note : ByteArray := prog_6_method_5_code
def yX4_note : MethodName := ⟨RX4, "note", "(IIII)V"⟩
abbrev cX4_noted : ByteArray := prog_6_method_6_code
def yX4_noted : MethodName := ⟨RX4, "noted", "(II)I"⟩
abbrev cX4_rowOf : ByteArray := prog_6_method_7_code
def yX4_rowOf : MethodName := ⟨RX4, "rowOf", "(I)I"⟩
abbrev cX4_keepImage : ByteArray := prog_6_method_8_code
def yX4_keepImage : MethodName := ⟨RX4, "keepImage", "(LVelvetStates$Scene;)V"⟩
abbrev cX4_returnTo : ByteArray := prog_6_method_9_code
def yX4_returnTo : MethodName := ⟨RX4, "returnTo", "(LVelvetStates$Scene;)V"⟩
def RX5 : String := "VelvetStates$Reader"
def TX5 : u_T := fun k => match k with
  | _ => ("", "", "", false)
def tyX5 : Nat → FieldType := fun k => match k with
  | _ => .int
abbrev wsX50 : List Cond := u_ws RX5 TX5 0
theorem nmX5 : ∀ a, a < 0 → ∀ b, b < 0 → a ≠ b → (TX5 a).2.1 ≠ (TX5 b).2.1 := by decide +kernel
theorem tyX5_ok : ∀ k, k < 0 → parseFieldDescriptor (TX5 k).2.2.1 = some (tyX5 k) := by decide +kernel
abbrev cX5_init : ByteArray := prog_7_method_1_code
def yX5_init : MethodName := ⟨RX5, "<init>", "()V"⟩
abbrev cX5_begin : ByteArray := prog_7_method_2_code
def yX5_begin : MethodName := ⟨RX5, "begin", "([II)V"⟩
abbrev cX5_peek : ByteArray := prog_7_method_3_code
def yX5_peek : MethodName := ⟨RX5, "peek", "()I"⟩
abbrev cX5_isDigit : ByteArray := prog_7_method_4_code
def yX5_isDigit : MethodName := ⟨RX5, "isDigit", "(I)Z"⟩
def RX6 : String := "VelvetStates$Room"
def TX6 : u_T := fun k => match k with
  | 0 => ("VelvetStates$Room", "width", "I", false)
  | 1 => ("VelvetStates$Room", "height", "I", false)
  | 2 => ("VelvetStates$Room", "window", "I", false)
  | 3 => ("VelvetStates$Room", "moths", "I", false)
  | 4 => ("VelvetStates$Room", "squares", "I", false)
  | 5 => ("VelvetStates$Room", "wide", "I", false)
  | 6 => ("VelvetStates$Room", "deep", "I", false)
  | 7 => ("VelvetStates$Room", "curtains", "I", false)
  | 8 => ("VelvetStates$Room", "near", "[I", true)
  | 9 => ("VelvetStates$Room", "far", "[I", true)
  | 10 => ("VelvetStates$Room", "rail", "[I", true)
  | 11 => ("VelvetStates$Room", "veil", "[I", true)
  | 12 => ("VelvetStates$Room", "gap", "[I", true)
  | 13 => ("VelvetStates$Room", "newFabric", "[I", true)
  | 14 => ("VelvetStates$Room", "newlyOpened", "I", false)
  | 15 => ("VelvetStates$Room", "persons", "I", false)
  | 16 => ("VelvetStates$Room", "might", "[I", true)
  | _ => ("VelvetStates$Room", "newPlace", "[I", true)
def tyX6 : Nat → FieldType := fun k => match k with
  | 0 => .int
  | 1 => .int
  | 2 => .int
  | 3 => .int
  | 4 => .int
  | 5 => .int
  | 6 => .int
  | 7 => .int
  | 8 => .array .int
  | 9 => .array .int
  | 10 => .array .int
  | 11 => .array .int
  | 12 => .array .int
  | 13 => .array .int
  | 14 => .int
  | 15 => .int
  | 16 => .array .int
  | _ => .array .int
abbrev wsX60 : List Cond := u_ws RX6 TX6 18
theorem nmX6 : ∀ a, a < 18 → ∀ b, b < 18 → a ≠ b → (TX6 a).2.1 ≠ (TX6 b).2.1 := by decide +kernel
theorem tyX6_ok : ∀ k, k < 18 → parseFieldDescriptor (TX6 k).2.2.1 = some (tyX6 k) := by decide +kernel
abbrev cX6_init : ByteArray := prog_8_method_1_code
def yX6_init : MethodName := ⟨RX6, "<init>", "()V"⟩
abbrev cX6_allSquares : ByteArray := prog_8_method_2_code
def yX6_allSquares : MethodName := ⟨RX6, "allSquares", "()I"⟩
abbrev cX6_allCurtains : ByteArray := prog_8_method_3_code
def yX6_allCurtains : MethodName := ⟨RX6, "allCurtains", "()I"⟩
abbrev cX6_allPersons : ByteArray := prog_8_method_4_code
def yX6_allPersons : MethodName := ⟨RX6, "allPersons", "()I"⟩
abbrev cX6_clear : ByteArray := prog_8_method_5_code
def yX6_clear : MethodName := ⟨RX6, "clear", "()V"⟩
abbrev cX6_setRules : ByteArray := prog_8_method_6_code
def yX6_setRules : MethodName := ⟨RX6, "setRules", "([I)V"⟩
abbrev cX6_addCurtain : ByteArray := prog_8_method_7_code
def yX6_addCurtain : MethodName := ⟨RX6, "addCurtain", "([I)V"⟩
abbrev cX6_addPerson : ByteArray := prog_8_method_8_code
def yX6_addPerson : MethodName := ⟨RX6, "addPerson", "([I)V"⟩
abbrev cX6_settle : ByteArray := prog_8_method_9_code
def yX6_settle : MethodName := ⟨RX6, "settle", "()Z"⟩
abbrev cX6_laySquares : ByteArray := prog_8_method_10_code
def yX6_laySquares : MethodName := ⟨RX6, "laySquares", "()V"⟩
abbrev cX6_hangRails : ByteArray := prog_8_method_11_code
def yX6_hangRails : MethodName := ⟨RX6, "hangRails", "()Z"⟩
def RX7 : String := "VelvetStates$RoomReader"
def TX7 : u_T := fun k => match k with
  | 0 => ("VelvetStates$Reader", "tape", "[I", false)
  | 1 => ("VelvetStates$Reader", "length", "I", false)
  | 2 => ("VelvetStates$Reader", "at", "I", false)
  | 3 => ("VelvetStates$RoomReader", "ruled", "Z", false)
  | 4 => ("VelvetStates$RoomReader", "room", "LVelvetStates$Room;", false)
  | _ => ("VelvetStates$RoomReader", "item", "[I", true)
def tyX7 : Nat → FieldType := fun k => match k with
  | 0 => .array .int
  | 1 => .int
  | 2 => .int
  | 3 => .boolean
  | 4 => .object "VelvetStates$Room"
  | _ => .array .int
abbrev wsX70 : List Cond := u_ws RX7 TX7 6
theorem nmX7 : ∀ a, a < 6 → ∀ b, b < 6 → a ≠ b → (TX7 a).2.1 ≠ (TX7 b).2.1 := by decide +kernel
theorem tyX7_ok : ∀ k, k < 6 → parseFieldDescriptor (TX7 k).2.2.1 = some (tyX7 k) := by decide +kernel
abbrev cX7_init : ByteArray := prog_9_method_1_code
def yX7_init : MethodName := ⟨RX7, "<init>", "()V"⟩
abbrev cX7_read : ByteArray := prog_9_method_2_code
def yX7_read : MethodName := ⟨RX7, "read", "([IILVelvetStates$Room;)I"⟩
abbrev cX7_isFree : ByteArray := prog_9_method_3_code
def yX7_isFree : MethodName := ⟨RX7, "isFree", "(I)Z"⟩
abbrev cX7_readClause : ByteArray := prog_9_method_4_code
def yX7_readClause : MethodName := ⟨RX7, "readClause", "()I"⟩
abbrev cX7_readItems : ByteArray := prog_9_method_5_code
def yX7_readItems : MethodName := ⟨RX7, "readItems", "(II)I"⟩
abbrev cX7_itemOf : ByteArray := prog_9_method_6_code
def yX7_itemOf : MethodName := ⟨RX7, "itemOf", "(III)I"⟩
abbrev cX7_readNumber : ByteArray := prog_9_method_7_code
def yX7_readNumber : MethodName := ⟨RX7, "readNumber", "(I)I"⟩
def RX8 : String := "VelvetStates$Scene"
def TX8 : u_T := fun k => match k with
  | 0 => ("VelvetStates$Scene", "room", "LVelvetStates$Room;", false)
  | 1 => ("VelvetStates$Scene", "fabric", "[I", true)
  | 2 => ("VelvetStates$Scene", "place", "[I", true)
  | 3 => ("VelvetStates$Scene", "opened", "I", false)
  | _ => ("VelvetStates$Scene", "year", "I", false)
def tyX8 : Nat → FieldType := fun k => match k with
  | 0 => .object "VelvetStates$Room"
  | 1 => .array .int
  | 2 => .array .int
  | 3 => .int
  | _ => .int
abbrev wsX80 : List Cond := u_ws RX8 TX8 5
theorem nmX8 : ∀ a, a < 5 → ∀ b, b < 5 → a ≠ b → (TX8 a).2.1 ≠ (TX8 b).2.1 := by decide +kernel
theorem tyX8_ok : ∀ k, k < 5 → parseFieldDescriptor (TX8 k).2.2.1 = some (tyX8 k) := by decide +kernel
abbrev cX8_init : ByteArray := prog_10_method_1_code
def yX8_init : MethodName := ⟨RX8, "<init>", "()V"⟩
abbrev cX8_enter : ByteArray := prog_10_method_2_code
def yX8_enter : MethodName := ⟨RX8, "enter", "(LVelvetStates$Room;)V"⟩
abbrev cX8_follow : ByteArray := prog_10_method_3_code
def yX8_follow : MethodName := ⟨RX8, "follow", "(LVelvetStates$Scene;)V"⟩
abbrev cX8_save : ByteArray := prog_10_method_4_code
def yX8_save : MethodName := ⟨RX8, "save", "([II)V"⟩
abbrev cX8_load : ByteArray := prog_10_method_5_code
def yX8_load : MethodName := ⟨RX8, "load", "([II)V"⟩
abbrev cX8_fallen : ByteArray := prog_10_method_6_code
def yX8_fallen : MethodName := ⟨RX8, "fallen", "()I"⟩
abbrev cX8_hung : ByteArray := prog_10_method_7_code
def yX8_hung : MethodName := ⟨RX8, "hung", "()I"⟩
abbrev cX8_drawnBack : ByteArray := prog_10_method_8_code
def yX8_drawnBack : MethodName := ⟨RX8, "drawnBack", "()I"⟩
abbrev cX8_fabricOfAll : ByteArray := prog_10_method_9_code
def yX8_fabricOfAll : MethodName := ⟨RX8, "fabricOfAll", "()I"⟩
abbrev cX8_wear : ByteArray := prog_10_method_10_code
def yX8_wear : MethodName := ⟨RX8, "wear", "([I)I"⟩
def RX9 : String := "VelvetStates$Table"
def TX9 : u_T := fun k => match k with
  | 0 => ("VelvetStates$Table", "draws", "I", false)
  | 1 => ("VelvetStates$Table", "one", "[I", true)
  | _ => ("VelvetStates$Table", "other", "[I", true)
def tyX9 : Nat → FieldType := fun k => match k with
  | 0 => .int
  | 1 => .array .int
  | _ => .array .int
abbrev wsX90 : List Cond := u_ws RX9 TX9 3
theorem nmX9 : ∀ a, a < 3 → ∀ b, b < 3 → a ≠ b → (TX9 a).2.1 ≠ (TX9 b).2.1 := by decide +kernel
theorem tyX9_ok : ∀ k, k < 3 → parseFieldDescriptor (TX9 k).2.2.1 = some (tyX9 k) := by decide +kernel
abbrev cX9_init : ByteArray := prog_11_method_1_code
def yX9_init : MethodName := ⟨RX9, "<init>", "()V"⟩
abbrev cX9_lay : ByteArray := prog_11_method_2_code
def yX9_lay : MethodName := ⟨RX9, "lay", "(I)V"⟩
abbrev cX9_put : ByteArray := prog_11_method_3_code
def yX9_put : MethodName := ⟨RX9, "put", "(IIII)V"⟩
abbrev cX9_restsAt : ByteArray := prog_11_method_4_code
def yX9_restsAt : MethodName := ⟨RX9, "restsAt", "(II)Z"⟩
def RX10 : String := "VelvetStates"
def TX10 : u_T := fun k => match k with
  | 0 => ("VelvetStates", "tape", "[I", true)
  | 1 => ("VelvetStates", "bytes", "I", false)
  | 2 => ("VelvetStates", "roomReader", "LVelvetStates$RoomReader;", true)
  | 3 => ("VelvetStates", "lawReader", "LVelvetStates$LawReader;", true)
  | 4 => ("VelvetStates", "laws", "LVelvetStates$Laws;", true)
  | 5 => ("VelvetStates", "room", "LVelvetStates$Room;", false)
  | 6 => ("VelvetStates", "spare", "LVelvetStates$Room;", false)
  | 7 => ("VelvetStates", "scene", "LVelvetStates$Scene;", true)
  | 8 => ("VelvetStates", "trial", "LVelvetStates$Scene;", true)
  | 9 => ("VelvetStates", "past", "LVelvetStates$Past;", true)
  | 10 => ("VelvetStates", "floor", "LVelvetStates$Floor;", true)
  | 11 => ("VelvetStates", "light", "LVelvetStates$Light;", true)
  | 12 => ("VelvetStates", "table", "LVelvetStates$Table;", true)
  | 13 => ("VelvetStates", "refusals", "[I", true)
  | 14 => ("VelvetStates", "warmth", "I", false)
  | 15 => ("VelvetStates", "lot", "J", false)
  | 16 => ("VelvetStates", "fadings", "I", false)
  | 17 => ("VelvetStates", "fadedBy", "I", false)
  | _ => ("VelvetStates", "fadedNot", "I", false)
def tyX10 : Nat → FieldType := fun k => match k with
  | 0 => .array .int
  | 1 => .int
  | 2 => .object "VelvetStates$RoomReader"
  | 3 => .object "VelvetStates$LawReader"
  | 4 => .object "VelvetStates$Laws"
  | 5 => .object "VelvetStates$Room"
  | 6 => .object "VelvetStates$Room"
  | 7 => .object "VelvetStates$Scene"
  | 8 => .object "VelvetStates$Scene"
  | 9 => .object "VelvetStates$Past"
  | 10 => .object "VelvetStates$Floor"
  | 11 => .object "VelvetStates$Light"
  | 12 => .object "VelvetStates$Table"
  | 13 => .array .int
  | 14 => .int
  | 15 => .long
  | 16 => .int
  | 17 => .int
  | _ => .int
abbrev wsX100 : List Cond := u_ws RX10 TX10 19
theorem nmX10 : ∀ a, a < 19 → ∀ b, b < 19 → a ≠ b → (TX10 a).2.1 ≠ (TX10 b).2.1 := by decide +kernel
theorem tyX10_ok : ∀ k, k < 19 → parseFieldDescriptor (TX10 k).2.2.1 = some (tyX10 k) := by decide +kernel
abbrev cX10_init : ByteArray := prog_1_method_1_code
def yX10_init : MethodName := ⟨RX10, "<init>", "()V"⟩
abbrev cX10_feed : ByteArray := prog_1_method_2_code
def yX10_feed : MethodName := ⟨RX10, "feed", "(IIIII)I"⟩
abbrev cX10_bytesIn : ByteArray := prog_1_method_3_code
def yX10_bytesIn : MethodName := ⟨RX10, "bytesIn", "(I)I"⟩
abbrev cX10_put : ByteArray := prog_1_method_4_code
def yX10_put : MethodName := ⟨RX10, "put", "(I)V"⟩
abbrev cX10_end : ByteArray := prog_1_method_5_code
def yX10_end : MethodName := ⟨RX10, "end", "(I)Z"⟩
abbrev cX10_fault : ByteArray := prog_1_method_6_code
def yX10_fault : MethodName := ⟨RX10, "fault", "(I)I"⟩
abbrev cX10_text : ByteArray := prog_1_method_7_code
def yX10_text : MethodName := ⟨RX10, "text", "(I)I"⟩
abbrev cX10_enterSpare : ByteArray := prog_1_method_8_code
def yX10_enterSpare : MethodName := ⟨RX10, "enterSpare", "()I"⟩
abbrev cX10_hasRoom : ByteArray := prog_1_method_9_code
def yX10_hasRoom : MethodName := ⟨RX10, "hasRoom", "()Z"⟩
abbrev cX10_isSquare : ByteArray := prog_1_method_10_code
def yX10_isSquare : MethodName := ⟨RX10, "isSquare", "(I)Z"⟩
abbrev cX10_isCurtain : ByteArray := prog_1_method_11_code
def yX10_isCurtain : MethodName := ⟨RX10, "isCurtain", "(I)Z"⟩
abbrev cX10_isPerson : ByteArray := prog_1_method_12_code
def yX10_isPerson : MethodName := ⟨RX10, "isPerson", "(I)Z"⟩
abbrev cX10_has : ByteArray := prog_1_method_13_code
def yX10_has : MethodName := ⟨RX10, "has", "(II)Z"⟩
abbrev cX10_within : ByteArray := prog_1_method_14_code
def yX10_within : MethodName := ⟨RX10, "within", "(III)Z"⟩
abbrev cX10_rule : ByteArray := prog_1_method_15_code
def yX10_rule : MethodName := ⟨RX10, "rule", "(I)I"⟩
abbrev cX10_curtain : ByteArray := prog_1_method_16_code
def yX10_curtain : MethodName := ⟨RX10, "curtain", "(II)I"⟩
abbrev cX10_person : ByteArray := prog_1_method_17_code
def yX10_person : MethodName := ⟨RX10, "person", "(II)I"⟩
abbrev cX10_law : ByteArray := prog_1_method_18_code
def yX10_law : MethodName := ⟨RX10, "law", "(I)Z"⟩
abbrev cX10_lowest : ByteArray := prog_1_method_19_code
def yX10_lowest : MethodName := ⟨RX10, "lowest", "(I)I"⟩
abbrev cX10_stateAround : ByteArray := prog_1_method_20_code
def yX10_stateAround : MethodName := ⟨RX10, "stateAround", "(I)I"⟩
abbrev cX10_statesOf : ByteArray := prog_1_method_21_code
def yX10_statesOf : MethodName := ⟨RX10, "statesOf", "(LVelvetStates$Scene;)I"⟩
abbrev cX10_lordIn : ByteArray := prog_1_method_22_code
def yX10_lordIn : MethodName := ⟨RX10, "lordIn", "(I)I"⟩
abbrev cX10_shine : ByteArray := prog_1_method_23_code
def yX10_shine : MethodName := ⟨RX10, "shine", "(LVelvetStates$Scene;)V"⟩
abbrev cX10_state : ByteArray := prog_1_method_24_code
def yX10_state : MethodName := ⟨RX10, "state", "(I)I"⟩
abbrev cX10_lord : ByteArray := prog_1_method_25_code
def yX10_lord : MethodName := ⟨RX10, "lord", "(I)I"⟩
abbrev cX10_lit : ByteArray := prog_1_method_26_code
def yX10_lit : MethodName := ⟨RX10, "lit", "(I)I"⟩
abbrev cX10_touch : ByteArray := prog_1_method_27_code
def yX10_touch : MethodName := ⟨RX10, "touch", "(II)I"⟩
abbrev cX10_bordersOf : ByteArray := prog_1_method_28_code
def yX10_bordersOf : MethodName := ⟨RX10, "bordersOf", "(I)I"⟩
abbrev cX10_besides : ByteArray := prog_1_method_29_code
def yX10_besides : MethodName := ⟨RX10, "besides", "(I)I"⟩
abbrev cX10_refuse : ByteArray := prog_1_method_30_code
def yX10_refuse : MethodName := ⟨RX10, "refuse", "(I)I"⟩
abbrev cX10_rightsOf : ByteArray := prog_1_method_31_code
def yX10_rightsOf : MethodName := ⟨RX10, "rightsOf", "(I)I"⟩
abbrev cX10_pull : ByteArray := prog_1_method_32_code
def yX10_pull : MethodName := ⟨RX10, "pull", "(IIZ)I"⟩
abbrev cX10_go : ByteArray := prog_1_method_33_code
def yX10_go : MethodName := ⟨RX10, "go", "(II)I"⟩
abbrev cX10_creep : ByteArray := prog_1_method_34_code
def yX10_creep : MethodName := ⟨RX10, "creep", "(II)I"⟩
abbrev cX10_mend : ByteArray := prog_1_method_35_code
def yX10_mend : MethodName := ⟨RX10, "mend", "(II)I"⟩
abbrev cX10_years : ByteArray := prog_1_method_36_code
def yX10_years : MethodName := ⟨RX10, "years", "(I)I"⟩
abbrev cX10_liveYear : ByteArray := prog_1_method_37_code
def yX10_liveYear : MethodName := ⟨RX10, "liveYear", "()V"⟩
abbrev cX10_heat : ByteArray := prog_1_method_38_code
def yX10_heat : MethodName := ⟨RX10, "heat", "(I)Z"⟩
abbrev cX10_centuries : ByteArray := prog_1_method_39_code
def yX10_centuries : MethodName := ⟨RX10, "centuries", "(IJ)I"⟩
abbrev cX10_draw : ByteArray := prog_1_method_40_code
def yX10_draw : MethodName := ⟨RX10, "draw", "(I)I"⟩
abbrev cX10_drawCurtains : ByteArray := prog_1_method_41_code
def yX10_drawCurtains : MethodName := ⟨RX10, "drawCurtains", "()V"⟩
abbrev cX10_drawPerson : ByteArray := prog_1_method_42_code
def yX10_drawPerson : MethodName := ⟨RX10, "drawPerson", "()V"⟩
abbrev cX10_status : ByteArray := prog_1_method_43_code
def yX10_status : MethodName := ⟨RX10, "status", "(I)I"⟩
abbrev cX10_undo : ByteArray := prog_1_method_44_code
def yX10_undo : MethodName := ⟨RX10, "undo", "()I"⟩
abbrev cX10_logged : ByteArray := prog_1_method_45_code
def yX10_logged : MethodName := ⟨RX10, "logged", "()I"⟩
abbrev cX10_log : ByteArray := prog_1_method_46_code
def yX10_log : MethodName := ⟨RX10, "log", "(II)I"⟩
abbrev cX10_areSquares : ByteArray := prog_1_method_47_code
def yX10_areSquares : MethodName := ⟨RX10, "areSquares", "(I)Z"⟩
abbrev cX10_join : ByteArray := prog_1_method_48_code
def yX10_join : MethodName := ⟨RX10, "join", "(II)I"⟩
abbrev cX10_hide : ByteArray := prog_1_method_49_code
def yX10_hide : MethodName := ⟨RX10, "hide", "(III)I"⟩
abbrev cX10_brightWith : ByteArray := prog_1_method_50_code
def yX10_brightWith : MethodName := ⟨RX10, "brightWith", "(IIII)I"⟩
abbrev cX10_seen : ByteArray := prog_1_method_51_code
def yX10_seen : MethodName := ⟨RX10, "seen", "(II)I"⟩
abbrev cX10_under : ByteArray := prog_1_method_52_code
def yX10_under : MethodName := ⟨RX10, "under", "(III)I"⟩
abbrev cX10_beyond : ByteArray := prog_1_method_53_code
def yX10_beyond : MethodName := ⟨RX10, "beyond", "(II)I"⟩
abbrev cX10_wideEnough : ByteArray := prog_1_method_54_code
def yX10_wideEnough : MethodName := ⟨RX10, "wideEnough", "(I)I"⟩
abbrev cX10_lead : ByteArray := prog_1_method_55_code
def yX10_lead : MethodName := ⟨RX10, "lead", "(I)I"⟩
abbrev cX10_first : ByteArray := prog_1_method_56_code
def yX10_first : MethodName := ⟨RX10, "first", "(I)I"⟩
abbrev cX10_cloth : ByteArray := prog_1_method_57_code
def yX10_cloth : MethodName := ⟨RX10, "cloth", "(I)I"⟩
abbrev cX10_arePlayers : ByteArray := prog_1_method_58_code
def yX10_arePlayers : MethodName := ⟨RX10, "arePlayers", "(II)Z"⟩
abbrev cX10_shareOf : ByteArray := prog_1_method_59_code
def yX10_shareOf : MethodName := ⟨RX10, "shareOf", "(I)I"⟩
abbrev cX10_game : ByteArray := prog_1_method_60_code
def yX10_game : MethodName := ⟨RX10, "game", "(IIIII)I"⟩
abbrev cX10_playAll : ByteArray := prog_1_method_61_code
def yX10_playAll : MethodName := ⟨RX10, "playAll", "(II)V"⟩
abbrev cX10_rests : ByteArray := prog_1_method_62_code
def yX10_rests : MethodName := ⟨RX10, "rests", "(III)I"⟩
abbrev cX10_treaty : ByteArray := prog_1_method_63_code
def yX10_treaty : MethodName := ⟨RX10, "treaty", "(II)I"⟩
abbrev cX10_air : ByteArray := prog_1_method_64_code
def yX10_air : MethodName := ⟨RX10, "air", "(I)I"⟩
abbrev cX10_faded : ByteArray := prog_1_method_65_code
def yX10_faded : MethodName := ⟨RX10, "faded", "(IZ)I"⟩
abbrev cX10_leanedOnBy : ByteArray := prog_1_method_66_code
def yX10_leanedOnBy : MethodName := ⟨RX10, "leanedOnBy", "(I)I"⟩
abbrev cX10_fits : ByteArray := prog_1_method_67_code
def yX10_fits : MethodName := ⟨RX10, "fits", "(II)Z"⟩
abbrev cX10_canLean : ByteArray := prog_1_method_68_code
def yX10_canLean : MethodName := ⟨RX10, "canLean", "(I)Z"⟩
abbrev cX10_leant : ByteArray := prog_1_method_69_code
def yX10_leant : MethodName := ⟨RX10, "leant", "(II)I"⟩
abbrev cX10_sure : ByteArray := prog_1_method_70_code
def yX10_sure : MethodName := ⟨RX10, "sure", "(I)I"⟩
abbrev cX10_best : ByteArray := prog_1_method_71_code
def yX10_best : MethodName := ⟨RX10, "best", "(I)I"⟩
abbrev cX10_apartBy : ByteArray := prog_1_method_72_code
def yX10_apartBy : MethodName := ⟨RX10, "apartBy", "(II)I"⟩
abbrev cX10_cross : ByteArray := prog_1_method_73_code
def yX10_cross : MethodName := ⟨RX10, "cross", "()I"⟩
abbrev cX10_realm : ByteArray := prog_1_method_74_code
def yX10_realm : MethodName := ⟨RX10, "realm", "()I"⟩
abbrev cX10_gathered : ByteArray := prog_1_method_75_code
def yX10_gathered : MethodName := ⟨RX10, "gathered", "()I"⟩
abbrev cX10_dark : ByteArray := prog_1_method_76_code
def yX10_dark : MethodName := ⟨RX10, "dark", "()I"⟩
abbrev cX10_borders : ByteArray := prog_1_method_77_code
def yX10_borders : MethodName := ⟨RX10, "borders", "(I)I"⟩
abbrev cX10_guests : ByteArray := prog_1_method_78_code
def yX10_guests : MethodName := ⟨RX10, "guests", "()I"⟩
abbrev cX10_image : ByteArray := prog_1_method_79_code
def yX10_image : MethodName := ⟨RX10, "image", "()I"⟩
abbrev cX10_back : ByteArray := prog_1_method_80_code
def yX10_back : MethodName := ⟨RX10, "back", "()I"⟩
abbrev cX10_count : ByteArray := prog_1_method_81_code
def yX10_count : MethodName := ⟨RX10, "count", "(I)I"⟩
def RX11 : String := "VelvetStatesModel"
def TX11 : u_T := fun k => match k with
  | 0 => ("VelvetStatesModel", "thrown", "I", false)
  | 1 => ("VelvetStatesModel", "tape", "[I", true)
  | 2 => ("VelvetStatesModel", "size", "I", false)
  | 3 => ("VelvetStatesModel", "at", "I", false)
  | 4 => ("VelvetStatesModel", "wrong", "I", false)
  | 5 => ("VelvetStatesModel", "deep", "I", false)
  | 6 => ("VelvetStatesModel", "code", "[I", true)
  | 7 => ("VelvetStatesModel", "value", "[I", true)
  | 8 => ("VelvetStatesModel", "codes", "[I", true)
  | 9 => ("VelvetStatesModel", "clauses", "[I", true)
  | 10 => ("VelvetStatesModel", "testFrom", "[I", true)
  | 11 => ("VelvetStatesModel", "sumFrom", "[I", true)
  | 12 => ("VelvetStatesModel", "sumTo", "[I", true)
  | 13 => ("VelvetStatesModel", "laws", "I", false)
  | 14 => ("VelvetStatesModel", "text", "I", false)
  | 15 => ("VelvetStatesModel", "letters", "[I", true)
  | 16 => ("VelvetStatesModel", "stack", "[I", true)
  | 17 => ("VelvetStatesModel", "readRule", "[I", true)
  | 18 => ("VelvetStatesModel", "readCurtain", "[I", true)
  | 19 => ("VelvetStatesModel", "readPerson", "[I", true)
  | 20 => ("VelvetStatesModel", "readCurtains", "I", false)
  | 21 => ("VelvetStatesModel", "readPersons", "I", false)
  | 22 => ("VelvetStatesModel", "rule", "[I", true)
  | 23 => ("VelvetStatesModel", "curtain", "[I", true)
  | 24 => ("VelvetStatesModel", "person", "[I", true)
  | 25 => ("VelvetStatesModel", "squares", "I", false)
  | 26 => ("VelvetStatesModel", "curtains", "I", false)
  | 27 => ("VelvetStatesModel", "persons", "I", false)
  | 28 => ("VelvetStatesModel", "now", "[I", true)
  | 29 => ("VelvetStatesModel", "refused", "[I", true)
  | 30 => ("VelvetStatesModel", "holding", "I", false)
  | 31 => ("VelvetStatesModel", "hot", "I", false)
  | 32 => ("VelvetStatesModel", "nextTo", "[I", true)
  | 33 => ("VelvetStatesModel", "sideOf", "[I", true)
  | 34 => ("VelvetStatesModel", "bright", "[I", true)
  | 35 => ("VelvetStatesModel", "taken", "[I", true)
  | 36 => ("VelvetStatesModel", "kept", "[I", true)
  | 37 => ("VelvetStatesModel", "acts", "I", false)
  | 38 => ("VelvetStatesModel", "draws", "J", false)
  | 39 => ("VelvetStatesModel", "aside", "[I", true)
  | 40 => ("VelvetStatesModel", "oneHas", "[I", true)
  | 41 => ("VelvetStatesModel", "otherHas", "[I", true)
  | 42 => ("VelvetStatesModel", "fadeCurtain", "[I", true)
  | 43 => ("VelvetStatesModel", "fadeIs", "[Z", true)
  | 44 => ("VelvetStatesModel", "fades", "I", false)
  | 45 => ("VelvetStatesModel", "image", "[I", true)
  | _ => ("VelvetStatesModel", "hasImage", "Z", false)
def tyX11 : Nat → FieldType := fun k => match k with
  | 0 => .int
  | 1 => .array .int
  | 2 => .int
  | 3 => .int
  | 4 => .int
  | 5 => .int
  | 6 => .array .int
  | 7 => .array .int
  | 8 => .array .int
  | 9 => .array .int
  | 10 => .array .int
  | 11 => .array .int
  | 12 => .array .int
  | 13 => .int
  | 14 => .int
  | 15 => .array .int
  | 16 => .array .int
  | 17 => .array .int
  | 18 => .array .int
  | 19 => .array .int
  | 20 => .int
  | 21 => .int
  | 22 => .array .int
  | 23 => .array .int
  | 24 => .array .int
  | 25 => .int
  | 26 => .int
  | 27 => .int
  | 28 => .array .int
  | 29 => .array .int
  | 30 => .int
  | 31 => .int
  | 32 => .array .int
  | 33 => .array .int
  | 34 => .array .int
  | 35 => .array .int
  | 36 => .array .int
  | 37 => .int
  | 38 => .long
  | 39 => .array .int
  | 40 => .array .int
  | 41 => .array .int
  | 42 => .array .int
  | 43 => .array .boolean
  | 44 => .int
  | 45 => .array .int
  | _ => .boolean
abbrev wsX110 : List Cond := u_ws RX11 TX11 47
theorem nmX11 : ∀ a, a < 47 → ∀ b, b < 47 → a ≠ b → (TX11 a).2.1 ≠ (TX11 b).2.1 := by decide +kernel
theorem tyX11_ok : ∀ k, k < 47 → parseFieldDescriptor (TX11 k).2.2.1 = some (tyX11 k) := by decide +kernel
abbrev cX11_in : ByteArray := prog_13_method_1_code
def yX11_in : MethodName := ⟨RX11, "in", "(III)Z"⟩
abbrev cX11_has : ByteArray := prog_13_method_2_code
def yX11_has : MethodName := ⟨RX11, "has", "(II)Z"⟩
abbrev cX11_init : ByteArray := prog_13_method_3_code
def yX11_init : MethodName := ⟨RX11, "<init>", "()V"⟩
abbrev cX11_thrown : ByteArray := prog_13_method_4_code
def yX11_thrown : MethodName := ⟨RX11, "thrown", "()I"⟩
abbrev cX11_byteOf : ByteArray := prog_13_method_5_code
def yX11_byteOf : MethodName := ⟨RX11, "byteOf", "(IIIIII)I"⟩
abbrev cX11_feed : ByteArray := prog_13_method_6_code
def yX11_feed : MethodName := ⟨RX11, "feed", "(IIIII)I"⟩
abbrev cX11_end : ByteArray := prog_13_method_7_code
def yX11_end : MethodName := ⟨RX11, "end", "(I)Z"⟩
abbrev cX11_here : ByteArray := prog_13_method_8_code
def yX11_here : MethodName := ⟨RX11, "here", "()I"⟩
abbrev cX11_look : ByteArray := prog_13_method_9_code
def yX11_look : MethodName := ⟨RX11, "look", "()I"⟩
abbrev cX11_bad : ByteArray := prog_13_method_10_code
def yX11_bad : MethodName := ⟨RX11, "bad", "()V"⟩
abbrev cX11_isDigit : ByteArray := prog_13_method_11_code
def yX11_isDigit : MethodName := ⟨RX11, "isDigit", "(I)Z"⟩
abbrev cX11_put : ByteArray := prog_13_method_12_code
def yX11_put : MethodName := ⟨RX11, "put", "(II)V"⟩
abbrev cX11_letterOf : ByteArray := prog_13_method_13_code
def yX11_letterOf : MethodName := ⟨RX11, "letterOf", "(I)I"⟩
abbrev cX11_opens : ByteArray := prog_13_method_14_code
def yX11_opens : MethodName := ⟨RX11, "opens", "()V"⟩
abbrev cX11_closes : ByteArray := prog_13_method_15_code
def yX11_closes : MethodName := ⟨RX11, "closes", "(I)V"⟩
abbrev cX11_plainNumber : ByteArray := prog_13_method_16_code
def yX11_plainNumber : MethodName := ⟨RX11, "plainNumber", "()I"⟩
abbrev cX11_atom : ByteArray := prog_13_method_17_code
def yX11_atom : MethodName := ⟨RX11, "atom", "()V"⟩
abbrev cX11_term : ByteArray := prog_13_method_18_code
def yX11_term : MethodName := ⟨RX11, "term", "()V"⟩
abbrev cX11_sum : ByteArray := prog_13_method_19_code
def yX11_sum : MethodName := ⟨RX11, "sum", "()V"⟩
abbrev cX11_isSign : ByteArray := prog_13_method_20_code
def yX11_isSign : MethodName := ⟨RX11, "isSign", "(I)Z"⟩
abbrev cX11_compare : ByteArray := prog_13_method_21_code
def yX11_compare : MethodName := ⟨RX11, "compare", "()V"⟩
abbrev cX11_unit : ByteArray := prog_13_method_22_code
def yX11_unit : MethodName := ⟨RX11, "unit", "()V"⟩
abbrev cX11_goOnAnd : ByteArray := prog_13_method_23_code
def yX11_goOnAnd : MethodName := ⟨RX11, "goOnAnd", "()V"⟩
abbrev cX11_goOnOr : ByteArray := prog_13_method_24_code
def yX11_goOnOr : MethodName := ⟨RX11, "goOnOr", "()V"⟩
abbrev cX11_condition : ByteArray := prog_13_method_25_code
def yX11_condition : MethodName := ⟨RX11, "condition", "()V"⟩
abbrev cX11_clause : ByteArray := prog_13_method_26_code
def yX11_clause : MethodName := ⟨RX11, "clause", "()V"⟩
abbrev cX11_open : ByteArray := prog_13_method_27_code
def yX11_open : MethodName := ⟨RX11, "open", "(I)V"⟩
abbrev cX11_atEnd : ByteArray := prog_13_method_28_code
def yX11_atEnd : MethodName := ⟨RX11, "atEnd", "()I"⟩
abbrev cX11_readLaw : ByteArray := prog_13_method_29_code
def yX11_readLaw : MethodName := ⟨RX11, "readLaw", "(I)I"⟩
abbrev cX11_bounded : ByteArray := prog_13_method_30_code
def yX11_bounded : MethodName := ⟨RX11, "bounded", "(J)I"⟩
abbrev cX11_worked : ByteArray := prog_13_method_31_code
def yX11_worked : MethodName := ⟨RX11, "worked", "(IJJ)I"⟩
abbrev cX11_workOut : ByteArray := prog_13_method_32_code
def yX11_workOut : MethodName := ⟨RX11, "workOut", "(III)I"⟩
abbrev cX11_worthOf : ByteArray := prog_13_method_33_code
def yX11_worthOf : MethodName := ⟨RX11, "worthOf", "(I)I"⟩
abbrev cX11_number : ByteArray := prog_13_method_34_code
def yX11_number : MethodName := ⟨RX11, "number", "(II)I"⟩
abbrev cX11_itemOf : ByteArray := prog_13_method_35_code
def yX11_itemOf : MethodName := ⟨RX11, "itemOf", "(II)I"⟩
abbrev cX11_lowest : ByteArray := prog_13_method_36_code
def yX11_lowest : MethodName := ⟨RX11, "lowest", "(II)I"⟩
abbrev cX11_highest : ByteArray := prog_13_method_37_code
def yX11_highest : MethodName := ⟨RX11, "highest", "(II)I"⟩
abbrev cX11_usual : ByteArray := prog_13_method_38_code
def yX11_usual : MethodName := ⟨RX11, "usual", "(II)I"⟩
abbrev cX11_items : ByteArray := prog_13_method_39_code
def yX11_items : MethodName := ⟨RX11, "items", "(I[III)V"⟩
abbrev cX11_isWhole : ByteArray := prog_13_method_40_code
def yX11_isWhole : MethodName := ⟨RX11, "isWhole", "()Z"⟩
abbrev cX11_readRoom : ByteArray := prog_13_method_41_code
def yX11_readRoom : MethodName := ⟨RX11, "readRoom", "()I"⟩
abbrev cX11_fault : ByteArray := prog_13_method_42_code
def yX11_fault : MethodName := ⟨RX11, "fault", "(I)I"⟩
abbrev cX11_takeRoom : ByteArray := prog_13_method_43_code
def yX11_takeRoom : MethodName := ⟨RX11, "takeRoom", "()I"⟩
abbrev cX11_text : ByteArray := prog_13_method_44_code
def yX11_text : MethodName := ⟨RX11, "text", "(I)I"⟩
abbrev cX11_of : ByteArray := prog_13_method_45_code
def yX11_of : MethodName := ⟨RX11, "of", "(II)I"⟩
abbrev cX11_isSquare : ByteArray := prog_13_method_46_code
def yX11_isSquare : MethodName := ⟨RX11, "isSquare", "(I)Z"⟩
abbrev cX11_isCurtain : ByteArray := prog_13_method_47_code
def yX11_isCurtain : MethodName := ⟨RX11, "isCurtain", "(I)Z"⟩
abbrev cX11_isPerson : ByteArray := prog_13_method_48_code
def yX11_isPerson : MethodName := ⟨RX11, "isPerson", "(I)Z"⟩
abbrev cX11_isFallen : ByteArray := prog_13_method_49_code
def yX11_isFallen : MethodName := ⟨RX11, "isFallen", "(I)Z"⟩
abbrev cX11_hangs : ByteArray := prog_13_method_50_code
def yX11_hangs : MethodName := ⟨RX11, "hangs", "(I)Z"⟩
abbrev cX11_firstSide : ByteArray := prog_13_method_51_code
def yX11_firstSide : MethodName := ⟨RX11, "firstSide", "(I)I"⟩
abbrev cX11_secondSide : ByteArray := prog_13_method_52_code
def yX11_secondSide : MethodName := ⟨RX11, "secondSide", "(I)I"⟩
abbrev cX11_isAt : ByteArray := prog_13_method_53_code
def yX11_isAt : MethodName := ⟨RX11, "isAt", "(II)Z"⟩
abbrev cX11_hanging : ByteArray := prog_13_method_54_code
def yX11_hanging : MethodName := ⟨RX11, "hanging", "()I"⟩
abbrev cX11_fallen : ByteArray := prog_13_method_55_code
def yX11_fallen : MethodName := ⟨RX11, "fallen", "()I"⟩
abbrev cX11_between : ByteArray := prog_13_method_56_code
def yX11_between : MethodName := ⟨RX11, "between", "(II)I"⟩
abbrev cX11_beside : ByteArray := prog_13_method_57_code
def yX11_beside : MethodName := ⟨RX11, "beside", "(II)I"⟩
abbrev cX11_joinedBy : ByteArray := prog_13_method_58_code
def yX11_joinedBy : MethodName := ⟨RX11, "joinedBy", "(II)I"⟩
abbrev cX11_stateOf : ByteArray := prog_13_method_59_code
def yX11_stateOf : MethodName := ⟨RX11, "stateOf", "(I)I"⟩
abbrev cX11_nameOf : ByteArray := prog_13_method_60_code
def yX11_nameOf : MethodName := ⟨RX11, "nameOf", "(I)I"⟩
abbrev cX11_personsIn : ByteArray := prog_13_method_61_code
def yX11_personsIn : MethodName := ⟨RX11, "personsIn", "(I)I"⟩
abbrev cX11_lordOf : ByteArray := prog_13_method_62_code
def yX11_lordOf : MethodName := ⟨RX11, "lordOf", "(I)I"⟩
abbrev cX11_states : ByteArray := prog_13_method_63_code
def yX11_states : MethodName := ⟨RX11, "states", "()I"⟩
abbrev cX11_takes : ByteArray := prog_13_method_64_code
def yX11_takes : MethodName := ⟨RX11, "takes", "(I)I"⟩
abbrev cX11_layBright : ByteArray := prog_13_method_65_code
def yX11_layBright : MethodName := ⟨RX11, "layBright", "(III)V"⟩
abbrev cX11_layLit : ByteArray := prog_13_method_66_code
def yX11_layLit : MethodName := ⟨RX11, "layLit", "()V"⟩
abbrev cX11_litOfAll : ByteArray := prog_13_method_67_code
def yX11_litOfAll : MethodName := ⟨RX11, "litOfAll", "()I"⟩
abbrev cX11_rule : ByteArray := prog_13_method_68_code
def yX11_rule : MethodName := ⟨RX11, "rule", "(I)I"⟩
abbrev cX11_curtain : ByteArray := prog_13_method_69_code
def yX11_curtain : MethodName := ⟨RX11, "curtain", "(II)I"⟩
abbrev cX11_person : ByteArray := prog_13_method_70_code
def yX11_person : MethodName := ⟨RX11, "person", "(II)I"⟩
abbrev cX11_law : ByteArray := prog_13_method_71_code
def yX11_law : MethodName := ⟨RX11, "law", "(I)Z"⟩
abbrev cX11_state : ByteArray := prog_13_method_72_code
def yX11_state : MethodName := ⟨RX11, "state", "(I)I"⟩
abbrev cX11_lord : ByteArray := prog_13_method_73_code
def yX11_lord : MethodName := ⟨RX11, "lord", "(I)I"⟩
abbrev cX11_lit : ByteArray := prog_13_method_74_code
def yX11_lit : MethodName := ⟨RX11, "lit", "(I)I"⟩
abbrev cX11_touch : ByteArray := prog_13_method_75_code
def yX11_touch : MethodName := ⟨RX11, "touch", "(II)I"⟩
abbrev cX11_keep : ByteArray := prog_13_method_76_code
def yX11_keep : MethodName := ⟨RX11, "keep", "()V"⟩
abbrev cX11_isRefused : ByteArray := prog_13_method_77_code
def yX11_isRefused : MethodName := ⟨RX11, "isRefused", "(I)Z"⟩
abbrev cX11_hasRight : ByteArray := prog_13_method_78_code
def yX11_hasRight : MethodName := ⟨RX11, "hasRight", "(II)Z"⟩
abbrev cX11_pull : ByteArray := prog_13_method_79_code
def yX11_pull : MethodName := ⟨RX11, "pull", "(IIZ)I"⟩
abbrev cX11_go : ByteArray := prog_13_method_80_code
def yX11_go : MethodName := ⟨RX11, "go", "(II)I"⟩
abbrev cX11_creep : ByteArray := prog_13_method_81_code
def yX11_creep : MethodName := ⟨RX11, "creep", "(II)I"⟩
abbrev cX11_mend : ByteArray := prog_13_method_82_code
def yX11_mend : MethodName := ⟨RX11, "mend", "(II)I"⟩
abbrev cX11_live : ByteArray := prog_13_method_83_code
def yX11_live : MethodName := ⟨RX11, "live", "()I"⟩
abbrev cX11_passYear : ByteArray := prog_13_method_84_code
def yX11_passYear : MethodName := ⟨RX11, "passYear", "()V"⟩
abbrev cX11_areYears : ByteArray := prog_13_method_85_code
def yX11_areYears : MethodName := ⟨RX11, "areYears", "(I)Z"⟩
abbrev cX11_years : ByteArray := prog_13_method_86_code
def yX11_years : MethodName := ⟨RX11, "years", "(I)I"⟩
abbrev cX11_heat : ByteArray := prog_13_method_87_code
def yX11_heat : MethodName := ⟨RX11, "heat", "(I)Z"⟩
abbrev cX11_draw : ByteArray := prog_13_method_88_code
def yX11_draw : MethodName := ⟨RX11, "draw", "(I)I"⟩
abbrev cX11_drawYear : ByteArray := prog_13_method_89_code
def yX11_drawYear : MethodName := ⟨RX11, "drawYear", "()V"⟩
abbrev cX11_centuries : ByteArray := prog_13_method_90_code
def yX11_centuries : MethodName := ⟨RX11, "centuries", "(IJ)I"⟩
abbrev cX11_status : ByteArray := prog_13_method_91_code
def yX11_status : MethodName := ⟨RX11, "status", "(I)I"⟩
abbrev cX11_undo : ByteArray := prog_13_method_92_code
def yX11_undo : MethodName := ⟨RX11, "undo", "()I"⟩
abbrev cX11_log : ByteArray := prog_13_method_93_code
def yX11_log : MethodName := ⟨RX11, "log", "(II)I"⟩
abbrev cX11_isFewer : ByteArray := prog_13_method_94_code
def yX11_isFewer : MethodName := ⟨RX11, "isFewer", "(II)Z"⟩
abbrev cX11_join : ByteArray := prog_13_method_95_code
def yX11_join : MethodName := ⟨RX11, "join", "(II)I"⟩
abbrev cX11_drawnBack : ByteArray := prog_13_method_96_code
def yX11_drawnBack : MethodName := ⟨RX11, "drawnBack", "()I"⟩
abbrev cX11_hide : ByteArray := prog_13_method_97_code
def yX11_hide : MethodName := ⟨RX11, "hide", "(III)I"⟩
abbrev cX11_seen : ByteArray := prog_13_method_98_code
def yX11_seen : MethodName := ⟨RX11, "seen", "(II)I"⟩
abbrev cX11_lowEnough : ByteArray := prog_13_method_99_code
def yX11_lowEnough : MethodName := ⟨RX11, "lowEnough", "(I)I"⟩
abbrev cX11_under : ByteArray := prog_13_method_100_code
def yX11_under : MethodName := ⟨RX11, "under", "(III)I"⟩
abbrev cX11_lead : ByteArray := prog_13_method_101_code
def yX11_lead : MethodName := ⟨RX11, "lead", "(I)I"⟩
abbrev cX11_putAside : ByteArray := prog_13_method_102_code
def yX11_putAside : MethodName := ⟨RX11, "putAside", "()V"⟩
abbrev cX11_takeBack : ByteArray := prog_13_method_103_code
def yX11_takeBack : MethodName := ⟨RX11, "takeBack", "()V"⟩
abbrev cX11_first : ByteArray := prog_13_method_104_code
def yX11_first : MethodName := ⟨RX11, "first", "(I)I"⟩
abbrev cX11_clothOfAll : ByteArray := prog_13_method_105_code
def yX11_clothOfAll : MethodName := ⟨RX11, "clothOfAll", "()I"⟩
abbrev cX11_cloth : ByteArray := prog_13_method_106_code
def yX11_cloth : MethodName := ⟨RX11, "cloth", "(I)I"⟩
abbrev cX11_turnOf : ByteArray := prog_13_method_107_code
def yX11_turnOf : MethodName := ⟨RX11, "turnOf", "(II)I"⟩
abbrev cX11_hasBy : ByteArray := prog_13_method_108_code
def yX11_hasBy : MethodName := ⟨RX11, "hasBy", "(II)I"⟩
abbrev cX11_gameOf : ByteArray := prog_13_method_109_code
def yX11_gameOf : MethodName := ⟨RX11, "gameOf", "(IIIII)I"⟩
abbrev cX11_areTwo : ByteArray := prog_13_method_110_code
def yX11_areTwo : MethodName := ⟨RX11, "areTwo", "(II)Z"⟩
abbrev cX11_game : ByteArray := prog_13_method_111_code
def yX11_game : MethodName := ⟨RX11, "game", "(IIIII)I"⟩
abbrev cX11_layGame : ByteArray := prog_13_method_112_code
def yX11_layGame : MethodName := ⟨RX11, "layGame", "(II)V"⟩
abbrev cX11_isRest : ByteArray := prog_13_method_113_code
def yX11_isRest : MethodName := ⟨RX11, "isRest", "(II)Z"⟩
abbrev cX11_rests : ByteArray := prog_13_method_114_code
def yX11_rests : MethodName := ⟨RX11, "rests", "(III)I"⟩
abbrev cX11_treaty : ByteArray := prog_13_method_115_code
def yX11_treaty : MethodName := ⟨RX11, "treaty", "(II)I"⟩
abbrev cX11_air : ByteArray := prog_13_method_116_code
def yX11_air : MethodName := ⟨RX11, "air", "(I)I"⟩
abbrev cX11_faded : ByteArray := prog_13_method_117_code
def yX11_faded : MethodName := ⟨RX11, "faded", "(IZ)I"⟩
abbrev cX11_couldLean : ByteArray := prog_13_method_118_code
def yX11_couldLean : MethodName := ⟨RX11, "couldLean", "(II)Z"⟩
abbrev cX11_isLeant : ByteArray := prog_13_method_119_code
def yX11_isLeant : MethodName := ⟨RX11, "isLeant", "(II)Z"⟩
abbrev cX11_areLeaning : ByteArray := prog_13_method_120_code
def yX11_areLeaning : MethodName := ⟨RX11, "areLeaning", "(I)Z"⟩
abbrev cX11_leant : ByteArray := prog_13_method_121_code
def yX11_leant : MethodName := ⟨RX11, "leant", "(II)I"⟩
abbrev cX11_sure : ByteArray := prog_13_method_122_code
def yX11_sure : MethodName := ⟨RX11, "sure", "(I)I"⟩
abbrev cX11_best : ByteArray := prog_13_method_123_code
def yX11_best : MethodName := ⟨RX11, "best", "(I)I"⟩
abbrev cX11_cross : ByteArray := prog_13_method_124_code
def yX11_cross : MethodName := ⟨RX11, "cross", "()I"⟩
abbrev cX11_realm : ByteArray := prog_13_method_125_code
def yX11_realm : MethodName := ⟨RX11, "realm", "()I"⟩
abbrev cX11_gathered : ByteArray := prog_13_method_126_code
def yX11_gathered : MethodName := ⟨RX11, "gathered", "()I"⟩
abbrev cX11_dark : ByteArray := prog_13_method_127_code
def yX11_dark : MethodName := ⟨RX11, "dark", "()I"⟩
abbrev cX11_borders : ByteArray := prog_13_method_128_code
def yX11_borders : MethodName := ⟨RX11, "borders", "(I)I"⟩
abbrev cX11_guests : ByteArray := prog_13_method_129_code
def yX11_guests : MethodName := ⟨RX11, "guests", "()I"⟩
abbrev cX11_image : ByteArray := prog_13_method_130_code
def yX11_image : MethodName := ⟨RX11, "image", "()I"⟩
abbrev cX11_back : ByteArray := prog_13_method_131_code
def yX11_back : MethodName := ⟨RX11, "back", "()I"⟩
abbrev cX11_count : ByteArray := prog_13_method_132_code
def yX11_count : MethodName := ⟨RX11, "count", "(I)I"⟩
def RJx145de : String := "java/io/Serializable"
def TJx145de : u_T := fun k => match k with
  | _ => ("", "", "", false)
def tyJx145de : Nat → FieldType := fun k => match k with
  | _ => .int
theorem nmJx145de : ∀ a, a < 0 → ∀ b, b < 0 → a ≠ b → (TJx145de a).2.1 ≠ (TJx145de b).2.1 := by decide +kernel
theorem tyJx145de_ok : ∀ k, k < 0 → parseFieldDescriptor (TJx145de k).2.2.1 = some (tyJx145de k) := by decide +kernel
def RJ6 : String := "java/lang/Integer"
def TJ6 : u_T := fun k => match k with
  | _ => ("", "", "", false)
def tyJ6 : Nat → FieldType := fun k => match k with
  | _ => .int
abbrev wsJ60 : List Cond := u_ws RJ6 TJ6 0
theorem nmJ6 : ∀ a, a < 0 → ∀ b, b < 0 → a ≠ b → (TJ6 a).2.1 ≠ (TJ6 b).2.1 := by decide +kernel
theorem tyJ6_ok : ∀ k, k < 0 → parseFieldDescriptor (TJ6 k).2.2.1 = some (tyJ6 k) := by decide +kernel
abbrev cJ6_numberOfTrailingZeros_0f7a4 : ByteArray := prog_16_method_48_code
def yJ6_numberOfTrailingZeros_0f7a4 : MethodName := ⟨RJ6, "numberOfTrailingZeros", "(I)I"⟩
abbrev cJ6_bitCount_0f7a4 : ByteArray := prog_16_method_49_code
def yJ6_bitCount_0f7a4 : MethodName := ⟨RJ6, "bitCount", "(I)I"⟩
def RJ9 : String := "java/lang/Math"
def TJ9 : u_T := fun k => match k with
  | _ => ("", "", "", false)
def tyJ9 : Nat → FieldType := fun k => match k with
  | _ => .int
abbrev wsJ90 : List Cond := u_ws RJ9 TJ9 0
theorem nmJ9 : ∀ a, a < 0 → ∀ b, b < 0 → a ≠ b → (TJ9 a).2.1 ≠ (TJ9 b).2.1 := by decide +kernel
theorem tyJ9_ok : ∀ k, k < 0 → parseFieldDescriptor (TJ9 k).2.2.1 = some (tyJ9 k) := by decide +kernel
abbrev cJ9_floorMod_7cf53 : ByteArray := prog_17_method_50_code
def yJ9_floorMod_7cf53 : MethodName := ⟨RJ9, "floorMod", "(II)I"⟩
abbrev cJ9_abs_0f7a4 : ByteArray := prog_17_method_59_code
def yJ9_abs_0f7a4 : MethodName := ⟨RJ9, "abs", "(I)I"⟩
abbrev cJ9_max_7cf53 : ByteArray := prog_17_method_65_code
def yJ9_max_7cf53 : MethodName := ⟨RJ9, "max", "(II)I"⟩
abbrev cJ9_max_f86c9 : ByteArray := prog_17_method_66_code
def yJ9_max_f86c9 : MethodName := ⟨RJ9, "max", "(JJ)J"⟩
abbrev cJ9_min_7cf53 : ByteArray := prog_17_method_69_code
def yJ9_min_7cf53 : MethodName := ⟨RJ9, "min", "(II)I"⟩
abbrev cJ9_min_f86c9 : ByteArray := prog_17_method_70_code
def yJ9_min_f86c9 : MethodName := ⟨RJ9, "min", "(JJ)J"⟩
def RJ10 : String := "java/lang/System"
def TJ10 : u_T := fun k => match k with
  | _ => ("", "", "", false)
def tyJ10 : Nat → FieldType := fun k => match k with
  | _ => .int
abbrev wsJ100 : List Cond := u_ws RJ10 TJ10 0
theorem nmJ10 : ∀ a, a < 0 → ∀ b, b < 0 → a ≠ b → (TJ10 a).2.1 ≠ (TJ10 b).2.1 := by decide +kernel
theorem tyJ10_ok : ∀ k, k < 0 → parseFieldDescriptor (TJ10 k).2.2.1 = some (tyJ10 k) := by decide +kernel
def RJ7 : String := "java/util/Arrays"
def TJ7 : u_T := fun k => match k with
  | _ => ("", "", "", false)
def tyJ7 : Nat → FieldType := fun k => match k with
  | _ => .int
abbrev wsJ70 : List Cond := u_ws RJ7 TJ7 0
theorem nmJ7 : ∀ a, a < 0 → ∀ b, b < 0 → a ≠ b → (TJ7 a).2.1 ≠ (TJ7 b).2.1 := by decide +kernel
theorem tyJ7_ok : ∀ k, k < 0 → parseFieldDescriptor (TJ7 k).2.2.1 = some (tyJ7 k) := by decide +kernel
abbrev cJ7_fill_53178 : ByteArray := prog_21_method_103_code
def yJ7_fill_53178 : MethodName := ⟨RJ7, "fill", "([II)V"⟩
def RL : String := "VelvetStatesLaw"
abbrev cL_person : ByteArray := method_3_code
def yL_person : MethodName := ⟨RL, "person", "(LVelvetStates;II[J)I"⟩
abbrev cL_law : ByteArray := code
def yL_law : MethodName := ⟨RL, "law", "([I)Z"⟩
abbrev vwCl : List vw_C := [(RX0, TX0, 3), (RX1, TX1, 5), (RX2, TX2, 7), (RX3, TX3, 4), (RX4, TX4, 7), (RX6, TX6, 18), (RX7, TX7, 6), (RX8, TX8, 5), (RX9, TX9, 3), (RX10, TX10, 19), (RX11, TX11, 47)]
end
section
/-! the words, the fields, the methods: what the tables say -/
/-- the field kinds: 0 a whole number of 32 bits, 1 of 64, 2 + k a reference to a cell of kind k -/
def mj_ftl : List (List Nat) := [[0, 0, 0], [102, 0, 0, 102, 0], [0, 0, 105, 102, 102, 102, 0], [102, 102, 102, 102], [0, 0, 102, 102, 0, 102, 102], [0, 0, 0, 0, 0, 0, 0, 0, 102, 102, 102, 102, 102, 102, 0, 0, 102, 102], [102, 0, 0, 0, 7, 102], [7, 102, 102, 0, 0], [0, 102, 102], [102, 0, 8, 3, 4, 7, 7, 9, 9, 6, 2, 5, 10, 102, 0, 1, 0, 0, 0],
  [0, 102, 0, 0, 0, 0, 102, 102, 102, 102, 102, 102, 102, 0, 0, 102, 102, 102, 102, 102, 0, 0, 102, 102, 102, 0, 0, 0, 102, 102, 0, 0, 102, 102, 102, 102, 102, 0, 1, 102, 102, 102, 102, 103, 0, 102, 0]]
def mj_ft (c k : Nat) : Nat := (mj_ftl.getD c []).getD k 0
def mj_nf (c : Nat) : Nat := (mj_ftl.getD c []).length
-- the words
def mj_T : List Cond := lw_tbl.filter goodWord
theorem mj_in {w : Cond} (i : Nat) (h : lw_tbl[i]? = some w) (hg : goodWord w = true) : w ∈ mj_T := List.mem_filter.mpr ⟨List.mem_of_getElem? h, hg⟩
/-- the nest mates' words are carried by the state -/
def mj_isN : Cond → Bool
  | .fieldLinkNest .. => true
  | .methodLinkNest .. => true
  | _ => false
def mj_N : List Cond := tables_1.filter mj_isN
theorem mj_inN {w : Cond} (i : Nat) (h : tables_1[i]? = some w) (hg : mj_isN w = true) : w ∈ mj_N := List.mem_filter.mpr ⟨List.mem_of_getElem? h, hg⟩
/-- what the tables say of a field as this class's code names it: the class's number, the field's -/
def mj_fl (own : String) (index ci k : Nat) (ty : FieldType) (fin o : Bool) : Prop := ∃ (ref C : String) (T : u_T) (N : Nat) (ty0 : Nat → FieldType), vwCl[ci]? = some (C, T, N) ∧ (∀ w ∈ u_ws C T N, w ∈ mj_T) ∧ (∀ j, j < N → parseFieldDescriptor (T j).2.2.1 = some (ty0 j)) ∧ (∀ a, a < N → ∀ b, b < N → a ≠ b → (T a).2.1 ≠ (T b).2.1) ∧ k < N ∧ N = mj_nf ci ∧ ci < 11 ∧ ty0 k = ty ∧ (T k).2.2.2 = fin ∧ (o = true → (T k).1 = own) ∧ Cond.fieldLink own index ref (T k).2.1 (T k).2.2.1 ∈ mj_T ∧ (ref = (T k).1 ∨ Cond.sameField ref (T k).1 (T k).2.1 (T k).2.2.1 ∈ mj_T)
/-- what the tables say of a method that is called -/
def mj_cal (y : MethodName) (b : ByteArray) (nL2 : Nat) (rt2 : Option FieldType) (np : Nat) : Prop := Cond.code y b nL2 rt2 ∈ mj_T ∧ Cond.initialized y.cls ∈ mj_T ∧ (y.cls ≠ "java/lang/invoke/MethodHandle" ∧ y.cls ≠ "java/lang/invoke/VarHandle" ∧ (parseMethodDescriptor y.desc).map (fun d => d.parameters.length) = some np) ∧ nL2 ≤ 45
end
section
/-! THE MINI WORLD: cells by small numbers, their contents as functions; a judgement over it that speaks of no address. -/
abbrev mj_S : Type := List (Nat × Nat) × (Nat → Nat → Int32) × (Nat → Nat → Int64) × (Nat → Nat → Option Nat)
def m_kd (S : mj_S) (a : Nat) : Nat := (S.1.getD a (999, 0)).1
def m_ln (S : mj_S) (a : Nat) : Nat := (S.1.getD a (999, 0)).2
def m_gi (S : mj_S) (a j : Nat) : Int32 := S.2.1 a j
def m_gl (S : mj_S) (a j : Nat) : Int64 := S.2.2.1 a j
def m_gp (S : mj_S) (a j : Nat) : Option Nat := S.2.2.2 a j
def m_si (S : mj_S) (a j : Nat) (x : Int32) : mj_S := (S.1, (fun b k => if b = a ∧ k = j then x else S.2.1 b k), S.2.2.1, S.2.2.2)
def m_sl (S : mj_S) (a j : Nat) (x : Int64) : mj_S := (S.1, S.2.1, (fun b k => if b = a ∧ k = j then x else S.2.2.1 b k), S.2.2.2)
def m_sp (S : mj_S) (a j : Nat) (x : Option Nat) : mj_S := (S.1, S.2.1, S.2.2.1, (fun b k => if b = a ∧ k = j then x else S.2.2.2 b k))
def m_row (S : mj_S) (a : Nat) (f : Nat → Int32) : mj_S := (S.1, (fun b => if b = a then f else S.2.1 b), S.2.2.1, S.2.2.2)
def m_nw (S : mj_S) (k n : Nat) : mj_S := (S.1 ++ [(k, n)], S.2.1, S.2.2.1, S.2.2.2)
abbrev mj_G : Type := va_G × (Nat → ClassId) × Nat × (Nat → Int32)
def mj_cv (ad : Nat → Nat) : Value → Value
  | .ref a => .ref (ad a)
  | v => v
def mj_fv (ad : Nat → Nat) (S : mj_S) (a k : Nat) : Value := if mj_ft (m_kd S a) k = 0 then .int (m_gi S a k) else if mj_ft (m_kd S a) k = 1 then .long (m_gl S a k) else va_rf ((m_gp S a k).map ad)
def mj_ce (dA : Nat → ClassId) (ad : Nat → Nat) (S : mj_S) (a : Nat) : va_E :=
  if m_kd S a < 100 then .inr (m_kd S a, (List.range (m_ln S a)).map (mj_fv ad S a))
  else if m_kd S a = 102 then .inl (dA 2, m_ln S a, .inr (.inl (m_gl S a)))
  else if m_kd S a = 103 then .inl (dA 3, m_ln S a, .inr (.inr (.inr (.inr (fun j => (m_gp S a j).map ad)))))
  else .inl (dA (m_kd S a - 100), m_ln S a, .inl (m_gi S a))
def mj_ws (dA : Nat → ClassId) (ad : Nat → Nat) (S : mj_S) : va_W := (List.range (S.1.length - 6)).map (fun i => (ad (i + 6), mj_ce dA ad S (i + 6)))
theorem mj_at {dA : Nat → ClassId} {ad : Nat → Nat} {S : mj_S} {a : Nat} (h : 6 ≤ a) (hl : a < S.1.length) : (mj_ws dA ad S)[a - 6]? = some (ad a, mj_ce dA ad S a) := by
  unfold mj_ws
  rw [List.getElem?_map, List.getElem?_range (by omega)]
  simp [show a - 6 + 6 = a by omega]
theorem mj_atI {dA : Nat → ClassId} {ad : Nat → Nat} {S : mj_S} {k : Nat} {q : Nat × va_E} (h : (mj_ws dA ad S)[k]? = some q) : k + 6 < S.1.length ∧ q = (ad (k + 6), mj_ce dA ad S (k + 6)) := by
  unfold mj_ws at h
  rw [List.getElem?_map] at h
  by_cases hk : k < S.1.length - 6
  · rw [List.getElem?_range hk] at h
    simp at h
    exact ⟨by omega, h.symm⟩
  · rw [List.getElem?_eq_none (by simp; omega)] at h
    cases h
theorem mj_set {dA : Nat → ClassId} {ad : Nat → Nat} {S S' : mj_S} {a : Nat} (h : 6 ≤ a) (hl : S'.1 = S.1) (hc : ∀ b, b ≠ a → mj_ce dA ad S' b = mj_ce dA ad S b) : mj_ws dA ad S' = (mj_ws dA ad S).set (a - 6) (ad a, mj_ce dA ad S' a) := by
  apply List.ext_getElem?
  intro i
  unfold mj_ws
  rw [hl]
  by_cases hi : i < S.1.length - 6
  · by_cases e : i = a - 6
    · subst e
      rw [List.getElem?_set_self (by simpa using hi), List.getElem?_map, List.getElem?_range hi]
      simp [show a - 6 + 6 = a by omega]
    · rw [List.getElem?_set_ne (fun q => e q.symm), List.getElem?_map, List.getElem?_map, List.getElem?_range hi]
      simp only [Option.map_some]
      rw [hc (i + 6) (by omega)]
  · rw [List.getElem?_eq_none (by simp; omega), List.getElem?_eq_none (by simp; omega)]
theorem mj_rset {f f' : Nat → Value} {n k : Nat} {v : Value} (h1 : f' k = v) (h2 : ∀ j, j ≠ k → f' j = f j) : ((List.range n).map f).set k v = (List.range n).map f' := by
  apply List.ext_getElem?
  intro i
  by_cases hi : i < n
  · by_cases e : i = k
    · subst e
      rw [List.getElem?_set_self (by simpa using hi), List.getElem?_map, List.getElem?_range hi]
      simp [h1]
    · rw [List.getElem?_set_ne (fun q => e q.symm), List.getElem?_map, List.getElem?_map, List.getElem?_range hi]
      simp [h2 i e]
  · rw [List.getElem?_eq_none (by simp; omega), List.getElem?_eq_none (by simp; omega)]
theorem mj_good {w : Cond} (h : w ∈ mj_T) : GoodIn mj_T (w :: mj_T) := by
  intro v hv
  have hm : v ∈ mj_T := by
    rcases List.mem_cons.mp hv with e | e
    · rw [e]; exact h
    · exact e
  exact ⟨hm, good_of_word (List.mem_filter.mp hm).2⟩
def mj_nw (U : State) : Prop := ∀ w ∈ mj_N, va_Nw w U
theorem mj_nw.warm {s U : State} (hW : s.WarmedH U.vm) (h : mj_nw s) : mj_nw U := by
  intro w hw
  have h1 := h w hw
  have h2 := (List.mem_filter.mp hw).2
  cases w <;> first | exact va_Nw.warmF hW h1 | exact va_Nw.warmM hW h1 | exact absurd h2 (by simp [mj_isN])
theorem mj_nw.same {u U : State} (hv : u.vm = U.vm) (h : mj_nw u) : mj_nw U := by
  intro w hw
  have h1 := h w hw
  have h2 := (List.mem_filter.mp hw).2
  cases w <;> first | exact va_Nw.same rfl hv h1 | exact absurd h2 (by simp [mj_isN])
-- read-only cells: five static tables, the script
def mj_ron (i : Nat) : String × String := if i = 0 then ("ITEM_LETTER", "[C") else if i = 1 then ("ITEM_LEAST", "[I") else if i = 2 then ("ITEM_MOST", "[I") else if i = 3 then ("ITEM_WITHOUT", "[I") else ("LAW_LETTER", "[C")
def mj_rs (L i : Nat) : Nat × Nat := if i = 0 then (111, 12) else if i = 1 then (110, 12) else if i = 2 then (110, 12) else if i = 3 then (110, 12) else if i = 4 then (111, 6) else (110, L)
def mj_rct : List (List Int32) := [[119, 104, 108, 109, 97, 100, 118, 107, 103, 111, 99, 109], [1, 1, 0, 0, 0, 0, 0, 1, 0, 0, 0, 1], [5, 4, 99, 9, 19, 1, 9, 99, 9, 1, 19, 9], [4, 3, 40, 1, 0, 0, 5, 30, 1, 0, 0, 3], [118, 107, 103, 108, 121, 99]]
def mj_rc (xs : Nat → Int32) (i j : Nat) : Int32 := if i < 5 then (mj_rct.getD i []).getD j 0 else xs j
def mj_ro (L : Nat) (xs : Nat → Int32) (ad : Nat → Nat) (A : Nat → Prop) (U : State) (H : Heap) : Prop := (∀ i, i < 5 → va_Z "VelvetStates" (mj_ron i).1 (mj_ron i).2 (.ref (ad i)) A U H) ∧ ∀ i, i < 6 → va_T (if (mj_rs L i).1 = 111 then .char else .int) (ad i) (mj_rs L i).2 (fun j => .int (mj_rc xs i j)) A U H
theorem mj_ro.moved {L : Nat} {xs : Nat → Int32} {ad : Nat → Nat} {A : Nat → Prop} {u U : State} {H : Heap} (hvm : u.vm.Alike U.vm) (h : mj_ro L xs ad A u H) : mj_ro L xs ad A U H := ⟨fun i hi => va_Z.moved hvm (h.1 i hi), fun i hi => va_T.moved hvm (h.2 i hi)⟩
theorem mj_ro.kept {L : Nat} {xs : Nat → Int32} {ad : Nat → Nat} {A : Nat → Prop} {U : State} {H H1 : Heap} (h : mj_ro L xs ad A U H) (hq : ∀ a : Nat, a < H.size → ¬ A a → H1[a]? = H[a]?) : mj_ro L xs ad A U H1 := ⟨fun i hi => va_Z.kept (h.1 i hi) hq, fun i hi => va_T.kept (h.2 i hi) hq⟩
theorem mj_ro.narrow {L : Nat} {xs : Nat → Int32} {ad : Nat → Nat} {A B : Nat → Prop} {U : State} {H : Heap} (h : mj_ro L xs ad A U H) (hAB : ∀ q, B q → A q) : mj_ro L xs ad B U H := ⟨fun i hi => va_Z.narrow (h.1 i hi) hAB, fun i hi => va_T.narrow (h.2 i hi) hAB⟩
theorem mj_ro.ad {L : Nat} {xs : Nat → Int32} {ad ad' : Nat → Nat} {A : Nat → Prop} {U : State} {H : Heap} (h : mj_ro L xs ad A U H) (e : ∀ i, i < 6 → ad' i = ad i) : mj_ro L xs ad' A U H := ⟨fun i hi => by rw [e i (by omega)]; exact h.1 i hi, fun i hi => by rw [e i hi]; exact h.2 i hi⟩
-- well made
def mj_wf (L : Nat) (xs : Nat → Int32) (S : mj_S) : Prop := 6 ≤ S.1.length ∧ (∀ i, i < 6 → S.1[i]? = some (mj_rs L i) ∧ ∀ j, m_gi S i j = mj_rc xs i j) ∧ (∀ i, 6 ≤ i → i < S.1.length → (m_kd S i < 11 ∧ m_ln S i = mj_nf (m_kd S i)) ∨ (100 ≤ m_kd S i ∧ m_kd S i ≤ 103)) ∧ (∀ i j b, m_gp S i j = some b → b < S.1.length) ∧ (∀ i k b, m_kd S i < 100 → 2 ≤ mj_ft (m_kd S i) k → m_gp S i k = some b → m_kd S b + 2 = mj_ft (m_kd S i) k) ∧ (∀ i j b, m_kd S i = 103 → m_gp S i j = some b → m_kd S b = 100) ∧ ∀ i j, S.1.length ≤ i → m_gi S i j = 0 ∧ m_gl S i j = 0 ∧ m_gp S i j = none
def mj_ok (S : mj_S) : Value → Prop
  | .int _ => True
  | .long _ => True
  | .ref a => a < S.1.length
  | _ => False
theorem m_kd_lt {S : mj_S} {a : Nat} (h : m_kd S a ≠ 999) : a < S.1.length := by
  rcases Nat.lt_or_ge a S.1.length with q | q
  · exact q
  · exact absurd (by simp [m_kd, List.getD_eq_getElem?_getD, List.getElem?_eq_none q]) h
def mj_w0 (G : mj_G) (ad : Nat → Nat) (S : mj_S) (A : Nat → Prop) (U : State) (H : Heap) : Prop := va_P G.1 vwCl (mj_ws G.2.1 ad S) H ∧ va_D A (mj_ws G.2.1 ad S) ∧ va_K G.1 vwCl [(G.2.1 0, .int), (G.2.1 1, .boolean), (G.2.1 2, .long), (G.2.1 3, .array .int)] U ∧ mj_wf G.2.2.1 G.2.2.2 S ∧ mj_nw U
/-- the answer is as its type says -/
def mj_nr (rt : Option FieldType) (v : Option Value) : Prop := match rt, v with
  | some ty, some x => narrow ty x = x
  | _, _ => True
def mj_Qc (G : mj_G) (rt : Option FieldType) (Q : mj_S → Option Value → Prop) (ad0 : Nat → Nat) (sh0 : List (Nat × Nat)) (A : Nat → Prop) : Array Value → State → Outcome → State → Prop := fun _ st oc t =>
  (∃ (S : mj_S) (ad : Nat → Nat) (v : Option Value), oc = .returned (v.map (mj_cv ad)) ∧ Q S v ∧ mj_w0 G ad S A t t.heap ∧ sh0 <+: S.1 ∧ (∀ i, i < sh0.length → ad i = ad0 i) ∧ (∀ x, v = some x → mj_ok S x) ∧ mj_nr rt v) ∧ va_F A st t
abbrev mj_Z : Type := List Frame → Array Value → State → (Nat → Prop) → (Nat → Nat) → List (Nat × Nat) → State → Prop
/-- a method's end: it returns, and Q -/
def mj_std (G : mj_G) (rt : Option FieldType) (R : Room) (Q : mj_S → Option Value → Prop) : mj_Z := fun below args s A ad0 sh0 => MQ below (mj_Qc G rt Q ad0 sh0 A) args s R.cells R.slots A
/-- what holds at a point of a method -/
def mj_X (G : mj_G) (own : String) (cc : ByteArray) (nL : Nat) (rt : Option FieldType) (ini : Bool) (ls : List (Option Value)) (st : List Value) (S : mj_S) (p : Program) (s : State) (m : MethodId) (args : Array Value) (meth : Method) (c : Code) (H : Heap) (locs : List Loc) (A : Nat → Prop) (ad ad0 : Nat → Nat) (sh0 : List (Nat × Nat)) (rls : Array Slot) : Prop :=
  (p.tables.exec = Jvm.exec ∧ c.code = cc ∧ c.maxLocals = nL ∧ s.vm.findClass own = some m.cls ∧ ∀ w ∈ mj_T, w.before args s = true) ∧ (meth.locks = false ∧ meth.sig.returnType = rt ∧ (ini = true → meth.name = "<init>")) ∧ mj_w0 G ad S A s H ∧ (va_S A s.heap H locs ∧ (∀ q, s.heap.size ≤ q → A q) ∧ mj_ro G.2.2.1 G.2.2.2 ad A s s.heap) ∧ (sh0 <+: S.1 ∧ 6 ≤ sh0.length ∧ ∀ i, i < sh0.length → ad i = ad0 i) ∧ (∀ v ∈ st, mj_ok S v) ∧ (∀ (i : Nat) (v : Value), ls[i]? = some (some v) → mj_ok S v) ∧ rls.size = nL ∧ lv_wf rls ∧ ∀ (i : Nat) (v : Value), ls[i]? = some (some v) → rls[i]? = some (Slot.val (mj_cv ad v))
def mj_V (l : Launch) (G : mj_G) (R : Room) (own : String) (cc : ByteArray) (nL : Nat) (rt : Option FieldType) (ini : Bool) (pc : Nat) (ls : List (Option Value)) (st : List Value) (S : mj_S) (k n : Nat) (Q : mj_Z) : Prop :=
  ∀ (p : Program) (e : Env) (s : State) (m : MethodId) (args : Array Value) (below : List Frame) (meth : Method) (c : Code) (H : Heap) (locs : List Loc) (A : Nat → Prop) (ad ad0 : Nat → Nat) (sh0 : List (Nat × Nat)) (rls : Array Slot), mj_X G own cc nL rt ini ls st S p s m args meth c H locs A ad ad0 sh0 rls →
    W p l e R s m args below meth c H locs k n (Q below args s A ad0 sh0) (F0 m pc rls (st.map (mj_cv ad)))
section MJ1
variable {G : mj_G} {own : String} {cc : ByteArray} {nL : Nat} {rt : Option FieldType} {ini : Bool} {ls : List (Option Value)} {st st' : List Value} {S : mj_S} {p : Program} {s : State} {m : MethodId} {args : Array Value} {meth : Method} {c : Code} {H : Heap} {locs : List Loc} {A : Nat → Prop} {ad ad0 : Nat → Nat} {sh0 : List (Nat × Nat)} {rls : Array Slot}
theorem mj_X.hx (X : mj_X G own cc nL rt ini ls st S p s m args meth c H locs A ad ad0 sh0 rls) : p.tables.exec = Jvm.exec := X.1.1
theorem mj_X.hb (X : mj_X G own cc nL rt ini ls st S p s m args meth c H locs A ad ad0 sh0 rls) : c.code = cc := X.1.2.1
theorem mj_X.hml (X : mj_X G own cc nL rt ini ls st S p s m args meth c H locs A ad ad0 sh0 rls) : c.maxLocals = nL := X.1.2.2.1
theorem mj_X.hown (X : mj_X G own cc nL rt ini ls st S p s m args meth c H locs A ad ad0 sh0 rls) : s.vm.findClass own = some m.cls := X.1.2.2.2.1
theorem mj_X.hts (X : mj_X G own cc nL rt ini ls st S p s m args meth c H locs A ad ad0 sh0 rls) : ∀ w ∈ mj_T, w.before args s = true := X.1.2.2.2.2
theorem mj_X.hP (X : mj_X G own cc nL rt ini ls st S p s m args meth c H locs A ad ad0 sh0 rls) : va_P G.1 vwCl (mj_ws G.2.1 ad S) H := X.2.2.1.1
theorem mj_X.hD (X : mj_X G own cc nL rt ini ls st S p s m args meth c H locs A ad ad0 sh0 rls) : va_D A (mj_ws G.2.1 ad S) := X.2.2.1.2.1
theorem mj_X.hK (X : mj_X G own cc nL rt ini ls st S p s m args meth c H locs A ad ad0 sh0 rls) : va_K G.1 vwCl [(G.2.1 0, .int), (G.2.1 1, .boolean), (G.2.1 2, .long), (G.2.1 3, .array .int)] s := X.2.2.1.2.2.1
theorem mj_X.hw (X : mj_X G own cc nL rt ini ls st S p s m args meth c H locs A ad ad0 sh0 rls) : mj_wf G.2.2.1 G.2.2.2 S := X.2.2.1.2.2.2.1
theorem mj_X.hN (X : mj_X G own cc nL rt ini ls st S p s m args meth c H locs A ad ad0 sh0 rls) : mj_nw s := X.2.2.1.2.2.2.2
theorem mj_X.hS (X : mj_X G own cc nL rt ini ls st S p s m args meth c H locs A ad ad0 sh0 rls) : va_S A s.heap H locs := X.2.2.2.1.1
theorem mj_X.hA (X : mj_X G own cc nL rt ini ls st S p s m args meth c H locs A ad ad0 sh0 rls) : ∀ q, s.heap.size ≤ q → A q := X.2.2.2.1.2.1
theorem mj_X.hro (X : mj_X G own cc nL rt ini ls st S p s m args meth c H locs A ad ad0 sh0 rls) : mj_ro G.2.2.1 G.2.2.2 ad A s s.heap := X.2.2.2.1.2.2
theorem mj_X.hst (X : mj_X G own cc nL rt ini ls st S p s m args meth c H locs A ad ad0 sh0 rls) : ∀ v ∈ st, mj_ok S v := X.2.2.2.2.2.1
theorem mj_X.hls (X : mj_X G own cc nL rt ini ls st S p s m args meth c H locs A ad ad0 sh0 rls) : ∀ (i : Nat) (v : Value), ls[i]? = some (some v) → mj_ok S v := X.2.2.2.2.2.2.1
theorem mj_X.hsz (X : mj_X G own cc nL rt ini ls st S p s m args meth c H locs A ad ad0 sh0 rls) : rls.size = nL := X.2.2.2.2.2.2.2.1
theorem mj_X.hlw (X : mj_X G own cc nL rt ini ls st S p s m args meth c H locs A ad ad0 sh0 rls) : lv_wf rls := X.2.2.2.2.2.2.2.2.1
theorem mj_X.hlv (X : mj_X G own cc nL rt ini ls st S p s m args meth c H locs A ad ad0 sh0 rls) : ∀ (i : Nat) (v : Value), ls[i]? = some (some v) → rls[i]? = some (Slot.val (mj_cv ad v)) := X.2.2.2.2.2.2.2.2.2
theorem mj_X.stk (X : mj_X G own cc nL rt ini ls st S p s m args meth c H locs A ad ad0 sh0 rls) (h : ∀ v ∈ st', mj_ok S v) : mj_X G own cc nL rt ini ls st' S p s m args meth c H locs A ad ad0 sh0 rls := ⟨X.1, X.2.1, X.2.2.1, X.2.2.2.1, X.2.2.2.2.1, h, X.2.2.2.2.2.2⟩
theorem mj_okc {v : Value} (h : mj_ok S v) (hs : ∀ u ∈ st, mj_ok S u) : ∀ u ∈ v :: st, mj_ok S u := by
  intro u hu
  rcases List.mem_cons.mp hu with e | e
  · rw [e]; exact h
  · exact hs u e
theorem mj_okt {v : Value} (hs : ∀ u ∈ v :: st, mj_ok S u) : ∀ u ∈ st, mj_ok S u := fun u hu => hs u (List.mem_cons_of_mem _ hu)
theorem mj_okh {v : Value} (hs : ∀ u ∈ v :: st, mj_ok S u) : mj_ok S v := hs v List.mem_cons_self
end MJ1
end
section
section MJ2
variable {l : Launch} {G : mj_G} {R : Room} {own : String} {cc : ByteArray} {nL : Nat} {rt : Option FieldType} {ini : Bool} {pc : Nat} {ls : List (Option Value)} {st : List Value} {S : mj_S} {k n : Nat} {Q : mj_Z}

theorem mj_iadd {x y : Int32} (hd : decode cc pc = .ok (.iadd, 1)) (kk : mj_V l G R own cc nL rt ini (pc + 1) ls (.int (x + y) :: st) S k n Q) : mj_V l G R own cc nL rt ini pc ls (.int y :: .int x :: st) S k n Q := by
  intro p e s m args below meth c H locs A ad ad0 sh0 rls X
  exact lv_iadd X.hx X.hb hd (kk p e s m args below meth c H locs A ad ad0 sh0 rls (X.stk (mj_okc trivial (mj_okt (mj_okt (X.hst))))))
theorem mj_isub {x y : Int32} (hd : decode cc pc = .ok (.isub, 1)) (kk : mj_V l G R own cc nL rt ini (pc + 1) ls (.int (x - y) :: st) S k n Q) : mj_V l G R own cc nL rt ini pc ls (.int y :: .int x :: st) S k n Q := by
  intro p e s m args below meth c H locs A ad ad0 sh0 rls X
  exact lv_isub X.hx X.hb hd (kk p e s m args below meth c H locs A ad ad0 sh0 rls (X.stk (mj_okc trivial (mj_okt (mj_okt (X.hst))))))
theorem mj_imul {x y : Int32} (hd : decode cc pc = .ok (.imul, 1)) (kk : mj_V l G R own cc nL rt ini (pc + 1) ls (.int (x * y) :: st) S k n Q) : mj_V l G R own cc nL rt ini pc ls (.int y :: .int x :: st) S k n Q := by
  intro p e s m args below meth c H locs A ad ad0 sh0 rls X
  exact lv_imul X.hx X.hb hd (kk p e s m args below meth c H locs A ad ad0 sh0 rls (X.stk (mj_okc trivial (mj_okt (mj_okt (X.hst))))))
theorem mj_iand {x y : Int32} (hd : decode cc pc = .ok (.iand, 1)) (kk : mj_V l G R own cc nL rt ini (pc + 1) ls (.int (x &&& y) :: st) S k n Q) : mj_V l G R own cc nL rt ini pc ls (.int y :: .int x :: st) S k n Q := by
  intro p e s m args below meth c H locs A ad ad0 sh0 rls X
  exact lv_iand X.hx X.hb hd (kk p e s m args below meth c H locs A ad ad0 sh0 rls (X.stk (mj_okc trivial (mj_okt (mj_okt (X.hst))))))
theorem mj_ior {x y : Int32} (hd : decode cc pc = .ok (.ior, 1)) (kk : mj_V l G R own cc nL rt ini (pc + 1) ls (.int (x ||| y) :: st) S k n Q) : mj_V l G R own cc nL rt ini pc ls (.int y :: .int x :: st) S k n Q := by
  intro p e s m args below meth c H locs A ad ad0 sh0 rls X
  exact lv_ior X.hx X.hb hd (kk p e s m args below meth c H locs A ad ad0 sh0 rls (X.stk (mj_okc trivial (mj_okt (mj_okt (X.hst))))))
theorem mj_ixor {x y : Int32} (hd : decode cc pc = .ok (.ixor, 1)) (kk : mj_V l G R own cc nL rt ini (pc + 1) ls (.int (x ^^^ y) :: st) S k n Q) : mj_V l G R own cc nL rt ini pc ls (.int y :: .int x :: st) S k n Q := by
  intro p e s m args below meth c H locs A ad ad0 sh0 rls X
  exact lv_ixor X.hx X.hb hd (kk p e s m args below meth c H locs A ad ad0 sh0 rls (X.stk (mj_okc trivial (mj_okt (mj_okt (X.hst))))))
theorem mj_ishl {x y : Int32} (hd : decode cc pc = .ok (.ishl, 1)) (kk : mj_V l G R own cc nL rt ini (pc + 1) ls (.int (x <<< (y &&& 31)) :: st) S k n Q) : mj_V l G R own cc nL rt ini pc ls (.int y :: .int x :: st) S k n Q := by
  intro p e s m args below meth c H locs A ad ad0 sh0 rls X
  exact lv_ishl X.hx X.hb hd (kk p e s m args below meth c H locs A ad ad0 sh0 rls (X.stk (mj_okc trivial (mj_okt (mj_okt (X.hst))))))
theorem mj_ishr {x y : Int32} (hd : decode cc pc = .ok (.ishr, 1)) (kk : mj_V l G R own cc nL rt ini (pc + 1) ls (.int (x >>> (y &&& 31)) :: st) S k n Q) : mj_V l G R own cc nL rt ini pc ls (.int y :: .int x :: st) S k n Q := by
  intro p e s m args below meth c H locs A ad ad0 sh0 rls X
  exact lv_ishr X.hx X.hb hd (kk p e s m args below meth c H locs A ad ad0 sh0 rls (X.stk (mj_okc trivial (mj_okt (mj_okt (X.hst))))))
theorem mj_iushr {x y : Int32} (hd : decode cc pc = .ok (.iushr, 1)) (kk : mj_V l G R own cc nL rt ini (pc + 1) ls (.int ((x.toUInt32 >>> (y.toUInt32 &&& Int32.toUInt32 31)).toInt32) :: st) S k n Q) : mj_V l G R own cc nL rt ini pc ls (.int y :: .int x :: st) S k n Q := by
  intro p e s m args below meth c H locs A ad ad0 sh0 rls X
  exact lv_iushr X.hx X.hb hd rfl (kk p e s m args below meth c H locs A ad ad0 sh0 rls (X.stk (mj_okc trivial (mj_okt (mj_okt (X.hst))))))
theorem mj_idiv {x y : Int32} (hd : decode cc pc = .ok (.idiv, 1)) (h0 : ¬ y = 0) (kk : mj_V l G R own cc nL rt ini (pc + 1) ls (.int (x / y) :: st) S k n Q) : mj_V l G R own cc nL rt ini pc ls (.int y :: .int x :: st) S k n Q := by
  intro p e s m args below meth c H locs A ad ad0 sh0 rls X
  exact lv_idiv X.hx X.hb hd h0 (kk p e s m args below meth c H locs A ad ad0 sh0 rls (X.stk (mj_okc trivial (mj_okt (mj_okt (X.hst))))))
theorem mj_irem {x y : Int32} (hd : decode cc pc = .ok (.irem, 1)) (h0 : ¬ y = 0) (kk : mj_V l G R own cc nL rt ini (pc + 1) ls (.int (x - x / y * y) :: st) S k n Q) : mj_V l G R own cc nL rt ini pc ls (.int y :: .int x :: st) S k n Q := by
  intro p e s m args below meth c H locs A ad ad0 sh0 rls X
  exact lv_irem X.hx X.hb hd h0 (kk p e s m args below meth c H locs A ad ad0 sh0 rls (X.stk (mj_okc trivial (mj_okt (mj_okt (X.hst))))))
theorem mj_ineg {x : Int32} (hd : decode cc pc = .ok (.ineg, 1)) (kk : mj_V l G R own cc nL rt ini (pc + 1) ls (.int (-x) :: st) S k n Q) : mj_V l G R own cc nL rt ini pc ls (.int x :: st) S k n Q := by
  intro p e s m args below meth c H locs A ad ad0 sh0 rls X
  exact lv_ineg X.hx X.hb hd (kk p e s m args below meth c H locs A ad ad0 sh0 rls (X.stk (mj_okc trivial (mj_okt (X.hst)))))
theorem mj_ladd {x y : Int64} (hd : decode cc pc = .ok (.ladd, 1)) (kk : mj_V l G R own cc nL rt ini (pc + 1) ls (.long (x + y) :: st) S k n Q) : mj_V l G R own cc nL rt ini pc ls (.long y :: .long x :: st) S k n Q := by
  intro p e s m args below meth c H locs A ad ad0 sh0 rls X
  exact lv_ladd X.hx X.hb hd (kk p e s m args below meth c H locs A ad ad0 sh0 rls (X.stk (mj_okc trivial (mj_okt (mj_okt (X.hst))))))
theorem mj_lsub {x y : Int64} (hd : decode cc pc = .ok (.lsub, 1)) (kk : mj_V l G R own cc nL rt ini (pc + 1) ls (.long (x - y) :: st) S k n Q) : mj_V l G R own cc nL rt ini pc ls (.long y :: .long x :: st) S k n Q := by
  intro p e s m args below meth c H locs A ad ad0 sh0 rls X
  exact lv_lsub X.hx X.hb hd (kk p e s m args below meth c H locs A ad ad0 sh0 rls (X.stk (mj_okc trivial (mj_okt (mj_okt (X.hst))))))
theorem mj_lmul {x y : Int64} (hd : decode cc pc = .ok (.lmul, 1)) (kk : mj_V l G R own cc nL rt ini (pc + 1) ls (.long (x * y) :: st) S k n Q) : mj_V l G R own cc nL rt ini pc ls (.long y :: .long x :: st) S k n Q := by
  intro p e s m args below meth c H locs A ad ad0 sh0 rls X
  exact lv_lmul X.hx X.hb hd (kk p e s m args below meth c H locs A ad ad0 sh0 rls (X.stk (mj_okc trivial (mj_okt (mj_okt (X.hst))))))
theorem mj_land {x y : Int64} (hd : decode cc pc = .ok (.land, 1)) (kk : mj_V l G R own cc nL rt ini (pc + 1) ls (.long (x &&& y) :: st) S k n Q) : mj_V l G R own cc nL rt ini pc ls (.long y :: .long x :: st) S k n Q := by
  intro p e s m args below meth c H locs A ad ad0 sh0 rls X
  exact lv_land X.hx X.hb hd (kk p e s m args below meth c H locs A ad ad0 sh0 rls (X.stk (mj_okc trivial (mj_okt (mj_okt (X.hst))))))
theorem mj_lor {x y : Int64} (hd : decode cc pc = .ok (.lor, 1)) (kk : mj_V l G R own cc nL rt ini (pc + 1) ls (.long (x ||| y) :: st) S k n Q) : mj_V l G R own cc nL rt ini pc ls (.long y :: .long x :: st) S k n Q := by
  intro p e s m args below meth c H locs A ad ad0 sh0 rls X
  exact lv_lor X.hx X.hb hd (kk p e s m args below meth c H locs A ad ad0 sh0 rls (X.stk (mj_okc trivial (mj_okt (mj_okt (X.hst))))))
theorem mj_ldiv {x y : Int64} (hd : decode cc pc = .ok (.ldiv, 1)) (h0 : ¬ y = 0) (kk : mj_V l G R own cc nL rt ini (pc + 1) ls (.long (x / y) :: st) S k n Q) : mj_V l G R own cc nL rt ini pc ls (.long y :: .long x :: st) S k n Q := by
  intro p e s m args below meth c H locs A ad ad0 sh0 rls X
  exact lv_ldiv X.hx X.hb hd h0 (kk p e s m args below meth c H locs A ad ad0 sh0 rls (X.stk (mj_okc trivial (mj_okt (mj_okt (X.hst))))))
theorem mj_lrem {x y : Int64} (hd : decode cc pc = .ok (.lrem, 1)) (h0 : ¬ y = 0) (kk : mj_V l G R own cc nL rt ini (pc + 1) ls (.long (x - x / y * y) :: st) S k n Q) : mj_V l G R own cc nL rt ini pc ls (.long y :: .long x :: st) S k n Q := by
  intro p e s m args below meth c H locs A ad ad0 sh0 rls X
  exact lv_lrem X.hx X.hb hd h0 (kk p e s m args below meth c H locs A ad ad0 sh0 rls (X.stk (mj_okc trivial (mj_okt (mj_okt (X.hst))))))
theorem mj_lcmp {x y : Int64} (hd : decode cc pc = .ok (.lcmp, 1)) (kk : mj_V l G R own cc nL rt ini (pc + 1) ls (.int (lg_cmp x y) :: st) S k n Q) : mj_V l G R own cc nL rt ini pc ls (.long y :: .long x :: st) S k n Q := by
  intro p e s m args below meth c H locs A ad ad0 sh0 rls X
  exact W.lcmp X.hx X.hb hd (kk p e s m args below meth c H locs A ad ad0 sh0 rls (X.stk (mj_okc trivial (mj_okt (mj_okt (X.hst))))))
theorem mj_i2l {x : Int32} (hd : decode cc pc = .ok (.i2l, 1)) (kk : mj_V l G R own cc nL rt ini (pc + 1) ls (.long x.toInt64 :: st) S k n Q) : mj_V l G R own cc nL rt ini pc ls (.int x :: st) S k n Q := by
  intro p e s m args below meth c H locs A ad ad0 sh0 rls X
  exact lv_i2l X.hx X.hb hd rfl (kk p e s m args below meth c H locs A ad ad0 sh0 rls (X.stk (mj_okc trivial (mj_okt (X.hst)))))
theorem mj_l2i {x : Int64} (hd : decode cc pc = .ok (.l2i, 1)) (kk : mj_V l G R own cc nL rt ini (pc + 1) ls (.int x.toInt32 :: st) S k n Q) : mj_V l G R own cc nL rt ini pc ls (.long x :: st) S k n Q := by
  intro p e s m args below meth c H locs A ad ad0 sh0 rls X
  exact lv_l2i X.hx X.hb hd rfl (kk p e s m args below meth c H locs A ad ad0 sh0 rls (X.stk (mj_okc trivial (mj_okt (X.hst)))))
theorem mj_lushr {x : Int64} {y : Int32} (hd : decode cc pc = .ok (.lushr, 1)) (kk : mj_V l G R own cc nL rt ini (pc + 1) ls (.long ((x.toUInt64 >>> (y.toInt64.toUInt64 &&& Int64.toUInt64 63)).toInt64) :: st) S k n Q) : mj_V l G R own cc nL rt ini pc ls (.int y :: .long x :: st) S k n Q := by
  intro p e s m args below meth c H locs A ad ad0 sh0 rls X
  exact lv_lushr X.hx X.hb hd rfl (kk p e s m args below meth c H locs A ad ad0 sh0 rls (X.stk (mj_okc trivial (mj_okt (mj_okt (X.hst))))))
theorem mj_lshl {x : Int64} {y : Int32} (hd : decode cc pc = .ok (.lshl, 1)) (kk : mj_V l G R own cc nL rt ini (pc + 1) ls (.long (x <<< (y.toInt64 &&& 63)) :: st) S k n Q) : mj_V l G R own cc nL rt ini pc ls (.int y :: .long x :: st) S k n Q := by
  intro p e s m args below meth c H locs A ad ad0 sh0 rls X
  exact lv_lshl X.hx X.hb hd rfl (kk p e s m args below meth c H locs A ad ad0 sh0 rls (X.stk (mj_okc trivial (mj_okt (mj_okt (X.hst))))))
theorem mj_iconst {z : Int} {v : Int32} (hd : decode cc pc = .ok (.iconst z, 1)) (hv : Int32.ofInt z = v) (kk : mj_V l G R own cc nL rt ini (pc + 1) ls (.int v :: st) S k n Q) : mj_V l G R own cc nL rt ini pc ls (st) S k n Q := by
  intro p e s m args below meth c H locs A ad ad0 sh0 rls X
  exact lv_iconst X.hx X.hb hd hv (kk p e s m args below meth c H locs A ad ad0 sh0 rls (X.stk (mj_okc trivial (X.hst))))
theorem mj_bipush {z : Int} {v : Int32} (hd : decode cc pc = .ok (.bipush z, 2)) (hv : (Int8.ofInt z).toInt32 = v) (kk : mj_V l G R own cc nL rt ini (pc + 2) ls (.int v :: st) S k n Q) : mj_V l G R own cc nL rt ini pc ls (st) S k n Q := by
  intro p e s m args below meth c H locs A ad ad0 sh0 rls X
  exact lv_bipush X.hx X.hb hd hv (kk p e s m args below meth c H locs A ad ad0 sh0 rls (X.stk (mj_okc trivial (X.hst))))
theorem mj_sipush {z : Int} {v : Int32} (hd : decode cc pc = .ok (.sipush z, 3)) (hv : (Int16.ofInt z).toInt32 = v) (kk : mj_V l G R own cc nL rt ini (pc + 3) ls (.int v :: st) S k n Q) : mj_V l G R own cc nL rt ini pc ls (st) S k n Q := by
  intro p e s m args below meth c H locs A ad ad0 sh0 rls X
  exact lv_sipush X.hx X.hb hd hv (kk p e s m args below meth c H locs A ad ad0 sh0 rls (X.stk (mj_okc trivial (X.hst))))
theorem mj_lconst {z : Fin 2} {v : Int64} (hd : decode cc pc = .ok (.lconst z, 1)) (hv : Int64.ofNat (z : Nat) = v) (kk : mj_V l G R own cc nL rt ini (pc + 1) ls (.long v :: st) S k n Q) : mj_V l G R own cc nL rt ini pc ls (st) S k n Q := by
  intro p e s m args below meth c H locs A ad ad0 sh0 rls X
  exact lv_lconst X.hx X.hb hd hv (kk p e s m args below meth c H locs A ad ad0 sh0 rls (X.stk (mj_okc trivial (X.hst))))
theorem mj_ldcw {index : Nat} {v : Int32} (hd : decode cc pc = .ok (.ldc_w index, 3)) (hc : Cond.constant own index v ∈ mj_T) (kk : mj_V l G R own cc nL rt ini (pc + 3) ls (.int v :: st) S k n Q) : mj_V l G R own cc nL rt ini pc ls st S k n Q := by
  intro p e s m args below meth c H locs A ad ad0 sh0 rls X
  exact lv_ldcw X.hx X.hb X.hown (X.hts _ hc) hd (kk p e s m args below meth c H locs A ad ad0 sh0 rls (X.stk (mj_okc trivial X.hst)))
theorem mj_ldc {index : Nat} {v : Int32} (hd : decode cc pc = .ok (.ldc index, 2)) (hc : Cond.constant own index v ∈ mj_T) (kk : mj_V l G R own cc nL rt ini (pc + 2) ls (.int v :: st) S k n Q) : mj_V l G R own cc nL rt ini pc ls st S k n Q := by
  intro p e s m args below meth c H locs A ad ad0 sh0 rls X
  exact lv_ldc X.hx X.hb X.hown (X.hts _ hc) hd (kk p e s m args below meth c H locs A ad ad0 sh0 rls (X.stk (mj_okc trivial X.hst)))
theorem mj_ldc2 {index : Nat} {v : Int64} (hd : decode cc pc = .ok (.ldc2_w index, 3)) (hc : Cond.constantLong own index v ∈ mj_T) (kk : mj_V l G R own cc nL rt ini (pc + 3) ls (.long v :: st) S k n Q) : mj_V l G R own cc nL rt ini pc ls st S k n Q := by
  intro p e s m args below meth c H locs A ad ad0 sh0 rls X
  exact lv_ldc2 X.hx X.hb X.hown (X.hts _ hc) hd (kk p e s m args below meth c H locs A ad ad0 sh0 rls (X.stk (mj_okc trivial X.hst)))
theorem mj_if_eq {x : Int32} {off : Int} {tgt : Nat} (hd : decode cc pc = .ok (.ifCond .eq off, 3)) (ht : (pc : Int) + off = (tgt : Int)) (kk : (x = 0 → mj_V l G R own cc nL rt ini tgt ls st S k n Q) ∧ (¬ (x = 0) → mj_V l G R own cc nL rt ini (pc + 3) ls st S k n Q)) : mj_V l G R own cc nL rt ini pc ls (.int x :: st) S k n Q := by
  intro p e s m args below meth c H locs A ad ad0 sh0 rls X
  exact lv_if_eq X.hx X.hb hd ht (fun h => kk.1 h p e s m args below meth c H locs A ad ad0 sh0 rls (X.stk (mj_okt X.hst))) (fun h => kk.2 h p e s m args below meth c H locs A ad ad0 sh0 rls (X.stk (mj_okt X.hst)))
theorem mj_icmp_eq {x y : Int32} {off : Int} {tgt : Nat} (hd : decode cc pc = .ok (.if_icmp .eq off, 3)) (ht : (pc : Int) + off = (tgt : Int)) (kk : (x = y → mj_V l G R own cc nL rt ini tgt ls st S k n Q) ∧ (¬ (x = y) → mj_V l G R own cc nL rt ini (pc + 3) ls st S k n Q)) : mj_V l G R own cc nL rt ini pc ls (.int y :: .int x :: st) S k n Q := by
  intro p e s m args below meth c H locs A ad ad0 sh0 rls X
  exact lv_icmp_eq X.hx X.hb hd ht (fun h => kk.1 h p e s m args below meth c H locs A ad ad0 sh0 rls (X.stk (mj_okt (mj_okt X.hst)))) (fun h => kk.2 h p e s m args below meth c H locs A ad ad0 sh0 rls (X.stk (mj_okt (mj_okt X.hst))))
theorem mj_if_ne {x : Int32} {off : Int} {tgt : Nat} (hd : decode cc pc = .ok (.ifCond .ne off, 3)) (ht : (pc : Int) + off = (tgt : Int)) (kk : (¬ x = 0 → mj_V l G R own cc nL rt ini tgt ls st S k n Q) ∧ (x = 0 → mj_V l G R own cc nL rt ini (pc + 3) ls st S k n Q)) : mj_V l G R own cc nL rt ini pc ls (.int x :: st) S k n Q := by
  intro p e s m args below meth c H locs A ad ad0 sh0 rls X
  exact lv_if_ne X.hx X.hb hd ht (fun h => kk.1 h p e s m args below meth c H locs A ad ad0 sh0 rls (X.stk (mj_okt X.hst))) (fun h => kk.2 h p e s m args below meth c H locs A ad ad0 sh0 rls (X.stk (mj_okt X.hst)))
theorem mj_icmp_ne {x y : Int32} {off : Int} {tgt : Nat} (hd : decode cc pc = .ok (.if_icmp .ne off, 3)) (ht : (pc : Int) + off = (tgt : Int)) (kk : (¬ x = y → mj_V l G R own cc nL rt ini tgt ls st S k n Q) ∧ (x = y → mj_V l G R own cc nL rt ini (pc + 3) ls st S k n Q)) : mj_V l G R own cc nL rt ini pc ls (.int y :: .int x :: st) S k n Q := by
  intro p e s m args below meth c H locs A ad ad0 sh0 rls X
  exact lv_icmp_ne X.hx X.hb hd ht (fun h => kk.1 h p e s m args below meth c H locs A ad ad0 sh0 rls (X.stk (mj_okt (mj_okt X.hst)))) (fun h => kk.2 h p e s m args below meth c H locs A ad ad0 sh0 rls (X.stk (mj_okt (mj_okt X.hst))))
theorem mj_if_lt {x : Int32} {off : Int} {tgt : Nat} (hd : decode cc pc = .ok (.ifCond .lt off, 3)) (ht : (pc : Int) + off = (tgt : Int)) (kk : (x < 0 → mj_V l G R own cc nL rt ini tgt ls st S k n Q) ∧ (¬ (x < 0) → mj_V l G R own cc nL rt ini (pc + 3) ls st S k n Q)) : mj_V l G R own cc nL rt ini pc ls (.int x :: st) S k n Q := by
  intro p e s m args below meth c H locs A ad ad0 sh0 rls X
  exact lv_if_lt X.hx X.hb hd ht (fun h => kk.1 h p e s m args below meth c H locs A ad ad0 sh0 rls (X.stk (mj_okt X.hst))) (fun h => kk.2 h p e s m args below meth c H locs A ad ad0 sh0 rls (X.stk (mj_okt X.hst)))
theorem mj_icmp_lt {x y : Int32} {off : Int} {tgt : Nat} (hd : decode cc pc = .ok (.if_icmp .lt off, 3)) (ht : (pc : Int) + off = (tgt : Int)) (kk : (x < y → mj_V l G R own cc nL rt ini tgt ls st S k n Q) ∧ (¬ (x < y) → mj_V l G R own cc nL rt ini (pc + 3) ls st S k n Q)) : mj_V l G R own cc nL rt ini pc ls (.int y :: .int x :: st) S k n Q := by
  intro p e s m args below meth c H locs A ad ad0 sh0 rls X
  exact lv_icmp_lt X.hx X.hb hd ht (fun h => kk.1 h p e s m args below meth c H locs A ad ad0 sh0 rls (X.stk (mj_okt (mj_okt X.hst)))) (fun h => kk.2 h p e s m args below meth c H locs A ad ad0 sh0 rls (X.stk (mj_okt (mj_okt X.hst))))
theorem mj_if_ge {x : Int32} {off : Int} {tgt : Nat} (hd : decode cc pc = .ok (.ifCond .ge off, 3)) (ht : (pc : Int) + off = (tgt : Int)) (kk : (0 ≤ x → mj_V l G R own cc nL rt ini tgt ls st S k n Q) ∧ (¬ (0 ≤ x) → mj_V l G R own cc nL rt ini (pc + 3) ls st S k n Q)) : mj_V l G R own cc nL rt ini pc ls (.int x :: st) S k n Q := by
  intro p e s m args below meth c H locs A ad ad0 sh0 rls X
  exact lv_if_ge X.hx X.hb hd ht (fun h => kk.1 h p e s m args below meth c H locs A ad ad0 sh0 rls (X.stk (mj_okt X.hst))) (fun h => kk.2 h p e s m args below meth c H locs A ad ad0 sh0 rls (X.stk (mj_okt X.hst)))
theorem mj_icmp_ge {x y : Int32} {off : Int} {tgt : Nat} (hd : decode cc pc = .ok (.if_icmp .ge off, 3)) (ht : (pc : Int) + off = (tgt : Int)) (kk : (y ≤ x → mj_V l G R own cc nL rt ini tgt ls st S k n Q) ∧ (¬ (y ≤ x) → mj_V l G R own cc nL rt ini (pc + 3) ls st S k n Q)) : mj_V l G R own cc nL rt ini pc ls (.int y :: .int x :: st) S k n Q := by
  intro p e s m args below meth c H locs A ad ad0 sh0 rls X
  exact lv_icmp_ge X.hx X.hb hd ht (fun h => kk.1 h p e s m args below meth c H locs A ad ad0 sh0 rls (X.stk (mj_okt (mj_okt X.hst)))) (fun h => kk.2 h p e s m args below meth c H locs A ad ad0 sh0 rls (X.stk (mj_okt (mj_okt X.hst))))
theorem mj_if_gt {x : Int32} {off : Int} {tgt : Nat} (hd : decode cc pc = .ok (.ifCond .gt off, 3)) (ht : (pc : Int) + off = (tgt : Int)) (kk : (0 < x → mj_V l G R own cc nL rt ini tgt ls st S k n Q) ∧ (¬ (0 < x) → mj_V l G R own cc nL rt ini (pc + 3) ls st S k n Q)) : mj_V l G R own cc nL rt ini pc ls (.int x :: st) S k n Q := by
  intro p e s m args below meth c H locs A ad ad0 sh0 rls X
  exact lv_if_gt X.hx X.hb hd ht (fun h => kk.1 h p e s m args below meth c H locs A ad ad0 sh0 rls (X.stk (mj_okt X.hst))) (fun h => kk.2 h p e s m args below meth c H locs A ad ad0 sh0 rls (X.stk (mj_okt X.hst)))
theorem mj_icmp_gt {x y : Int32} {off : Int} {tgt : Nat} (hd : decode cc pc = .ok (.if_icmp .gt off, 3)) (ht : (pc : Int) + off = (tgt : Int)) (kk : (y < x → mj_V l G R own cc nL rt ini tgt ls st S k n Q) ∧ (¬ (y < x) → mj_V l G R own cc nL rt ini (pc + 3) ls st S k n Q)) : mj_V l G R own cc nL rt ini pc ls (.int y :: .int x :: st) S k n Q := by
  intro p e s m args below meth c H locs A ad ad0 sh0 rls X
  exact lv_icmp_gt X.hx X.hb hd ht (fun h => kk.1 h p e s m args below meth c H locs A ad ad0 sh0 rls (X.stk (mj_okt (mj_okt X.hst)))) (fun h => kk.2 h p e s m args below meth c H locs A ad ad0 sh0 rls (X.stk (mj_okt (mj_okt X.hst))))
theorem mj_if_le {x : Int32} {off : Int} {tgt : Nat} (hd : decode cc pc = .ok (.ifCond .le off, 3)) (ht : (pc : Int) + off = (tgt : Int)) (kk : (x ≤ 0 → mj_V l G R own cc nL rt ini tgt ls st S k n Q) ∧ (¬ (x ≤ 0) → mj_V l G R own cc nL rt ini (pc + 3) ls st S k n Q)) : mj_V l G R own cc nL rt ini pc ls (.int x :: st) S k n Q := by
  intro p e s m args below meth c H locs A ad ad0 sh0 rls X
  exact lv_if_le X.hx X.hb hd ht (fun h => kk.1 h p e s m args below meth c H locs A ad ad0 sh0 rls (X.stk (mj_okt X.hst))) (fun h => kk.2 h p e s m args below meth c H locs A ad ad0 sh0 rls (X.stk (mj_okt X.hst)))
theorem mj_icmp_le {x y : Int32} {off : Int} {tgt : Nat} (hd : decode cc pc = .ok (.if_icmp .le off, 3)) (ht : (pc : Int) + off = (tgt : Int)) (kk : (x ≤ y → mj_V l G R own cc nL rt ini tgt ls st S k n Q) ∧ (¬ (x ≤ y) → mj_V l G R own cc nL rt ini (pc + 3) ls st S k n Q)) : mj_V l G R own cc nL rt ini pc ls (.int y :: .int x :: st) S k n Q := by
  intro p e s m args below meth c H locs A ad ad0 sh0 rls X
  exact lv_icmp_le X.hx X.hb hd ht (fun h => kk.1 h p e s m args below meth c H locs A ad ad0 sh0 rls (X.stk (mj_okt (mj_okt X.hst)))) (fun h => kk.2 h p e s m args below meth c H locs A ad ad0 sh0 rls (X.stk (mj_okt (mj_okt X.hst))))
theorem mj_goto {off : Int} {tgt : Nat} (hd : decode cc pc = .ok (.goto off, 3)) (ht : (pc : Int) + off = (tgt : Int)) (kk : mj_V l G R own cc nL rt ini tgt ls st S k n Q) : mj_V l G R own cc nL rt ini pc ls st S k n Q := by
  intro p e s m args below meth c H locs A ad ad0 sh0 rls X
  exact lv_goto X.hx X.hb hd ht (kk p e s m args below meth c H locs A ad ad0 sh0 rls X)
theorem mj_cvc (ad : Nat → Nat) (v : Value) : (mj_cv ad v).category = v.category := by cases v <;> rfl
theorem mj_dup {v : Value} (hd : decode cc pc = .ok (.dup, 1)) (hv : v.category = 1) (kk : mj_V l G R own cc nL rt ini (pc + 1) ls (v :: v :: st) S k n Q) : mj_V l G R own cc nL rt ini pc ls (v :: st) S k n Q := by
  intro p e s m args below meth c H locs A ad ad0 sh0 rls X
  exact lv_dup X.hx X.hb hd ((mj_cvc ad v).trans hv) (kk p e s m args below meth c H locs A ad ad0 sh0 rls (X.stk (mj_okc (mj_okh X.hst) X.hst)))
theorem mj_pop {v : Value} (hd : decode cc pc = .ok (.pop, 1)) (hv : v.category = 1) (kk : mj_V l G R own cc nL rt ini (pc + 1) ls st S k n Q) : mj_V l G R own cc nL rt ini pc ls (v :: st) S k n Q := by
  intro p e s m args below meth c H locs A ad ad0 sh0 rls X
  exact lv_pop X.hx X.hb hd ((mj_cvc ad v).trans hv) (kk p e s m args below meth c H locs A ad ad0 sh0 rls (X.stk (mj_okt X.hst)))
theorem mj_dup_x1 {v w : Value} (hd : decode cc pc = .ok (.dup_x1, 1)) (hv : v.category = 1) (hw : w.category = 1) (kk : mj_V l G R own cc nL rt ini (pc + 1) ls (v :: w :: v :: st) S k n Q) : mj_V l G R own cc nL rt ini pc ls (v :: w :: st) S k n Q := by
  intro p e s m args below meth c H locs A ad ad0 sh0 rls X
  exact lv_dup_x1 X.hx X.hb hd ((mj_cvc ad v).trans hv) ((mj_cvc ad w).trans hw) (kk p e s m args below meth c H locs A ad ad0 sh0 rls (X.stk (mj_okc (mj_okh X.hst) (mj_okc (mj_okh (mj_okt X.hst)) (mj_okc (mj_okh X.hst) (mj_okt (mj_okt X.hst)))))))
theorem mj_dup2 {v w : Value} (hd : decode cc pc = .ok (.dup2, 1)) (hv : v.category = 1) (hw : w.category = 1) (kk : mj_V l G R own cc nL rt ini (pc + 1) ls (v :: w :: v :: w :: st) S k n Q) : mj_V l G R own cc nL rt ini pc ls (v :: w :: st) S k n Q := by
  intro p e s m args below meth c H locs A ad ad0 sh0 rls X
  exact lv_dup2_11 X.hx X.hb hd ((mj_cvc ad v).trans hv) ((mj_cvc ad w).trans hw) (kk p e s m args below meth c H locs A ad ad0 sh0 rls (X.stk (mj_okc (mj_okh X.hst) (mj_okc (mj_okh (mj_okt X.hst)) X.hst))))
theorem mj_nmi {x : Int32} (kk : ∀ y : Int32, y = x → mj_V l G R own cc nL rt ini pc ls (.int y :: st) S k n Q) : mj_V l G R own cc nL rt ini pc ls (.int x :: st) S k n Q := kk x rfl
theorem mj_nml {x : Int64} (kk : ∀ y : Int64, y = x → mj_V l G R own cc nL rt ini pc ls (.long y :: st) S k n Q) : mj_V l G R own cc nL rt ini pc ls (.long x :: st) S k n Q := kk x rfl
theorem mj_iload_n {j : Fin 4} {i : Nat} {x : Int32} (hd : decode cc pc = .ok (.iload_n j, 1)) (hi : (j : Nat) = i) (h : ls[i]? = some (some (.int x))) (kk : mj_V l G R own cc nL rt ini (pc + 1) ls (.int x :: st) S k n Q) : mj_V l G R own cc nL rt ini pc ls st S k n Q := by
  intro p e s m args below meth c H locs A ad ad0 sh0 rls X
  exact lv_iload_n X.hx X.hb hd hi (X.hlv _ _ h) (kk p e s m args below meth c H locs A ad ad0 sh0 rls (X.stk (mj_okc (trivial) X.hst)))
theorem mj_iload {i : Nat} {x : Int32} (hd : decode cc pc = .ok (.iload i, 2)) (h : ls[i]? = some (some (.int x))) (kk : mj_V l G R own cc nL rt ini (pc + 2) ls (.int x :: st) S k n Q) : mj_V l G R own cc nL rt ini pc ls st S k n Q := by
  intro p e s m args below meth c H locs A ad ad0 sh0 rls X
  exact lv_iload X.hx X.hb hd (X.hlv _ _ h) (kk p e s m args below meth c H locs A ad ad0 sh0 rls (X.stk (mj_okc (trivial) X.hst)))
theorem mj_lload_n {j : Fin 4} {i : Nat} {x : Int64} (hd : decode cc pc = .ok (.lload_n j, 1)) (hi : (j : Nat) = i) (h : ls[i]? = some (some (.long x))) (kk : mj_V l G R own cc nL rt ini (pc + 1) ls (.long x :: st) S k n Q) : mj_V l G R own cc nL rt ini pc ls st S k n Q := by
  intro p e s m args below meth c H locs A ad ad0 sh0 rls X
  exact lv_lload_n X.hx X.hb hd hi (X.hlv _ _ h) (kk p e s m args below meth c H locs A ad ad0 sh0 rls (X.stk (mj_okc (trivial) X.hst)))
theorem mj_lload {i : Nat} {x : Int64} (hd : decode cc pc = .ok (.lload i, 2)) (h : ls[i]? = some (some (.long x))) (kk : mj_V l G R own cc nL rt ini (pc + 2) ls (.long x :: st) S k n Q) : mj_V l G R own cc nL rt ini pc ls st S k n Q := by
  intro p e s m args below meth c H locs A ad ad0 sh0 rls X
  exact lv_lload X.hx X.hb hd (X.hlv _ _ h) (kk p e s m args below meth c H locs A ad ad0 sh0 rls (X.stk (mj_okc (trivial) X.hst)))
theorem mj_aload_n {j : Fin 4} {i : Nat} {x : Nat} (hd : decode cc pc = .ok (.aload_n j, 1)) (hi : (j : Nat) = i) (h : ls[i]? = some (some (.ref x))) (kk : mj_V l G R own cc nL rt ini (pc + 1) ls (.ref x :: st) S k n Q) : mj_V l G R own cc nL rt ini pc ls st S k n Q := by
  intro p e s m args below meth c H locs A ad ad0 sh0 rls X
  exact lv_aload_n X.hx X.hb hd hi (X.hlv _ _ h) (kk p e s m args below meth c H locs A ad ad0 sh0 rls (X.stk (mj_okc (X.hls _ _ h) X.hst)))
theorem mj_aload {i : Nat} {x : Nat} (hd : decode cc pc = .ok (.aload i, 2)) (h : ls[i]? = some (some (.ref x))) (kk : mj_V l G R own cc nL rt ini (pc + 2) ls (.ref x :: st) S k n Q) : mj_V l G R own cc nL rt ini pc ls st S k n Q := by
  intro p e s m args below meth c H locs A ad ad0 sh0 rls X
  exact lv_aload X.hx X.hb hd (X.hlv _ _ h) (kk p e s m args below meth c H locs A ad ad0 sh0 rls (X.stk (mj_okc (X.hls _ _ h) X.hst)))
end MJ2
end
section
/-! locals: stores -/
def mj_al (ad : Nat → Nat) (ls : List (Option Value)) : List (Nat × Value) := (List.range ls.length).filterMap (fun i => match ls[i]? with | some (some v) => some (i, mj_cv ad v) | _ => none)
theorem mj_al_in {ad : Nat → Nat} {ls : List (Option Value)} {i : Nat} {v : Value} (h : ls[i]? = some (some v)) : (i, mj_cv ad v) ∈ mj_al ad ls := by
  refine List.mem_filterMap.mpr ⟨i, List.mem_range.mpr (List.getElem?_eq_some_iff.mp h).1, ?_⟩
  rw [h]
theorem mj_al_out {ad : Nat → Nat} {ls : List (Option Value)} {q : Nat × Value} (h : q ∈ mj_al ad ls) : ∃ v, ls[q.1]? = some (some v) ∧ q.2 = mj_cv ad v := by
  obtain ⟨i, -, hi⟩ := List.mem_filterMap.mp h
  cases e : ls[i]? with
  | none => rw [e] at hi; cases hi
  | some o =>
    cases o with
    | none => rw [e] at hi; cases hi
    | some v => rw [e] at hi; cases hi; exact ⟨v, e, rfl⟩
/-- no long in the slot ahead -/
def mj_nol (ls : List (Option Value)) (i : Nat) : Bool := i == 0 || (match ls[i - 1]? with | some (some v) => v.category == 1 | _ => true)
section MJ3
variable {l : Launch} {G : mj_G} {R : Room} {own : String} {cc : ByteArray} {nL : Nat} {rt : Option FieldType} {ini : Bool} {pc : Nat} {ls ls' : List (Option Value)} {st : List Value} {S : mj_S} {k n : Nat} {Q : mj_Z}
variable {p : Program} {s : State} {m : MethodId} {args : Array Value} {meth : Method} {c : Code} {H : Heap} {locs : List Loc} {A : Nat → Prop} {ad ad0 : Nat → Nat} {sh0 : List (Nat × Nat)} {rls rls' : Array Slot}
theorem mj_X.lh (X : mj_X G own cc nL rt ini ls st S p s m args meth c H locs A ad ad0 sh0 rls) : lv_has rls nL (mj_al ad ls) := by
  refine ⟨X.hsz, X.hlw, fun q hq => ?_⟩
  obtain ⟨v, h1, h2⟩ := mj_al_out hq
  rw [h2]
  exact X.hlv _ _ h1
theorem mj_X.loc (X : mj_X G own cc nL rt ini ls st S p s m args meth c H locs A ad ad0 sh0 rls) (h1 : ∀ (i : Nat) (v : Value), ls'[i]? = some (some v) → mj_ok S v) (h2 : rls'.size = nL) (h3 : lv_wf rls') (h4 : ∀ (i : Nat) (v : Value), ls'[i]? = some (some v) → rls'[i]? = some (Slot.val (mj_cv ad v))) : mj_X G own cc nL rt ini ls' st S p s m args meth c H locs A ad ad0 sh0 rls' := ⟨X.1, X.2.1, X.2.2.1, X.2.2.2.1, X.2.2.2.2.1, X.2.2.2.2.2.1, h1, h2, h3, h4⟩
/-- one slot -/
theorem mj_X.store {i : Nat} {v : Value} (X : mj_X G own cc nL rt ini ls st S p s m args meth c H locs A ad ad0 sh0 rls) (hv : mj_ok S v) (hn : mj_nol ls i = true) (hl : ls.set i (some v) = ls') (h : lv_has rls' nL ((i, mj_cv ad v) :: (mj_al ad ls).filter (fun q => !(q.1 == i) && !(q.1 + 1 == i && q.2.category == 2)))) : mj_X G own cc nL rt ini ls' st S p s m args meth c H locs A ad ad0 sh0 rls' := by
  subst hl
  refine X.loc (fun j w hj => ?_) h.1 h.2.1 (fun j w hj => ?_)
  · by_cases e : j = i
    · subst e
      rcases Nat.lt_or_ge j ls.length with q | q
      · rw [List.getElem?_set_self q] at hj; cases hj; exact hv
      · rw [List.getElem?_eq_none (by simpa using q)] at hj; cases hj
    · rw [List.getElem?_set_ne (fun q => e q.symm)] at hj
      exact X.hls j w hj
  · by_cases e : j = i
    · subst e
      rcases Nat.lt_or_ge j ls.length with q | q
      · rw [List.getElem?_set_self q] at hj; cases hj
        exact h.2.2 _ List.mem_cons_self
      · rw [List.getElem?_eq_none (by simpa using q)] at hj; cases hj
    · rw [List.getElem?_set_ne (fun q => e q.symm)] at hj
      refine h.2.2 (j, mj_cv ad w) (List.mem_cons_of_mem _ (List.mem_filter.mpr ⟨mj_al_in hj, ?_⟩))
      simp only [mj_cvc]
      have h1 : (j == i) = false := by simpa using e
      rw [h1]
      by_cases e2 : j + 1 = i
      · subst e2
        simp only [mj_nol] at hn
        rw [show j + 1 - 1 = j by omega, hj] at hn
        have hc : w.category = 1 := by
          simpa using hn
        simp [hc]
      · have h2 : (j + 1 == i) = false := by simpa using e2
        simp [h2]
/-- two slots -/
theorem mj_X.store2 {i : Nat} {v : Value} (X : mj_X G own cc nL rt ini ls st S p s m args meth c H locs A ad ad0 sh0 rls) (hv : mj_ok S v) (hn : mj_nol ls i = true) (hl : (ls.set i (some v)).set (i + 1) none = ls') (h : lv_has rls' nL ((i, mj_cv ad v) :: (mj_al ad ls).filter (fun q => !(q.1 == i) && (!(q.1 == i + 1) && !(q.1 + 1 == i && q.2.category == 2))))) : mj_X G own cc nL rt ini ls' st S p s m args meth c H locs A ad ad0 sh0 rls' := by
  subst hl
  have key : ∀ (j : Nat) (w : Value), ((ls.set i (some v)).set (i + 1) none)[j]? = some (some w) → (j = i ∧ w = v) ∨ (j ≠ i ∧ j ≠ i + 1 ∧ ls[j]? = some (some w)) := by
    intro j w hj
    by_cases e1 : j = i + 1
    · subst e1
      rcases Nat.lt_or_ge (i + 1) ls.length with q | q
      · rw [List.getElem?_set_self (by simpa using q)] at hj; cases hj
      · rw [List.getElem?_eq_none (by simpa using q)] at hj; cases hj
    · rw [List.getElem?_set_ne (fun q => e1 q.symm)] at hj
      by_cases e : j = i
      · subst e
        rcases Nat.lt_or_ge j ls.length with q | q
        · rw [List.getElem?_set_self q] at hj; cases hj; exact Or.inl ⟨rfl, rfl⟩
        · rw [List.getElem?_eq_none (by simpa using q)] at hj; cases hj
      · rw [List.getElem?_set_ne (fun q => e q.symm)] at hj
        exact Or.inr ⟨e, e1, hj⟩
  refine X.loc (fun j w hj => ?_) h.1 h.2.1 (fun j w hj => ?_)
  · rcases key j w hj with ⟨-, rfl⟩ | ⟨-, -, h1⟩
    · exact hv
    · exact X.hls j w h1
  · rcases key j w hj with ⟨rfl, rfl⟩ | ⟨e, e1, h1⟩
    · exact h.2.2 _ List.mem_cons_self
    · refine h.2.2 (j, mj_cv ad w) (List.mem_cons_of_mem _ (List.mem_filter.mpr ⟨mj_al_in h1, ?_⟩))
      simp only [mj_cvc]
      have h2 : (j == i) = false := by simpa using e
      have h3 : (j == i + 1) = false := by simpa using e1
      rw [h2, h3]
      by_cases e2 : j + 1 = i
      · subst e2
        simp only [mj_nol] at hn
        rw [show j + 1 - 1 = j by omega, h1] at hn
        have hc : w.category = 1 := by
          simpa using hn
        simp [hc]
      · have h4 : (j + 1 == i) = false := by simpa using e2
        simp [h4]
theorem mj_istore_n {j : Fin 4} {i : Nat} {x : Int32} (hd : decode cc pc = .ok (.istore_n j, 1)) (hi : (j : Nat) = i) (hlt : i < nL) (hn : mj_nol ls i = true) (hl : ls.set i (some (.int x)) = ls') (kk : mj_V l G R own cc nL rt ini (pc + 1) ls' st S k n Q) : mj_V l G R own cc nL rt ini pc ls (.int x :: st) S k n Q := by
  intro p e s m args below meth c H locs A ad ad0 sh0 rls X
  exact lv_istore_n X.hx X.hb hd hi X.lh hlt rfl (fun rls' h => kk p e s m args below meth c H locs A ad ad0 sh0 rls' ((X.stk (mj_okt X.hst)).store (v := .int x) trivial hn hl h))
theorem mj_istore {i : Nat} {x : Int32} (hd : decode cc pc = .ok (.istore i, 2)) (hlt : i < nL) (hn : mj_nol ls i = true) (hl : ls.set i (some (.int x)) = ls') (kk : mj_V l G R own cc nL rt ini (pc + 2) ls' st S k n Q) : mj_V l G R own cc nL rt ini pc ls (.int x :: st) S k n Q := by
  intro p e s m args below meth c H locs A ad ad0 sh0 rls X
  exact lv_istore X.hx X.hb hd X.lh hlt rfl (fun rls' h => kk p e s m args below meth c H locs A ad ad0 sh0 rls' ((X.stk (mj_okt X.hst)).store (v := .int x) trivial hn hl h))
theorem mj_astore_n {j : Fin 4} {i x : Nat} (hd : decode cc pc = .ok (.astore_n j, 1)) (hi : (j : Nat) = i) (hlt : i < nL) (hn : mj_nol ls i = true) (hl : ls.set i (some (.ref x)) = ls') (kk : mj_V l G R own cc nL rt ini (pc + 1) ls' st S k n Q) : mj_V l G R own cc nL rt ini pc ls (.ref x :: st) S k n Q := by
  intro p e s m args below meth c H locs A ad ad0 sh0 rls X
  exact lv_astore_n X.hx X.hb hd hi X.lh hlt rfl (fun rls' h => kk p e s m args below meth c H locs A ad ad0 sh0 rls' ((X.stk (mj_okt X.hst)).store (mj_okh X.hst) hn hl h))
theorem mj_astore {i x : Nat} (hd : decode cc pc = .ok (.astore i, 2)) (hlt : i < nL) (hn : mj_nol ls i = true) (hl : ls.set i (some (.ref x)) = ls') (kk : mj_V l G R own cc nL rt ini (pc + 2) ls' st S k n Q) : mj_V l G R own cc nL rt ini pc ls (.ref x :: st) S k n Q := by
  intro p e s m args below meth c H locs A ad ad0 sh0 rls X
  exact lv_astore X.hx X.hb hd X.lh hlt rfl (fun rls' h => kk p e s m args below meth c H locs A ad ad0 sh0 rls' ((X.stk (mj_okt X.hst)).store (mj_okh X.hst) hn hl h))
theorem mj_lstore_n {j : Fin 4} {i : Nat} {x : Int64} (hd : decode cc pc = .ok (.lstore_n j, 1)) (hi : (j : Nat) = i) (hlt : i + 1 < nL) (hn : mj_nol ls i = true) (hl : (ls.set i (some (.long x))).set (i + 1) none = ls') (kk : mj_V l G R own cc nL rt ini (pc + 1) ls' st S k n Q) : mj_V l G R own cc nL rt ini pc ls (.long x :: st) S k n Q := by
  intro p e s m args below meth c H locs A ad ad0 sh0 rls X
  exact lv_lstore_n X.hx X.hb hd hi X.lh hlt rfl (fun rls' h => kk p e s m args below meth c H locs A ad ad0 sh0 rls' ((X.stk (mj_okt X.hst)).store2 (v := .long x) trivial hn hl h))
theorem mj_lstore {i : Nat} {x : Int64} (hd : decode cc pc = .ok (.lstore i, 2)) (hlt : i + 1 < nL) (hn : mj_nol ls i = true) (hl : (ls.set i (some (.long x))).set (i + 1) none = ls') (kk : mj_V l G R own cc nL rt ini (pc + 2) ls' st S k n Q) : mj_V l G R own cc nL rt ini pc ls (.long x :: st) S k n Q := by
  intro p e s m args below meth c H locs A ad ad0 sh0 rls X
  exact lv_lstore X.hx X.hb hd X.lh hlt rfl (fun rls' h => kk p e s m args below meth c H locs A ad ad0 sh0 rls' ((X.stk (mj_okt X.hst)).store2 (v := .long x) trivial hn hl h))
theorem mj_iinc {i : Nat} {z : Int} {x v : Int32} (hd : decode cc pc = .ok (.iinc i z, 3)) (hx0 : ls[i]? = some (some (.int x))) (hv : x + Int32.ofInt z = v) (hlt : i < nL) (hn : mj_nol ls i = true) (hl : ls.set i (some (.int v)) = ls') (kk : mj_V l G R own cc nL rt ini (pc + 3) ls' st S k n Q) : mj_V l G R own cc nL rt ini pc ls st S k n Q := by
  intro p e s m args below meth c H locs A ad ad0 sh0 rls X
  obtain ⟨q, hq⟩ := List.getElem?_of_mem (mj_al_in (ad := ad) hx0)
  exact lv_iinc X.hx X.hb hd X.lh hq hv hlt rfl (fun rls' h => kk p e s m args below meth c H locs A ad ad0 sh0 rls' (X.store (v := .int v) trivial hn hl h))
/-- fewer locals -/
theorem mj_less (hl : ∀ (i : Nat) (v : Value), ls'[i]? = some (some v) → ls[i]? = some (some v)) (kk : mj_V l G R own cc nL rt ini pc ls' st S k n Q) : mj_V l G R own cc nL rt ini pc ls st S k n Q := by
  intro p e s m args below meth c H locs A ad ad0 sh0 rls X
  exact kk p e s m args below meth c H locs A ad ad0 sh0 rls (X.loc (fun i v h => X.hls i v (hl i v h)) X.hsz X.hlw (fun i v h => X.hlv i v (hl i v h)))
/-- switches -/
theorem mj_look {dflt : Int} {ps : Array (Int × Int)} {len : Nat} {x : Int32} {off : Int} {tgt : Nat} (hd : decode cc pc = .ok (.lookupswitch dflt ps, len)) (hp : (ps.toList.zip (ps.toList.drop 1)).all (fun (a, next) => a.1 < next.1) = true) (ho : Op.lookupswitch.offset ps.toList dflt x.toInt = off) (ht : (pc : Int) + off = (tgt : Int)) (kk : mj_V l G R own cc nL rt ini tgt ls st S k n Q) : mj_V l G R own cc nL rt ini pc ls (.int x :: st) S k n Q := by
  intro p e s m args below meth c H locs A ad ad0 sh0 rls X
  exact lv_lookup X.hx X.hb hd hp ho ht (kk p e s m args below meth c H locs A ad ad0 sh0 rls (X.stk (mj_okt X.hst)))
theorem mj_tabOut {dflt lo hi : Int} {offs : Array Int} {len : Nat} {x : Int32} {tgt : Nat} (hd : decode cc pc = .ok (.tableswitch dflt lo hi offs, len)) (h : x.toInt < lo ∨ hi < x.toInt) (ht : (pc : Int) + dflt = (tgt : Int)) (kk : mj_V l G R own cc nL rt ini tgt ls st S k n Q) : mj_V l G R own cc nL rt ini pc ls (.int x :: st) S k n Q := by
  intro p e s m args below meth c H locs A ad ad0 sh0 rls X
  exact lv_tableOut X.hx X.hb hd h ht (kk p e s m args below meth c H locs A ad ad0 sh0 rls (X.stk (mj_okt X.hst)))
theorem mj_tabIn {dflt lo hi : Int} {offs : Array Int} {len : Nat} {x : Int32} {off : Int} {tgt : Nat} (hd : decode cc pc = .ok (.tableswitch dflt lo hi offs, len)) (h1 : ¬ x.toInt < lo) (h2 : ¬ hi < x.toInt) (ho : offs[(x.toInt - lo).toNat]? = some off) (ht : (pc : Int) + off = (tgt : Int)) (kk : mj_V l G R own cc nL rt ini tgt ls st S k n Q) : mj_V l G R own cc nL rt ini pc ls (.int x :: st) S k n Q := by
  intro p e s m args below meth c H locs A ad ad0 sh0 rls X
  exact lv_tableIn X.hx X.hb hd h1 h2 ho ht (kk p e s m args below meth c H locs A ad ad0 sh0 rls (X.stk (mj_okt X.hst)))
end MJ3
end
section
/-! heap: fields -/
theorem mj_ok_le {S S' : mj_S} {v : Value} (h : S.1.length ≤ S'.1.length) (hv : mj_ok S v) : mj_ok S' v := by
  cases v <;> first | exact hv | exact Nat.lt_of_lt_of_le hv h
theorem mj_wf.ge6 {L : Nat} {xs : Nat → Int32} {S : mj_S} {a : Nat} (h : mj_wf L xs S) (hk : m_kd S a < 104) : 6 ≤ a := by
  rcases Nat.lt_or_ge a 6 with q | q
  · exfalso
    have h1 := (h.2.1 a q).1
    have h2 : m_kd S a = (mj_rs L a).1 := by simp [m_kd, List.getD_eq_getElem?_getD, h1]
    rw [h2] at hk
    have : (mj_rs L a).1 = 110 ∨ (mj_rs L a).1 = 111 := by
      unfold mj_rs
      repeat' split
      all_goals simp
    omega
  · exact q
theorem mj_wf.si {L : Nat} {xs : Nat → Int32} {S : mj_S} {a k : Nat} {x : Int32} (h : mj_wf L xs S) (ha : 6 ≤ a) (hl : a < S.1.length) : mj_wf L xs (m_si S a k x) := by
  obtain ⟨h1, h2, h3, h4, h5, h6, h7⟩ := h
  refine ⟨h1, fun i hi => ⟨(h2 i hi).1, fun j => ?_⟩, h3, h4, h5, h6, fun i j hi => ⟨?_, (h7 i j hi).2⟩⟩
  · show (if i = a ∧ j = k then x else S.2.1 i j) = _
    rw [if_neg (by omega)]
    exact (h2 i hi).2 j
  · show (if i = a ∧ j = k then x else S.2.1 i j) = _
    have hi' : S.1.length ≤ i := hi
    rw [if_neg (by omega)]
    exact (h7 i j hi).1
theorem mj_wf.sl {L : Nat} {xs : Nat → Int32} {S : mj_S} {a k : Nat} {x : Int64} (h : mj_wf L xs S) (hl : a < S.1.length) : mj_wf L xs (m_sl S a k x) := by
  obtain ⟨h1, h2, h3, h4, h5, h6, h7⟩ := h
  refine ⟨h1, h2, h3, h4, h5, h6, fun i j hi => ⟨(h7 i j hi).1, ?_, (h7 i j hi).2.2⟩⟩
  show (if i = a ∧ j = k then x else S.2.2.1 i j) = _
  have hi' : S.1.length ≤ i := hi
  rw [if_neg (by omega)]
  exact (h7 i j hi).2.1
theorem mj_wf.row {L : Nat} {xs : Nat → Int32} {S : mj_S} {a : Nat} {f : Nat → Int32} (h : mj_wf L xs S) (ha : 6 ≤ a) (hl : a < S.1.length) : mj_wf L xs (m_row S a f) := by
  obtain ⟨h1, h2, h3, h4, h5, h6, h7⟩ := h
  refine ⟨h1, fun i hi => ⟨(h2 i hi).1, fun j => ?_⟩, h3, h4, h5, h6, fun i j hi => ⟨?_, (h7 i j hi).2⟩⟩
  · show (if i = a then f else S.2.1 i) j = _
    rw [if_neg (by omega)]
    exact (h2 i hi).2 j
  · show (if i = a then f else S.2.1 i) j = _
    have hi' : S.1.length ≤ i := hi
    rw [if_neg (by omega)]
    exact (h7 i j hi).1
theorem mj_wf.sp {L : Nat} {xs : Nat → Int32} {S : mj_S} {a k b : Nat} (h : mj_wf L xs S) (hl : a < S.1.length) (hb : b < S.1.length) (h8 : m_kd S a < 100 → 2 ≤ mj_ft (m_kd S a) k → m_kd S b + 2 = mj_ft (m_kd S a) k) (h9 : m_kd S a = 103 → m_kd S b = 100) : mj_wf L xs (m_sp S a k (some b)) := by
  obtain ⟨h1, h2, h3, h4, h5, h6, h7⟩ := h
  have key : ∀ i j c, m_gp (m_sp S a k (some b)) i j = some c → (i = a ∧ j = k ∧ c = b) ∨ m_gp S i j = some c := by
    intro i j c hc
    have hc : (if i = a ∧ j = k then some b else S.2.2.2 i j) = some c := hc
    by_cases e : i = a ∧ j = k
    · rw [if_pos e] at hc
      exact Or.inl ⟨e.1, e.2, (Option.some.inj hc).symm⟩
    · rw [if_neg e] at hc
      exact Or.inr hc
  refine ⟨h1, h2, h3, fun i j c hc => ?_, fun i j c q1 q2 hc => ?_, fun i j c q1 hc => ?_, fun i j hi => ⟨(h7 i j hi).1, (h7 i j hi).2.1, ?_⟩⟩
  · rcases key i j c hc with ⟨-, -, rfl⟩ | e
    · exact hb
    · exact h4 i j c e
  · rcases key i j c hc with ⟨rfl, rfl, rfl⟩ | e
    · exact h8 q1 q2
    · exact h5 i j c q1 q2 e
  · rcases key i j c hc with ⟨rfl, rfl, rfl⟩ | e
    · exact h9 q1
    · exact h6 i j c q1 e
  · show (if i = a ∧ j = k then some b else S.2.2.2 i j) = _
    have hi' : S.1.length ≤ i := hi
    rw [if_neg (by omega)]
    exact (h7 i j hi).2.2
section MJ4
variable {l : Launch} {G : mj_G} {R : Room} {own : String} {cc : ByteArray} {nL : Nat} {rt : Option FieldType} {ini : Bool} {pc : Nat} {ls ls' : List (Option Value)} {st : List Value} {S S' : mj_S} {k n : Nat} {Q : mj_Z}
variable {p : Program} {s : State} {m : MethodId} {args : Array Value} {meth : Method} {c : Code} {H H1 : Heap} {locs locs1 : List Loc} {A : Nat → Prop} {ad ad0 : Nat → Nat} {sh0 : List (Nat × Nat)} {rls rls' : Array Slot}
theorem mj_X.mem (X : mj_X G own cc nL rt ini ls st S p s m args meth c H locs A ad ad0 sh0 rls) (e : S'.1 = S.1) (hP : va_P G.1 vwCl (mj_ws G.2.1 ad S') H1) (hD : va_D A (mj_ws G.2.1 ad S')) (hS : va_S A s.heap H1 locs1) (hw : mj_wf G.2.2.1 G.2.2.2 S') : mj_X G own cc nL rt ini ls st S' p s m args meth c H1 locs1 A ad ad0 sh0 rls :=
  ⟨X.1, X.2.1, ⟨hP, hD, X.hK, hw, X.hN⟩, ⟨hS, X.hA, X.hro⟩, ⟨by rw [e]; exact X.2.2.2.2.1.1, X.2.2.2.2.1.2⟩, fun v hv => mj_ok_le (by rw [e]; exact Nat.le_refl _) (X.hst v hv), fun i v h => mj_ok_le (by rw [e]; exact Nat.le_refl _) (X.hls i v h), X.2.2.2.2.2.2.2⟩
theorem mj_wf.obj {L : Nat} {xs : Nat → Int32} {a ci : Nat} (h : mj_wf L xs S) (hk : m_kd S a = ci) (hc : ci < 11) : 6 ≤ a ∧ a < S.1.length ∧ m_ln S a = mj_nf ci := by
  have h6 := h.ge6 (a := a) (by omega)
  have hl := m_kd_lt (S := S) (a := a) (by omega)
  refine ⟨h6, hl, ?_⟩
  rcases h.2.2.1 a h6 hl with ⟨-, h2⟩ | ⟨h2, -⟩
  · rw [h2, hk]
  · omega
theorem mj_same {ref own name desc : String} {s : State} {args : Array Value} (h : ref = own ∨ Cond.sameField ref own name desc ∈ mj_T) (hts : ∀ w ∈ mj_T, w.before args s = true) : ∀ x, s.fieldFound? own name desc = some x → s.fieldFound? ref name desc = some x := by
  rcases h with h | h
  · rw [h]; exact fun _ h => h
  · exact u_same (hts _ h)
theorem mj_ce_obj {dA : Nat → ClassId} {a ci : Nat} (hk : m_kd S a = ci) (hc : ci < 11) (hl : m_ln S a = mj_nf ci) : mj_ce dA ad S a = .inr (ci, (List.range (mj_nf ci)).map (mj_fv ad S a)) := by
  unfold mj_ce
  rw [hk, if_pos (by omega), hl]
theorem mj_get {index ci a j : Nat} {ty : FieldType} {fin o : Bool} {v : Value} (hd : decode cc pc = .ok (.getfield index, 3)) (hf : mj_fl own index ci j ty fin o) (hk : m_kd S a = ci) (hv : ∀ ad, mj_fv ad S a j = mj_cv ad v) (hok : mj_wf G.2.2.1 G.2.2.2 S → mj_ok S v) (kk : mj_V l G R own cc nL rt ini (pc + 3) ls (v :: st) S k n Q) : mj_V l G R own cc nL rt ini pc ls (.ref a :: st) S k n Q := by
  intro p e s m args below meth c H locs A ad ad0 sh0 rls X
  obtain ⟨ref, C, T, N, ty0, hc, hin, hty, hnm, hkN, hN, hci, -, -, -, hlink, hsame⟩ := hf
  obtain ⟨h6, hl, hln⟩ := X.hw.obj hk hci
  have ha := mj_at (dA := G.2.1) (ad := ad) h6 hl
  rw [mj_ce_obj hk hci hln] at ha
  refine va_get X.hx X.hb X.hts hin X.hown X.hK X.hP (a - 6) ha hc j hkN (X.hts _ hlink) (mj_same hsame X.hts) (v := mj_cv ad v) ?_ hd (kk p e s m args below meth c H locs A ad ad0 sh0 rls (X.stk (mj_okc (hok X.hw) (mj_okt X.hst))))
  rw [← hN, List.getElem?_map, List.getElem?_range hkN]
  simp [hv]
theorem mj_getI {index ci a j : Nat} {ty : FieldType} {fin o : Bool} (hd : decode cc pc = .ok (.getfield index, 3)) (hf : mj_fl own index ci j ty fin o) (hk : m_kd S a = ci) (ht : mj_ft ci j = 0) (kk : mj_V l G R own cc nL rt ini (pc + 3) ls (.int (m_gi S a j) :: st) S k n Q) : mj_V l G R own cc nL rt ini pc ls (.ref a :: st) S k n Q :=
  mj_get (v := .int (m_gi S a j)) hd hf hk (fun ad => by unfold mj_fv; rw [hk, if_pos ht]; rfl) (fun _ => trivial) kk
theorem mj_getL {index ci a j : Nat} {ty : FieldType} {fin o : Bool} (hd : decode cc pc = .ok (.getfield index, 3)) (hf : mj_fl own index ci j ty fin o) (hk : m_kd S a = ci) (ht : mj_ft ci j = 1) (kk : mj_V l G R own cc nL rt ini (pc + 3) ls (.long (m_gl S a j) :: st) S k n Q) : mj_V l G R own cc nL rt ini pc ls (.ref a :: st) S k n Q :=
  mj_get (v := .long (m_gl S a j)) hd hf hk (fun ad => by unfold mj_fv; rw [hk, if_neg (by omega), if_pos ht]; rfl) (fun _ => trivial) kk
/-- a reference: it isn't null, its kind is the field's -/
theorem mj_getP {index ci a j t : Nat} {ty : FieldType} {fin o : Bool} (hd : decode cc pc = .ok (.getfield index, 3)) (hf : mj_fl own index ci j ty fin o) (hk : m_kd S a = ci) (ht : mj_ft ci j = t + 2) (kk : ∃ b, m_gp S a j = some b ∧ (m_kd S b = t → mj_V l G R own cc nL rt ini (pc + 3) ls (.ref b :: st) S k n Q)) : mj_V l G R own cc nL rt ini pc ls (.ref a :: st) S k n Q := by
  obtain ⟨b, hb, kk⟩ := kk
  intro p e s m args below meth c H locs A ad ad0 sh0 rls X
  have hci : ci < 11 := by obtain ⟨_, _, _, _, _, _, _, _, _, _, _, h, _⟩ := hf; exact h
  have hkb : m_kd S b = t := by
    have := X.hw.2.2.2.2.1 a j b (by omega) (by rw [hk]; omega) hb
    rw [hk, ht] at this
    omega
  exact mj_get hd hf hk (v := .ref b) (fun ad => by unfold mj_fv; rw [hk, if_neg (by omega), if_neg (by omega), hb]; rfl) (fun hw => hw.2.2.2.1 a j b hb) (kk hkb) p e s m args below meth c H locs A ad ad0 sh0 rls X
theorem mj_put {index ci a j : Nat} {ty : FieldType} {fin o : Bool} {v : Value} (hd : decode cc pc = .ok (.putfield index, 3)) (hf : mj_fl own index ci j ty fin o) (hk : m_kd S a = ci) (hfin : fin = false ∨ (ini = true ∧ o = true)) (hnr : ∀ ad, narrow ty (mj_cv ad v) = mj_cv ad v) (hft : ∀ ad, fits ty (mj_cv ad v) = true)
    (e : S'.1 = S.1) (hne : ∀ ad b, b ≠ a → mj_ce G.2.1 ad S' b = mj_ce G.2.1 ad S b) (hj : ∀ ad, mj_fv ad S' a j = mj_cv ad v) (ho : ∀ ad i, i ≠ j → mj_fv ad S' a i = mj_fv ad S a i) (hw : mj_wf G.2.2.1 G.2.2.2 S → mj_ok S v → 6 ≤ a → a < S.1.length → mj_wf G.2.2.1 G.2.2.2 S')
    (kk : mj_V l G R own cc nL rt ini (pc + 3) ls st S' k n Q) : mj_V l G R own cc nL rt ini pc ls (v :: .ref a :: st) S k n Q := by
  intro p e0 s m args below meth c H locs A ad ad0 sh0 rls X
  obtain ⟨ref, C, T, N, ty0, hc, hin, hty, hnm, hkN, hN, hci, hte, hfe, hfo, hlink, hsame⟩ := hf
  obtain ⟨h6, hl, hln⟩ := X.hw.obj hk hci
  have ha := mj_at (dA := G.2.1) (ad := ad) h6 hl
  rw [mj_ce_obj hk hci hln] at ha
  have hw' := hw X.hw (mj_okh X.hst) h6 hl
  have hk' : m_kd S' a = ci := by unfold m_kd; rw [e]; exact hk
  have hln' : m_ln S' a = mj_nf ci := by unfold m_ln; rw [e]; exact hln
  have hset : mj_ws G.2.1 ad S' = (mj_ws G.2.1 ad S).set (a - 6) (ad a, .inr (ci, ((List.range (mj_nf ci)).map (mj_fv ad S a)).set j (mj_cv ad v))) := by
    rw [mj_set h6 e (hne ad), mj_ce_obj hk' hci hln', mj_rset (hj ad) (ho ad)]
  have fin' : ∀ (H1 : Heap) (locs1 : List Loc), va_P G.1 vwCl ((mj_ws G.2.1 ad S).set (a - 6) (ad a, .inr (ci, ((List.range (mj_nf ci)).map (mj_fv ad S a)).set j (mj_cv ad v)))) H1 → va_D A ((mj_ws G.2.1 ad S).set (a - 6) (ad a, .inr (ci, ((List.range (mj_nf ci)).map (mj_fv ad S a)).set j (mj_cv ad v)))) → va_S A s.heap H1 locs1 → W p l e0 R s m args below meth c H1 locs1 k n (Q below args s A ad0 sh0) (F0 m (pc + 3) rls (st.map (mj_cv ad))) := by
    intro H1 locs1 h1 h2 h3
    rw [← hset] at h1 h2
    exact kk p e0 s m args below meth c H1 locs1 A ad ad0 sh0 rls ((X.stk (mj_okt (mj_okt X.hst))).mem e h1 h2 h3 hw')
  have hlen : j < ((List.range (mj_nf ci)).map (mj_fv ad S a)).length := by simp [← hN, hkN]
  cases hb : fin with
  | false => exact va_put X.hx X.hb X.hts hin ty0 hty hnm X.hown X.hK X.hP X.hD X.hS (a - 6) ha hc j hkN (X.hts _ hlink) (mj_same hsame X.hts) (hfe.trans hb) ((hty j hkN).trans (by rw [hte])) (hnr ad) (hft ad) hlen hd fin'
  | true =>
    have hi : ini = true ∧ o = true := by
      rcases hfin with h | h
      · rw [h] at hb; cases hb
      · exact h
    exact va_putF X.hx X.hb X.hts hin ty0 hty hnm X.hown X.hK X.hP X.hD X.hS (a - 6) ha hc j hkN (X.hts _ hlink) (mj_same hsame X.hts) (hfe.trans hb) (X.2.1.2.2 hi.1) (hfo hi.2) ((hty j hkN).trans (by rw [hte])) (hnr ad) (hft ad) hlen hd fin'
theorem mj_ce_ne {dA : Nat → ClassId} {b : Nat} (hk : m_kd S' b = m_kd S b) (hl : m_ln S' b = m_ln S b) (h1 : ∀ j, m_gi S' b j = m_gi S b j) (h2 : ∀ j, m_gl S' b j = m_gl S b j) (h3 : ∀ j, m_gp S' b j = m_gp S b j) : mj_ce dA ad S' b = mj_ce dA ad S b := by
  have e1 : m_gi S' b = m_gi S b := funext h1
  have e2 : m_gl S' b = m_gl S b := funext h2
  have e3 : mj_fv ad S' b = mj_fv ad S b := by
    funext j
    unfold mj_fv
    rw [hk, h1, h2, h3]
  unfold mj_ce
  rw [hk, hl, e1, e2, e3]
  simp only [h3]
theorem mj_putI {index ci a j : Nat} {ty : FieldType} {fin o : Bool} {x : Int32} (hd : decode cc pc = .ok (.putfield index, 3)) (hf : mj_fl own index ci j ty fin o) (hk : m_kd S a = ci) (hfin : fin = false ∨ (ini = true ∧ o = true)) (ht : mj_ft ci j = 0) (hnr : narrow ty (.int x) = .int x) (hft : fits ty (.int x) = true) (kk : mj_V l G R own cc nL rt ini (pc + 3) ls st (m_si S a j x) k n Q) : mj_V l G R own cc nL rt ini pc ls (.int x :: .ref a :: st) S k n Q := by
  refine mj_put (S' := m_si S a j x) hd hf hk hfin (fun _ => hnr) (fun _ => hft) rfl (fun ad b hb => mj_ce_ne rfl rfl (fun i => if_neg (fun h => hb h.1)) (fun _ => rfl) (fun _ => rfl)) (fun ad => ?_) (fun ad i hi => ?_) (fun hw _ h6 hl => hw.si h6 hl) kk
  · unfold mj_fv
    rw [show m_kd (m_si S a j x) a = ci from hk, if_pos ht]
    show Value.int (if a = a ∧ j = j then x else _) = _
    rw [if_pos ⟨rfl, rfl⟩]; rfl
  · unfold mj_fv
    rw [show m_gi (m_si S a j x) a i = m_gi S a i from if_neg (fun h => hi h.2)]
    rfl
theorem mj_putL {index ci a j : Nat} {fin o : Bool} {x : Int64} (hd : decode cc pc = .ok (.putfield index, 3)) (hf : mj_fl own index ci j .long fin o) (hk : m_kd S a = ci) (hfin : fin = false ∨ (ini = true ∧ o = true)) (ht : mj_ft ci j = 1) (kk : mj_V l G R own cc nL rt ini (pc + 3) ls st (m_sl S a j x) k n Q) : mj_V l G R own cc nL rt ini pc ls (.long x :: .ref a :: st) S k n Q := by
  refine mj_put (S' := m_sl S a j x) hd hf hk hfin (fun _ => rfl) (fun _ => rfl) rfl (fun ad b hb => mj_ce_ne rfl rfl (fun _ => rfl) (fun i => if_neg (fun h => hb h.1)) (fun _ => rfl)) (fun ad => ?_) (fun ad i hi => ?_) (fun hw _ h6 hl => hw.sl hl) kk
  · unfold mj_fv
    rw [show m_kd (m_sl S a j x) a = ci from hk, if_neg (by omega), if_pos ht]
    show Value.long (if a = a ∧ j = j then x else _) = _
    rw [if_pos ⟨rfl, rfl⟩]; rfl
  · unfold mj_fv
    rw [show m_gl (m_sl S a j x) a i = m_gl S a i from if_neg (fun h => hi h.2)]
    rfl
theorem mj_putP {index ci a j t b : Nat} {ty : FieldType} {fin o : Bool} (hd : decode cc pc = .ok (.putfield index, 3)) (hf : mj_fl own index ci j ty fin o) (hk : m_kd S a = ci) (hfin : fin = false ∨ (ini = true ∧ o = true)) (ht : mj_ft ci j = t + 2) (hkb : m_kd S b = t) (hnr : ∀ q, narrow ty (.ref q) = .ref q) (hft : ∀ q, fits ty (.ref q) = true) (kk : mj_V l G R own cc nL rt ini (pc + 3) ls st (m_sp S a j (some b)) k n Q) : mj_V l G R own cc nL rt ini pc ls (.ref b :: .ref a :: st) S k n Q := by
  have hci : ci < 11 := by obtain ⟨_, _, _, _, _, _, _, _, _, _, _, h, _⟩ := hf; exact h
  refine mj_put (S' := m_sp S a j (some b)) hd hf hk hfin (fun ad => hnr (ad b)) (fun ad => hft (ad b)) rfl (fun ad b hb => mj_ce_ne rfl rfl (fun _ => rfl) (fun _ => rfl) (fun i => if_neg (fun h => hb h.1))) (fun ad => ?_) (fun ad i hi => ?_) (fun hw hv h6 hl => hw.sp hl hv (fun _ _ => by rw [hk, ht, hkb]) (fun h => by omega)) kk
  · unfold mj_fv
    rw [show m_kd (m_sp S a j (some b)) a = ci from hk, if_neg (by omega), if_neg (by omega)]
    show va_rf ((if a = a ∧ j = j then some b else _).map ad) = _
    rw [if_pos ⟨rfl, rfl⟩]; rfl
  · unfold mj_fv
    rw [show m_gp (m_sp S a j (some b)) a i = m_gp S a i from if_neg (fun h => hi h.2)]
    rfl
end MJ4
end
section
/-! heap: arrays, tables, statics -/
section MJ5
variable {l : Launch} {G : mj_G} {R : Room} {own : String} {cc : ByteArray} {nL : Nat} {rt : Option FieldType} {ini : Bool} {pc : Nat} {ls ls' : List (Option Value)} {st : List Value} {S S' : mj_S} {k n : Nat} {Q : mj_Z}
variable {p : Program} {s : State} {m : MethodId} {args : Array Value} {meth : Method} {c : Code} {H H1 : Heap} {locs locs1 : List Loc} {A : Nat → Prop} {ad ad0 : Nat → Nat} {sh0 : List (Nat × Nat)} {rls rls' : Array Slot}
theorem mj_wf.arr {L : Nat} {xs : Nat → Int32} {a t : Nat} (h : mj_wf L xs S) (hk : m_kd S a = t) (h2 : t ≤ 103) : 6 ≤ a ∧ a < S.1.length := ⟨h.ge6 (by omega), m_kd_lt (by omega)⟩
theorem mj_wf.tab {L : Nat} {xs : Nat → Int32} {a : Nat} (h : mj_wf L xs S) (hk : 110 ≤ m_kd S a ∧ m_kd S a ≤ 111) : a < 6 ∧ m_kd S a = (mj_rs L a).1 ∧ m_ln S a = (mj_rs L a).2 ∧ ∀ j, m_gi S a j = mj_rc xs a j := by
  have h6 : a < 6 := by
    rcases Nat.lt_or_ge a 6 with q | q
    · exact q
    · have hl := m_kd_lt (S := S) (a := a) (by omega)
      rcases h.2.2.1 a q hl with ⟨h1, -⟩ | ⟨-, h1⟩ <;> omega
  have h1 := (h.2.1 a h6).1
  exact ⟨h6, by simp [m_kd, List.getD_eq_getElem?_getD, h1], by simp [m_ln, List.getD_eq_getElem?_getD, h1], (h.2.1 a h6).2⟩
theorem mj_ce_i {dA : Nat → ClassId} {a : Nat} (hk : m_kd S a = 100) : mj_ce dA ad S a = .inl (dA 0, m_ln S a, .inl (m_gi S a)) := by
  unfold mj_ce
  rw [if_neg (by omega), if_neg (by omega), if_neg (by omega), hk]
theorem mj_ce_z {dA : Nat → ClassId} {a : Nat} (hk : m_kd S a = 101) : mj_ce dA ad S a = .inl (dA 1, m_ln S a, .inl (m_gi S a)) := by
  unfold mj_ce
  rw [if_neg (by omega), if_neg (by omega), if_neg (by omega), hk]
theorem mj_ce_l {dA : Nat → ClassId} {a : Nat} (hk : m_kd S a = 102) : mj_ce dA ad S a = .inl (dA 2, m_ln S a, .inr (.inl (m_gl S a))) := by
  unfold mj_ce
  rw [if_neg (by omega), if_pos hk]
theorem mj_ce_q {dA : Nat → ClassId} {a : Nat} (hk : m_kd S a = 103) : mj_ce dA ad S a = .inl (dA 3, m_ln S a, .inr (.inr (.inr (.inr (fun j => (m_gp S a j).map ad))))) := by
  unfold mj_ce
  rw [if_neg (by omega), if_neg (by omega), if_pos hk]
theorem mj_X.tabT {a : Nat} (X : mj_X G own cc nL rt ini ls st S p s m args meth c H locs A ad ad0 sh0 rls) (hk : m_kd S a = 110) : va_T .int (ad a) (m_ln S a) (fun j => .int (m_gi S a j)) A s s.heap := by
  obtain ⟨h1, h2, h3, h4⟩ := X.hw.tab (a := a) (by omega)
  have h := X.hro.2 a h1
  rw [if_neg (by omega)] at h
  rw [h3]
  simp only [h4]
  exact h
theorem mj_X.tabC {a : Nat} (X : mj_X G own cc nL rt ini ls st S p s m args meth c H locs A ad ad0 sh0 rls) (hk : m_kd S a = 111) : va_T .char (ad a) (m_ln S a) (fun j => .int (m_gi S a j)) A s s.heap := by
  obtain ⟨h1, h2, h3, h4⟩ := X.hw.tab (a := a) (by omega)
  have h := X.hro.2 a h1
  rw [if_pos (by omega)] at h
  rw [h3]
  simp only [h4]
  exact h
theorem mj_iald {a : Nat} {i : Int32} (hd : decode cc pc = .ok (.iaload, 1)) (hk : m_kd S a = 100 ∨ m_kd S a = 110) (kk : vp_in i (m_ln S a) ∧ mj_V l G R own cc nL rt ini (pc + 1) ls (.int (m_gi S a i.toNatClampNeg) :: st) S k n Q) : mj_V l G R own cc nL rt ini pc ls (.int i :: .ref a :: st) S k n Q := by
  intro p e s m args below meth c H locs A ad ad0 sh0 rls X
  have K := kk.2 p e s m args below meth c H locs A ad ad0 sh0 rls (X.stk (mj_okc trivial (mj_okt (mj_okt X.hst))))
  rcases hk with hk | hk
  · obtain ⟨h6, hl⟩ := X.hw.arr hk (by omega)
    have ha := mj_at (dA := G.2.1) (ad := ad) h6 hl
    rw [mj_ce_i hk] at ha
    exact va_iald X.hx X.hb X.hK X.hP (a - 6) 0 ha rfl kk.1 hd K
  · exact va_ti X.hx X.hb (X.tabT hk) X.hS kk.1 rfl hd K
theorem mj_cald {a : Nat} {i : Int32} (hd : decode cc pc = .ok (.caload, 1)) (hk : m_kd S a = 111) (kk : vp_in i (m_ln S a) ∧ mj_V l G R own cc nL rt ini (pc + 1) ls (.int (m_gi S a i.toNatClampNeg) :: st) S k n Q) : mj_V l G R own cc nL rt ini pc ls (.int i :: .ref a :: st) S k n Q := by
  intro p e s m args below meth c H locs A ad ad0 sh0 rls X
  exact va_tc X.hx X.hb (X.tabC hk) X.hS kk.1 rfl hd (kk.2 p e s m args below meth c H locs A ad ad0 sh0 rls (X.stk (mj_okc trivial (mj_okt (mj_okt X.hst)))))
theorem mj_bald {a : Nat} {i : Int32} (hd : decode cc pc = .ok (.baload, 1)) (hk : m_kd S a = 101) (kk : vp_in i (m_ln S a) ∧ mj_V l G R own cc nL rt ini (pc + 1) ls (.int (m_gi S a i.toNatClampNeg) :: st) S k n Q) : mj_V l G R own cc nL rt ini pc ls (.int i :: .ref a :: st) S k n Q := by
  intro p e s m args below meth c H locs A ad ad0 sh0 rls X
  obtain ⟨h6, hl⟩ := X.hw.arr hk (by omega)
  have ha := mj_at (dA := G.2.1) (ad := ad) h6 hl
  rw [mj_ce_z hk] at ha
  exact va_zald X.hx X.hb X.hK X.hP (a - 6) 1 ha rfl kk.1 hd (kk.2 p e s m args below meth c H locs A ad ad0 sh0 rls (X.stk (mj_okc trivial (mj_okt (mj_okt X.hst)))))
theorem mj_lald {a : Nat} {i : Int32} (hd : decode cc pc = .ok (.laload, 1)) (hk : m_kd S a = 102) (kk : vp_in i (m_ln S a) ∧ mj_V l G R own cc nL rt ini (pc + 1) ls (.long (m_gl S a i.toNatClampNeg) :: st) S k n Q) : mj_V l G R own cc nL rt ini pc ls (.int i :: .ref a :: st) S k n Q := by
  intro p e s m args below meth c H locs A ad ad0 sh0 rls X
  obtain ⟨h6, hl⟩ := X.hw.arr hk (by omega)
  have ha := mj_at (dA := G.2.1) (ad := ad) h6 hl
  rw [mj_ce_l hk] at ha
  exact va_lald X.hx X.hb X.hK X.hP (a - 6) 2 ha rfl kk.1 hd (kk.2 p e s m args below meth c H locs A ad ad0 sh0 rls (X.stk (mj_okc trivial (mj_okt (mj_okt X.hst)))))
theorem mj_aald {a : Nat} {i : Int32} (hd : decode cc pc = .ok (.aaload, 1)) (hk : m_kd S a = 103) (kk : vp_in i (m_ln S a) ∧ ∃ b, m_gp S a i.toNatClampNeg = some b ∧ (m_kd S b = 100 → mj_V l G R own cc nL rt ini (pc + 1) ls (.ref b :: st) S k n Q)) : mj_V l G R own cc nL rt ini pc ls (.int i :: .ref a :: st) S k n Q := by
  obtain ⟨hin, b, hb, kk⟩ := kk
  intro p e s m args below meth c H locs A ad ad0 sh0 rls X
  obtain ⟨h6, hl⟩ := X.hw.arr hk (by omega)
  have ha := mj_at (dA := G.2.1) (ad := ad) h6 hl
  rw [mj_ce_q hk] at ha
  have hlt : i.toNatClampNeg < m_ln S a := Nat.not_le.mp fun q => hin (Or.inr q)
  have K := kk (X.hw.2.2.2.2.2.1 a _ b hk hb) p e s m args below meth c H locs A ad ad0 sh0 rls (X.stk (mj_okc (X.hw.2.2.2.1 a _ b hb) (mj_okt (mj_okt X.hst))))
  exact W.aald (v := .ref (ad b)) (ty := .array .int) X.hx X.hb (X.hP (a - 6) _ ha) ((X.hK.2 3 _ rfl).1 (m_ln S a) (fun j => va_rf ((m_gp S a j).map ad))) rfl (fun q => by cases q) (by show ¬ (i < 0 ∨ (arrV _ _ _).slots.size ≤ _); rw [arrV_size]; exact hin) (by show (arrV _ _ _).slots[_]? = _; rw [arrV_read _ _ hlt]; show some (va_rf ((m_gp S a i.toNatClampNeg).map ad)) = _; rw [hb]; rfl) rfl rfl hd K
theorem mj_iast {a : Nat} {i x : Int32} (hd : decode cc pc = .ok (.iastore, 1)) (hk : m_kd S a = 100) (kk : vp_in i (m_ln S a) ∧ mj_V l G R own cc nL rt ini (pc + 1) ls st (m_si S a i.toNatClampNeg x) k n Q) : mj_V l G R own cc nL rt ini pc ls (.int x :: .int i :: .ref a :: st) S k n Q := by
  intro p e s m args below meth c H locs A ad ad0 sh0 rls X
  obtain ⟨h6, hl⟩ := X.hw.arr hk (by omega)
  have ha := mj_at (dA := G.2.1) (ad := ad) h6 hl
  rw [mj_ce_i hk] at ha
  have hset : mj_ws G.2.1 ad (m_si S a i.toNatClampNeg x) = (mj_ws G.2.1 ad S).set (a - 6) (ad a, .inl (G.2.1 0, m_ln S a, .inl (upd (m_gi S a) i.toNatClampNeg x))) := by
    rw [mj_set h6 (S := S) (S' := m_si S a i.toNatClampNeg x) rfl (fun b hb => mj_ce_ne rfl rfl (fun j => if_neg (fun h => hb h.1)) (fun _ => rfl) (fun _ => rfl)), mj_ce_i (S := m_si S a i.toNatClampNeg x) hk]
    have e1 : m_gi (m_si S a i.toNatClampNeg x) a = upd (m_gi S a) i.toNatClampNeg x := by
      funext j
      show (if a = a ∧ j = i.toNatClampNeg then x else _) = if j = i.toNatClampNeg then x else _
      by_cases e : j = i.toNatClampNeg <;> simp [e, m_gi]
    rw [e1]
    rfl
  refine va_iast X.hx X.hb X.hK X.hP X.hD X.hS (a - 6) 0 ha rfl kk.1 hd (fun H1 locs1 h1 h2 h3 => ?_)
  rw [← hset] at h1 h2
  exact kk.2 p e s m args below meth c H1 locs1 A ad ad0 sh0 rls ((X.stk (mj_okt (mj_okt (mj_okt X.hst)))).mem rfl h1 h2 h3 (X.hw.si h6 hl))
theorem mj_bast {a : Nat} {i x : Int32} (hd : decode cc pc = .ok (.bastore, 1)) (hk : m_kd S a = 101) (kk : vp_in i (m_ln S a) ∧ mj_V l G R own cc nL rt ini (pc + 1) ls st (m_si S a i.toNatClampNeg (vp_nar .boolean x)) k n Q) : mj_V l G R own cc nL rt ini pc ls (.int x :: .int i :: .ref a :: st) S k n Q := by
  intro p e s m args below meth c H locs A ad ad0 sh0 rls X
  obtain ⟨h6, hl⟩ := X.hw.arr hk (by omega)
  have ha := mj_at (dA := G.2.1) (ad := ad) h6 hl
  rw [mj_ce_z hk] at ha
  have hset : mj_ws G.2.1 ad (m_si S a i.toNatClampNeg (vp_nar .boolean x)) = (mj_ws G.2.1 ad S).set (a - 6) (ad a, .inl (G.2.1 1, m_ln S a, .inl (upd (m_gi S a) i.toNatClampNeg (vp_nar .boolean x)))) := by
    rw [mj_set h6 (S := S) (S' := m_si S a i.toNatClampNeg (vp_nar .boolean x)) rfl (fun b hb => mj_ce_ne rfl rfl (fun j => if_neg (fun h => hb h.1)) (fun _ => rfl) (fun _ => rfl)), mj_ce_z (S := m_si S a i.toNatClampNeg (vp_nar .boolean x)) hk]
    have e1 : m_gi (m_si S a i.toNatClampNeg (vp_nar .boolean x)) a = upd (m_gi S a) i.toNatClampNeg (vp_nar .boolean x) := by
      funext j
      show (if a = a ∧ j = i.toNatClampNeg then _ else _) = if j = i.toNatClampNeg then _ else _
      by_cases e : j = i.toNatClampNeg <;> simp [e, m_gi]
    rw [e1]
    rfl
  refine va_zast X.hx X.hb X.hK X.hP X.hD X.hS (a - 6) 1 ha rfl kk.1 hd (fun H1 locs1 h1 h2 h3 => ?_)
  rw [← hset] at h1 h2
  exact kk.2 p e s m args below meth c H1 locs1 A ad ad0 sh0 rls ((X.stk (mj_okt (mj_okt (mj_okt X.hst)))).mem rfl h1 h2 h3 (X.hw.si h6 hl))
theorem mj_last {a : Nat} {i : Int32} {x : Int64} (hd : decode cc pc = .ok (.lastore, 1)) (hk : m_kd S a = 102) (kk : vp_in i (m_ln S a) ∧ mj_V l G R own cc nL rt ini (pc + 1) ls st (m_sl S a i.toNatClampNeg x) k n Q) : mj_V l G R own cc nL rt ini pc ls (.long x :: .int i :: .ref a :: st) S k n Q := by
  intro p e s m args below meth c H locs A ad ad0 sh0 rls X
  obtain ⟨h6, hl⟩ := X.hw.arr hk (by omega)
  have ha := mj_at (dA := G.2.1) (ad := ad) h6 hl
  rw [mj_ce_l hk] at ha
  have hset : mj_ws G.2.1 ad (m_sl S a i.toNatClampNeg x) = (mj_ws G.2.1 ad S).set (a - 6) (ad a, .inl (G.2.1 2, m_ln S a, .inr (.inl (vp_updL (m_gl S a) i.toNatClampNeg x)))) := by
    rw [mj_set h6 (S := S) (S' := m_sl S a i.toNatClampNeg x) rfl (fun b hb => mj_ce_ne rfl rfl (fun _ => rfl) (fun j => if_neg (fun h => hb h.1)) (fun _ => rfl)), mj_ce_l (S := m_sl S a i.toNatClampNeg x) hk]
    have e1 : m_gl (m_sl S a i.toNatClampNeg x) a = vp_updL (m_gl S a) i.toNatClampNeg x := by
      funext j
      show (if a = a ∧ j = i.toNatClampNeg then x else _) = if j = i.toNatClampNeg then x else _
      by_cases e : j = i.toNatClampNeg <;> simp [e, m_gl]
    rw [e1]
    rfl
  refine va_last X.hx X.hb X.hK X.hP X.hD X.hS (a - 6) 2 ha rfl kk.1 hd (fun H1 locs1 h1 h2 h3 => ?_)
  rw [← hset] at h1 h2
  exact kk.2 p e s m args below meth c H1 locs1 A ad ad0 sh0 rls ((X.stk (mj_okt (mj_okt (mj_okt X.hst)))).mem rfl h1 h2 h3 (X.hw.sl hl))
theorem mj_alen {a : Nat} (hd : decode cc pc = .ok (.arraylength, 1)) (hk : m_kd S a = 100 ∨ m_kd S a = 110) (kk : mj_V l G R own cc nL rt ini (pc + 1) ls (.int (Int32.ofNat (m_ln S a)) :: st) S k n Q) : mj_V l G R own cc nL rt ini pc ls (.ref a :: st) S k n Q := by
  intro p e s m args below meth c H locs A ad ad0 sh0 rls X
  have K := kk p e s m args below meth c H locs A ad ad0 sh0 rls (X.stk (mj_okc trivial (mj_okt X.hst)))
  rcases hk with hk | hk
  · obtain ⟨h6, hl⟩ := X.hw.arr hk (by omega)
    have ha := mj_at (dA := G.2.1) (ad := ad) h6 hl
    rw [mj_ce_i hk] at ha
    exact va_alen X.hx X.hb X.hK X.hP (a - 6) 0 ha (ty := .int) rfl rfl hd K
  · exact va_tlen X.hx X.hb (X.tabT hk) X.hS rfl hd K
/-- a static table -/
theorem mj_gets {index i t : Nat} {nm ds : String} (hd : decode cc pc = .ok (.getstatic index, 3)) (hi : i < 5) (hn : mj_ron i = (nm, ds)) (hlink : Cond.fieldLinkNest own index "VelvetStates" nm ds "VelvetStates" ∈ mj_N) (ht : ∀ L, (mj_rs L i).1 = t) (kk : m_kd S i = t → m_ln S i = (mj_rs 0 i).2 → mj_V l G R own cc nL rt ini (pc + 3) ls (.ref i :: st) S k n Q) : mj_V l G R own cc nL rt ini pc ls st S k n Q := by
  intro p e s m args below meth c H locs A ad ad0 sh0 rls X
  have h1 := (X.hw.2.1 i (by omega)).1
  have hk : m_kd S i = t := by rw [← ht G.2.2.1]; simp [m_kd, List.getD_eq_getElem?_getD, h1]
  have hln : m_ln S i = (mj_rs 0 i).2 := by
    have : m_ln S i = (mj_rs G.2.2.1 i).2 := by simp [m_ln, List.getD_eq_getElem?_getD, h1]
    rw [this]
    rcases (show i = 0 ∨ i = 1 ∨ i = 2 ∨ i = 3 ∨ i = 4 by omega) with rfl | rfl | rfl | rfl | rfl <;> rfl
  have hl : i < S.1.length := by have := X.hw.1; omega
  have hZ := X.hro.1 i hi
  rw [hn] at hZ
  exact va_getsN X.hx X.hb hZ X.hS X.hown (va_Nw.use rfl (X.hN _ hlink)) (fun _ h => h) hd (kk hk hln p e s m args below meth c H locs A ad ad0 sh0 rls (X.stk (mj_okc hl X.hst)))
end MJ5
end
section
/-! contracts: entry, end, calls -/
def mj_room (d mc ms : Nat) : Room := { frames := d, cells := mc, slots := ms, locals := 64 * d }
def mj_Pc (G : mj_G) (as : List Value) (S : mj_S) (ad : Nat → Nat) (sz : Nat) : Array Value → State → Prop := va_Pc (as.map (mj_cv ad)) (fun U => U.heap.size = sz ∧ mj_w0 G ad S (va_A (mj_ws G.2.1 ad S) sz) U U.heap ∧ mj_ro G.2.2.1 G.2.2.2 ad (va_A (mj_ws G.2.1 ad S) sz) U U.heap)
def mj_M (l : Launch) (G : mj_G) (y : MethodName) (b : ByteArray) (nL : Nat) (rt : Option FieldType) (d mc ms : Nat) (as : List Value) (S : mj_S) (Q : mj_S → Option Value → Prop) : Prop :=
  (∀ v ∈ as, mj_ok S v) → ∀ (ad : Nat → Nat) (sz : Nat), Met l y (Cond.code y b nL rt :: mj_T) (mj_room d mc ms) (mj_Pc G as S ad sz) (mj_Qc G rt Q ad S.1 (va_A (mj_ws G.2.1 ad S) sz)) mc ms (va_A (mj_ws G.2.1 ad S) sz)
def mj_ent : List Value → List (Option Value)
  | [] => []
  | v :: vs => if v.category = 2 then some v :: none :: mj_ent vs else some v :: mj_ent vs
theorem mj_ent_in : ∀ (as : List Value) (i0 i : Nat) (v : Value), (mj_ent as)[i]? = some (some v) → (i0 + i, v) ∈ lv_args i0 as
  | [], i0, i, v, h => by simp [mj_ent] at h
  | w :: ws, i0, i, v, h => by
    unfold mj_ent at h
    unfold lv_args
    by_cases hc : w.category = 2
    · rw [if_pos hc] at h
      rw [if_pos hc]
      match i, h with
      | 0, h => cases h; exact List.mem_cons_self
      | 1, h => simp at h
      | j + 2, h =>
        refine List.mem_cons_of_mem _ ?_
        have := mj_ent_in ws (i0 + 2) j v (by simpa using h)
        rw [show i0 + (j + 2) = i0 + 2 + j by omega]
        exact this
    · rw [if_neg hc] at h
      rw [if_neg hc]
      match i, h with
      | 0, h => cases h; exact List.mem_cons_self
      | j + 1, h =>
        refine List.mem_cons_of_mem _ ?_
        have := mj_ent_in ws (i0 + 1) j v (by simpa using h)
        rw [show i0 + (j + 1) = i0 + 1 + j by omega]
        exact this
theorem mj_args_map (ad : Nat → Nat) : ∀ (as : List Value) (i : Nat), lv_args i (as.map (mj_cv ad)) = (lv_args i as).map (fun q => (q.1, mj_cv ad q.2))
  | [], i => rfl
  | w :: ws, i => by
    simp only [List.map_cons, lv_args, mj_cvc]
    rw [mj_args_map ad ws]
theorem mj_enter {l : Launch} {G : mj_G} {y : MethodName} {b : ByteArray} {nL r : Nat} {rt : Option FieldType} {d mc ms : Nat} {as : List Value} {S : mj_S} {Q : mj_S → Option Value → Prop} {ini : Bool} {ls : List (Option Value)} (hy : plainName y.cls = true) (hini : ini = true → y.name = "<init>") (hlen : ∀ ad, (lg_sl (as.map (mj_cv ad))).length ≤ nL) (hls : ls = mj_ent as ++ List.replicate r none)
    (kk : mj_V l G (mj_room d mc ms) y.cls b nL rt ini 0 ls [] S 0 0 (mj_std G rt (mj_room d mc ms) Q)) : mj_M l G y b nL rt d mc ms as S Q := by
  intro hok ad sz
  refine Met.ofW (cc := b) (maxL := nL) (ret := rt) hy rfl ?_
  intro p e s m args below meth c s₁ B hml hv
  obtain ⟨rfl, hsz, hw0, hro⟩ := hv
  subst hsz
  have hts := atoms_spec (ws := Cond.code y b nL rt :: mj_T) B.pre
  have hown : s.vm.findClass y.cls = some m.cls := findClass_of_methodNamed B.named
  have hnm : meth.name = y.name := (name_of_methodNamed B.named B.method).1
  have hl := lv_entry (as.map (mj_cv ad)) (hlen ad)
  rw [lg_entry_eq]
  generalize (lg_sl (as.map (mj_cv ad)) ++ List.replicate (nL - (lg_sl (as.map (mj_cv ad))).length) Slot.unset).toArray = rls at hl ⊢
  have hin : ∀ (i : Nat) (v : Value), ls[i]? = some (some v) → (i, v) ∈ lv_args 0 as := by
    intro i v h
    rw [hls] at h
    have h2 : (mj_ent as)[i]? = some (some v) := by
      rcases Nat.lt_or_ge i (mj_ent as).length with q | q
      · rw [List.getElem?_append_left q] at h; exact h
      · rw [List.getElem?_append_right q] at h
        rcases Nat.lt_or_ge (i - (mj_ent as).length) r with q2 | q2
        · rw [List.getElem?_replicate, if_pos q2] at h; cases h
        · rw [List.getElem?_replicate, if_neg (by omega)] at h; cases h
    have := mj_ent_in as 0 i v h2
    rwa [Nat.zero_add] at this
  have hmem : ∀ (as : List Value) (i0 : Nat) (q : Nat × Value), q ∈ lv_args i0 as → q.2 ∈ as := by
    intro as
    induction as with
    | nil => intro i0 q h; cases h
    | cons w ws ih =>
      intro i0 q h
      unfold lv_args at h
      rcases List.mem_cons.mp h with e | e
      · rw [e]; exact List.mem_cons_self
      · exact List.mem_cons_of_mem _ (ih _ q e)
  refine kk p e s m _ below meth c s.heap [] (va_A (mj_ws G.2.1 ad S) s.heap.size) ad ad S.1 rls ⟨⟨B.exec, B.bytes, hml, hown, fun w hw => hts w (List.mem_cons_of_mem _ hw)⟩, ⟨B.notSynchronized, B.returns, fun h => hnm.trans (hini h)⟩, hw0, ⟨va_S.rf, fun q h => Or.inr h, hro⟩, ⟨List.prefix_rfl, hw0.2.2.2.1.1, fun _ _ => rfl⟩, fun v hv => (by cases hv), fun i v h => hok v (hmem as 0 _ (hin i v h)), hl.1, hl.2.1, fun i v h => ?_⟩
  refine hl.2.2 (i, mj_cv ad v) ?_
  rw [mj_args_map]
  exact List.mem_map.mpr ⟨(i, v), hin i v h, rfl⟩
section MJ6
variable {l : Launch} {G : mj_G} {R : Room} {own : String} {cc : ByteArray} {nL : Nat} {rt : Option FieldType} {ini : Bool} {pc : Nat} {ls ls' : List (Option Value)} {st : List Value} {S S' : mj_S} {k n : Nat} {Q : mj_S → Option Value → Prop}
variable {Zq : mj_Z}
variable {p : Program} {e : Env} {below : List Frame} {s : State} {m : MethodId} {args : Array Value} {meth : Method} {c : Code} {H H1 : Heap} {locs locs1 : List Loc} {A : Nat → Prop} {ad ad0 : Nat → Nat} {sh0 : List (Nat × Nat)} {rls rls' : Array Slot}
theorem mj_X.qc {v : Option Value} (X : mj_X G own cc nL rt ini ls st S p s m args meth c H locs A ad ad0 sh0 rls) (hQ : Q S v) (hok : ∀ x, v = some x → mj_ok S x) (hn : mj_nr rt v) (a : Array Value) : ∀ t : State, t.heap = H → s.WarmedH t.vm → mj_Qc G rt Q ad0 sh0 A a s (.returned (v.map (mj_cv ad))) t := by
  intro t ht hW
  refine ⟨⟨S, ad, v, rfl, hQ, ⟨by rw [ht]; exact X.hP, X.hD, va_K.moved hW.alike X.hK, X.hw, X.hN.warm hW⟩, X.2.2.2.2.1.1, X.2.2.2.2.1.2.2, hok, hn⟩, X.hS.F ht⟩
theorem mj_iret {x : Int32} (hd : decode cc pc = .ok (.ireturn, 1)) (hr : rt = some .int) (hk : k ≤ R.cells) (hn : n ≤ R.slots) (hQ : Q S (some (.int x))) : mj_V l G R own cc nL rt ini pc ls [.int x] S k n (mj_std G rt R Q) := by
  intro p e s m args below meth c H locs A ad ad0 sh0 rls X
  exact W.widen hk hn (W.iret X.hx X.hb (X.2.1.2.1.trans hr) (X.qc (v := some (.int x)) hQ (fun y h => by cases h; exact trivial) (by rw [hr]; rfl) _) (fun q hq => X.hS.2.2 q hq) hd X.2.1.1)
theorem mj_zret {x : Int32} (hd : decode cc pc = .ok (.ireturn, 1)) (hr : rt = some .boolean) (hz : narrow .boolean (.int x) = .int x) (hk : k ≤ R.cells) (hn : n ≤ R.slots) (hQ : Q S (some (.int x))) : mj_V l G R own cc nL rt ini pc ls [.int x] S k n (mj_std G rt R Q) := by
  intro p e s m args below meth c H locs A ad ad0 sh0 rls X
  exact W.widen hk hn (W.zret X.hx X.hb (X.2.1.2.1.trans hr) hz (X.qc (v := some (.int x)) hQ (fun y h => by cases h; exact trivial) (by rw [hr]; exact hz) _) (fun q hq => X.hS.2.2 q hq) hd X.2.1.1)
theorem mj_vret (hd : decode cc pc = .ok (.return_, 1)) (hr : rt = none) (hk : k ≤ R.cells) (hn : n ≤ R.slots) (hQ : Q S none) : mj_V l G R own cc nL rt ini pc ls [] S k n (mj_std G rt R Q) := by
  intro p e s m args below meth c H locs A ad ad0 sh0 rls X
  exact W.widen hk hn (W.vret X.hx X.hb (X.2.1.2.1.trans hr) (X.qc (v := none) hQ (fun y h => by cases h) (by rw [hr]; trivial) _) (fun q hq => X.hS.2.2 q hq) hd X.2.1.1)
theorem mj_cv_ag {ad' : Nat → Nat} {v : Value} (h : ∀ i, i < S.1.length → ad' i = ad i) (hv : mj_ok S v) : mj_cv ad' v = mj_cv ad v := by
  cases v <;> first | rfl | (show Value.ref _ = Value.ref _; rw [h _ hv])
theorem mj_A1 (X : mj_X G own cc nL rt ini ls st S p s m args meth c H locs A ad ad0 sh0 rls) : ∀ q, va_A (mj_ws G.2.1 ad S) H.size q → A q := by
  intro q h
  rcases h with ⟨j, x, h⟩ | h
  · exact X.hD.2 j _ h
  · exact X.hA q (Nat.le_trans X.hS.1 h)
theorem mj_blind {as : List Value} {sz : Nat} : FrameBlind (mj_Pc G as S ad sz) := by
  intro a U g mk q
  obtain ⟨h1, h2, h3, h4⟩ := q
  exact ⟨h1, h2, ⟨h3.1, h3.2.1, va_K.moved (u := U) (U := U.calling g mk a) (Vm.Alike.refl U.vm) h3.2.2.1, h3.2.2.2.1, mj_nw.same (u := U) (U := U.calling g mk a) rfl h3.2.2.2.2⟩, mj_ro.moved (u := U) (U := U.calling g mk a) (Vm.Alike.refl U.vm) h4⟩
theorem mj_X.pre (X : mj_X G own cc nL rt ini ls st S p s m args meth c H locs A ad ad0 sh0 rls) (as : List Value) : ∀ U : State, U.heap = H → s.WarmedH U.vm → mj_Pc G as S ad H.size (as.map (mj_cv ad)).toArray U := by
  intro U hU hW
  refine ⟨rfl, by rw [hU], ⟨by rw [hU]; exact X.hP, X.hD.self, va_K.moved hW.alike X.hK, X.hw, X.hN.warm hW⟩, ?_⟩
  rw [hU]
  exact ((X.hro.kept (fun a h1 h2 => X.hS.2.1 a h1 h2)).narrow (mj_A1 X)).moved hW.alike
/-- behind a call -/
theorem mj_goon {rt2 : Option FieldType} {Q2 : mj_S → Option Value → Prop} {st0 st1 : List Value} {mc ms : Nat} {a : Array Value} (X : mj_X G own cc nL rt ini ls st1 S p s m args meth c H locs A ad ad0 sh0 rls) (hst : ∀ v ∈ st, mj_ok S v)
    (hr : va_Run p l e R s m args below meth c H locs k n mc ms (F0 m pc rls st0) (st.map (mj_cv ad)) (mj_Qc G rt2 Q2 ad S.1 (va_A (mj_ws G.2.1 ad S) H.size) a) (va_A (mj_ws G.2.1 ad S) H.size))
    (kk : ∀ (S' : mj_S) (v : Option Value), Q2 S' v → mj_nr rt2 v → S.1 <+: S'.1 → mj_V l G R own cc nL rt ini (pc + 3) ls (v.toList ++ st) S' (k + mc) (n + ms) Zq) : W p l e R s m args below meth c H locs k n (Zq below args s A ad0 sh0) (F0 m pc rls st0) := by
  intro T hT XX
  obtain ⟨v, st₀, t, T', L, h0, X', hL, e1, e2, ⟨⟨S', ad', v', hv, hQ, hw', hpr, hag, hok, hnr⟩, hF1, hF2⟩, stp⟩ := hr T hT XX
  have hn' : S.1.length ≤ S'.1.length := hpr.length_le
  have hv' : v = v'.map (mj_cv ad') := by cases hv; rfl
  subst hv'
  have hA1 := mj_A1 X
  rw [h0] at hF1 hF2
  have hX : mj_X G own cc nL rt ini ls (v'.toList ++ st) S' p s m args meth c T'.heap (locs ++ L) A ad' ad0 sh0 rls := by
    refine ⟨X.1, X.2.1, ⟨by rw [e1]; exact hw'.1, hw'.2.1.weaken (fun _ q _ h => hA1 q.1 h), X.hK, hw'.2.2.2.1, X.hN⟩, ⟨⟨?_, ?_, ?_⟩, X.hA, X.hro.ad (fun i hi => hag i (Nat.lt_of_lt_of_le hi X.hw.1))⟩, ⟨X.2.2.2.2.1.1.trans hpr, X.2.2.2.2.1.2.1, fun i hi => (hag i (Nat.lt_of_lt_of_le hi X.2.2.2.2.1.1.length_le)).trans (X.2.2.2.2.1.2.2 i hi)⟩, ?_, fun i w h => mj_ok_le hn' (X.hls i w h), X.hsz, X.hlw, fun i w h => ?_⟩
    · exact Nat.le_trans X.hS.1 (by rw [e1]; exact hF1)
    · intro q h1 h2
      rw [e1, hF2 q (Nat.lt_of_lt_of_le h1 X.hS.1) (fun z => h2 (hA1 q z))]
      exact X.hS.2.1 q h1 h2
    · intro q hq
      rcases List.mem_append.mp hq with h | h
      · exact X.hS.2.2 q h
      · exact hA1 _ (hL q h)
    · intro w hw
      rcases List.mem_append.mp hw with h | h
      · exact hok w (by cases v' with | none => cases h | some z => rw [List.mem_singleton.mp h])
      · exact mj_ok_le hn' (hst w h)
    · rw [mj_cv_ag hag (X.hls i w h)]
      exact X.hlv i w h
  have K := kk S' v' hQ hnr hpr p e s m args below meth c T'.heap (locs ++ L) A ad' ad0 sh0 rls hX T' rfl X'
  have hstk : (v'.toList ++ st).map (mj_cv ad') = (v'.map (mj_cv ad')).toList ++ st.map (mj_cv ad) := by
    rw [List.map_append]
    congr 1
    · cases v' <;> rfl
    · exact List.map_congr_left (fun w hw => mj_cv_ag hag (hst w hw))
  rw [hstk] at K
  obtain ⟨t2, a1, b1⟩ := K
  exact ⟨t2, stp t2 a1, b1⟩
theorem mj_fix (X : mj_X G own cc nL rt ini ls st S p s m args meth c H locs A ad ad0 sh0 rls) : CallFix p m c cc nL s args mj_T own := ⟨X.hx, X.hb, X.hml, X.hown, X.hts⟩
theorem mj_gw {ws : List Cond} {y : MethodName} {b : ByteArray} {nL2 np : Nat} {rt2 : Option FieldType} (h : mj_cal y b nL2 rt2 np) (hw : ∀ w ∈ ws, w ∈ mj_T) : GoodIn mj_T (ws ++ (Cond.code y b nL2 rt2 :: mj_T)) := by
  intro w hw'
  rcases List.mem_append.mp hw' with q | q
  · exact ⟨hw w q, good_of_word (List.mem_filter.mp (hw w q)).2⟩
  · exact mj_good h.1 w q
theorem mj_rmo {d d2 mc ms k n nL2 : Nat} (h : d2 + 1 ≤ d) (hn : nL2 ≤ 45) : (mj_room d2 mc ms).frames + 1 ≤ (mj_room d k n).frames ∧ 8 + (nL2 + 11) + (mj_room d2 mc ms).locals ≤ (mj_room d k n).locals := by
  refine ⟨h, ?_⟩
  show 8 + (nL2 + 11) + 64 * d2 ≤ 64 * d
  omega
theorem mj_l3 {a b c : Cond} (h1 : a ∈ mj_T) (h2 : b ∈ mj_T) (h3 : c ∈ mj_T) : ∀ w ∈ [a, b, c], w ∈ mj_T := by
  intro w hw
  simp only [List.mem_cons, List.not_mem_nil, or_false] at hw
  rcases hw with rfl | rfl | rfl <;> assumption
theorem mj_l4 {a b c d : Cond} (h1 : a ∈ mj_T) (h2 : b ∈ mj_T) (h3 : c ∈ mj_T) (h4 : d ∈ mj_T) : ∀ w ∈ [a, b, c, d], w ∈ mj_T := by
  intro w hw
  simp only [List.mem_cons, List.not_mem_nil, or_false] at hw
  rcases hw with rfl | rfl | rfl | rfl <;> assumption
theorem mj_l5 {a b c d e : Cond} (h1 : a ∈ mj_T) (h2 : b ∈ mj_T) (h3 : c ∈ mj_T) (h4 : d ∈ mj_T) (h5 : e ∈ mj_T) : ∀ w ∈ [a, b, c, d, e], w ∈ mj_T := by
  intro w hw
  simp only [List.mem_cons, List.not_mem_nil, or_false] at hw
  rcases hw with rfl | rfl | rfl | rfl | rfl <;> assumption
/-- a static method of any of our classes -/
theorem mj_callS {index d2 mc ms nL2 np d K N : Nat} {y : MethodName} {b : ByteArray} {rt2 : Option FieldType} {as : List Value} {Q2 : mj_S → Option Value → Prop} (hd : decode cc pc = .ok (.invokestatic index, 3)) (hc : mj_cal y b nL2 rt2 np) (hl : Cond.methodLink own index y ∈ mj_T) (hs : Cond.static y ∈ mj_T) (hM : mj_M l G y b nL2 rt2 d2 mc ms as S Q2) (hnp : as.length = np) (hst : (st.map fun v => v.category).sum ≤ 8) (hdd : d2 + 1 ≤ d) (hck : k + mc ≤ K ∧ n + ms ≤ N)
    (kk : ∀ (S' : mj_S) (v : Option Value), Q2 S' v → mj_nr rt2 v → S.1 <+: S'.1 → mj_V l G (mj_room d K N) own cc nL rt ini (pc + 3) ls (v.toList ++ st) S' (k + mc) (n + ms) Zq) : mj_V l G (mj_room d K N) own cc nL rt ini pc ls (as.reverse ++ st) S k n Zq := by
  intro p e s m args below meth c H locs A ad ad0 sh0 rls X
  have hoks : ∀ v ∈ as, mj_ok S v := fun v hv => X.hst v (List.mem_append_left _ (List.mem_reverse.mpr hv))
  refine mj_goon (a := (as.map (mj_cv ad)).toArray) X (fun v hv => X.hst v (List.mem_append_right _ hv)) (va_runS (As := as.map (mj_cv ad)) (rest := st.map (mj_cv ad)) (mj_fix X) (hM hoks ad H.size) (va_cwS np X.hts (by unfold va_wsS; exact mj_gw hc (mj_l3 hl hs hc.2.1)) rfl rfl rfl hc.2.2.1 (mj_rmo hdd hc.2.2.2)) ⟨mj_blind, X.pre as⟩ rfl (by simpa using hnp) X.hsz (by simp) ?_ hd ⟨hck.1, hck.2⟩) kk
  show 2 * 0 + _ ≤ 8
  rw [List.map_map, show ((fun v : Value => v.category) ∘ mj_cv ad) = (fun v : Value => v.category) from funext fun v => mj_cvc ad v]
  omega
/-- a static method of a nest mate that is private -/
theorem mj_callSN {index d2 mc ms nL2 np d K N : Nat} {y : MethodName} {b : ByteArray} {rt2 : Option FieldType} {host : String} {as : List Value} {Q2 : mj_S → Option Value → Prop} (hd : decode cc pc = .ok (.invokestatic index, 3)) (hc : mj_cal y b nL2 rt2 np) (hl : Cond.methodLinkNest own index y host ∈ mj_N) (hs : Cond.static y ∈ mj_T) (hM : mj_M l G y b nL2 rt2 d2 mc ms as S Q2) (hnp : as.length = np) (hst : (st.map fun v => v.category).sum ≤ 8) (hdd : d2 + 1 ≤ d) (hck : k + mc ≤ K ∧ n + ms ≤ N)
    (kk : ∀ (S' : mj_S) (v : Option Value), Q2 S' v → mj_nr rt2 v → S.1 <+: S'.1 → mj_V l G (mj_room d K N) own cc nL rt ini (pc + 3) ls (v.toList ++ st) S' (k + mc) (n + ms) Zq) : mj_V l G (mj_room d K N) own cc nL rt ini pc ls (as.reverse ++ st) S k n Zq := by
  intro p e s m args below meth c H locs A ad ad0 sh0 rls X
  have hoks : ∀ v ∈ as, mj_ok S v := fun v hv => X.hst v (List.mem_append_left _ (List.mem_reverse.mpr hv))
  refine mj_goon (a := (as.map (mj_cv ad)).toArray) X (fun v hv => X.hst v (List.mem_append_right _ hv)) (va_runSN (As := as.map (mj_cv ad)) (rest := st.map (mj_cv ad)) (mj_fix X) (hM hoks ad H.size) ⟨va_cnB np X.hts (mj_gw (ws := []) hc (fun w hw => by cases hw)) rfl rfl rfl (X.hN _ hl) (X.hts _ hc.2.1) hc.2.2.1 (mj_rmo hdd hc.2.2.2), X.hts _ hs, trivial⟩ ⟨mj_blind, X.pre as⟩ rfl (by simpa using hnp) X.hsz (by simp) ?_ hd ⟨hck.1, hck.2⟩) kk
  show 2 * 0 + _ ≤ 8
  rw [List.map_map, show ((fun v : Value => v.category) ∘ mj_cv ad) = (fun v : Value => v.category) from funext fun v => mj_cvc ad v]
  omega
theorem mj_recv {ci a : Nat} {C : String} {T : u_T} {N : Nat} (X : mj_X G own cc nL rt ini ls st S p s m args meth c H locs A ad ad0 sh0 rls) (hc : vwCl[ci]? = some (C, T, N)) (hci : ci < 11) (hk : m_kd S a = ci) : ∃ cell : Cell, H[ad a]? = some cell ∧ cell.vm.isStatics = false ∧ s.vm.findClass C = some cell.cls := by
  obtain ⟨h6, hl, hln⟩ := X.hw.obj hk hci
  have ha := mj_at (dA := G.2.1) (ad := ad) h6 hl
  rw [mj_ce_obj hk hci hln] at ha
  exact va_recv X.hK X.hP hc ha
/-- an object's method -/
theorem mj_callV {index d2 mc ms nL2 np d K N ci a N2 : Nat} {T : u_T} {y : MethodName} {b : ByteArray} {rt2 : Option FieldType} {as : List Value} {Q2 : mj_S → Option Value → Prop} (hd : decode cc pc = .ok (.invokevirtual index, 3)) (hc : mj_cal y b nL2 rt2 np) (hl : Cond.methodLink own index y ∈ mj_T) (hi : Cond.instanceMethod y ∈ mj_T) (hse : Cond.selects y.cls y y ∈ mj_T) (hcl : vwCl[ci]? = some (y.cls, T, N2)) (hci : ci < 11) (hk : m_kd S a = ci) (hM : mj_M l G y b nL2 rt2 d2 mc ms (.ref a :: as) S Q2) (hnp : as.length = np) (hst : (st.map fun v => v.category).sum ≤ 8) (hdd : d2 + 1 ≤ d) (hck : k + mc ≤ K ∧ n + ms ≤ N)
    (kk : ∀ (S' : mj_S) (v : Option Value), Q2 S' v → mj_nr rt2 v → S.1 <+: S'.1 → mj_V l G (mj_room d K N) own cc nL rt ini (pc + 3) ls (v.toList ++ st) S' (k + mc) (n + ms) Zq) : mj_V l G (mj_room d K N) own cc nL rt ini pc ls (as.reverse ++ .ref a :: st) S k n Zq := by
  intro p e s m args below meth c H locs A ad ad0 sh0 rls X
  have hoks : ∀ v ∈ (.ref a :: as : List Value), mj_ok S v := fun v hv => by
    rcases List.mem_cons.mp hv with q | q
    · rw [q]; exact X.hst _ (List.mem_append_right _ List.mem_cons_self)
    · exact X.hst v (List.mem_append_left _ (List.mem_reverse.mpr q))
  refine mj_goon (a := ((.ref a :: as : List Value).map (mj_cv ad)).toArray) X (fun v hv => X.hst v (List.mem_append_right _ (List.mem_cons_of_mem _ hv))) (va_runV (As := as.map (mj_cv ad)) (rest := st.map (mj_cv ad)) (b := ad a) (mj_fix X) (hM hoks ad H.size) (cwV np X.hts (by unfold wsV; exact mj_gw hc (mj_l4 hl hi hse hc.2.1)) rfl rfl rfl ⟨rfl, hc.2.2.1⟩ (mj_rmo hdd hc.2.2.2)) ⟨mj_blind, mj_recv X hcl hci hk, X.pre (.ref a :: as)⟩ rfl (by simpa using hnp) X.hsz (by simp [mj_cv]) ?_ hd ⟨hck.1, hck.2⟩) kk
  show 2 * 0 + _ ≤ 8
  rw [List.map_map, show ((fun v : Value => v.category) ∘ mj_cv ad) = (fun v : Value => v.category) from funext fun v => mj_cvc ad v]
  omega
end MJ6
/-! typed contracts -/
theorem m_kd_pre {S S' : mj_S} {a t : Nat} (h : S.1 <+: S'.1) (hk : m_kd S a = t) (ht : t ≠ 999) : m_kd S' a = t := by
  obtain ⟨L, hL⟩ := h
  have hl := m_kd_lt (S := S) (a := a) (by omega)
  unfold m_kd at hk ⊢
  rw [← hL, List.getD_eq_getElem?_getD, List.getElem?_append_left hl, ← List.getD_eq_getElem?_getD]
  exact hk
theorem m_ln_pre {S S' : mj_S} {a t : Nat} (h : S.1 <+: S'.1) (hk : a < S.1.length) : m_ln S' a = m_ln S a := by
  obtain ⟨L, hL⟩ := h
  unfold m_ln
  rw [← hL, List.getD_eq_getElem?_getD, List.getElem?_append_left hk, ← List.getD_eq_getElem?_getD]
def mj_qi (Q : mj_S → Int32 → Prop) : mj_S → Option Value → Prop := fun S v => ∃ r, v = some (.int r) ∧ Q S r
def mj_qv (Q : mj_S → Prop) : mj_S → Option Value → Prop := fun S v => v = none ∧ Q S
section MJ7
variable {l : Launch} {G : mj_G} {R : Room} {own : String} {cc : ByteArray} {nL : Nat} {rt : Option FieldType} {ini : Bool} {pc : Nat} {ls ls' : List (Option Value)} {st : List Value} {S S' : mj_S} {k n : Nat} {Q : mj_S → Option Value → Prop} {Qi Qj : mj_S → Int32 → Prop} {Qv : mj_S → Prop}
theorem mj_reti {x : Int32} (hd : decode cc pc = .ok (.ireturn, 1)) (hr : rt = some .int) (hk : k ≤ R.cells ∧ n ≤ R.slots) (hQ : Qi S x) : mj_V l G R own cc nL rt ini pc ls [.int x] S k n (mj_std G rt R (mj_qi Qi)) := mj_iret hd hr hk.1 hk.2 ⟨x, rfl, hQ⟩
theorem mj_retz {x : Int32} (hd : decode cc pc = .ok (.ireturn, 1)) (hr : rt = some .boolean) (hz : narrow .boolean (.int x) = .int x) (hk : k ≤ R.cells ∧ n ≤ R.slots) (hQ : Qi S x) : mj_V l G R own cc nL rt ini pc ls [.int x] S k n (mj_std G rt R (mj_qi Qi)) := mj_zret hd hr hz hk.1 hk.2 ⟨x, rfl, hQ⟩
theorem mj_retv (hd : decode cc pc = .ok (.return_, 1)) (hr : rt = none) (hk : k ≤ R.cells ∧ n ≤ R.slots) (hQ : Qv S) : mj_V l G R own cc nL rt ini pc ls [] S k n (mj_std G rt R (mj_qv Qv)) := mj_vret hd hr hk.1 hk.2 ⟨rfl, hQ⟩
end MJ7
end
section
/-! calls, by the answer's type -/
section MJ8
variable {l : Launch} {G : mj_G} {own : String} {cc : ByteArray} {nL : Nat} {rt : Option FieldType} {ini : Bool} {pc : Nat} {ls : List (Option Value)} {st : List Value} {S : mj_S} {k n : Nat} {Q : mj_Z} {Qj : mj_S → Int32 → Prop} {Qw : mj_S → Prop}
variable {index d2 mc ms nL2 np d K N ci a N2 : Nat} {T : u_T} {y : MethodName} {b : ByteArray} {rt2 : Option FieldType} {as : List Value} {host : String}
theorem mj_ki {P : mj_S → Option Value → Prop} (kk : ∀ (S' : mj_S) (r : Int32), Qj S' r → mj_nr rt2 (some (.int r)) → S.1 <+: S'.1 → P S' (some (.int r))) : ∀ (S' : mj_S) (v : Option Value), mj_qi Qj S' v → mj_nr rt2 v → S.1 <+: S'.1 → P S' v := by
  rintro S' v ⟨r, rfl, h⟩ h2 h3
  exact kk S' r h h2 h3
theorem mj_kv {P : mj_S → Option Value → Prop} (kk : ∀ (S' : mj_S), Qw S' → S.1 <+: S'.1 → P S' none) : ∀ (S' : mj_S) (v : Option Value), mj_qv Qw S' v → mj_nr rt2 v → S.1 <+: S'.1 → P S' v := by
  rintro S' v ⟨rfl, h⟩ h2 h3
  exact kk S' h h3
theorem mj_callSi (hd : decode cc pc = .ok (.invokestatic index, 3)) (hc : mj_cal y b nL2 rt2 np) (hl : Cond.methodLink own index y ∈ mj_T) (hs : Cond.static y ∈ mj_T) (hM : mj_M l G y b nL2 rt2 d2 mc ms as S (mj_qi Qj)) (hnp : as.length = np) (hst : (st.map fun v => v.category).sum ≤ 8) (hdd : d2 + 1 ≤ d) (hck : k + mc ≤ K ∧ n + ms ≤ N)
    (kk : ∀ (S' : mj_S) (r : Int32), Qj S' r → mj_nr rt2 (some (.int r)) → S.1 <+: S'.1 → mj_V l G (mj_room d K N) own cc nL rt ini (pc + 3) ls (.int r :: st) S' (k + mc) (n + ms) Q) : mj_V l G (mj_room d K N) own cc nL rt ini pc ls (as.reverse ++ st) S k n Q := mj_callS hd hc hl hs hM hnp hst hdd hck (mj_ki kk)
theorem mj_callSv (hd : decode cc pc = .ok (.invokestatic index, 3)) (hc : mj_cal y b nL2 rt2 np) (hl : Cond.methodLink own index y ∈ mj_T) (hs : Cond.static y ∈ mj_T) (hM : mj_M l G y b nL2 rt2 d2 mc ms as S (mj_qv Qw)) (hnp : as.length = np) (hst : (st.map fun v => v.category).sum ≤ 8) (hdd : d2 + 1 ≤ d) (hck : k + mc ≤ K ∧ n + ms ≤ N)
    (kk : ∀ (S' : mj_S), Qw S' → S.1 <+: S'.1 → mj_V l G (mj_room d K N) own cc nL rt ini (pc + 3) ls st S' (k + mc) (n + ms) Q) : mj_V l G (mj_room d K N) own cc nL rt ini pc ls (as.reverse ++ st) S k n Q := mj_callS hd hc hl hs hM hnp hst hdd hck (mj_kv kk)
theorem mj_callNi (hd : decode cc pc = .ok (.invokestatic index, 3)) (hc : mj_cal y b nL2 rt2 np) (hl : Cond.methodLinkNest own index y host ∈ mj_N) (hs : Cond.static y ∈ mj_T) (hM : mj_M l G y b nL2 rt2 d2 mc ms as S (mj_qi Qj)) (hnp : as.length = np) (hst : (st.map fun v => v.category).sum ≤ 8) (hdd : d2 + 1 ≤ d) (hck : k + mc ≤ K ∧ n + ms ≤ N)
    (kk : ∀ (S' : mj_S) (r : Int32), Qj S' r → mj_nr rt2 (some (.int r)) → S.1 <+: S'.1 → mj_V l G (mj_room d K N) own cc nL rt ini (pc + 3) ls (.int r :: st) S' (k + mc) (n + ms) Q) : mj_V l G (mj_room d K N) own cc nL rt ini pc ls (as.reverse ++ st) S k n Q := mj_callSN hd hc hl hs hM hnp hst hdd hck (mj_ki kk)
theorem mj_callVi (hd : decode cc pc = .ok (.invokevirtual index, 3)) (hc : mj_cal y b nL2 rt2 np) (hl : Cond.methodLink own index y ∈ mj_T) (hi : Cond.instanceMethod y ∈ mj_T) (hse : Cond.selects y.cls y y ∈ mj_T) (hcl : vwCl[ci]? = some (y.cls, T, N2)) (hci : ci < 11) (hk : m_kd S a = ci) (hM : mj_M l G y b nL2 rt2 d2 mc ms (.ref a :: as) S (mj_qi Qj)) (hnp : as.length = np) (hst : (st.map fun v => v.category).sum ≤ 8) (hdd : d2 + 1 ≤ d) (hck : k + mc ≤ K ∧ n + ms ≤ N)
    (kk : ∀ (S' : mj_S) (r : Int32), Qj S' r → mj_nr rt2 (some (.int r)) → S.1 <+: S'.1 → mj_V l G (mj_room d K N) own cc nL rt ini (pc + 3) ls (.int r :: st) S' (k + mc) (n + ms) Q) : mj_V l G (mj_room d K N) own cc nL rt ini pc ls (as.reverse ++ .ref a :: st) S k n Q := mj_callV hd hc hl hi hse hcl hci hk hM hnp hst hdd hck (mj_ki kk)
theorem mj_callVv (hd : decode cc pc = .ok (.invokevirtual index, 3)) (hc : mj_cal y b nL2 rt2 np) (hl : Cond.methodLink own index y ∈ mj_T) (hi : Cond.instanceMethod y ∈ mj_T) (hse : Cond.selects y.cls y y ∈ mj_T) (hcl : vwCl[ci]? = some (y.cls, T, N2)) (hci : ci < 11) (hk : m_kd S a = ci) (hM : mj_M l G y b nL2 rt2 d2 mc ms (.ref a :: as) S (mj_qv Qw)) (hnp : as.length = np) (hst : (st.map fun v => v.category).sum ≤ 8) (hdd : d2 + 1 ≤ d) (hck : k + mc ≤ K ∧ n + ms ≤ N)
    (kk : ∀ (S' : mj_S), Qw S' → S.1 <+: S'.1 → mj_V l G (mj_room d K N) own cc nL rt ini (pc + 3) ls st S' (k + mc) (n + ms) Q) : mj_V l G (mj_room d K N) own cc nL rt ini pc ls (as.reverse ++ .ref a :: st) S k n Q := mj_callV hd hc hl hi hse hcl hci hk hM hnp hst hdd hck (mj_kv kk)
end MJ8
end
section
/-! fewer locals by a mask; inherited methods; System.arraycopy -/
def mj_mask : List Bool → List (Option Value) → List (Option Value)
  | true :: bs, v :: ls => v :: mj_mask bs ls
  | false :: bs, _ :: ls => none :: mj_mask bs ls
  | _, _ => []
theorem mj_mask_in : ∀ (bs : List Bool) (ls : List (Option Value)) (i : Nat) (v : Value), (mj_mask bs ls)[i]? = some (some v) → ls[i]? = some (some v)
  | [], ls, i, v, h => by simp [mj_mask] at h
  | b :: bs, [], i, v, h => by cases b <;> simp [mj_mask] at h
  | true :: bs, w :: ls, 0, v, h => by simpa [mj_mask] using h
  | true :: bs, w :: ls, i + 1, v, h => by
    simp only [mj_mask, List.getElem?_cons_succ] at h ⊢
    exact mj_mask_in bs ls i v h
  | false :: bs, w :: ls, 0, v, h => by simp [mj_mask] at h
  | false :: bs, w :: ls, i + 1, v, h => by
    simp only [mj_mask, List.getElem?_cons_succ] at h ⊢
    exact mj_mask_in bs ls i v h
section MJ9
variable {l : Launch} {G : mj_G} {R : Room} {own : String} {cc : ByteArray} {nL : Nat} {rt : Option FieldType} {ini : Bool} {pc : Nat} {ls ls' : List (Option Value)} {st : List Value} {S : mj_S} {k n : Nat} {Q : mj_Z} {Qj : mj_S → Int32 → Prop} {Qw : mj_S → Prop}
theorem mj_lessm (bs : List Bool) (hl : mj_mask bs ls = ls') (kk : mj_V l G R own cc nL rt ini pc ls' st S k n Q) : mj_V l G R own cc nL rt ini pc ls st S k n Q := mj_less (fun i v h => mj_mask_in bs ls i v (by rw [hl]; exact h)) kk
/-- an inherited method -/
theorem mj_callU {index d2 mc ms nL2 np d K N ci a N2 : Nat} {T : u_T} {x y : MethodName} {C : String} {b : ByteArray} {rt2 : Option FieldType} {as : List Value} {Q2 : mj_S → Option Value → Prop} (hd : decode cc pc = .ok (.invokevirtual index, 3)) (hc : mj_cal y b nL2 rt2 np) (hl : Cond.methodLink own index x ∈ mj_T) (hsa : Cond.sameMethod x.cls y.cls x.name x.desc ∈ mj_T) (hse : Cond.selects C x y ∈ mj_T) (hi : Cond.instanceMethod y ∈ mj_T) (hyx : y = ⟨y.cls, x.name, x.desc⟩) (hcl : vwCl[ci]? = some (C, T, N2)) (hci : ci < 11) (hk : m_kd S a = ci) (hM : mj_M l G y b nL2 rt2 d2 mc ms (.ref a :: as) S Q2) (hnp : as.length = np) (hst : (st.map fun v => v.category).sum ≤ 8) (hdd : d2 + 1 ≤ d) (hck : k + mc ≤ K ∧ n + ms ≤ N)
    (kk : ∀ (S' : mj_S) (v : Option Value), Q2 S' v → mj_nr rt2 v → S.1 <+: S'.1 → mj_V l G (mj_room d K N) own cc nL rt ini (pc + 3) ls (v.toList ++ st) S' (k + mc) (n + ms) Q) : mj_V l G (mj_room d K N) own cc nL rt ini pc ls (as.reverse ++ .ref a :: st) S k n Q := by
  intro p e s m args below meth c H locs A ad ad0 sh0 rls X
  have hoks : ∀ v ∈ (.ref a :: as : List Value), mj_ok S v := fun v hv => by
    rcases List.mem_cons.mp hv with q | q
    · rw [q]; exact X.hst _ (List.mem_append_right _ List.mem_cons_self)
    · exact X.hst v (List.mem_append_left _ (List.mem_reverse.mpr q))
  have hdx : y.desc = x.desc := by rw [hyx]
  refine mj_goon (a := ((.ref a :: as : List Value).map (mj_cv ad)).toArray) X (fun v hv => X.hst v (List.mem_append_right _ (List.mem_cons_of_mem _ hv))) (va_runU (owner := y.cls) (x := x) (As := as.map (mj_cv ad)) (rest := st.map (mj_cv ad)) (b := ad a) (mj_fix X) (hM hoks ad H.size) (va_cwU np X.hts (by unfold va_wsU; exact mj_gw hc (mj_l5 hl hsa hse hi hc.2.1)) rfl rfl rfl hyx ⟨hc.2.2.1.1, hc.2.2.1.2.1, by rw [← hdx]; exact hc.2.2.1.2.2⟩ (mj_rmo hdd hc.2.2.2)) ⟨mj_blind, mj_recv X hcl hci hk, X.pre (.ref a :: as)⟩ rfl (by simpa using hnp) X.hsz (by simp [mj_cv]) ?_ hd ⟨hck.1, hck.2⟩) kk
  show 2 * 0 + _ ≤ 8
  rw [List.map_map, show ((fun v : Value => v.category) ∘ mj_cv ad) = (fun v : Value => v.category) from funext fun v => mj_cvc ad v]
  omega
theorem mj_callUi {index d2 mc ms nL2 np d K N ci a N2 : Nat} {T : u_T} {x y : MethodName} {C : String} {b : ByteArray} {rt2 : Option FieldType} {as : List Value} (hd : decode cc pc = .ok (.invokevirtual index, 3)) (hc : mj_cal y b nL2 rt2 np) (hl : Cond.methodLink own index x ∈ mj_T) (hsa : Cond.sameMethod x.cls y.cls x.name x.desc ∈ mj_T) (hse : Cond.selects C x y ∈ mj_T) (hi : Cond.instanceMethod y ∈ mj_T) (hyx : y = ⟨y.cls, x.name, x.desc⟩) (hcl : vwCl[ci]? = some (C, T, N2)) (hci : ci < 11) (hk : m_kd S a = ci) (hM : mj_M l G y b nL2 rt2 d2 mc ms (.ref a :: as) S (mj_qi Qj)) (hnp : as.length = np) (hst : (st.map fun v => v.category).sum ≤ 8) (hdd : d2 + 1 ≤ d) (hck : k + mc ≤ K ∧ n + ms ≤ N)
    (kk : ∀ (S' : mj_S) (r : Int32), Qj S' r → mj_nr rt2 (some (.int r)) → S.1 <+: S'.1 → mj_V l G (mj_room d K N) own cc nL rt ini (pc + 3) ls (.int r :: st) S' (k + mc) (n + ms) Q) : mj_V l G (mj_room d K N) own cc nL rt ini pc ls (as.reverse ++ .ref a :: st) S k n Q := mj_callU hd hc hl hsa hse hi hyx hcl hci hk hM hnp hst hdd hck (mj_ki kk)
theorem mj_callUv {index d2 mc ms nL2 np d K N ci a N2 : Nat} {T : u_T} {x y : MethodName} {C : String} {b : ByteArray} {rt2 : Option FieldType} {as : List Value} (hd : decode cc pc = .ok (.invokevirtual index, 3)) (hc : mj_cal y b nL2 rt2 np) (hl : Cond.methodLink own index x ∈ mj_T) (hsa : Cond.sameMethod x.cls y.cls x.name x.desc ∈ mj_T) (hse : Cond.selects C x y ∈ mj_T) (hi : Cond.instanceMethod y ∈ mj_T) (hyx : y = ⟨y.cls, x.name, x.desc⟩) (hcl : vwCl[ci]? = some (C, T, N2)) (hci : ci < 11) (hk : m_kd S a = ci) (hM : mj_M l G y b nL2 rt2 d2 mc ms (.ref a :: as) S (mj_qv Qw)) (hnp : as.length = np) (hst : (st.map fun v => v.category).sum ≤ 8) (hdd : d2 + 1 ≤ d) (hck : k + mc ≤ K ∧ n + ms ≤ N)
    (kk : ∀ (S' : mj_S), Qw S' → S.1 <+: S'.1 → mj_V l G (mj_room d K N) own cc nL rt ini (pc + 3) ls st S' (k + mc) (n + ms) Q) : mj_V l G (mj_room d K N) own cc nL rt ini pc ls (as.reverse ++ .ref a :: st) S k n Q := mj_callU hd hc hl hsa hse hi hyx hcl hci hk hM hnp hst hdd hck (mj_kv kk)
/-- an inherited static method -/
theorem mj_callSU {index d2 mc ms nL2 np d K N : Nat} {x y : MethodName} {b : ByteArray} {rt2 : Option FieldType} {as : List Value} {Q2 : mj_S → Option Value → Prop} (hd : decode cc pc = .ok (.invokestatic index, 3)) (hc : mj_cal y b nL2 rt2 np) (hl : Cond.methodLink own index x ∈ mj_T) (hs : Cond.static y ∈ mj_T) (hsa : Cond.sameMethod x.cls y.cls x.name x.desc ∈ mj_T) (hyx : y = ⟨y.cls, x.name, x.desc⟩) (hM : mj_M l G y b nL2 rt2 d2 mc ms as S Q2) (hnp : as.length = np) (hst : (st.map fun v => v.category).sum ≤ 8) (hdd : d2 + 1 ≤ d) (hck : k + mc ≤ K ∧ n + ms ≤ N)
    (kk : ∀ (S' : mj_S) (v : Option Value), Q2 S' v → mj_nr rt2 v → S.1 <+: S'.1 → mj_V l G (mj_room d K N) own cc nL rt ini (pc + 3) ls (v.toList ++ st) S' (k + mc) (n + ms) Q) : mj_V l G (mj_room d K N) own cc nL rt ini pc ls (as.reverse ++ st) S k n Q := by
  intro p e s m args below meth c H locs A ad ad0 sh0 rls X
  have hoks : ∀ v ∈ as, mj_ok S v := fun v hv => X.hst v (List.mem_append_left _ (List.mem_reverse.mpr hv))
  refine mj_goon (a := (as.map (mj_cv ad)).toArray) X (fun v hv => X.hst v (List.mem_append_right _ hv)) ?_ kk
  have hM' := hM hoks ad H.size
  have hdx : y.desc = x.desc := by rw [hyx]
  have hlo := mj_rmo (mc := mc) (ms := ms) (k := K) (n := N) hdd hc.2.2.2
  have hK0 : Back l (mj_room d K N) p e below s args y 3 8 (PreOf (mj_room d K N) mc ms (mj_Pc G as S ad H.size)) (PostOf (mj_Qc G rt2 Q2 ad S.1 (va_A (mj_ws G.2.1 ad S) H.size)) mc ms (va_A (mj_ws G.2.1 ad S) H.size)) := back_of (l := l) (R := mj_room d K N) (p := p) (e := e) (below := below) (s := s) (sargs := args) (len := 3) (W := 8) (bytes := b) (maxL := nL2) (ret := rt2) hM' mj_blind rfl rfl hlo.1 hlo.2 (pay_in X.hts (mj_good hc.1)) List.mem_cons_self (fun a' U hW => word_at hW (Or.inl (by first | rfl | simp [Cond.onTables, Cond.keeps, Cond.steady])) (X.hts _ hc.2.1))
  have hK : Back l (mj_room d K N) p e below s args ⟨y.cls, x.name, x.desc⟩ 3 8 (PreOf (mj_room d K N) mc ms (mj_Pc G as S ad H.size)) (PostOf (mj_Qc G rt2 Q2 ad S.1 (va_A (mj_ws G.2.1 ad S) H.size)) mc ms (va_A (mj_ws G.2.1 ad S) H.size)) := by
    rw [← hyx]; exact hK0
  intro T hT XX
  obtain ⟨mk, hnamed⟩ := Cond.code_named (X.hts _ hc.1)
  obtain ⟨methM, cM, hmethM, -, -, -, -, -, -, hsigM⟩ := Cond.code_spec hnamed (X.hts _ hc.1)
  have hnamed' : s.methodNamed? ⟨y.cls, x.name, x.desc⟩ = some mk := by rw [← hyx]; exact hnamed
  have hsW : 2 * (F0 m pc rls ((as.reverse ++ st).map (mj_cv ad))).monitorRoom + ((st.map (mj_cv ad)).map fun v => v.category).sum ≤ 8 := by
    show 2 * 0 + _ ≤ 8
    rw [List.map_map, show ((fun v : Value => v.category) ∘ mj_cv ad) = (fun v : Value => v.category) from funext fun v => mj_cvc ad v]
    omega
  obtain ⟨v, vm₁, ⟨U', l2, c2, s2⟩, hW₁, X', ⟨g', mk', t, L, e1, e2, hq, h1, hL, h2, h3⟩, stp⟩ := XX.staticBackUp X.hx X.hown (X.hts _ hl) (X.hts _ hsa) (by rw [← hyx]; exact X.hts _ hs) (X.hts _ hc.2.1) hnamed' hmethM (by rw [← hdx]; exact hsigM) ⟨hc.2.2.1.1, hc.2.2.1.2.1⟩ hK (g := F0 m pc rls ((as.reverse ++ st).map (mj_cv ad))) rfl (X.hsz.trans X.hml.symm) (Steps.refl _) (argsL := as.map (mj_cv ad)) (rest := st.map (mj_cv ad)) (fun sig h => by
      have h2 := hc.2.2.1.2.2
      rw [hdx, h] at h2
      have h3 : sig.parameters.length = np := Option.some.inj h2
      simp only [List.length_map]
      omega) (by simp) hsW (by rw [X.hb]; exact hd) (fun vm₁ hW₁ => ⟨hck.1, hck.2, X.pre as (T.setVm vm₁) hT hW₁⟩)
  dsimp only [Pt.U, Pt.locs, Pt.cells, Pt.slots] at X' e1 e2 h1 h2 h3 stp
  subst h1; subst h2; subst h3
  exact ⟨v, (T.setVm vm₁).calling g' mk' (as.map (mj_cv ad)).toArray, t, U', L, hT, X', hL, e1, e2, hq, fun target h => stp.trans h⟩
theorem mj_callSUi {index d2 mc ms nL2 np d K N : Nat} {x y : MethodName} {b : ByteArray} {rt2 : Option FieldType} {as : List Value} (hd : decode cc pc = .ok (.invokestatic index, 3)) (hc : mj_cal y b nL2 rt2 np) (hl : Cond.methodLink own index x ∈ mj_T) (hs : Cond.static y ∈ mj_T) (hsa : Cond.sameMethod x.cls y.cls x.name x.desc ∈ mj_T) (hyx : y = ⟨y.cls, x.name, x.desc⟩) (hM : mj_M l G y b nL2 rt2 d2 mc ms as S (mj_qi Qj)) (hnp : as.length = np) (hst : (st.map fun v => v.category).sum ≤ 8) (hdd : d2 + 1 ≤ d) (hck : k + mc ≤ K ∧ n + ms ≤ N)
    (kk : ∀ (S' : mj_S) (r : Int32), Qj S' r → mj_nr rt2 (some (.int r)) → S.1 <+: S'.1 → mj_V l G (mj_room d K N) own cc nL rt ini (pc + 3) ls (.int r :: st) S' (k + mc) (n + ms) Q) : mj_V l G (mj_room d K N) own cc nL rt ini pc ls (as.reverse ++ st) S k n Q := mj_callSU hd hc hl hs hsa hyx hM hnp hst hdd hck (mj_ki kk)
end MJ9
end
section
/-! System.arraycopy -/
theorem mj_ac1 : Cond.native arraycopyName ∈ mj_T := mj_in 576 (by decide +kernel) (by decide +kernel)
theorem mj_ac2 : Cond.static arraycopyName ∈ mj_T := mj_in 575 (by decide +kernel) (by decide +kernel)
theorem mj_ac3 : Cond.initialized "java/lang/System" ∈ mj_T := mj_in 139 (by decide +kernel) (by decide +kernel)
theorem mj_acw : nativeFrameWords "java/lang/System" "arraycopy" 5 ≤ 40 := by decide +kernel
section MJ10
variable {p : Program} {l : Launch} {e : Env} {R : Room} {s : State} {m : MethodId} {args : Array Value} {below : List Frame} {meth : Method} {c : Code} {H : Heap} {locs : List Loc} {cells slots : Nat} {Qz : State → Prop} {D : va_G} {cl : List vw_C} {ws : va_W} {A : Nat → Prop} {tys : List (ClassId × FieldType)} {rls : Array Slot} {rest : List Value} {a : Nat} {cc : ByteArray} {pc : Nat}
/-- out of a table that nobody writes -/
theorem mj_copyT (hx : p.tables.exec = Jvm.exec) (hb : c.code = cc) (hml : c.maxLocals = rls.size) {own : String} {index : Nat} (hown : s.vm.findClass own = some m.cls) (hlink : (Cond.methodLink own index arraycopyName).before args s = true) (hnat : (Cond.native arraycopyName).before args s = true) (hstat : (Cond.static arraycopyName).before args s = true) (hini : (Cond.initialized "java/lang/System").before args s = true)
    (hK : va_K D cl tys s) (hP : va_P D cl ws H) (hD : va_D A ws) (hS : va_S A s.heap H locs) {b0 sz : Nat} {f : Nat → Int32} (hX : va_T .int b0 sz (fun j => .int (f j)) A s s.heap) (q1 t1 : Nat) {c1 : ClassId} {n1 : Nat} {g : Nat → Int32} (ha1 : ws[q1]? = some (a, .inl (c1, n1, .inl g))) (ht1 : tys[t1]? = some (c1, .int))
    {sp dp n : Int32} (h1 : ¬ sp < 0) (h2 : ¬ dp < 0) (h3 : ¬ n < 0) (h4 : sp.toNatClampNeg + n.toNatClampNeg ≤ sz) (h5 : dp.toNatClampNeg + n.toNatClampNeg ≤ n1)
    (hframes : 1 ≤ R.frames) (hlocals : (rest.map fun v => v.category).sum + (nativeFrameWords "java/lang/System" "arraycopy" 5 + 11) ≤ R.locals) (hdg : decode cc pc = .ok (.invokestatic index, 3))
    (kk : ∀ (H1 : Heap) (locs1 : List Loc), va_P D cl (ws.set q1 (a, .inl (c1, n1, .inl (va_cpy f g sp.toNatClampNeg dp.toNatClampNeg n.toNatClampNeg)))) H1 → va_D A (ws.set q1 (a, .inl (c1, n1, .inl (va_cpy f g sp.toNatClampNeg dp.toNatClampNeg n.toNatClampNeg)))) → va_S A s.heap H1 locs1 → W p l e R s m args below meth c H1 locs1 cells slots Qz (F0 m (pc + 3) rls rest)) : W p l e R s m args below meth c H locs cells slots Qz (F0 m pc rls (.int n :: .int dp :: .ref a :: .int sp :: .ref b0 :: rest)) := by
  have pos : ∀ z : Int32, ¬ z < 0 → z.toInt = (z.toNatClampNeg : Int) := by
    intro z hz
    have h0 : (0 : Int) ≤ z.toInt := by simpa using Int32.le_iff_toInt_le.mp (Int32.not_lt.mp hz)
    exact (Int.toNat_of_nonneg h0).symm
  obtain ⟨tab, w1, ⟨w2, kS, w3, cS, w4⟩, w5, w6, -, w7, w8⟩ := hX
  have src : H[b0]? = some tab := by rw [hS.2.1 b0 (Array.getElem?_eq_some_iff.mp w1).1 w8]; exact w1
  have dst : H[a]? = some (vp_cell c1 (n1, .inl g)) := hP q1 _ ha1
  have hlt : a < H.size := (Array.getElem?_eq_some_iff.mp dst).1
  obtain ⟨-, kD, d1, cD, d2⟩ := (hK.2 t1 _ ht1).1 n1 (fun j => .int (g j))
  intro T hT X
  obtain ⟨vm', X', step⟩ := X.arraycopy hx hown hlink hnat hstat hini (src := b0) (dst := a) (cs := tab) (cd := vp_cell c1 (n1, .inl g)) (srcPos := sp) (destPos := dp) (n := n) (by rw [hT]; exact src) (by rw [hT]; exact dst)
    w2 (fun _ h => by cases h) w5 (fun h => by cases h) w3 d1 w4 d2 (by simp [refKind]) h1 h2 h3
    (by rw [pos sp h1, pos n h3]; omega)
    (by rw [pos dp h2, pos n h3]; show ¬ _ > ((arrV c1 n1 (fun j => .int (g j))).slots.size : Int); rw [arrV_size]; omega)
    (fun _ _ i hi => by
      have q : tab.slots.getD (sp.toNatClampNeg + i) .null = .int (f (sp.toNatClampNeg + i)) := by
        rw [Array.getD_eq_getD_getElem?, w7 _ (by omega)]
        rfl
      exact ⟨by rw [q]; rfl, by rw [q]; exact trivial⟩)
    (g := F0 m pc rls (.int n :: .int dp :: .ref a :: .int sp :: .ref b0 :: rest)) rfl (by rw [hml]) (rest := rest) rfl (by rw [hb]; exact hdg) hframes (by show 2 * 0 + _ + _ ≤ _; omega)
  have new : copied tab (vp_cell c1 (n1, .inl g)) sp dp n = vp_cell c1 (n1, .inl (va_cpy f g sp.toNatClampNeg dp.toNatClampNeg n.toNatClampNeg)) := va_copiedX (fun z => .int z) tab c1 f g w7 h4
  rw [new] at X' step
  generalize hz : vp_cell c1 (n1, .inl (va_cpy f g sp.toNatClampNeg dp.toNatClampNeg n.toNatClampNeg)) = nc at X' step new
  have heap1 : ((T.setVm vm').setCell a nc).heap = H.setIfInBounds a nc := by rw [← hT]; rfl
  have off : ∀ q : Nat, q ≠ a → (H.setIfInBounds a nc)[q]? = H[q]? := fun q hq => by simp [Array.getElem?_setIfInBounds, Ne.symm hq]
  have at1 : (H.setIfInBounds a nc)[a]? = some (vp_cell c1 (n1, .inl (va_cpy f g sp.toNatClampNeg dp.toNatClampNeg n.toNatClampNeg))) := by rw [hz]; simp [Array.getElem?_setIfInBounds, hlt]
  obtain ⟨t, a1, b1⟩ := kk _ _ (hP.set hD ha1 at1 off) (hD.set ha1) ⟨by simp; exact hS.1, fun q g1 g2 => (off q (fun z => g2 (by rw [z]; exact hD.2 q1 _ ha1))).trans (hS.2.1 q g1 g2), fun q hq => by
      rcases List.mem_append.mp hq with h | h
      · exact hS.2.2 q h
      · obtain ⟨z, -, hz⟩ := List.mem_map.mp h
        rw [← hz]
        exact hD.2 q1 _ ha1⟩ _ heap1 X'
  exact ⟨t, step t a1, b1⟩
end MJ10
section MJ11
variable {l : Launch} {G : mj_G} {own : String} {cc : ByteArray} {nL : Nat} {rt : Option FieldType} {ini : Bool} {pc : Nat} {ls : List (Option Value)} {st : List Value} {S : mj_S} {k n d K N : Nat} {Q : mj_Z}
theorem mj_copy {index sa da : Nat} {sp dp z : Int32} (hd : decode cc pc = .ok (.invokestatic index, 3)) (hl : Cond.methodLink own index arraycopyName ∈ mj_T) (hs : m_kd S sa = 100 ∨ m_kd S sa = 110) (hda : m_kd S da = 100) (h : ¬ sp < 0 ∧ ¬ dp < 0 ∧ ¬ z < 0 ∧ sp.toNatClampNeg + z.toNatClampNeg ≤ m_ln S sa ∧ dp.toNatClampNeg + z.toNatClampNeg ≤ m_ln S da) (hdd : 1 ≤ d) (hst : (st.map fun v => v.category).sum ≤ 8) (kk : mj_V l G (mj_room d K N) own cc nL rt ini (pc + 3) ls st (m_row S da (va_cpy (m_gi S sa) (m_gi S da) sp.toNatClampNeg dp.toNatClampNeg z.toNatClampNeg)) k n Q) : mj_V l G (mj_room d K N) own cc nL rt ini pc ls (.int z :: .int dp :: .ref da :: .int sp :: .ref sa :: st) S k n Q := by
  intro p e s m args below meth c H locs A ad ad0 sh0 rls X
  obtain ⟨h1, h2, h3, h4, h5⟩ := h
  obtain ⟨h6, hlen⟩ := X.hw.arr hda (by omega)
  have ha := mj_at (dA := G.2.1) (ad := ad) h6 hlen
  rw [mj_ce_i hda] at ha
  generalize hf : va_cpy (m_gi S sa) (m_gi S da) sp.toNatClampNeg dp.toNatClampNeg z.toNatClampNeg = f at kk
  have hset : mj_ws G.2.1 ad (m_row S da f) = (mj_ws G.2.1 ad S).set (da - 6) (ad da, .inl (G.2.1 0, m_ln S da, .inl f)) := by
    have e1 : m_gi (m_row S da f) da = f := by
      funext j
      show (if da = da then f else _) j = f j
      rw [if_pos rfl]
    rw [mj_set h6 (S := S) (S' := m_row S da f) rfl (fun b hb => mj_ce_ne rfl rfl (fun j => by show (if b = da then f else S.2.1 b) j = S.2.1 b j; rw [if_neg hb]) (fun _ => rfl) (fun _ => rfl)), mj_ce_i (S := m_row S da f) hda, e1]
    rfl
  have hw := mj_acw
  have hlo : ((st.map (mj_cv ad)).map fun v => v.category).sum + (nativeFrameWords "java/lang/System" "arraycopy" 5 + 11) ≤ (mj_room d K N).locals := by
    show _ ≤ 64 * d
    rw [List.map_map, show ((fun v : Value => v.category) ∘ mj_cv ad) = (fun v : Value => v.category) from funext fun v => mj_cvc ad v]
    omega
  have fin : ∀ (H1 : Heap) (locs1 : List Loc), va_P G.1 vwCl ((mj_ws G.2.1 ad S).set (da - 6) (ad da, .inl (G.2.1 0, m_ln S da, .inl f))) H1 → va_D A ((mj_ws G.2.1 ad S).set (da - 6) (ad da, .inl (G.2.1 0, m_ln S da, .inl f))) → va_S A s.heap H1 locs1 → W p l e (mj_room d K N) s m args below meth c H1 locs1 k n (Q below args s A ad0 sh0) (F0 m (pc + 3) rls (st.map (mj_cv ad))) := by
    intro H1 locs1 q1 q2 q3
    rw [← hset] at q1 q2
    exact kk p e s m args below meth c H1 locs1 A ad ad0 sh0 rls ((X.stk (mj_okt (mj_okt (mj_okt (mj_okt (mj_okt X.hst)))))).mem rfl q1 q2 q3 (X.hw.row h6 hlen))
  subst hf
  rcases hs with hs | hs
  · obtain ⟨g6, glen⟩ := X.hw.arr hs (by omega)
    have hb := mj_at (dA := G.2.1) (ad := ad) g6 glen
    rw [mj_ce_i hs] at hb
    exact va_copyi X.hx X.hb (X.hml.trans X.hsz.symm) X.hown (X.hts _ hl) (X.hts _ mj_ac1) (X.hts _ mj_ac2) (X.hts _ mj_ac3) X.hK X.hP X.hD X.hS (sa - 6) (da - 6) 0 0 hb ha (ty := .int) rfl rfl rfl h1 h2 h3 h4 h5 (fun _ _ => rfl) hdd hlo hd fin
  · exact mj_copyT X.hx X.hb (X.hml.trans X.hsz.symm) X.hown (X.hts _ hl) (X.hts _ mj_ac1) (X.hts _ mj_ac2) (X.hts _ mj_ac3) X.hK X.hP X.hD X.hS (X.tabT hs) (da - 6) 0 ha rfl h1 h2 h3 h4 h5 hdd hlo hd fin
end MJ11
end
section
/-! answers of 64 bits -/
def mj_ql (Q : mj_S → Int64 → Prop) : mj_S → Option Value → Prop := fun S v => ∃ r, v = some (.long r) ∧ Q S r
section MJ12
variable {l : Launch} {G : mj_G} {R : Room} {own : String} {cc : ByteArray} {nL : Nat} {rt : Option FieldType} {ini : Bool} {pc : Nat} {ls : List (Option Value)} {st : List Value} {S : mj_S} {k n : Nat} {Q : mj_Z} {Ql : mj_S → Int64 → Prop}
variable {index d2 mc ms nL2 np d K N : Nat} {y : MethodName} {b : ByteArray} {rt2 : Option FieldType} {as : List Value}
theorem mj_retl {x : Int64} (hd : decode cc pc = .ok (.lreturn, 1)) (hr : rt = some .long) (hk : k ≤ R.cells ∧ n ≤ R.slots) (hQ : Ql S x) : mj_V l G R own cc nL rt ini pc ls [.long x] S k n (mj_std G rt R (mj_ql Ql)) := by
  intro p e s m args below meth c H locs A ad ad0 sh0 rls X
  exact W.widen hk.1 hk.2 (W.lret X.hx X.hb (X.2.1.2.1.trans hr) (X.qc (v := some (.long x)) ⟨x, rfl, hQ⟩ (fun y h => by cases h; exact trivial) (by rw [hr]; rfl) _) (fun q hq => X.hS.2.2 q hq) hd X.2.1.1)
theorem mj_callSl (hd : decode cc pc = .ok (.invokestatic index, 3)) (hc : mj_cal y b nL2 rt2 np) (hl : Cond.methodLink own index y ∈ mj_T) (hs : Cond.static y ∈ mj_T) (hM : mj_M l G y b nL2 rt2 d2 mc ms as S (mj_ql Ql)) (hnp : as.length = np) (hst : (st.map fun v => v.category).sum ≤ 8) (hdd : d2 + 1 ≤ d) (hck : k + mc ≤ K ∧ n + ms ≤ N)
    (kk : ∀ (S' : mj_S) (r : Int64), Ql S' r → True → S.1 <+: S'.1 → mj_V l G (mj_room d K N) own cc nL rt ini (pc + 3) ls (.long r :: st) S' (k + mc) (n + ms) Q) : mj_V l G (mj_room d K N) own cc nL rt ini pc ls (as.reverse ++ st) S k n Q := by
  refine mj_callS hd hc hl hs hM hnp hst hdd hck ?_
  rintro S' v ⟨r, rfl, h⟩ h2 h3
  exact kk S' r h trivial h3
end MJ12
/-! members of the JDK that the machine has no entry for -/
theorem mj_enterF {l : Launch} {G : mj_G} {y : MethodName} {b : ByteArray} {nL r : Nat} {rt : Option FieldType} {d mc ms : Nat} {as : List Value} {S : mj_S} {Q : mj_S → Option Value → Prop} {ini : Bool} {ls : List (Option Value)} (hy : plainFor y = true) (hini : ini = true → y.name = "<init>") (hlen : ∀ ad, (lg_sl (as.map (mj_cv ad))).length ≤ nL) (hls : ls = mj_ent as ++ List.replicate r none)
    (kk : mj_V l G (mj_room d mc ms) y.cls b nL rt ini 0 ls [] S 0 0 (mj_std G rt (mj_room d mc ms) Q)) : mj_M l G y b nL rt d mc ms as S Q := by
  intro hok ad sz
  refine va_MetF (cc := b) (maxL := nL) (ret := rt) hy rfl ?_
  intro p e s m args below meth c s₁ B hml hv
  obtain ⟨rfl, hsz, hw0, hro⟩ := hv
  subst hsz
  have hts := atoms_spec (ws := Cond.code y b nL rt :: mj_T) B.pre
  have hown : s.vm.findClass y.cls = some m.cls := findClass_of_methodNamed B.named
  have hnm : meth.name = y.name := (name_of_methodNamed B.named B.method).1
  have hl := lv_entry (as.map (mj_cv ad)) (hlen ad)
  rw [lg_entry_eq]
  generalize (lg_sl (as.map (mj_cv ad)) ++ List.replicate (nL - (lg_sl (as.map (mj_cv ad))).length) Slot.unset).toArray = rls at hl ⊢
  have hin : ∀ (i : Nat) (v : Value), ls[i]? = some (some v) → (i, v) ∈ lv_args 0 as := by
    intro i v h
    rw [hls] at h
    have h2 : (mj_ent as)[i]? = some (some v) := by
      rcases Nat.lt_or_ge i (mj_ent as).length with q | q
      · rw [List.getElem?_append_left q] at h; exact h
      · rw [List.getElem?_append_right q] at h
        rcases Nat.lt_or_ge (i - (mj_ent as).length) r with q2 | q2
        · rw [List.getElem?_replicate, if_pos q2] at h; cases h
        · rw [List.getElem?_replicate, if_neg (by omega)] at h; cases h
    have := mj_ent_in as 0 i v h2
    rwa [Nat.zero_add] at this
  have hmem : ∀ (as : List Value) (i0 : Nat) (q : Nat × Value), q ∈ lv_args i0 as → q.2 ∈ as := by
    intro as
    induction as with
    | nil => intro i0 q h; cases h
    | cons w ws ih =>
      intro i0 q h
      unfold lv_args at h
      rcases List.mem_cons.mp h with e | e
      · rw [e]; exact List.mem_cons_self
      · exact List.mem_cons_of_mem _ (ih _ q e)
  refine kk p e s m _ below meth c s.heap [] (va_A (mj_ws G.2.1 ad S) s.heap.size) ad ad S.1 rls ⟨⟨B.exec, B.bytes, hml, hown, fun w hw => hts w (List.mem_cons_of_mem _ hw)⟩, ⟨B.notSynchronized, B.returns, fun h => hnm.trans (hini h)⟩, hw0, ⟨va_S.rf, fun q h => Or.inr h, hro⟩, ⟨List.prefix_rfl, hw0.2.2.2.1.1, fun _ _ => rfl⟩, fun v hv => (by cases hv), fun i v h => hok v (hmem as 0 _ (hin i v h)), hl.1, hl.2.1, fun i v h => ?_⟩
  refine hl.2.2 (i, mj_cv ad v) ?_
  rw [mj_args_map]
  exact List.mem_map.mpr ⟨(i, v), hin i v h, rfl⟩
end
section
/-! making: objects, arrays, constructors -/
def mj_adn (ad : Nat → Nat) (n q : Nat) : Nat → Nat := fun i => if i = n then q else ad i
theorem mj_adn_lt {ad : Nat → Nat} {n q i : Nat} (h : i < n) : mj_adn ad n q i = ad i := if_neg (by omega)
theorem mj_adn_eq {ad : Nat → Nat} {n q : Nat} : mj_adn ad n q n = q := if_pos rfl
theorem m_kd_nw {S : mj_S} {k n i : Nat} (h : i < S.1.length) : m_kd (m_nw S k n) i = m_kd S i := by
  show ((S.1 ++ [(k, n)]).getD i (999, 0)).1 = _
  rw [List.getD_eq_getElem?_getD, List.getElem?_append_left h, ← List.getD_eq_getElem?_getD]
  rfl
theorem m_ln_nw {S : mj_S} {k n i : Nat} (h : i < S.1.length) : m_ln (m_nw S k n) i = m_ln S i := by
  show ((S.1 ++ [(k, n)]).getD i (999, 0)).2 = _
  rw [List.getD_eq_getElem?_getD, List.getElem?_append_left h, ← List.getD_eq_getElem?_getD]
  rfl
theorem m_kd_nwl {S : mj_S} {k n : Nat} : m_kd (m_nw S k n) S.1.length = k := by
  show ((S.1 ++ [(k, n)]).getD S.1.length (999, 0)).1 = _
  rw [List.getD_eq_getElem?_getD, List.getElem?_append_right (Nat.le_refl _)]
  simp
theorem m_ln_nwl {S : mj_S} {k n : Nat} : m_ln (m_nw S k n) S.1.length = n := by
  show ((S.1 ++ [(k, n)]).getD S.1.length (999, 0)).2 = _
  rw [List.getD_eq_getElem?_getD, List.getElem?_append_right (Nat.le_refl _)]
  simp
theorem mj_ce_nw {L : Nat} {xs : Nat → Int32} {dA : Nat → ClassId} {ad : Nat → Nat} {S : mj_S} {k n q i : Nat} (hw : mj_wf L xs S) (h : i < S.1.length) : mj_ce dA (mj_adn ad S.1.length q) (m_nw S k n) i = mj_ce dA ad S i := by
  have hp : ∀ j, (m_gp (m_nw S k n) i j).map (mj_adn ad S.1.length q) = (m_gp S i j).map ad := by
    intro j
    show (m_gp S i j).map _ = _
    cases e : m_gp S i j with
    | none => rfl
    | some b => show some _ = some _; rw [mj_adn_lt (hw.2.2.2.1 i j b e)]
  have e3 : mj_fv (mj_adn ad S.1.length q) (m_nw S k n) i = mj_fv ad S i := by
    funext j
    unfold mj_fv
    rw [m_kd_nw h, hp j]
    rfl
  unfold mj_ce
  rw [m_kd_nw h, m_ln_nw h, e3]
  simp only [hp]
  rfl
theorem mj_ws_nw {L : Nat} {xs : Nat → Int32} {dA : Nat → ClassId} {ad : Nat → Nat} {S : mj_S} {k n q : Nat} (hw : mj_wf L xs S) : mj_ws dA (mj_adn ad S.1.length q) (m_nw S k n) = mj_ws dA ad S ++ [(q, mj_ce dA (mj_adn ad S.1.length q) (m_nw S k n) S.1.length)] := by
  have h6 := hw.1
  unfold mj_ws
  have e : (m_nw S k n).1.length - 6 = (S.1.length - 6) + 1 := by
    show (S.1 ++ [(k, n)]).length - 6 = _
    simp
    omega
  rw [e, List.range_succ, List.map_append]
  congr 1
  · apply List.map_congr_left
    intro i hi
    have hi' := List.mem_range.mp hi
    rw [mj_adn_lt (by omega), mj_ce_nw hw (by omega)]
  · simp only [List.map_cons, List.map_nil]
    rw [show S.1.length - 6 + 6 = S.1.length by omega, mj_adn_eq]
theorem mj_wf.nw {L : Nat} {xs : Nat → Int32} {S : mj_S} {k n : Nat} (hw : mj_wf L xs S) (h : (k < 11 ∧ n = mj_nf k) ∨ (100 ≤ k ∧ k ≤ 103)) : mj_wf L xs (m_nw S k n) := by
  obtain ⟨h1, h2, h3, h4, h5, h6, h7⟩ := hw
  have hl : (m_nw S k n).1.length = S.1.length + 1 := by show (S.1 ++ [(k, n)]).length = _; simp
  have big : ∀ i, S.1.length < i → m_kd (m_nw S k n) i = 999 := by
    intro i hi
    show ((S.1 ++ [(k, n)]).getD i (999, 0)).1 = _
    rw [List.getD_eq_getElem?_getD, List.getElem?_eq_none (by simp; omega)]
    rfl
  refine ⟨by rw [hl]; omega, fun i hi => ⟨?_, (h2 i hi).2⟩, fun i hi hi2 => ?_, fun i j b hb => ?_, fun i j b q1 q2 hb => ?_, fun i j b q1 hb => ?_, fun i j hi => h7 i j (by rw [hl] at hi; omega)⟩
  · show (S.1 ++ [(k, n)])[i]? = _
    rw [List.getElem?_append_left (by omega)]
    exact (h2 i hi).1
  · rw [hl] at hi2
    rcases Nat.lt_or_ge i S.1.length with q | q
    · rw [m_kd_nw q, m_ln_nw q]; exact h3 i hi q
    · have : i = S.1.length := by omega
      subst this
      rw [m_kd_nwl, m_ln_nwl]; exact h
  · rw [hl]; exact Nat.lt_succ_of_lt (h4 i j b hb)
  · have hb' : m_gp S i j = some b := hb
    have hlb := h4 i j b hb'
    rcases Nat.lt_or_ge i S.1.length with q | q
    · rw [m_kd_nw q] at q1 q2 ⊢
      rw [m_kd_nw hlb]
      exact h5 i j b q1 q2 hb'
    · rw [(h7 i j q).2.2] at hb'; cases hb'
  · have hb' : m_gp S i j = some b := hb
    have hlb := h4 i j b hb'
    rcases Nat.lt_or_ge i S.1.length with q | q
    · rw [m_kd_nw q] at q1
      rw [m_kd_nw hlb]
      exact h6 i j b q1 hb'
    · rw [(h7 i j q).2.2] at hb'; cases hb'
section MJ13
variable {l : Launch} {G : mj_G} {R : Room} {own : String} {cc : ByteArray} {nL : Nat} {rt : Option FieldType} {ini : Bool} {pc : Nat} {ls : List (Option Value)} {st : List Value} {S : mj_S} {k n : Nat} {Q : mj_Z} {Qw : mj_S → Prop}
variable {p : Program} {e : Env} {below : List Frame} {s : State} {m : MethodId} {args : Array Value} {meth : Method} {c : Code} {H H1 : Heap} {locs locs1 : List Loc} {A : Nat → Prop} {ad ad0 : Nat → Nat} {sh0 : List (Nat × Nat)} {rls : Array Slot}
theorem mj_X.made {q kd sz : Nat} {E : va_E} {st1 : List Value} (X : mj_X G own cc nL rt ini ls st1 S p s m args meth c H locs A ad ad0 sh0 rls) (hst : ∀ v ∈ st, mj_ok S v) (hP : va_P G.1 vwCl (mj_ws G.2.1 ad S ++ [(q, E)]) H1) (hD : va_D A (mj_ws G.2.1 ad S ++ [(q, E)])) (hS : va_S A s.heap H1 locs) (he : mj_ce G.2.1 (mj_adn ad S.1.length q) (m_nw S kd sz) S.1.length = E) (hk : (kd < 11 ∧ sz = mj_nf kd) ∨ (100 ≤ kd ∧ kd ≤ 103)) : mj_X G own cc nL rt ini ls (.ref S.1.length :: st) (m_nw S kd sz) p s m args meth c H1 locs A (mj_adn ad S.1.length q) ad0 sh0 rls ∧ (.ref S.1.length :: st : List Value).map (mj_cv (mj_adn ad S.1.length q)) = .ref q :: st.map (mj_cv ad) := by
  have hag : ∀ i, i < S.1.length → mj_adn ad S.1.length q i = ad i := fun i hi => mj_adn_lt hi
  have hle : S.1.length ≤ (m_nw S kd sz).1.length := by show _ ≤ (S.1 ++ [(kd, sz)]).length; simp
  have hlt : S.1.length < (m_nw S kd sz).1.length := by show _ < (S.1 ++ [(kd, sz)]).length; simp
  have hws : mj_ws G.2.1 (mj_adn ad S.1.length q) (m_nw S kd sz) = mj_ws G.2.1 ad S ++ [(q, E)] := by rw [mj_ws_nw X.hw, he]
  refine ⟨⟨X.1, X.2.1, ⟨by rw [hws]; exact hP, by rw [hws]; exact hD, X.hK, X.hw.nw hk, X.hN⟩, ⟨hS, X.hA, X.hro.ad (fun i hi => hag i (Nat.lt_of_lt_of_le hi X.hw.1))⟩, ⟨X.2.2.2.2.1.1.trans (List.prefix_append S.1 [(kd, sz)]), X.2.2.2.2.1.2.1, fun i hi => (hag i (Nat.lt_of_lt_of_le hi X.2.2.2.2.1.1.length_le)).trans (X.2.2.2.2.1.2.2 i hi)⟩, mj_okc hlt (fun v hv => mj_ok_le hle (hst v hv)), fun i w h => mj_ok_le hle (X.hls i w h), X.hsz, X.hlw, fun i w h => ?_⟩, ?_⟩
  · rw [mj_cv_ag hag (X.hls i w h)]
    exact X.hlv i w h
  · show Value.ref _ :: _ = _
    rw [mj_adn_eq, List.map_congr_left (fun w hw => mj_cv_ag hag (hst w hw))]
/-- what the tables say of a class that is made here -/
def mj_cn (own : String) (index ci : Nat) : Prop := ∃ (C : String) (T : u_T) (N : Nat) (ty0 : Nat → FieldType), vwCl[ci]? = some (C, T, N) ∧ (∀ w ∈ u_ws C T N, w ∈ mj_T) ∧ (∀ j, j < N → parseFieldDescriptor (T j).2.2.1 = some (ty0 j)) ∧ N = mj_nf ci ∧ ci < 11 ∧ Cond.classLink own index C ∈ mj_T ∧ Cond.instantiable C N ∈ mj_T ∧ Cond.initialized C ∈ mj_T ∧ ∀ j, j < N → defaultValue (ty0 j) = (if mj_ft ci j = 0 then .int 0 else if mj_ft ci j = 1 then .long 0 else .null)
theorem mj_new {index ci : Nat} (hd : decode cc pc = .ok (.new index, 3)) (hc : mj_cn own index ci) (hcells : k + 1 ≤ R.cells) (hslots : n + mj_nf ci ≤ R.slots) (kk : mj_V l G R own cc nL rt ini (pc + 3) ls (.ref S.1.length :: st) (m_nw S ci (mj_nf ci)) (k + 1) (n + mj_nf ci) Q) : mj_V l G R own cc nL rt ini pc ls st S k n Q := by
  intro p e s m args below meth c H locs A ad ad0 sh0 rls X
  obtain ⟨C, T, N, ty0, h1, h2, h3, h4, h5, h6, h7, h8, h9⟩ := hc
  subst h4
  refine va_new (ci := ci) (fs := (List.range (mj_nf ci)).map (fun j => if mj_ft ci j = 0 then .int 0 else if mj_ft ci j = 1 then .long 0 else .null)) X.hx X.hb X.hts h2 ty0 h3 X.hown (X.hts _ h6) (X.hts _ h7) (X.hts _ h8) X.hK X.hP X.hD X.hS X.hA h1 (fun j hj => ?_) hcells hslots hd (fun q H1 hP hD hS => ?_)
  · rw [h9 j hj]
    simp [vp_V, List.getD_eq_getElem?_getD, hj]
  · obtain ⟨X', hs⟩ := X.made (kd := ci) (sz := mj_nf ci) X.hst hP hD hS (by
      unfold mj_ce
      rw [m_kd_nwl, m_ln_nwl, if_pos (by omega)]
      congr 2
      apply List.map_congr_left
      intro j _
      unfold mj_fv
      rw [m_kd_nwl]
      have z := X.hw.2.2.2.2.2.2 S.1.length j (Nat.le_refl _)
      rw [show m_gi (m_nw S ci (mj_nf ci)) S.1.length j = 0 from z.1, show m_gl (m_nw S ci (mj_nf ci)) S.1.length j = 0 from z.2.1, show m_gp (m_nw S ci (mj_nf ci)) S.1.length j = none from z.2.2]
      rfl) (Or.inl ⟨h5, rfl⟩)
    have K := kk p e s m args below meth c H1 locs A _ ad0 sh0 rls X'
    rw [hs] at K
    exact K
theorem mj_newI {z : Int32} {N : Nat} (hd : decode cc pc = .ok (.newarray .int, 2)) (harr : Cond.arrayClass .int ∈ mj_T) (hz : ¬ z < 0) (hN : z.toNatClampNeg = N) (hb : N ≤ 100000) (hcells : k + 1 ≤ R.cells) (hslots : n + N ≤ R.slots) (kk : mj_V l G R own cc nL rt ini (pc + 2) ls (.ref S.1.length :: st) (m_nw S 100 N) (k + 1) (n + N) Q) : mj_V l G R own cc nL rt ini pc ls (.int z :: st) S k n Q := by
  intro p e s m args below meth c H locs A ad ad0 sh0 rls X
  refine va_newa (atype := .int) (a0 := (N, .inl (fun _ => 0))) X.hx X.hb (X.hts _ harr) rfl X.hK X.hP X.hD X.hS X.hA (fun _ => rfl) hz hN (by show N * 4 ≤ _; omega) hcells hslots hd (fun q cA H1 hK1 hP hD hS => ?_)
  have e1 : cA = G.2.1 0 := by
    have a1 : s.vm.findClass ("[" ++ FieldType.int.toString) = some cA := (hK1.2 4 _ rfl).2
    have a2 : s.vm.findClass ("[" ++ FieldType.int.toString) = some (G.2.1 0) := (X.hK.2 0 _ rfl).2
    exact Option.some.inj (a1.symm.trans a2)
  subst e1
  obtain ⟨X', hs⟩ := X.made (kd := 100) (sz := N) (mj_okt X.hst) hP hD hS (by
    rw [mj_ce_i m_kd_nwl, m_ln_nwl]
    have : m_gi (m_nw S 100 N) S.1.length = fun _ => 0 := funext fun j => (X.hw.2.2.2.2.2.2 S.1.length j (Nat.le_refl _)).1
    rw [this]) (Or.inr ⟨by omega, by omega⟩)
  have K := kk p e s m args below meth c H1 locs A _ ad0 sh0 rls X'
  rw [hs] at K
  exact K
theorem mj_newZ {z : Int32} {N : Nat} (hd : decode cc pc = .ok (.newarray .boolean, 2)) (harr : Cond.arrayClass .boolean ∈ mj_T) (hz : ¬ z < 0) (hN : z.toNatClampNeg = N) (hb : N ≤ 100000) (hcells : k + 1 ≤ R.cells) (hslots : n + N ≤ R.slots) (kk : mj_V l G R own cc nL rt ini (pc + 2) ls (.ref S.1.length :: st) (m_nw S 101 N) (k + 1) (n + N) Q) : mj_V l G R own cc nL rt ini pc ls (.int z :: st) S k n Q := by
  intro p e s m args below meth c H locs A ad ad0 sh0 rls X
  refine va_newa (atype := .boolean) (a0 := (N, .inl (fun _ => 0))) X.hx X.hb (X.hts _ harr) rfl X.hK X.hP X.hD X.hS X.hA (fun _ => rfl) hz hN (by show N * 1 ≤ _; omega) hcells hslots hd (fun q cA H1 hK1 hP hD hS => ?_)
  have e1 : cA = G.2.1 1 := by
    have a1 : s.vm.findClass ("[" ++ FieldType.boolean.toString) = some cA := (hK1.2 4 _ rfl).2
    have a2 : s.vm.findClass ("[" ++ FieldType.boolean.toString) = some (G.2.1 1) := (X.hK.2 1 _ rfl).2
    exact Option.some.inj (a1.symm.trans a2)
  subst e1
  obtain ⟨X', hs⟩ := X.made (kd := 101) (sz := N) (mj_okt X.hst) hP hD hS (by
    rw [mj_ce_z m_kd_nwl, m_ln_nwl]
    have : m_gi (m_nw S 101 N) S.1.length = fun _ => 0 := funext fun j => (X.hw.2.2.2.2.2.2 S.1.length j (Nat.le_refl _)).1
    rw [this]) (Or.inr ⟨by omega, by omega⟩)
  have K := kk p e s m args below meth c H1 locs A _ ad0 sh0 rls X'
  rw [hs] at K
  exact K
theorem mj_newL {z : Int32} {N : Nat} (hd : decode cc pc = .ok (.newarray .long, 2)) (harr : Cond.arrayClass .long ∈ mj_T) (hz : ¬ z < 0) (hN : z.toNatClampNeg = N) (hb : N ≤ 100000) (hcells : k + 1 ≤ R.cells) (hslots : n + N ≤ R.slots) (kk : mj_V l G R own cc nL rt ini (pc + 2) ls (.ref S.1.length :: st) (m_nw S 102 N) (k + 1) (n + N) Q) : mj_V l G R own cc nL rt ini pc ls (.int z :: st) S k n Q := by
  intro p e s m args below meth c H locs A ad ad0 sh0 rls X
  refine va_newa (atype := .long) (a0 := (N, .inr (.inl (fun _ => 0)))) X.hx X.hb (X.hts _ harr) rfl X.hK X.hP X.hD X.hS X.hA (fun _ => rfl) hz hN (by show N * 8 ≤ _; omega) hcells hslots hd (fun q cA H1 hK1 hP hD hS => ?_)
  have e1 : cA = G.2.1 2 := by
    have a1 : s.vm.findClass ("[" ++ FieldType.long.toString) = some cA := (hK1.2 4 _ rfl).2
    have a2 : s.vm.findClass ("[" ++ FieldType.long.toString) = some (G.2.1 2) := (X.hK.2 2 _ rfl).2
    exact Option.some.inj (a1.symm.trans a2)
  subst e1
  obtain ⟨X', hs⟩ := X.made (kd := 102) (sz := N) (mj_okt X.hst) hP hD hS (by
    rw [mj_ce_l m_kd_nwl, m_ln_nwl]
    have : m_gl (m_nw S 102 N) S.1.length = fun _ => 0 := funext fun j => (X.hw.2.2.2.2.2.2 S.1.length j (Nat.le_refl _)).2.1
    rw [this]) (Or.inr ⟨by omega, by omega⟩)
  have K := kk p e s m args below meth c H1 locs A _ ad0 sh0 rls X'
  rw [hs] at K
  exact K
/-- Object's constructor -/
theorem mj_objInit {index a d K N : Nat} (hd : decode cc pc = .ok (.invokespecial index, 3)) (hl : Cond.methodLink own index Lib.objectInit ∈ mj_T) (hi : Cond.instanceMethod Lib.objectInit ∈ mj_T) (hc : Cond.code Lib.objectInit ⟨#[0xb1]⟩ 1 none ∈ mj_T) (hdd : 1 ≤ d) (hst : (st.map fun v => v.category).sum ≤ 8) (kk : mj_V l G (mj_room d K N) own cc nL rt ini (pc + 3) ls st S k n Q) : mj_V l G (mj_room d K N) own cc nL rt ini pc ls (.ref a :: st) S k n Q := by
  intro p e s m args below meth c H locs A ad ad0 sh0 rls X
  refine W.objInit X.hx X.hb X.hown (X.hts _ hl) (X.hts _ hi) (X.hts _ hc) (a := ad a) (rest := st.map (mj_cv ad)) rfl (X.hsz.trans X.hml.symm) rfl hd hdd ?_ (kk p e s m args below meth c H locs A ad ad0 sh0 rls (X.stk (mj_okt X.hst)))
  show 2 * 0 + _ + 12 ≤ 64 * d
  rw [List.map_map, show ((fun v : Value => v.category) ∘ mj_cv ad) = (fun v : Value => v.category) from funext fun v => mj_cvc ad v]
  omega
/-- a constructor of a class that its own tables link -/
theorem mj_callI {index d2 mc ms nL2 d K N a : Nat} {y : MethodName} {b : ByteArray} (hd : decode cc pc = .ok (.invokespecial index, 3)) (hc : mj_cal y b nL2 none 0) (hl : Cond.methodLink own index y ∈ mj_T) (hi : Cond.instanceMethod y ∈ mj_T) (hy : y.name = "<init>") (hM : mj_M l G y b nL2 none d2 mc ms [.ref a] S (mj_qv Qw)) (hst : (st.map fun v => v.category).sum ≤ 8) (hdd : d2 + 1 ≤ d) (hck : k + mc ≤ K ∧ n + ms ≤ N)
    (kk : ∀ (S' : mj_S), Qw S' → S.1 <+: S'.1 → mj_V l G (mj_room d K N) own cc nL rt ini (pc + 3) ls st S' (k + mc) (n + ms) Q) : mj_V l G (mj_room d K N) own cc nL rt ini pc ls (.ref a :: st) S k n Q := by
  intro p e s m args below meth c H locs A ad ad0 sh0 rls X
  refine mj_goon (a := (([.ref a] : List Value).map (mj_cv ad)).toArray) X (fun v hv => X.hst v (List.mem_cons_of_mem _ hv)) (va_runI (As := []) (rest := st.map (mj_cv ad)) (b := ad a) (mj_fix X) (hM (fun v hv => by rw [List.mem_singleton.mp hv]; exact mj_okh X.hst) ad H.size) (cwI 0 X.hts (mj_good hc.1) rfl rfl rfl (X.hts _ hc.2.1) (X.hts _ hl) (X.hts _ hi) hy hc.2.2.1 (mj_rmo hdd hc.2.2.2)) ⟨mj_blind, X.pre [.ref a]⟩ rfl rfl X.hsz rfl ?_ hd ⟨hck.1, hck.2⟩) (mj_kv kk)
  show 2 * 0 + _ ≤ 8
  rw [List.map_map, show ((fun v : Value => v.category) ∘ mj_cv ad) = (fun v : Value => v.category) from funext fun v => mj_cvc ad v]
  omega
/-- a private constructor of a nest mate -/
theorem mj_callIN {index d2 mc ms nL2 d K N a : Nat} {y : MethodName} {b : ByteArray} {host : String} (hd : decode cc pc = .ok (.invokespecial index, 3)) (hc : mj_cal y b nL2 none 0) (hl : Cond.methodLinkNest own index y host ∈ mj_N) (hi : Cond.instanceMethod y ∈ mj_T) (hy : y.name = "<init>") (hM : mj_M l G y b nL2 none d2 mc ms [.ref a] S (mj_qv Qw)) (hst : (st.map fun v => v.category).sum ≤ 8) (hdd : d2 + 1 ≤ d) (hck : k + mc ≤ K ∧ n + ms ≤ N)
    (kk : ∀ (S' : mj_S), Qw S' → S.1 <+: S'.1 → mj_V l G (mj_room d K N) own cc nL rt ini (pc + 3) ls st S' (k + mc) (n + ms) Q) : mj_V l G (mj_room d K N) own cc nL rt ini pc ls (.ref a :: st) S k n Q := by
  intro p e s m args below meth c H locs A ad ad0 sh0 rls X
  refine mj_goon (a := (([.ref a] : List Value).map (mj_cv ad)).toArray) X (fun v hv => X.hst v (List.mem_cons_of_mem _ hv)) (va_runIN (As := []) (rest := st.map (mj_cv ad)) (b := ad a) (mj_fix X) (hM (fun v hv => by rw [List.mem_singleton.mp hv]; exact mj_okh X.hst) ad H.size) ⟨va_cnB 0 X.hts (mj_good hc.1) rfl rfl rfl (X.hN _ hl) (X.hts _ hc.2.1) hc.2.2.1 (mj_rmo hdd hc.2.2.2), hy, X.hts _ hi⟩ ⟨mj_blind, X.pre [.ref a]⟩ rfl rfl X.hsz rfl ?_ hd ⟨hck.1, hck.2⟩) (mj_kv kk)
  show 2 * 0 + _ ≤ 8
  rw [List.map_map, show ((fun v : Value => v.category) ∘ mj_cv ad) = (fun v : Value => v.category) from funext fun v => mj_cvc ad v]
  omega
end MJ13
end
