section
-- ===== PART A: goes FIRST, ahead of the names: the tables' words, and 'selects' of the private methods out of them =====
/-- a private method of a class that the tables say can be made, by its rows of tables_1 -/
def lw_okq (q : MethodName × Nat) : Prop := (q.1.cls ≠ "java/lang/invoke/MethodHandle" ∧ q.1.cls ≠ "java/lang/invoke/VarHandle") ∧ Cond.instantiable q.1.cls q.2 ∈ tables_1 ∧ Cond.privateMethod q.1 ∈ tables_1 ∧ Cond.instanceMethod q.1 ∈ tables_1
theorem lw_p0 : lw_okq (⟨"FlowBoxes$Node", "assignRole", "()V"⟩, 20) := ⟨⟨by decide +kernel, by decide +kernel⟩, List.mem_of_getElem? (i := 31) (by decide +kernel), List.mem_of_getElem? (i := 324) (by decide +kernel), List.mem_of_getElem? (i := 325) (by decide +kernel)⟩
theorem lw_p1 : lw_okq (⟨"FlowBoxes$Node", "findKind", "()LFlowBoxes$Kind;"⟩, 20) := ⟨⟨by decide +kernel, by decide +kernel⟩, List.mem_of_getElem? (i := 31) (by decide +kernel), List.mem_of_getElem? (i := 328) (by decide +kernel), List.mem_of_getElem? (i := 329) (by decide +kernel)⟩
theorem lw_p2 : lw_okq (⟨"FlowBoxes$Node", "isText", "()Z"⟩, 20) := ⟨⟨by decide +kernel, by decide +kernel⟩, List.mem_of_getElem? (i := 31) (by decide +kernel), List.mem_of_getElem? (i := 334) (by decide +kernel), List.mem_of_getElem? (i := 335) (by decide +kernel)⟩
theorem lw_p3 : lw_okq (⟨"FlowBoxes$Node", "countsFor", "(I)Z"⟩, 20) := ⟨⟨by decide +kernel, by decide +kernel⟩, List.mem_of_getElem? (i := 31) (by decide +kernel), List.mem_of_getElem? (i := 350) (by decide +kernel), List.mem_of_getElem? (i := 351) (by decide +kernel)⟩
theorem lw_p4 : lw_okq (⟨"FlowBoxes$Node", "isInColumns", "()Z"⟩, 20) := ⟨⟨by decide +kernel, by decide +kernel⟩, List.mem_of_getElem? (i := 31) (by decide +kernel), List.mem_of_getElem? (i := 362) (by decide +kernel), List.mem_of_getElem? (i := 363) (by decide +kernel)⟩
theorem lw_p5 : lw_okq (⟨"FlowBoxes$Node", "countScrollsAround", "()I"⟩, 20) := ⟨⟨by decide +kernel, by decide +kernel⟩, List.mem_of_getElem? (i := 31) (by decide +kernel), List.mem_of_getElem? (i := 366) (by decide +kernel), List.mem_of_getElem? (i := 367) (by decide +kernel)⟩
theorem lw_p6 : lw_okq (⟨"FlowBoxes$Layout", "layAll", "(LFlowBoxes$Node;II)I"⟩, 6) := ⟨⟨by decide +kernel, by decide +kernel⟩, List.mem_of_getElem? (i := 374) (by decide +kernel), List.mem_of_getElem? (i := 495) (by decide +kernel), List.mem_of_getElem? (i := 496) (by decide +kernel)⟩
theorem lw_p7 : lw_okq (⟨"FlowBoxes$Layout", "layOut", "(LFlowBoxes$Node;II)V"⟩, 6) := ⟨⟨by decide +kernel, by decide +kernel⟩, List.mem_of_getElem? (i := 374) (by decide +kernel), List.mem_of_getElem? (i := 499) (by decide +kernel), List.mem_of_getElem? (i := 500) (by decide +kernel)⟩
theorem lw_p8 : lw_okq (⟨"FlowBoxes$Layout", "placeOf", "(LFlowBoxes$Node;)LFlowBoxes$Place;"⟩, 6) := ⟨⟨by decide +kernel, by decide +kernel⟩, List.mem_of_getElem? (i := 374) (by decide +kernel), List.mem_of_getElem? (i := 503) (by decide +kernel), List.mem_of_getElem? (i := 504) (by decide +kernel)⟩
theorem lw_p9 : lw_okq (⟨"FlowBoxes$Layout", "layTable", "(LFlowBoxes$Node;LFlowBoxes$Place;)I"⟩, 6) := ⟨⟨by decide +kernel, by decide +kernel⟩, List.mem_of_getElem? (i := 374) (by decide +kernel), List.mem_of_getElem? (i := 507) (by decide +kernel), List.mem_of_getElem? (i := 508) (by decide +kernel)⟩
theorem lw_p10 : lw_okq (⟨"FlowBoxes$Layout", "placeEvenly", "(LFlowBoxes$Node;II)V"⟩, 6) := ⟨⟨by decide +kernel, by decide +kernel⟩, List.mem_of_getElem? (i := 374) (by decide +kernel), List.mem_of_getElem? (i := 519) (by decide +kernel), List.mem_of_getElem? (i := 520) (by decide +kernel)⟩
theorem lw_p11 : lw_okq (⟨"FlowBoxes$Layout", "placeColumn", "(LFlowBoxes$Node;III)V"⟩, 6) := ⟨⟨by decide +kernel, by decide +kernel⟩, List.mem_of_getElem? (i := 374) (by decide +kernel), List.mem_of_getElem? (i := 523) (by decide +kernel), List.mem_of_getElem? (i := 524) (by decide +kernel)⟩
theorem lw_p12 : lw_okq (⟨"FlowBoxes$Node", "flatEdges", "()I"⟩, 20) := ⟨⟨by decide +kernel, by decide +kernel⟩, List.mem_of_getElem? (i := 31) (by decide +kernel), List.mem_of_getElem? (i := 530) (by decide +kernel), List.mem_of_getElem? (i := 531) (by decide +kernel)⟩
theorem lw_p13 : lw_okq (⟨"FlowBoxes$Layout", "placeByContent", "(LFlowBoxes$Node;II)V"⟩, 6) := ⟨⟨by decide +kernel, by decide +kernel⟩, List.mem_of_getElem? (i := 374) (by decide +kernel), List.mem_of_getElem? (i := 534) (by decide +kernel), List.mem_of_getElem? (i := 535) (by decide +kernel)⟩
theorem lw_p14 : lw_okq (⟨"FlowBoxes$Node", "flatRim", "()I"⟩, 20) := ⟨⟨by decide +kernel, by decide +kernel⟩, List.mem_of_getElem? (i := 31) (by decide +kernel), List.mem_of_getElem? (i := 581) (by decide +kernel), List.mem_of_getElem? (i := 582) (by decide +kernel)⟩
theorem lw_p15 : lw_okq (⟨"FlowBoxes$Kind", "isInLines", "()Z"⟩, 3) := ⟨⟨by decide +kernel, by decide +kernel⟩, List.mem_of_getElem? (i := 590) (by decide +kernel), List.mem_of_getElem? (i := 588) (by decide +kernel), List.mem_of_getElem? (i := 589) (by decide +kernel)⟩
def lw_privs_1 : List (MethodName × Nat) := [(⟨"FlowBoxes$Node", "assignRole", "()V"⟩, 20), (⟨"FlowBoxes$Node", "findKind", "()LFlowBoxes$Kind;"⟩, 20), (⟨"FlowBoxes$Node", "isText", "()Z"⟩, 20), (⟨"FlowBoxes$Node", "countsFor", "(I)Z"⟩, 20), (⟨"FlowBoxes$Node", "isInColumns", "()Z"⟩, 20), (⟨"FlowBoxes$Node", "countScrollsAround", "()I"⟩, 20), (⟨"FlowBoxes$Layout", "layAll", "(LFlowBoxes$Node;II)I"⟩, 6), (⟨"FlowBoxes$Layout", "layOut", "(LFlowBoxes$Node;II)V"⟩, 6), (⟨"FlowBoxes$Layout", "placeOf", "(LFlowBoxes$Node;)LFlowBoxes$Place;"⟩, 6), (⟨"FlowBoxes$Layout", "layTable", "(LFlowBoxes$Node;LFlowBoxes$Place;)I"⟩, 6), (⟨"FlowBoxes$Layout", "placeEvenly", "(LFlowBoxes$Node;II)V"⟩, 6), (⟨"FlowBoxes$Layout", "placeColumn", "(LFlowBoxes$Node;III)V"⟩, 6), (⟨"FlowBoxes$Node", "flatEdges", "()I"⟩, 20), (⟨"FlowBoxes$Layout", "placeByContent", "(LFlowBoxes$Node;II)V"⟩, 6), (⟨"FlowBoxes$Node", "flatRim", "()I"⟩, 20), (⟨"FlowBoxes$Kind", "isInLines", "()Z"⟩, 3)]
theorem lw_r1 : ∀ q ∈ lw_privs_1, lw_okq q := List.forall_mem_cons.mpr ⟨lw_p0, List.forall_mem_cons.mpr ⟨lw_p1, List.forall_mem_cons.mpr ⟨lw_p2, List.forall_mem_cons.mpr ⟨lw_p3, List.forall_mem_cons.mpr ⟨lw_p4, List.forall_mem_cons.mpr ⟨lw_p5, List.forall_mem_cons.mpr ⟨lw_p6, List.forall_mem_cons.mpr ⟨lw_p7, List.forall_mem_cons.mpr ⟨lw_p8, List.forall_mem_cons.mpr ⟨lw_p9, List.forall_mem_cons.mpr ⟨lw_p10, List.forall_mem_cons.mpr ⟨lw_p11, List.forall_mem_cons.mpr ⟨lw_p12, List.forall_mem_cons.mpr ⟨lw_p13, List.forall_mem_cons.mpr ⟨lw_p14, List.forall_mem_cons.mpr ⟨lw_p15, fun _ h => absurd h List.not_mem_nil⟩⟩⟩⟩⟩⟩⟩⟩⟩⟩⟩⟩⟩⟩⟩⟩
theorem lw_p16 : lw_okq (⟨"FlowBoxes$Node", "mayStandInRun", "()Z"⟩, 20) := ⟨⟨by decide +kernel, by decide +kernel⟩, List.mem_of_getElem? (i := 31) (by decide +kernel), List.mem_of_getElem? (i := 599) (by decide +kernel), List.mem_of_getElem? (i := 600) (by decide +kernel)⟩
theorem lw_p17 : lw_okq (⟨"FlowBoxes$Layout", "layRow", "(LFlowBoxes$Node;I)I"⟩, 6) := ⟨⟨by decide +kernel, by decide +kernel⟩, List.mem_of_getElem? (i := 374) (by decide +kernel), List.mem_of_getElem? (i := 621) (by decide +kernel), List.mem_of_getElem? (i := 622) (by decide +kernel)⟩
theorem lw_p18 : lw_okq (⟨"FlowBoxes$Node", "uprightEdges", "()I"⟩, 20) := ⟨⟨by decide +kernel, by decide +kernel⟩, List.mem_of_getElem? (i := 31) (by decide +kernel), List.mem_of_getElem? (i := 629) (by decide +kernel), List.mem_of_getElem? (i := 630) (by decide +kernel)⟩
theorem lw_p19 : lw_okq (⟨"FlowBoxes$Layout", "layWithBars", "(LFlowBoxes$Node;LFlowBoxes$Place;)I"⟩, 6) := ⟨⟨by decide +kernel, by decide +kernel⟩, List.mem_of_getElem? (i := 374) (by decide +kernel), List.mem_of_getElem? (i := 633) (by decide +kernel), List.mem_of_getElem? (i := 634) (by decide +kernel)⟩
theorem lw_p20 : lw_okq (⟨"FlowBoxes$Layout", "flowContext", "(LFlowBoxes$Node;I)I"⟩, 6) := ⟨⟨by decide +kernel, by decide +kernel⟩, List.mem_of_getElem? (i := 374) (by decide +kernel), List.mem_of_getElem? (i := 637) (by decide +kernel), List.mem_of_getElem? (i := 638) (by decide +kernel)⟩
theorem lw_p21 : lw_okq (⟨"FlowBoxes$Layout", "flowOf", "(LFlowBoxes$Node;)LFlowBoxes$Flow;"⟩, 6) := ⟨⟨by decide +kernel, by decide +kernel⟩, List.mem_of_getElem? (i := 374) (by decide +kernel), List.mem_of_getElem? (i := 641) (by decide +kernel), List.mem_of_getElem? (i := 642) (by decide +kernel)⟩
theorem lw_p22 : lw_okq (⟨"FlowBoxes$Flow", "begin", "()V"⟩, 20) := ⟨⟨by decide +kernel, by decide +kernel⟩, List.mem_of_getElem? (i := 381) (by decide +kernel), List.mem_of_getElem? (i := 645) (by decide +kernel), List.mem_of_getElem? (i := 646) (by decide +kernel)⟩
theorem lw_p23 : lw_okq (⟨"FlowBoxes$Layout", "flowContainer", "(LFlowBoxes$Node;LFlowBoxes$Flow;II)V"⟩, 6) := ⟨⟨by decide +kernel, by decide +kernel⟩, List.mem_of_getElem? (i := 374) (by decide +kernel), List.mem_of_getElem? (i := 650) (by decide +kernel), List.mem_of_getElem? (i := 651) (by decide +kernel)⟩
theorem lw_p24 : lw_okq (⟨"FlowBoxes$Layout", "freeLines", "(LFlowBoxes$Place;)V"⟩, 6) := ⟨⟨by decide +kernel, by decide +kernel⟩, List.mem_of_getElem? (i := 374) (by decide +kernel), List.mem_of_getElem? (i := 654) (by decide +kernel), List.mem_of_getElem? (i := 655) (by decide +kernel)⟩
theorem lw_p25 : lw_okq (⟨"FlowBoxes$Layout", "flowLines", "(LFlowBoxes$Node;LFlowBoxes$Flow;LFlowBoxes$Node;LFlowBoxes$Node;)V"⟩, 6) := ⟨⟨by decide +kernel, by decide +kernel⟩, List.mem_of_getElem? (i := 374) (by decide +kernel), List.mem_of_getElem? (i := 665) (by decide +kernel), List.mem_of_getElem? (i := 666) (by decide +kernel)⟩
theorem lw_p26 : lw_okq (⟨"FlowBoxes$Flow", "endMargins", "()V"⟩, 20) := ⟨⟨by decide +kernel, by decide +kernel⟩, List.mem_of_getElem? (i := 381) (by decide +kernel), List.mem_of_getElem? (i := 669) (by decide +kernel), List.mem_of_getElem? (i := 670) (by decide +kernel)⟩
theorem lw_p27 : lw_okq (⟨"FlowBoxes$Flow", "pendingY", "()I"⟩, 20) := ⟨⟨by decide +kernel, by decide +kernel⟩, List.mem_of_getElem? (i := 381) (by decide +kernel), List.mem_of_getElem? (i := 673) (by decide +kernel), List.mem_of_getElem? (i := 674) (by decide +kernel)⟩
theorem lw_p28 : lw_okq (⟨"FlowBoxes$Flow", "dropMargins", "()V"⟩, 20) := ⟨⟨by decide +kernel, by decide +kernel⟩, List.mem_of_getElem? (i := 381) (by decide +kernel), List.mem_of_getElem? (i := 677) (by decide +kernel), List.mem_of_getElem? (i := 678) (by decide +kernel)⟩
theorem lw_p29 : lw_okq (⟨"FlowBoxes$Layout", "addWords", "(LFlowBoxes$Node;LFlowBoxes$Flow;LFlowBoxes$Node;)V"⟩, 6) := ⟨⟨by decide +kernel, by decide +kernel⟩, List.mem_of_getElem? (i := 374) (by decide +kernel), List.mem_of_getElem? (i := 683) (by decide +kernel), List.mem_of_getElem? (i := 684) (by decide +kernel)⟩
theorem lw_p30 : lw_okq (⟨"FlowBoxes$Place", "pieceAt", "(I)LFlowBoxes$Thing;"⟩, 20) := ⟨⟨by decide +kernel, by decide +kernel⟩, List.mem_of_getElem? (i := 40) (by decide +kernel), List.mem_of_getElem? (i := 692) (by decide +kernel), List.mem_of_getElem? (i := 693) (by decide +kernel)⟩
theorem lw_p31 : lw_okq (⟨"FlowBoxes$Layout", "addThing", "(LFlowBoxes$Node;LFlowBoxes$Flow;LFlowBoxes$Thing;LFlowBoxes$Thing;I)V"⟩, 6) := ⟨⟨by decide +kernel, by decide +kernel⟩, List.mem_of_getElem? (i := 374) (by decide +kernel), List.mem_of_getElem? (i := 696) (by decide +kernel), List.mem_of_getElem? (i := 697) (by decide +kernel)⟩
def lw_privs_2 : List (MethodName × Nat) := [(⟨"FlowBoxes$Node", "mayStandInRun", "()Z"⟩, 20), (⟨"FlowBoxes$Layout", "layRow", "(LFlowBoxes$Node;I)I"⟩, 6), (⟨"FlowBoxes$Node", "uprightEdges", "()I"⟩, 20), (⟨"FlowBoxes$Layout", "layWithBars", "(LFlowBoxes$Node;LFlowBoxes$Place;)I"⟩, 6), (⟨"FlowBoxes$Layout", "flowContext", "(LFlowBoxes$Node;I)I"⟩, 6), (⟨"FlowBoxes$Layout", "flowOf", "(LFlowBoxes$Node;)LFlowBoxes$Flow;"⟩, 6), (⟨"FlowBoxes$Flow", "begin", "()V"⟩, 20), (⟨"FlowBoxes$Layout", "flowContainer", "(LFlowBoxes$Node;LFlowBoxes$Flow;II)V"⟩, 6), (⟨"FlowBoxes$Layout", "freeLines", "(LFlowBoxes$Place;)V"⟩, 6), (⟨"FlowBoxes$Layout", "flowLines", "(LFlowBoxes$Node;LFlowBoxes$Flow;LFlowBoxes$Node;LFlowBoxes$Node;)V"⟩, 6), (⟨"FlowBoxes$Flow", "endMargins", "()V"⟩, 20), (⟨"FlowBoxes$Flow", "pendingY", "()I"⟩, 20), (⟨"FlowBoxes$Flow", "dropMargins", "()V"⟩, 20), (⟨"FlowBoxes$Layout", "addWords", "(LFlowBoxes$Node;LFlowBoxes$Flow;LFlowBoxes$Node;)V"⟩, 6), (⟨"FlowBoxes$Place", "pieceAt", "(I)LFlowBoxes$Thing;"⟩, 20), (⟨"FlowBoxes$Layout", "addThing", "(LFlowBoxes$Node;LFlowBoxes$Flow;LFlowBoxes$Thing;LFlowBoxes$Thing;I)V"⟩, 6)]
theorem lw_r2 : ∀ q ∈ lw_privs_2, lw_okq q := List.forall_mem_cons.mpr ⟨lw_p16, List.forall_mem_cons.mpr ⟨lw_p17, List.forall_mem_cons.mpr ⟨lw_p18, List.forall_mem_cons.mpr ⟨lw_p19, List.forall_mem_cons.mpr ⟨lw_p20, List.forall_mem_cons.mpr ⟨lw_p21, List.forall_mem_cons.mpr ⟨lw_p22, List.forall_mem_cons.mpr ⟨lw_p23, List.forall_mem_cons.mpr ⟨lw_p24, List.forall_mem_cons.mpr ⟨lw_p25, List.forall_mem_cons.mpr ⟨lw_p26, List.forall_mem_cons.mpr ⟨lw_p27, List.forall_mem_cons.mpr ⟨lw_p28, List.forall_mem_cons.mpr ⟨lw_p29, List.forall_mem_cons.mpr ⟨lw_p30, List.forall_mem_cons.mpr ⟨lw_p31, fun _ h => absurd h List.not_mem_nil⟩⟩⟩⟩⟩⟩⟩⟩⟩⟩⟩⟩⟩⟩⟩⟩
theorem lw_p32 : lw_okq (⟨"FlowBoxes$Flow", "look", "(II)V"⟩, 20) := ⟨⟨by decide +kernel, by decide +kernel⟩, List.mem_of_getElem? (i := 381) (by decide +kernel), List.mem_of_getElem? (i := 700) (by decide +kernel), List.mem_of_getElem? (i := 701) (by decide +kernel)⟩
theorem lw_p33 : lw_okq (⟨"FlowBoxes$Floated", "reachesInto", "(IIII)Z"⟩, 7) := ⟨⟨by decide +kernel, by decide +kernel⟩, List.mem_of_getElem? (i := 46) (by decide +kernel), List.mem_of_getElem? (i := 705) (by decide +kernel), List.mem_of_getElem? (i := 706) (by decide +kernel)⟩
theorem lw_p34 : lw_okq (⟨"FlowBoxes$Flow", "fits", "(I)Z"⟩, 20) := ⟨⟨by decide +kernel, by decide +kernel⟩, List.mem_of_getElem? (i := 381) (by decide +kernel), List.mem_of_getElem? (i := 710) (by decide +kernel), List.mem_of_getElem? (i := 711) (by decide +kernel)⟩
theorem lw_p35 : lw_okq (⟨"FlowBoxes$Flow", "nextOffset", "()I"⟩, 20) := ⟨⟨by decide +kernel, by decide +kernel⟩, List.mem_of_getElem? (i := 381) (by decide +kernel), List.mem_of_getElem? (i := 714) (by decide +kernel), List.mem_of_getElem? (i := 715) (by decide +kernel)⟩
theorem lw_p36 : lw_okq (⟨"FlowBoxes$Flow", "band", "()I"⟩, 20) := ⟨⟨by decide +kernel, by decide +kernel⟩, List.mem_of_getElem? (i := 381) (by decide +kernel), List.mem_of_getElem? (i := 718) (by decide +kernel), List.mem_of_getElem? (i := 719) (by decide +kernel)⟩
theorem lw_p37 : lw_okq (⟨"FlowBoxes$Layout", "putThing", "(LFlowBoxes$Node;LFlowBoxes$Flow;LFlowBoxes$Thing;)V"⟩, 6) := ⟨⟨by decide +kernel, by decide +kernel⟩, List.mem_of_getElem? (i := 374) (by decide +kernel), List.mem_of_getElem? (i := 722) (by decide +kernel), List.mem_of_getElem? (i := 723) (by decide +kernel)⟩
theorem lw_p38 : lw_okq (⟨"FlowBoxes$Layout", "addLine", "(LFlowBoxes$Place;)LFlowBoxes$Line;"⟩, 6) := ⟨⟨by decide +kernel, by decide +kernel⟩, List.mem_of_getElem? (i := 374) (by decide +kernel), List.mem_of_getElem? (i := 726) (by decide +kernel), List.mem_of_getElem? (i := 727) (by decide +kernel)⟩
theorem lw_p39 : lw_okq (⟨"FlowBoxes$Layout", "endLine", "(LFlowBoxes$Flow;)V"⟩, 6) := ⟨⟨by decide +kernel, by decide +kernel⟩, List.mem_of_getElem? (i := 374) (by decide +kernel), List.mem_of_getElem? (i := 766) (by decide +kernel), List.mem_of_getElem? (i := 767) (by decide +kernel)⟩
theorem lw_p40 : lw_okq (⟨"FlowBoxes$Flow", "reachTo", "(I)V"⟩, 20) := ⟨⟨by decide +kernel, by decide +kernel⟩, List.mem_of_getElem? (i := 381) (by decide +kernel), List.mem_of_getElem? (i := 770) (by decide +kernel), List.mem_of_getElem? (i := 771) (by decide +kernel)⟩
theorem lw_p41 : lw_okq (⟨"FlowBoxes$Layout", "putFloat", "(LFlowBoxes$Node;LFlowBoxes$Flow;I)V"⟩, 6) := ⟨⟨by decide +kernel, by decide +kernel⟩, List.mem_of_getElem? (i := 374) (by decide +kernel), List.mem_of_getElem? (i := 774) (by decide +kernel), List.mem_of_getElem? (i := 775) (by decide +kernel)⟩
theorem lw_p42 : lw_okq (⟨"FlowBoxes$Layout", "knownHeight", "(LFlowBoxes$Node;)I"⟩, 6) := ⟨⟨by decide +kernel, by decide +kernel⟩, List.mem_of_getElem? (i := 374) (by decide +kernel), List.mem_of_getElem? (i := 785) (by decide +kernel), List.mem_of_getElem? (i := 786) (by decide +kernel)⟩
theorem lw_p43 : lw_okq (⟨"FlowBoxes$Node", "uprightRim", "()I"⟩, 20) := ⟨⟨by decide +kernel, by decide +kernel⟩, List.mem_of_getElem? (i := 31) (by decide +kernel), List.mem_of_getElem? (i := 789) (by decide +kernel), List.mem_of_getElem? (i := 790) (by decide +kernel)⟩
theorem lw_p44 : lw_okq (⟨"FlowBoxes$Flow", "floatTop", "(I)I"⟩, 20) := ⟨⟨by decide +kernel, by decide +kernel⟩, List.mem_of_getElem? (i := 381) (by decide +kernel), List.mem_of_getElem? (i := 793) (by decide +kernel), List.mem_of_getElem? (i := 794) (by decide +kernel)⟩
theorem lw_p45 : lw_okq (⟨"FlowBoxes$Flow", "findHeight", "(III)I"⟩, 20) := ⟨⟨by decide +kernel, by decide +kernel⟩, List.mem_of_getElem? (i := 381) (by decide +kernel), List.mem_of_getElem? (i := 797) (by decide +kernel), List.mem_of_getElem? (i := 798) (by decide +kernel)⟩
theorem lw_p46 : lw_okq (⟨"FlowBoxes$Flow", "nextLow", "(I)I"⟩, 20) := ⟨⟨by decide +kernel, by decide +kernel⟩, List.mem_of_getElem? (i := 381) (by decide +kernel), List.mem_of_getElem? (i := 802) (by decide +kernel), List.mem_of_getElem? (i := 803) (by decide +kernel)⟩
theorem lw_p47 : lw_okq (⟨"FlowBoxes$Flow", "addFloat", "(LFlowBoxes$Floated;)V"⟩, 20) := ⟨⟨by decide +kernel, by decide +kernel⟩, List.mem_of_getElem? (i := 381) (by decide +kernel), List.mem_of_getElem? (i := 806) (by decide +kernel), List.mem_of_getElem? (i := 807) (by decide +kernel)⟩
def lw_privs_3 : List (MethodName × Nat) := [(⟨"FlowBoxes$Flow", "look", "(II)V"⟩, 20), (⟨"FlowBoxes$Floated", "reachesInto", "(IIII)Z"⟩, 7), (⟨"FlowBoxes$Flow", "fits", "(I)Z"⟩, 20), (⟨"FlowBoxes$Flow", "nextOffset", "()I"⟩, 20), (⟨"FlowBoxes$Flow", "band", "()I"⟩, 20), (⟨"FlowBoxes$Layout", "putThing", "(LFlowBoxes$Node;LFlowBoxes$Flow;LFlowBoxes$Thing;)V"⟩, 6), (⟨"FlowBoxes$Layout", "addLine", "(LFlowBoxes$Place;)LFlowBoxes$Line;"⟩, 6), (⟨"FlowBoxes$Layout", "endLine", "(LFlowBoxes$Flow;)V"⟩, 6), (⟨"FlowBoxes$Flow", "reachTo", "(I)V"⟩, 20), (⟨"FlowBoxes$Layout", "putFloat", "(LFlowBoxes$Node;LFlowBoxes$Flow;I)V"⟩, 6), (⟨"FlowBoxes$Layout", "knownHeight", "(LFlowBoxes$Node;)I"⟩, 6), (⟨"FlowBoxes$Node", "uprightRim", "()I"⟩, 20), (⟨"FlowBoxes$Flow", "floatTop", "(I)I"⟩, 20), (⟨"FlowBoxes$Flow", "findHeight", "(III)I"⟩, 20), (⟨"FlowBoxes$Flow", "nextLow", "(I)I"⟩, 20), (⟨"FlowBoxes$Flow", "addFloat", "(LFlowBoxes$Floated;)V"⟩, 20)]
theorem lw_r3 : ∀ q ∈ lw_privs_3, lw_okq q := List.forall_mem_cons.mpr ⟨lw_p32, List.forall_mem_cons.mpr ⟨lw_p33, List.forall_mem_cons.mpr ⟨lw_p34, List.forall_mem_cons.mpr ⟨lw_p35, List.forall_mem_cons.mpr ⟨lw_p36, List.forall_mem_cons.mpr ⟨lw_p37, List.forall_mem_cons.mpr ⟨lw_p38, List.forall_mem_cons.mpr ⟨lw_p39, List.forall_mem_cons.mpr ⟨lw_p40, List.forall_mem_cons.mpr ⟨lw_p41, List.forall_mem_cons.mpr ⟨lw_p42, List.forall_mem_cons.mpr ⟨lw_p43, List.forall_mem_cons.mpr ⟨lw_p44, List.forall_mem_cons.mpr ⟨lw_p45, List.forall_mem_cons.mpr ⟨lw_p46, List.forall_mem_cons.mpr ⟨lw_p47, fun _ h => absurd h List.not_mem_nil⟩⟩⟩⟩⟩⟩⟩⟩⟩⟩⟩⟩⟩⟩⟩⟩
theorem lw_p48 : lw_okq (⟨"FlowBoxes$Layout", "addInlineBlock", "(LFlowBoxes$Node;LFlowBoxes$Flow;LFlowBoxes$Node;)V"⟩, 6) := ⟨⟨by decide +kernel, by decide +kernel⟩, List.mem_of_getElem? (i := 374) (by decide +kernel), List.mem_of_getElem? (i := 812) (by decide +kernel), List.mem_of_getElem? (i := 813) (by decide +kernel)⟩
theorem lw_p49 : lw_okq (⟨"FlowBoxes$Layout", "meetFloat", "(LFlowBoxes$Flow;LFlowBoxes$Node;)V"⟩, 6) := ⟨⟨by decide +kernel, by decide +kernel⟩, List.mem_of_getElem? (i := 374) (by decide +kernel), List.mem_of_getElem? (i := 816) (by decide +kernel), List.mem_of_getElem? (i := 817) (by decide +kernel)⟩
theorem lw_p50 : lw_okq (⟨"FlowBoxes$Flow", "addLate", "(LFlowBoxes$Floated;LFlowBoxes$Node;)V"⟩, 20) := ⟨⟨by decide +kernel, by decide +kernel⟩, List.mem_of_getElem? (i := 381) (by decide +kernel), List.mem_of_getElem? (i := 821) (by decide +kernel), List.mem_of_getElem? (i := 822) (by decide +kernel)⟩
theorem lw_p51 : lw_okq (⟨"FlowBoxes$Layout", "meetAbsolute", "(LFlowBoxes$Flow;LFlowBoxes$Node;)V"⟩, 6) := ⟨⟨by decide +kernel, by decide +kernel⟩, List.mem_of_getElem? (i := 374) (by decide +kernel), List.mem_of_getElem? (i := 825) (by decide +kernel), List.mem_of_getElem? (i := 826) (by decide +kernel)⟩
theorem lw_p52 : lw_okq (⟨"FlowBoxes$Layout", "flowWithoutLines", "(LFlowBoxes$Flow;LFlowBoxes$Node;LFlowBoxes$Node;)V"⟩, 6) := ⟨⟨by decide +kernel, by decide +kernel⟩, List.mem_of_getElem? (i := 374) (by decide +kernel), List.mem_of_getElem? (i := 829) (by decide +kernel), List.mem_of_getElem? (i := 830) (by decide +kernel)⟩
theorem lw_p53 : lw_okq (⟨"FlowBoxes$Layout", "flowOutside", "(LFlowBoxes$Node;LFlowBoxes$Flow;)V"⟩, 6) := ⟨⟨by decide +kernel, by decide +kernel⟩, List.mem_of_getElem? (i := 374) (by decide +kernel), List.mem_of_getElem? (i := 833) (by decide +kernel), List.mem_of_getElem? (i := 834) (by decide +kernel)⟩
theorem lw_p54 : lw_okq (⟨"FlowBoxes$Layout", "flowContextBlock", "(LFlowBoxes$Node;LFlowBoxes$Flow;)V"⟩, 6) := ⟨⟨by decide +kernel, by decide +kernel⟩, List.mem_of_getElem? (i := 374) (by decide +kernel), List.mem_of_getElem? (i := 840) (by decide +kernel), List.mem_of_getElem? (i := 841) (by decide +kernel)⟩
theorem lw_p55 : lw_okq (⟨"FlowBoxes$Flow", "pend", "(I)V"⟩, 20) := ⟨⟨by decide +kernel, by decide +kernel⟩, List.mem_of_getElem? (i := 381) (by decide +kernel), List.mem_of_getElem? (i := 844) (by decide +kernel), List.mem_of_getElem? (i := 845) (by decide +kernel)⟩
theorem lw_p56 : lw_okq (⟨"FlowBoxes$Flow", "clearFloats", "(I)V"⟩, 20) := ⟨⟨by decide +kernel, by decide +kernel⟩, List.mem_of_getElem? (i := 381) (by decide +kernel), List.mem_of_getElem? (i := 848) (by decide +kernel), List.mem_of_getElem? (i := 849) (by decide +kernel)⟩
theorem lw_p57 : lw_okq (⟨"FlowBoxes$Layout", "flowPlainBlock", "(LFlowBoxes$Node;LFlowBoxes$Flow;)V"⟩, 6) := ⟨⟨by decide +kernel, by decide +kernel⟩, List.mem_of_getElem? (i := 374) (by decide +kernel), List.mem_of_getElem? (i := 853) (by decide +kernel), List.mem_of_getElem? (i := 854) (by decide +kernel)⟩
theorem lw_p58 : lw_okq (⟨"FlowBoxes$Flow", "contentHeight", "()I"⟩, 20) := ⟨⟨by decide +kernel, by decide +kernel⟩, List.mem_of_getElem? (i := 381) (by decide +kernel), List.mem_of_getElem? (i := 864) (by decide +kernel), List.mem_of_getElem? (i := 865) (by decide +kernel)⟩
theorem lw_p59 : lw_okq (⟨"FlowBoxes$Layout", "layInColumns", "(LFlowBoxes$Node;LFlowBoxes$Place;)I"⟩, 6) := ⟨⟨by decide +kernel, by decide +kernel⟩, List.mem_of_getElem? (i := 374) (by decide +kernel), List.mem_of_getElem? (i := 868) (by decide +kernel), List.mem_of_getElem? (i := 869) (by decide +kernel)⟩
theorem lw_p60 : lw_okq (⟨"FlowBoxes$Layout", "gatherItems", "(LFlowBoxes$Node;)V"⟩, 6) := ⟨⟨by decide +kernel, by decide +kernel⟩, List.mem_of_getElem? (i := 374) (by decide +kernel), List.mem_of_getElem? (i := 872) (by decide +kernel), List.mem_of_getElem? (i := 873) (by decide +kernel)⟩
theorem lw_p61 : lw_okq (⟨"FlowBoxes$Layout", "gatherLines", "(LFlowBoxes$Place;)V"⟩, 6) := ⟨⟨by decide +kernel, by decide +kernel⟩, List.mem_of_getElem? (i := 374) (by decide +kernel), List.mem_of_getElem? (i := 876) (by decide +kernel), List.mem_of_getElem? (i := 877) (by decide +kernel)⟩
theorem lw_p62 : lw_okq (⟨"FlowBoxes$Strip", "add", "(II)V"⟩, 7) := ⟨⟨by decide +kernel, by decide +kernel⟩, List.mem_of_getElem? (i := 292) (by decide +kernel), List.mem_of_getElem? (i := 880) (by decide +kernel), List.mem_of_getElem? (i := 881) (by decide +kernel)⟩
theorem lw_p63 : lw_okq (⟨"FlowBoxes$Thing", "topSide", "()I"⟩, 5) := ⟨⟨by decide +kernel, by decide +kernel⟩, List.mem_of_getElem? (i := 87) (by decide +kernel), List.mem_of_getElem? (i := 887) (by decide +kernel), List.mem_of_getElem? (i := 888) (by decide +kernel)⟩
def lw_privs_4 : List (MethodName × Nat) := [(⟨"FlowBoxes$Layout", "addInlineBlock", "(LFlowBoxes$Node;LFlowBoxes$Flow;LFlowBoxes$Node;)V"⟩, 6), (⟨"FlowBoxes$Layout", "meetFloat", "(LFlowBoxes$Flow;LFlowBoxes$Node;)V"⟩, 6), (⟨"FlowBoxes$Flow", "addLate", "(LFlowBoxes$Floated;LFlowBoxes$Node;)V"⟩, 20), (⟨"FlowBoxes$Layout", "meetAbsolute", "(LFlowBoxes$Flow;LFlowBoxes$Node;)V"⟩, 6), (⟨"FlowBoxes$Layout", "flowWithoutLines", "(LFlowBoxes$Flow;LFlowBoxes$Node;LFlowBoxes$Node;)V"⟩, 6), (⟨"FlowBoxes$Layout", "flowOutside", "(LFlowBoxes$Node;LFlowBoxes$Flow;)V"⟩, 6), (⟨"FlowBoxes$Layout", "flowContextBlock", "(LFlowBoxes$Node;LFlowBoxes$Flow;)V"⟩, 6), (⟨"FlowBoxes$Flow", "pend", "(I)V"⟩, 20), (⟨"FlowBoxes$Flow", "clearFloats", "(I)V"⟩, 20), (⟨"FlowBoxes$Layout", "flowPlainBlock", "(LFlowBoxes$Node;LFlowBoxes$Flow;)V"⟩, 6), (⟨"FlowBoxes$Flow", "contentHeight", "()I"⟩, 20), (⟨"FlowBoxes$Layout", "layInColumns", "(LFlowBoxes$Node;LFlowBoxes$Place;)I"⟩, 6), (⟨"FlowBoxes$Layout", "gatherItems", "(LFlowBoxes$Node;)V"⟩, 6), (⟨"FlowBoxes$Layout", "gatherLines", "(LFlowBoxes$Place;)V"⟩, 6), (⟨"FlowBoxes$Strip", "add", "(II)V"⟩, 7), (⟨"FlowBoxes$Thing", "topSide", "()I"⟩, 5)]
theorem lw_r4 : ∀ q ∈ lw_privs_4, lw_okq q := List.forall_mem_cons.mpr ⟨lw_p48, List.forall_mem_cons.mpr ⟨lw_p49, List.forall_mem_cons.mpr ⟨lw_p50, List.forall_mem_cons.mpr ⟨lw_p51, List.forall_mem_cons.mpr ⟨lw_p52, List.forall_mem_cons.mpr ⟨lw_p53, List.forall_mem_cons.mpr ⟨lw_p54, List.forall_mem_cons.mpr ⟨lw_p55, List.forall_mem_cons.mpr ⟨lw_p56, List.forall_mem_cons.mpr ⟨lw_p57, List.forall_mem_cons.mpr ⟨lw_p58, List.forall_mem_cons.mpr ⟨lw_p59, List.forall_mem_cons.mpr ⟨lw_p60, List.forall_mem_cons.mpr ⟨lw_p61, List.forall_mem_cons.mpr ⟨lw_p62, List.forall_mem_cons.mpr ⟨lw_p63, fun _ h => absurd h List.not_mem_nil⟩⟩⟩⟩⟩⟩⟩⟩⟩⟩⟩⟩⟩⟩⟩⟩
theorem lw_p64 : lw_okq (⟨"FlowBoxes$Strip", "findBreaks", "(I)V"⟩, 7) := ⟨⟨by decide +kernel, by decide +kernel⟩, List.mem_of_getElem? (i := 292) (by decide +kernel), List.mem_of_getElem? (i := 895) (by decide +kernel), List.mem_of_getElem? (i := 896) (by decide +kernel)⟩
theorem lw_p65 : lw_okq (⟨"FlowBoxes$Strip", "addPlace", "(II)V"⟩, 7) := ⟨⟨by decide +kernel, by decide +kernel⟩, List.mem_of_getElem? (i := 292) (by decide +kernel), List.mem_of_getElem? (i := 899) (by decide +kernel), List.mem_of_getElem? (i := 900) (by decide +kernel)⟩
theorem lw_p66 : lw_okq (⟨"FlowBoxes$Strip", "keepWholeItems", "()V"⟩, 7) := ⟨⟨by decide +kernel, by decide +kernel⟩, List.mem_of_getElem? (i := 292) (by decide +kernel), List.mem_of_getElem? (i := 903) (by decide +kernel), List.mem_of_getElem? (i := 904) (by decide +kernel)⟩
theorem lw_p67 : lw_okq (⟨"FlowBoxes$Strip", "leastHeight", "(I)I"⟩, 7) := ⟨⟨by decide +kernel, by decide +kernel⟩, List.mem_of_getElem? (i := 292) (by decide +kernel), List.mem_of_getElem? (i := 908) (by decide +kernel), List.mem_of_getElem? (i := 909) (by decide +kernel)⟩
theorem lw_p68 : lw_okq (⟨"FlowBoxes$Strip", "split", "(I)I"⟩, 7) := ⟨⟨by decide +kernel, by decide +kernel⟩, List.mem_of_getElem? (i := 292) (by decide +kernel), List.mem_of_getElem? (i := 913) (by decide +kernel), List.mem_of_getElem? (i := 914) (by decide +kernel)⟩
theorem lw_p69 : lw_okq (⟨"FlowBoxes$Layout", "moveToColumns", "(LFlowBoxes$Node;I)V"⟩, 6) := ⟨⟨by decide +kernel, by decide +kernel⟩, List.mem_of_getElem? (i := 374) (by decide +kernel), List.mem_of_getElem? (i := 918) (by decide +kernel), List.mem_of_getElem? (i := 919) (by decide +kernel)⟩
theorem lw_p70 : lw_okq (⟨"FlowBoxes$Layout", "moveLines", "(LFlowBoxes$Place;I)V"⟩, 6) := ⟨⟨by decide +kernel, by decide +kernel⟩, List.mem_of_getElem? (i := 374) (by decide +kernel), List.mem_of_getElem? (i := 922) (by decide +kernel), List.mem_of_getElem? (i := 923) (by decide +kernel)⟩
theorem lw_p71 : lw_okq (⟨"FlowBoxes$Strip", "columnAt", "(I)I"⟩, 7) := ⟨⟨by decide +kernel, by decide +kernel⟩, List.mem_of_getElem? (i := 292) (by decide +kernel), List.mem_of_getElem? (i := 926) (by decide +kernel), List.mem_of_getElem? (i := 927) (by decide +kernel)⟩
theorem lw_p72 : lw_okq (⟨"FlowBoxes$Strip", "beginOf", "(I)I"⟩, 7) := ⟨⟨by decide +kernel, by decide +kernel⟩, List.mem_of_getElem? (i := 292) (by decide +kernel), List.mem_of_getElem? (i := 930) (by decide +kernel), List.mem_of_getElem? (i := 931) (by decide +kernel)⟩
theorem lw_p73 : lw_okq (⟨"FlowBoxes$Layout", "layAbsolute", "(LFlowBoxes$Node;)V"⟩, 6) := ⟨⟨by decide +kernel, by decide +kernel⟩, List.mem_of_getElem? (i := 374) (by decide +kernel), List.mem_of_getElem? (i := 934) (by decide +kernel), List.mem_of_getElem? (i := 935) (by decide +kernel)⟩
theorem lw_p74 : lw_okq (⟨"FlowBoxes$Node", "isStack", "()Z"⟩, 20) := ⟨⟨by decide +kernel, by decide +kernel⟩, List.mem_of_getElem? (i := 31) (by decide +kernel), List.mem_of_getElem? (i := 941) (by decide +kernel), List.mem_of_getElem? (i := 942) (by decide +kernel)⟩
theorem lw_p75 : lw_okq (⟨"FlowBoxes$Layout", "settle", "(LFlowBoxes$Node;)V"⟩, 6) := ⟨⟨by decide +kernel, by decide +kernel⟩, List.mem_of_getElem? (i := 374) (by decide +kernel), List.mem_of_getElem? (i := 945) (by decide +kernel), List.mem_of_getElem? (i := 946) (by decide +kernel)⟩
theorem lw_p76 : lw_okq (⟨"FlowBoxes$Layout", "settleAbsolute", "(LFlowBoxes$Node;LFlowBoxes$Place;LFlowBoxes$Place;)V"⟩, 6) := ⟨⟨by decide +kernel, by decide +kernel⟩, List.mem_of_getElem? (i := 374) (by decide +kernel), List.mem_of_getElem? (i := 949) (by decide +kernel), List.mem_of_getElem? (i := 950) (by decide +kernel)⟩
theorem lw_p77 : lw_okq (⟨"FlowBoxes$Layout", "settleInFlow", "(LFlowBoxes$Node;LFlowBoxes$Place;LFlowBoxes$Place;)V"⟩, 6) := ⟨⟨by decide +kernel, by decide +kernel⟩, List.mem_of_getElem? (i := 374) (by decide +kernel), List.mem_of_getElem? (i := 953) (by decide +kernel), List.mem_of_getElem? (i := 954) (by decide +kernel)⟩
theorem lw_p78 : lw_okq (⟨"FlowBoxes$Thing", "leftSide", "()I"⟩, 5) := ⟨⟨by decide +kernel, by decide +kernel⟩, List.mem_of_getElem? (i := 87) (by decide +kernel), List.mem_of_getElem? (i := 963) (by decide +kernel), List.mem_of_getElem? (i := 964) (by decide +kernel)⟩
theorem lw_p79 : lw_okq (⟨"FlowBoxes$Painter", "arrange", "(LFlowBoxes$Node;)V"⟩, 2) := ⟨⟨by decide +kernel, by decide +kernel⟩, List.mem_of_getElem? (i := 480) (by decide +kernel), List.mem_of_getElem? (i := 967) (by decide +kernel), List.mem_of_getElem? (i := 968) (by decide +kernel)⟩
def lw_privs_5 : List (MethodName × Nat) := [(⟨"FlowBoxes$Strip", "findBreaks", "(I)V"⟩, 7), (⟨"FlowBoxes$Strip", "addPlace", "(II)V"⟩, 7), (⟨"FlowBoxes$Strip", "keepWholeItems", "()V"⟩, 7), (⟨"FlowBoxes$Strip", "leastHeight", "(I)I"⟩, 7), (⟨"FlowBoxes$Strip", "split", "(I)I"⟩, 7), (⟨"FlowBoxes$Layout", "moveToColumns", "(LFlowBoxes$Node;I)V"⟩, 6), (⟨"FlowBoxes$Layout", "moveLines", "(LFlowBoxes$Place;I)V"⟩, 6), (⟨"FlowBoxes$Strip", "columnAt", "(I)I"⟩, 7), (⟨"FlowBoxes$Strip", "beginOf", "(I)I"⟩, 7), (⟨"FlowBoxes$Layout", "layAbsolute", "(LFlowBoxes$Node;)V"⟩, 6), (⟨"FlowBoxes$Node", "isStack", "()Z"⟩, 20), (⟨"FlowBoxes$Layout", "settle", "(LFlowBoxes$Node;)V"⟩, 6), (⟨"FlowBoxes$Layout", "settleAbsolute", "(LFlowBoxes$Node;LFlowBoxes$Place;LFlowBoxes$Place;)V"⟩, 6), (⟨"FlowBoxes$Layout", "settleInFlow", "(LFlowBoxes$Node;LFlowBoxes$Place;LFlowBoxes$Place;)V"⟩, 6), (⟨"FlowBoxes$Thing", "leftSide", "()I"⟩, 5), (⟨"FlowBoxes$Painter", "arrange", "(LFlowBoxes$Node;)V"⟩, 2)]
theorem lw_r5 : ∀ q ∈ lw_privs_5, lw_okq q := List.forall_mem_cons.mpr ⟨lw_p64, List.forall_mem_cons.mpr ⟨lw_p65, List.forall_mem_cons.mpr ⟨lw_p66, List.forall_mem_cons.mpr ⟨lw_p67, List.forall_mem_cons.mpr ⟨lw_p68, List.forall_mem_cons.mpr ⟨lw_p69, List.forall_mem_cons.mpr ⟨lw_p70, List.forall_mem_cons.mpr ⟨lw_p71, List.forall_mem_cons.mpr ⟨lw_p72, List.forall_mem_cons.mpr ⟨lw_p73, List.forall_mem_cons.mpr ⟨lw_p74, List.forall_mem_cons.mpr ⟨lw_p75, List.forall_mem_cons.mpr ⟨lw_p76, List.forall_mem_cons.mpr ⟨lw_p77, List.forall_mem_cons.mpr ⟨lw_p78, List.forall_mem_cons.mpr ⟨lw_p79, fun _ h => absurd h List.not_mem_nil⟩⟩⟩⟩⟩⟩⟩⟩⟩⟩⟩⟩⟩⟩⟩⟩
theorem lw_p80 : lw_okq (⟨"FlowBoxes$Painter", "paintStack", "(LFlowBoxes$Node;)V"⟩, 2) := ⟨⟨by decide +kernel, by decide +kernel⟩, List.mem_of_getElem? (i := 480) (by decide +kernel), List.mem_of_getElem? (i := 971) (by decide +kernel), List.mem_of_getElem? (i := 972) (by decide +kernel)⟩
theorem lw_p81 : lw_okq (⟨"FlowBoxes$Painter", "add", "(LFlowBoxes$Node;)V"⟩, 2) := ⟨⟨by decide +kernel, by decide +kernel⟩, List.mem_of_getElem? (i := 480) (by decide +kernel), List.mem_of_getElem? (i := 975) (by decide +kernel), List.mem_of_getElem? (i := 976) (by decide +kernel)⟩
theorem lw_p82 : lw_okq (⟨"FlowBoxes$Painter", "paintStacksIn", "(LFlowBoxes$Node;I)V"⟩, 2) := ⟨⟨by decide +kernel, by decide +kernel⟩, List.mem_of_getElem? (i := 480) (by decide +kernel), List.mem_of_getElem? (i := 979) (by decide +kernel), List.mem_of_getElem? (i := 980) (by decide +kernel)⟩
theorem lw_p83 : lw_okq (⟨"FlowBoxes$Painter", "paintInside", "(LFlowBoxes$Node;)V"⟩, 2) := ⟨⟨by decide +kernel, by decide +kernel⟩, List.mem_of_getElem? (i := 480) (by decide +kernel), List.mem_of_getElem? (i := 985) (by decide +kernel), List.mem_of_getElem? (i := 986) (by decide +kernel)⟩
theorem lw_p84 : lw_okq (⟨"java/lang/Throwable", "fillInStackTrace", "(I)Ljava/lang/Throwable;"⟩, 6) := ⟨⟨by decide +kernel, by decide +kernel⟩, List.mem_of_getElem? (i := 1069) (by decide +kernel), List.mem_of_getElem? (i := 1067) (by decide +kernel), List.mem_of_getElem? (i := 1068) (by decide +kernel)⟩
theorem lw_p85 : lw_okq (⟨"FlowBoxes", "layAgain", "()V"⟩, 10) := ⟨⟨by decide +kernel, by decide +kernel⟩, List.mem_of_getElem? (i := 23) (by decide +kernel), List.mem_of_getElem? (i := 1094) (by decide +kernel), List.mem_of_getElem? (i := 1095) (by decide +kernel)⟩
theorem lw_p86 : lw_okq (⟨"FlowBoxes", "placedAt", "(I)LFlowBoxes$Node;"⟩, 10) := ⟨⟨by decide +kernel, by decide +kernel⟩, List.mem_of_getElem? (i := 23) (by decide +kernel), List.mem_of_getElem? (i := 1144) (by decide +kernel), List.mem_of_getElem? (i := 1145) (by decide +kernel)⟩
theorem lw_p87 : lw_okq (⟨"FlowBoxes", "nodeAt", "(I)LFlowBoxes$Node;"⟩, 10) := ⟨⟨by decide +kernel, by decide +kernel⟩, List.mem_of_getElem? (i := 23) (by decide +kernel), List.mem_of_getElem? (i := 1148) (by decide +kernel), List.mem_of_getElem? (i := 1149) (by decide +kernel)⟩
theorem lw_p88 : lw_okq (⟨"FlowBoxes", "boxAt", "(I)LFlowBoxes$Node;"⟩, 10) := ⟨⟨by decide +kernel, by decide +kernel⟩, List.mem_of_getElem? (i := 23) (by decide +kernel), List.mem_of_getElem? (i := 1217) (by decide +kernel), List.mem_of_getElem? (i := 1218) (by decide +kernel)⟩
theorem lw_p89 : lw_okq (⟨"FlowBoxes$Layout", "forgetAll", "(LFlowBoxes$Node;)V"⟩, 6) := ⟨⟨by decide +kernel, by decide +kernel⟩, List.mem_of_getElem? (i := 374) (by decide +kernel), List.mem_of_getElem? (i := 1225) (by decide +kernel), List.mem_of_getElem? (i := 1226) (by decide +kernel)⟩
theorem lw_p90 : lw_okq (⟨"FlowBoxes$Node", "holdsLines", "()Z"⟩, 20) := ⟨⟨by decide +kernel, by decide +kernel⟩, List.mem_of_getElem? (i := 31) (by decide +kernel), List.mem_of_getElem? (i := 1233) (by decide +kernel), List.mem_of_getElem? (i := 1234) (by decide +kernel)⟩
theorem lw_p91 : lw_okq (⟨"FlowBoxes$Node", "countChildren", "()I"⟩, 20) := ⟨⟨by decide +kernel, by decide +kernel⟩, List.mem_of_getElem? (i := 31) (by decide +kernel), List.mem_of_getElem? (i := 1251) (by decide +kernel), List.mem_of_getElem? (i := 1252) (by decide +kernel)⟩
theorem lw_p92 : lw_okq (⟨"FlowBoxes", "hasRoom", "(LFlowBoxes$Node;)Z"⟩, 10) := ⟨⟨by decide +kernel, by decide +kernel⟩, List.mem_of_getElem? (i := 23) (by decide +kernel), List.mem_of_getElem? (i := 1259) (by decide +kernel), List.mem_of_getElem? (i := 1260) (by decide +kernel)⟩
theorem lw_p93 : lw_okq (⟨"FlowBoxes", "insertNode", "(LFlowBoxes$Node;II)I"⟩, 10) := ⟨⟨by decide +kernel, by decide +kernel⟩, List.mem_of_getElem? (i := 23) (by decide +kernel), List.mem_of_getElem? (i := 1263) (by decide +kernel), List.mem_of_getElem? (i := 1264) (by decide +kernel)⟩
theorem lw_p94 : lw_okq (⟨"FlowBoxes$Node", "putIn", "(LFlowBoxes$Node;I)V"⟩, 20) := ⟨⟨by decide +kernel, by decide +kernel⟩, List.mem_of_getElem? (i := 31) (by decide +kernel), List.mem_of_getElem? (i := 1267) (by decide +kernel), List.mem_of_getElem? (i := 1268) (by decide +kernel)⟩
theorem lw_p95 : lw_okq (⟨"FlowBoxes", "noteChange", "(LFlowBoxes$Node;)V"⟩, 10) := ⟨⟨by decide +kernel, by decide +kernel⟩, List.mem_of_getElem? (i := 23) (by decide +kernel), List.mem_of_getElem? (i := 1271) (by decide +kernel), List.mem_of_getElem? (i := 1272) (by decide +kernel)⟩
def lw_privs_6 : List (MethodName × Nat) := [(⟨"FlowBoxes$Painter", "paintStack", "(LFlowBoxes$Node;)V"⟩, 2), (⟨"FlowBoxes$Painter", "add", "(LFlowBoxes$Node;)V"⟩, 2), (⟨"FlowBoxes$Painter", "paintStacksIn", "(LFlowBoxes$Node;I)V"⟩, 2), (⟨"FlowBoxes$Painter", "paintInside", "(LFlowBoxes$Node;)V"⟩, 2), (⟨"java/lang/Throwable", "fillInStackTrace", "(I)Ljava/lang/Throwable;"⟩, 6), (⟨"FlowBoxes", "layAgain", "()V"⟩, 10), (⟨"FlowBoxes", "placedAt", "(I)LFlowBoxes$Node;"⟩, 10), (⟨"FlowBoxes", "nodeAt", "(I)LFlowBoxes$Node;"⟩, 10), (⟨"FlowBoxes", "boxAt", "(I)LFlowBoxes$Node;"⟩, 10), (⟨"FlowBoxes$Layout", "forgetAll", "(LFlowBoxes$Node;)V"⟩, 6), (⟨"FlowBoxes$Node", "holdsLines", "()Z"⟩, 20), (⟨"FlowBoxes$Node", "countChildren", "()I"⟩, 20), (⟨"FlowBoxes", "hasRoom", "(LFlowBoxes$Node;)Z"⟩, 10), (⟨"FlowBoxes", "insertNode", "(LFlowBoxes$Node;II)I"⟩, 10), (⟨"FlowBoxes$Node", "putIn", "(LFlowBoxes$Node;I)V"⟩, 20), (⟨"FlowBoxes", "noteChange", "(LFlowBoxes$Node;)V"⟩, 10)]
theorem lw_r6 : ∀ q ∈ lw_privs_6, lw_okq q := List.forall_mem_cons.mpr ⟨lw_p80, List.forall_mem_cons.mpr ⟨lw_p81, List.forall_mem_cons.mpr ⟨lw_p82, List.forall_mem_cons.mpr ⟨lw_p83, List.forall_mem_cons.mpr ⟨lw_p84, List.forall_mem_cons.mpr ⟨lw_p85, List.forall_mem_cons.mpr ⟨lw_p86, List.forall_mem_cons.mpr ⟨lw_p87, List.forall_mem_cons.mpr ⟨lw_p88, List.forall_mem_cons.mpr ⟨lw_p89, List.forall_mem_cons.mpr ⟨lw_p90, List.forall_mem_cons.mpr ⟨lw_p91, List.forall_mem_cons.mpr ⟨lw_p92, List.forall_mem_cons.mpr ⟨lw_p93, List.forall_mem_cons.mpr ⟨lw_p94, List.forall_mem_cons.mpr ⟨lw_p95, fun _ h => absurd h List.not_mem_nil⟩⟩⟩⟩⟩⟩⟩⟩⟩⟩⟩⟩⟩⟩⟩⟩
theorem lw_p96 : lw_okq (⟨"FlowBoxes", "textAt", "(I)LFlowBoxes$Node;"⟩, 10) := ⟨⟨by decide +kernel, by decide +kernel⟩, List.mem_of_getElem? (i := 23) (by decide +kernel), List.mem_of_getElem? (i := 1283) (by decide +kernel), List.mem_of_getElem? (i := 1284) (by decide +kernel)⟩
theorem lw_p97 : lw_okq (⟨"FlowBoxes", "noteChangeInside", "(LFlowBoxes$Node;)V"⟩, 10) := ⟨⟨by decide +kernel, by decide +kernel⟩, List.mem_of_getElem? (i := 23) (by decide +kernel), List.mem_of_getElem? (i := 1303) (by decide +kernel), List.mem_of_getElem? (i := 1304) (by decide +kernel)⟩
def lw_privs_7 : List (MethodName × Nat) := [(⟨"FlowBoxes", "textAt", "(I)LFlowBoxes$Node;"⟩, 10), (⟨"FlowBoxes", "noteChangeInside", "(LFlowBoxes$Node;)V"⟩, 10)]
theorem lw_r7 : ∀ q ∈ lw_privs_7, lw_okq q := List.forall_mem_cons.mpr ⟨lw_p96, List.forall_mem_cons.mpr ⟨lw_p97, fun _ h => absurd h List.not_mem_nil⟩⟩
def lw_privs : List (MethodName × Nat) := lw_privs_1 ++ (lw_privs_2 ++ (lw_privs_3 ++ (lw_privs_4 ++ (lw_privs_5 ++ (lw_privs_6 ++ (lw_privs_7))))))
def lw_tbl : List Cond := k2_sels lw_privs ++ tables_1
theorem lw_privs_ok : ∀ q ∈ lw_privs, lw_okq q := by
  show ∀ q ∈ lw_privs_1 ++ (lw_privs_2 ++ (lw_privs_3 ++ (lw_privs_4 ++ (lw_privs_5 ++ (lw_privs_6 ++ (lw_privs_7)))))), lw_okq q
  exact List.forall_mem_append.mpr ⟨lw_r1, List.forall_mem_append.mpr ⟨lw_r2, List.forall_mem_append.mpr ⟨lw_r3, List.forall_mem_append.mpr ⟨lw_r4, List.forall_mem_append.mpr ⟨lw_r5, List.forall_mem_append.mpr ⟨lw_r6, lw_r7⟩⟩⟩⟩⟩⟩
-- ===== end of PART A; then your names; then what follows =====
end
section
def RX0 : String := "FlowBoxes$1"
def TX0 : u_T := fun k => match k with
  | _ => ("", "", "", false)
def tyX0 : Nat → FieldType := fun k => match k with
  | _ => .int
abbrev wsX00 : List Cond := u_ws RX0 TX0 0
theorem nmX0 : ∀ a, a < 0 → ∀ b, b < 0 → a ≠ b → (TX0 a).2.1 ≠ (TX0 b).2.1 := by decide +kernel
theorem tyX0_ok : ∀ k, k < 0 → parseFieldDescriptor (TX0 k).2.2.1 = some (tyX0 k) := by decide +kernel
def RX1 : String := "FlowBoxes$Floated"
def TX1 : u_T := fun k => match k with
  | 0 => ("FlowBoxes$Floated", "left", "I", false)
  | 1 => ("FlowBoxes$Floated", "top", "I", false)
  | 2 => ("FlowBoxes$Floated", "right", "I", false)
  | 3 => ("FlowBoxes$Floated", "low", "I", false)
  | 4 => ("FlowBoxes$Floated", "isLeft", "Z", false)
  | 5 => ("FlowBoxes$Floated", "next", "LFlowBoxes$Floated;", false)
  | _ => ("FlowBoxes$Floated", "waiting", "LFlowBoxes$Node;", false)
def tyX1 : Nat → FieldType := fun k => match k with
  | 0 => .int
  | 1 => .int
  | 2 => .int
  | 3 => .int
  | 4 => .boolean
  | 5 => .object "FlowBoxes$Floated"
  | _ => .object "FlowBoxes$Node"
abbrev wsX10 : List Cond := u_ws RX1 TX1 7
theorem nmX1 : ∀ a, a < 7 → ∀ b, b < 7 → a ≠ b → (TX1 a).2.1 ≠ (TX1 b).2.1 := by decide +kernel
theorem tyX1_ok : ∀ k, k < 7 → parseFieldDescriptor (TX1 k).2.2.1 = some (tyX1 k) := by decide +kernel
abbrev cX1_init : ByteArray := prog_3_method_1_code
def yX1_init : MethodName := ⟨RX1, "<init>", "()V"⟩
abbrev cX1_reachesInto : ByteArray := prog_3_method_2_code
def yX1_reachesInto : MethodName := ⟨RX1, "reachesInto", "(IIII)Z"⟩
def RX2 : String := "FlowBoxes$Flow"
def TX2 : u_T := fun k => match k with
  | 0 => ("FlowBoxes$Flow", "y", "I", false)
  | 1 => ("FlowBoxes$Flow", "above", "I", false)
  | 2 => ("FlowBoxes$Flow", "below", "I", false)
  | 3 => ("FlowBoxes$Flow", "waiting", "LFlowBoxes$Place;", false)
  | 4 => ("FlowBoxes$Flow", "firstFloat", "LFlowBoxes$Floated;", false)
  | 5 => ("FlowBoxes$Flow", "lastFloat", "LFlowBoxes$Floated;", false)
  | 6 => ("FlowBoxes$Flow", "reach", "I", false)
  | 7 => ("FlowBoxes$Flow", "left", "I", false)
  | 8 => ("FlowBoxes$Flow", "wide", "I", false)
  | 9 => ("FlowBoxes$Flow", "bandLeft", "I", false)
  | 10 => ("FlowBoxes$Flow", "bandRight", "I", false)
  | 11 => ("FlowBoxes$Flow", "reached", "Z", false)
  | 12 => ("FlowBoxes$Flow", "line", "LFlowBoxes$Line;", false)
  | 13 => ("FlowBoxes$Flow", "things", "I", false)
  | 14 => ("FlowBoxes$Flow", "filled", "I", false)
  | 15 => ("FlowBoxes$Flow", "ascent", "I", false)
  | 16 => ("FlowBoxes$Flow", "descent", "I", false)
  | 17 => ("FlowBoxes$Flow", "thingReach", "I", false)
  | 18 => ("FlowBoxes$Flow", "firstLate", "LFlowBoxes$Floated;", false)
  | _ => ("FlowBoxes$Flow", "lastLate", "LFlowBoxes$Floated;", false)
def tyX2 : Nat → FieldType := fun k => match k with
  | 0 => .int
  | 1 => .int
  | 2 => .int
  | 3 => .object "FlowBoxes$Place"
  | 4 => .object "FlowBoxes$Floated"
  | 5 => .object "FlowBoxes$Floated"
  | 6 => .int
  | 7 => .int
  | 8 => .int
  | 9 => .int
  | 10 => .int
  | 11 => .boolean
  | 12 => .object "FlowBoxes$Line"
  | 13 => .int
  | 14 => .int
  | 15 => .int
  | 16 => .int
  | 17 => .int
  | 18 => .object "FlowBoxes$Floated"
  | _ => .object "FlowBoxes$Floated"
abbrev wsX20 : List Cond := u_ws RX2 TX2 20
theorem nmX2 : ∀ a, a < 20 → ∀ b, b < 20 → a ≠ b → (TX2 a).2.1 ≠ (TX2 b).2.1 := by decide +kernel
theorem tyX2_ok : ∀ k, k < 20 → parseFieldDescriptor (TX2 k).2.2.1 = some (tyX2 k) := by decide +kernel
abbrev cX2_init : ByteArray := prog_4_method_1_code
def yX2_init : MethodName := ⟨RX2, "<init>", "()V"⟩
abbrev cX2_begin : ByteArray := prog_4_method_2_code
def yX2_begin : MethodName := ⟨RX2, "begin", "()V"⟩
abbrev cX2_pend : ByteArray := prog_4_method_3_code
def yX2_pend : MethodName := ⟨RX2, "pend", "(I)V"⟩
abbrev cX2_pendingY : ByteArray := prog_4_method_4_code
def yX2_pendingY : MethodName := ⟨RX2, "pendingY", "()I"⟩
abbrev cX2_dropMargins : ByteArray := prog_4_method_5_code
def yX2_dropMargins : MethodName := ⟨RX2, "dropMargins", "()V"⟩
abbrev cX2_endMargins : ByteArray := prog_4_method_6_code
def yX2_endMargins : MethodName := ⟨RX2, "endMargins", "()V"⟩
abbrev cX2_clearFloats : ByteArray := prog_4_method_7_code
def yX2_clearFloats : MethodName := ⟨RX2, "clearFloats", "(I)V"⟩
abbrev cX2_reachTo : ByteArray := prog_4_method_8_code
def yX2_reachTo : MethodName := ⟨RX2, "reachTo", "(I)V"⟩
abbrev cX2_look : ByteArray := prog_4_method_9_code
def yX2_look : MethodName := ⟨RX2, "look", "(II)V"⟩
abbrev cX2_band : ByteArray := prog_4_method_10_code
def yX2_band : MethodName := ⟨RX2, "band", "()I"⟩
abbrev cX2_nextLow : ByteArray := prog_4_method_11_code
def yX2_nextLow : MethodName := ⟨RX2, "nextLow", "(I)I"⟩
abbrev cX2_findHeight : ByteArray := prog_4_method_12_code
def yX2_findHeight : MethodName := ⟨RX2, "findHeight", "(III)I"⟩
abbrev cX2_floatTop : ByteArray := prog_4_method_13_code
def yX2_floatTop : MethodName := ⟨RX2, "floatTop", "(I)I"⟩
abbrev cX2_addFloat : ByteArray := prog_4_method_14_code
def yX2_addFloat : MethodName := ⟨RX2, "addFloat", "(LFlowBoxes$Floated;)V"⟩
abbrev cX2_addLate : ByteArray := prog_4_method_15_code
def yX2_addLate : MethodName := ⟨RX2, "addLate", "(LFlowBoxes$Floated;LFlowBoxes$Node;)V"⟩
abbrev cX2_nextOffset : ByteArray := prog_4_method_16_code
def yX2_nextOffset : MethodName := ⟨RX2, "nextOffset", "()I"⟩
abbrev cX2_fits : ByteArray := prog_4_method_17_code
def yX2_fits : MethodName := ⟨RX2, "fits", "(I)Z"⟩
abbrev cX2_contentHeight : ByteArray := prog_4_method_18_code
def yX2_contentHeight : MethodName := ⟨RX2, "contentHeight", "()I"⟩
def RX3 : String := "FlowBoxes$Kind"
def TX3 : u_T := fun k => match k with
  | _ => ("", "", "", false)
def tyX3 : Nat → FieldType := fun k => match k with
  | _ => .int
abbrev wsX30 : List Cond := u_ws RX3 TX3 0
theorem nmX3 : ∀ a, a < 0 → ∀ b, b < 0 → a ≠ b → (TX3 a).2.1 ≠ (TX3 b).2.1 := by decide +kernel
theorem tyX3_ok : ∀ k, k < 0 → parseFieldDescriptor (TX3 k).2.2.1 = some (tyX3 k) := by decide +kernel
abbrev cX3_isInLines : ByteArray := prog_5_method_4_code
def yX3_isInLines : MethodName := ⟨RX3, "isInLines", "()Z"⟩
def RX4 : String := "FlowBoxes$Layout"
def TX4 : u_T := fun k => match k with
  | 0 => ("FlowBoxes$Layout", "isFresh", "Z", true)
  | 1 => ("FlowBoxes$Layout", "strip", "LFlowBoxes$Strip;", true)
  | 2 => ("FlowBoxes$Layout", "flows", "[LFlowBoxes$Flow;", true)
  | 3 => ("FlowBoxes$Layout", "freeLine", "LFlowBoxes$Line;", false)
  | 4 => ("FlowBoxes$Layout", "turn", "I", false)
  | _ => ("FlowBoxes$Layout", "count", "I", false)
def tyX4 : Nat → FieldType := fun k => match k with
  | 0 => .boolean
  | 1 => .object "FlowBoxes$Strip"
  | 2 => .array (.object "FlowBoxes$Flow")
  | 3 => .object "FlowBoxes$Line"
  | 4 => .int
  | _ => .int
abbrev wsX40 : List Cond := u_ws RX4 TX4 6
theorem nmX4 : ∀ a, a < 6 → ∀ b, b < 6 → a ≠ b → (TX4 a).2.1 ≠ (TX4 b).2.1 := by decide +kernel
theorem tyX4_ok : ∀ k, k < 6 → parseFieldDescriptor (TX4 k).2.2.1 = some (tyX4 k) := by decide +kernel
abbrev cX4_init : ByteArray := prog_6_method_1_code
def yX4_init : MethodName := ⟨RX4, "<init>", "(ZLFlowBoxes$Strip;)V"⟩
abbrev cX4_placeOf : ByteArray := prog_6_method_2_code
def yX4_placeOf : MethodName := ⟨RX4, "placeOf", "(LFlowBoxes$Node;)LFlowBoxes$Place;"⟩
abbrev cX4_forgetAll : ByteArray := prog_6_method_3_code
def yX4_forgetAll : MethodName := ⟨RX4, "forgetAll", "(LFlowBoxes$Node;)V"⟩
abbrev cX4_layAll : ByteArray := prog_6_method_4_code
def yX4_layAll : MethodName := ⟨RX4, "layAll", "(LFlowBoxes$Node;II)I"⟩
abbrev cX4_stackAround : ByteArray := prog_6_method_5_code
def yX4_stackAround : MethodName := ⟨RX4, "stackAround", "(LFlowBoxes$Node;)LFlowBoxes$Node;"⟩
abbrev cX4_layAbsolute : ByteArray := prog_6_method_6_code
def yX4_layAbsolute : MethodName := ⟨RX4, "layAbsolute", "(LFlowBoxes$Node;)V"⟩
abbrev cX4_settle : ByteArray := prog_6_method_7_code
def yX4_settle : MethodName := ⟨RX4, "settle", "(LFlowBoxes$Node;)V"⟩
abbrev cX4_settleInFlow : ByteArray := prog_6_method_8_code
def yX4_settleInFlow : MethodName := ⟨RX4, "settleInFlow", "(LFlowBoxes$Node;LFlowBoxes$Place;LFlowBoxes$Place;)V"⟩
abbrev cX4_settleAbsolute : ByteArray := prog_6_method_9_code
def yX4_settleAbsolute : MethodName := ⟨RX4, "settleAbsolute", "(LFlowBoxes$Node;LFlowBoxes$Place;LFlowBoxes$Place;)V"⟩
abbrev cX4_offsetOf : ByteArray := prog_6_method_10_code
def yX4_offsetOf : MethodName := ⟨RX4, "offsetOf", "(I)I"⟩
abbrev cX4_inlineLeft : ByteArray := prog_6_method_11_code
def yX4_inlineLeft : MethodName := ⟨RX4, "inlineLeft", "(LFlowBoxes$Node;LFlowBoxes$Place;)I"⟩
abbrev cX4_inlineTop : ByteArray := prog_6_method_12_code
def yX4_inlineTop : MethodName := ⟨RX4, "inlineTop", "(LFlowBoxes$Node;LFlowBoxes$Place;)I"⟩
abbrev cX4_widthIn : ByteArray := prog_6_method_13_code
def yX4_widthIn : MethodName := ⟨RX4, "widthIn", "(LFlowBoxes$Node;II)I"⟩
abbrev cX4_heightIn : ByteArray := prog_6_method_14_code
def yX4_heightIn : MethodName := ⟨RX4, "heightIn", "(LFlowBoxes$Node;I)I"⟩
abbrev cX4_partOf : ByteArray := prog_6_method_15_code
def yX4_partOf : MethodName := ⟨RX4, "partOf", "(III)I"⟩
abbrev cX4_knownHeight : ByteArray := prog_6_method_16_code
def yX4_knownHeight : MethodName := ⟨RX4, "knownHeight", "(LFlowBoxes$Node;)I"⟩
abbrev cX4_layOut : ByteArray := prog_6_method_17_code
def yX4_layOut : MethodName := ⟨RX4, "layOut", "(LFlowBoxes$Node;II)V"⟩
abbrev cX4_flowOf : ByteArray := prog_6_method_18_code
def yX4_flowOf : MethodName := ⟨RX4, "flowOf", "(LFlowBoxes$Node;)LFlowBoxes$Flow;"⟩
abbrev cX4_flowContext : ByteArray := prog_6_method_19_code
def yX4_flowContext : MethodName := ⟨RX4, "flowContext", "(LFlowBoxes$Node;I)I"⟩
abbrev cX4_layWithBars : ByteArray := prog_6_method_20_code
def yX4_layWithBars : MethodName := ⟨RX4, "layWithBars", "(LFlowBoxes$Node;LFlowBoxes$Place;)I"⟩
abbrev cX4_flowContainer : ByteArray := prog_6_method_21_code
def yX4_flowContainer : MethodName := ⟨RX4, "flowContainer", "(LFlowBoxes$Node;LFlowBoxes$Flow;II)V"⟩
abbrev cX4_flowOutside : ByteArray := prog_6_method_22_code
def yX4_flowOutside : MethodName := ⟨RX4, "flowOutside", "(LFlowBoxes$Node;LFlowBoxes$Flow;)V"⟩
abbrev cX4_flowPlainBlock : ByteArray := prog_6_method_23_code
def yX4_flowPlainBlock : MethodName := ⟨RX4, "flowPlainBlock", "(LFlowBoxes$Node;LFlowBoxes$Flow;)V"⟩
abbrev cX4_endWaitingBlock : ByteArray := prog_6_method_24_code
def yX4_endWaitingBlock : MethodName := ⟨RX4, "endWaitingBlock", "([ILFlowBoxes$Place;LFlowBoxes$Flow;)V"⟩
abbrev cX4_endHeldBlock : ByteArray := prog_6_method_25_code
def yX4_endHeldBlock : MethodName := ⟨RX4, "endHeldBlock", "([ILFlowBoxes$Place;LFlowBoxes$Flow;)V"⟩
abbrev cX4_flowContextBlock : ByteArray := prog_6_method_26_code
def yX4_flowContextBlock : MethodName := ⟨RX4, "flowContextBlock", "(LFlowBoxes$Node;LFlowBoxes$Flow;)V"⟩
abbrev cX4_putFloat : ByteArray := prog_6_method_27_code
def yX4_putFloat : MethodName := ⟨RX4, "putFloat", "(LFlowBoxes$Node;LFlowBoxes$Flow;I)V"⟩
abbrev cX4_hasThings : ByteArray := prog_6_method_28_code
def yX4_hasThings : MethodName := ⟨RX4, "hasThings", "(LFlowBoxes$Node;LFlowBoxes$Node;)Z"⟩
abbrev cX4_flowWithoutLines : ByteArray := prog_6_method_29_code
def yX4_flowWithoutLines : MethodName := ⟨RX4, "flowWithoutLines", "(LFlowBoxes$Flow;LFlowBoxes$Node;LFlowBoxes$Node;)V"⟩
abbrev cX4_flowLines : ByteArray := prog_6_method_30_code
def yX4_flowLines : MethodName := ⟨RX4, "flowLines", "(LFlowBoxes$Node;LFlowBoxes$Flow;LFlowBoxes$Node;LFlowBoxes$Node;)V"⟩
abbrev cX4_shiftOf : ByteArray := prog_6_method_31_code
def yX4_shiftOf : MethodName := ⟨RX4, "shiftOf", "(LFlowBoxes$Node;)I"⟩
abbrev cX4_addWords : ByteArray := prog_6_method_32_code
def yX4_addWords : MethodName := ⟨RX4, "addWords", "(LFlowBoxes$Node;LFlowBoxes$Flow;LFlowBoxes$Node;)V"⟩
abbrev cX4_addInlineBlock : ByteArray := prog_6_method_33_code
def yX4_addInlineBlock : MethodName := ⟨RX4, "addInlineBlock", "(LFlowBoxes$Node;LFlowBoxes$Flow;LFlowBoxes$Node;)V"⟩
abbrev cX4_addThing : ByteArray := prog_6_method_34_code
def yX4_addThing : MethodName := ⟨RX4, "addThing", "(LFlowBoxes$Node;LFlowBoxes$Flow;LFlowBoxes$Thing;LFlowBoxes$Thing;I)V"⟩
abbrev cX4_putThing : ByteArray := prog_6_method_35_code
def yX4_putThing : MethodName := ⟨RX4, "putThing", "(LFlowBoxes$Node;LFlowBoxes$Flow;LFlowBoxes$Thing;)V"⟩
abbrev cX4_endLine : ByteArray := prog_6_method_36_code
def yX4_endLine : MethodName := ⟨RX4, "endLine", "(LFlowBoxes$Flow;)V"⟩
abbrev cX4_meetFloat : ByteArray := prog_6_method_37_code
def yX4_meetFloat : MethodName := ⟨RX4, "meetFloat", "(LFlowBoxes$Flow;LFlowBoxes$Node;)V"⟩
abbrev cX4_meetAbsolute : ByteArray := prog_6_method_38_code
def yX4_meetAbsolute : MethodName := ⟨RX4, "meetAbsolute", "(LFlowBoxes$Flow;LFlowBoxes$Node;)V"⟩
abbrev cX4_addLine : ByteArray := prog_6_method_39_code
def yX4_addLine : MethodName := ⟨RX4, "addLine", "(LFlowBoxes$Place;)LFlowBoxes$Line;"⟩
abbrev cX4_freeLines : ByteArray := prog_6_method_40_code
def yX4_freeLines : MethodName := ⟨RX4, "freeLines", "(LFlowBoxes$Place;)V"⟩
abbrev cX4_layTable : ByteArray := prog_6_method_41_code
def yX4_layTable : MethodName := ⟨RX4, "layTable", "(LFlowBoxes$Node;LFlowBoxes$Place;)I"⟩
abbrev cX4_layRow : ByteArray := prog_6_method_42_code
def yX4_layRow : MethodName := ⟨RX4, "layRow", "(LFlowBoxes$Node;I)I"⟩
abbrev cX4_placeEvenly : ByteArray := prog_6_method_43_code
def yX4_placeEvenly : MethodName := ⟨RX4, "placeEvenly", "(LFlowBoxes$Node;II)V"⟩
abbrev cX4_placeByContent : ByteArray := prog_6_method_44_code
def yX4_placeByContent : MethodName := ⟨RX4, "placeByContent", "(LFlowBoxes$Node;II)V"⟩
abbrev cX4_lackOf : ByteArray := prog_6_method_45_code
def yX4_lackOf : MethodName := ⟨RX4, "lackOf", "(LFlowBoxes$Node;I)I"⟩
abbrev cX4_placeColumn : ByteArray := prog_6_method_46_code
def yX4_placeColumn : MethodName := ⟨RX4, "placeColumn", "(LFlowBoxes$Node;III)V"⟩
abbrev cX4_layInColumns : ByteArray := prog_6_method_47_code
def yX4_layInColumns : MethodName := ⟨RX4, "layInColumns", "(LFlowBoxes$Node;LFlowBoxes$Place;)I"⟩
abbrev cX4_isFlownThrough : ByteArray := prog_6_method_48_code
def yX4_isFlownThrough : MethodName := ⟨RX4, "isFlownThrough", "(LFlowBoxes$Node;)Z"⟩
abbrev cX4_gatherItems : ByteArray := prog_6_method_49_code
def yX4_gatherItems : MethodName := ⟨RX4, "gatherItems", "(LFlowBoxes$Node;)V"⟩
abbrev cX4_gatherLines : ByteArray := prog_6_method_50_code
def yX4_gatherLines : MethodName := ⟨RX4, "gatherLines", "(LFlowBoxes$Place;)V"⟩
abbrev cX4_moveToColumns : ByteArray := prog_6_method_51_code
def yX4_moveToColumns : MethodName := ⟨RX4, "moveToColumns", "(LFlowBoxes$Node;I)V"⟩
abbrev cX4_moveLines : ByteArray := prog_6_method_52_code
def yX4_moveLines : MethodName := ⟨RX4, "moveLines", "(LFlowBoxes$Place;I)V"⟩
def RX5 : String := "FlowBoxes$Line"
def TX5 : u_T := fun k => match k with
  | 0 => ("FlowBoxes$Line", "left", "I", false)
  | 1 => ("FlowBoxes$Line", "top", "I", false)
  | 2 => ("FlowBoxes$Line", "filled", "I", false)
  | 3 => ("FlowBoxes$Line", "high", "I", false)
  | 4 => ("FlowBoxes$Line", "ascent", "I", false)
  | _ => ("FlowBoxes$Line", "next", "LFlowBoxes$Line;", false)
def tyX5 : Nat → FieldType := fun k => match k with
  | 0 => .int
  | 1 => .int
  | 2 => .int
  | 3 => .int
  | 4 => .int
  | _ => .object "FlowBoxes$Line"
abbrev wsX50 : List Cond := u_ws RX5 TX5 6
theorem nmX5 : ∀ a, a < 6 → ∀ b, b < 6 → a ≠ b → (TX5 a).2.1 ≠ (TX5 b).2.1 := by decide +kernel
theorem tyX5_ok : ∀ k, k < 6 → parseFieldDescriptor (TX5 k).2.2.1 = some (tyX5 k) := by decide +kernel
abbrev cX5_init : ByteArray := prog_7_method_1_code
def yX5_init : MethodName := ⟨RX5, "<init>", "()V"⟩
def RX6 : String := "FlowBoxes$Measures"
def TX6 : u_T := fun k => match k with
  | _ => ("", "", "", false)
def tyX6 : Nat → FieldType := fun k => match k with
  | _ => .int
abbrev wsX60 : List Cond := u_ws RX6 TX6 0
theorem nmX6 : ∀ a, a < 0 → ∀ b, b < 0 → a ≠ b → (TX6 a).2.1 ≠ (TX6 b).2.1 := by decide +kernel
theorem tyX6_ok : ∀ k, k < 0 → parseFieldDescriptor (TX6 k).2.2.1 = some (tyX6 k) := by decide +kernel
abbrev cX6_leastOf : ByteArray := prog_8_method_2_code
def yX6_leastOf : MethodName := ⟨RX6, "leastOf", "(LFlowBoxes$Node;)I"⟩
abbrev cX6_mostOf : ByteArray := prog_8_method_3_code
def yX6_mostOf : MethodName := ⟨RX6, "mostOf", "(LFlowBoxes$Node;)I"⟩
abbrev cX6_inColumns : ByteArray := prog_8_method_4_code
def yX6_inColumns : MethodName := ⟨RX6, "inColumns", "(LFlowBoxes$Node;I)I"⟩
abbrev cX6_outerLeast : ByteArray := prog_8_method_5_code
def yX6_outerLeast : MethodName := ⟨RX6, "outerLeast", "(LFlowBoxes$Node;)I"⟩
abbrev cX6_outerMost : ByteArray := prog_8_method_6_code
def yX6_outerMost : MethodName := ⟨RX6, "outerMost", "(LFlowBoxes$Node;)I"⟩
abbrev cX6_leastInside : ByteArray := prog_8_method_7_code
def yX6_leastInside : MethodName := ⟨RX6, "leastInside", "(LFlowBoxes$Node;)I"⟩
abbrev cX6_leastOfWords : ByteArray := prog_8_method_8_code
def yX6_leastOfWords : MethodName := ⟨RX6, "leastOfWords", "(LFlowBoxes$Node;)I"⟩
abbrev cX6_mostInside : ByteArray := prog_8_method_9_code
def yX6_mostInside : MethodName := ⟨RX6, "mostInside", "(LFlowBoxes$Node;)I"⟩
abbrev cX6_mostOfRun : ByteArray := prog_8_method_10_code
def yX6_mostOfRun : MethodName := ⟨RX6, "mostOfRun", "(LFlowBoxes$Node;LFlowBoxes$Node;)I"⟩
abbrev cX6_countColumns : ByteArray := prog_8_method_11_code
def yX6_countColumns : MethodName := ⟨RX6, "countColumns", "(LFlowBoxes$Node;)I"⟩
abbrev cX6_cellAt : ByteArray := prog_8_method_12_code
def yX6_cellAt : MethodName := ⟨RX6, "cellAt", "(LFlowBoxes$Node;I)LFlowBoxes$Node;"⟩
abbrev cX6_leastOfColumn : ByteArray := prog_8_method_13_code
def yX6_leastOfColumn : MethodName := ⟨RX6, "leastOfColumn", "(LFlowBoxes$Node;I)I"⟩
abbrev cX6_mostOfColumn : ByteArray := prog_8_method_14_code
def yX6_mostOfColumn : MethodName := ⟨RX6, "mostOfColumn", "(LFlowBoxes$Node;I)I"⟩
abbrev cX6_leastOfTable : ByteArray := prog_8_method_15_code
def yX6_leastOfTable : MethodName := ⟨RX6, "leastOfTable", "(LFlowBoxes$Node;)I"⟩
abbrev cX6_mostOfTable : ByteArray := prog_8_method_16_code
def yX6_mostOfTable : MethodName := ⟨RX6, "mostOfTable", "(LFlowBoxes$Node;)I"⟩
abbrev cX6_besideEachOther : ByteArray := prog_8_method_17_code
def yX6_besideEachOther : MethodName := ⟨RX6, "besideEachOther", "(LFlowBoxes$Node;III)I"⟩
def RX7 : String := "FlowBoxes$Node"
def TX7 : u_T := fun k => match k with
  | 0 => ("FlowBoxes$Node", "number", "I", true)
  | 1 => ("FlowBoxes$Node", "parent", "LFlowBoxes$Node;", true)
  | 2 => ("FlowBoxes$Node", "depth", "I", true)
  | 3 => ("FlowBoxes$Node", "size", "I", true)
  | 4 => ("FlowBoxes$Node", "styles", "[I", true)
  | 5 => ("FlowBoxes$Node", "counted", "[I", true)
  | 6 => ("FlowBoxes$Node", "lengths", "[I", true)
  | 7 => ("FlowBoxes$Node", "cuts", "[I", true)
  | 8 => ("FlowBoxes$Node", "kept", "LFlowBoxes$Place;", true)
  | 9 => ("FlowBoxes$Node", "fresh", "LFlowBoxes$Place;", true)
  | 10 => ("FlowBoxes$Node", "first", "LFlowBoxes$Node;", false)
  | 11 => ("FlowBoxes$Node", "next", "LFlowBoxes$Node;", false)
  | 12 => ("FlowBoxes$Node", "wordCount", "I", false)
  | 13 => ("FlowBoxes$Node", "changedAt", "I", false)
  | 14 => ("FlowBoxes$Node", "kind", "LFlowBoxes$Kind;", false)
  | 15 => ("FlowBoxes$Node", "isTable", "Z", false)
  | 16 => ("FlowBoxes$Node", "isContext", "Z", false)
  | 17 => ("FlowBoxes$Node", "scrolls", "Z", false)
  | 18 => ("FlowBoxes$Node", "leastWidth", "I", false)
  | _ => ("FlowBoxes$Node", "mostWidth", "I", false)
def tyX7 : Nat → FieldType := fun k => match k with
  | 0 => .int
  | 1 => .object "FlowBoxes$Node"
  | 2 => .int
  | 3 => .int
  | 4 => .array .int
  | 5 => .array .int
  | 6 => .array .int
  | 7 => .array .int
  | 8 => .object "FlowBoxes$Place"
  | 9 => .object "FlowBoxes$Place"
  | 10 => .object "FlowBoxes$Node"
  | 11 => .object "FlowBoxes$Node"
  | 12 => .int
  | 13 => .int
  | 14 => .object "FlowBoxes$Kind"
  | 15 => .boolean
  | 16 => .boolean
  | 17 => .boolean
  | 18 => .int
  | _ => .int
abbrev wsX70 : List Cond := u_ws RX7 TX7 20
theorem nmX7 : ∀ a, a < 20 → ∀ b, b < 20 → a ≠ b → (TX7 a).2.1 ≠ (TX7 b).2.1 := by decide +kernel
theorem tyX7_ok : ∀ k, k < 20 → parseFieldDescriptor (TX7 k).2.2.1 = some (tyX7 k) := by decide +kernel
abbrev cX7_init : ByteArray := prog_9_method_1_code
def yX7_init : MethodName := ⟨RX7, "<init>", "(ILFlowBoxes$Node;I)V"⟩
abbrev cX7_firstValue : ByteArray := prog_9_method_2_code
def yX7_firstValue : MethodName := ⟨RX7, "firstValue", "(I)I"⟩
abbrev cX7_isText : ByteArray := prog_9_method_3_code
def yX7_isText : MethodName := ⟨RX7, "isText", "()Z"⟩
abbrev cX7_holdsLines : ByteArray := prog_9_method_4_code
def yX7_holdsLines : MethodName := ⟨RX7, "holdsLines", "()Z"⟩
abbrev cX7_flatEdges : ByteArray := prog_9_method_5_code
def yX7_flatEdges : MethodName := ⟨RX7, "flatEdges", "()I"⟩
abbrev cX7_uprightEdges : ByteArray := prog_9_method_6_code
def yX7_uprightEdges : MethodName := ⟨RX7, "uprightEdges", "()I"⟩
abbrev cX7_flatRim : ByteArray := prog_9_method_7_code
def yX7_flatRim : MethodName := ⟨RX7, "flatRim", "()I"⟩
abbrev cX7_uprightRim : ByteArray := prog_9_method_8_code
def yX7_uprightRim : MethodName := ⟨RX7, "uprightRim", "()I"⟩
abbrev cX7_countChildren : ByteArray := prog_9_method_9_code
def yX7_countChildren : MethodName := ⟨RX7, "countChildren", "()I"⟩
abbrev cX7_putIn : ByteArray := prog_9_method_10_code
def yX7_putIn : MethodName := ⟨RX7, "putIn", "(LFlowBoxes$Node;I)V"⟩
abbrev cX7_onward : ByteArray := prog_9_method_12_code
def yX7_onward : MethodName := ⟨RX7, "onward", "(LFlowBoxes$Node;LFlowBoxes$Node;Z)LFlowBoxes$Node;"⟩
abbrev cX7_onwardInRun : ByteArray := prog_9_method_13_code
def yX7_onwardInRun : MethodName := ⟨RX7, "onwardInRun", "(LFlowBoxes$Node;LFlowBoxes$Node;)LFlowBoxes$Node;"⟩
abbrev cX7_endOfRun : ByteArray := prog_9_method_14_code
def yX7_endOfRun : MethodName := ⟨RX7, "endOfRun", "(LFlowBoxes$Node;)LFlowBoxes$Node;"⟩
abbrev cX7_mayStandInRun : ByteArray := prog_9_method_15_code
def yX7_mayStandInRun : MethodName := ⟨RX7, "mayStandInRun", "()Z"⟩
abbrev cX7_isStack : ByteArray := prog_9_method_16_code
def yX7_isStack : MethodName := ⟨RX7, "isStack", "()Z"⟩
abbrev cX7_assignRoles : ByteArray := prog_9_method_17_code
def yX7_assignRoles : MethodName := ⟨RX7, "assignRoles", "(LFlowBoxes$Node;)V"⟩
abbrev cX7_assignRole : ByteArray := prog_9_method_18_code
def yX7_assignRole : MethodName := ⟨RX7, "assignRole", "()V"⟩
abbrev cX7_findKind : ByteArray := prog_9_method_19_code
def yX7_findKind : MethodName := ⟨RX7, "findKind", "()LFlowBoxes$Kind;"⟩
abbrev cX7_countsFor : ByteArray := prog_9_method_20_code
def yX7_countsFor : MethodName := ⟨RX7, "countsFor", "(I)Z"⟩
abbrev cX7_isInColumns : ByteArray := prog_9_method_21_code
def yX7_isInColumns : MethodName := ⟨RX7, "isInColumns", "()Z"⟩
abbrev cX7_countScrollsAround : ByteArray := prog_9_method_22_code
def yX7_countScrollsAround : MethodName := ⟨RX7, "countScrollsAround", "()I"⟩
def RX8 : String := "FlowBoxes$Painter"
def TX8 : u_T := fun k => match k with
  | 0 => ("FlowBoxes$Painter", "order", "[LFlowBoxes$Node;", true)
  | _ => ("FlowBoxes$Painter", "count", "I", false)
def tyX8 : Nat → FieldType := fun k => match k with
  | 0 => .array (.object "FlowBoxes$Node")
  | _ => .int
abbrev wsX80 : List Cond := u_ws RX8 TX8 2
theorem nmX8 : ∀ a, a < 2 → ∀ b, b < 2 → a ≠ b → (TX8 a).2.1 ≠ (TX8 b).2.1 := by decide +kernel
theorem tyX8_ok : ∀ k, k < 2 → parseFieldDescriptor (TX8 k).2.2.1 = some (tyX8 k) := by decide +kernel
abbrev cX8_init : ByteArray := prog_10_method_1_code
def yX8_init : MethodName := ⟨RX8, "<init>", "()V"⟩
abbrev cX8_arrange : ByteArray := prog_10_method_3_code
def yX8_arrange : MethodName := ⟨RX8, "arrange", "(LFlowBoxes$Node;)V"⟩
abbrev cX8_add : ByteArray := prog_10_method_4_code
def yX8_add : MethodName := ⟨RX8, "add", "(LFlowBoxes$Node;)V"⟩
abbrev cX8_paintStack : ByteArray := prog_10_method_5_code
def yX8_paintStack : MethodName := ⟨RX8, "paintStack", "(LFlowBoxes$Node;)V"⟩
abbrev cX8_paintStacksIn : ByteArray := prog_10_method_6_code
def yX8_paintStacksIn : MethodName := ⟨RX8, "paintStacksIn", "(LFlowBoxes$Node;I)V"⟩
abbrev cX8_paintInside : ByteArray := prog_10_method_7_code
def yX8_paintInside : MethodName := ⟨RX8, "paintInside", "(LFlowBoxes$Node;)V"⟩
abbrev cX8_stepOf : ByteArray := prog_10_method_8_code
def yX8_stepOf : MethodName := ⟨RX8, "stepOf", "(LFlowBoxes$Node;)I"⟩
def RX9 : String := "FlowBoxes$Place"
def TX9 : u_T := fun k => match k with
  | 0 => ("FlowBoxes$Place", "left", "I", false)
  | 1 => ("FlowBoxes$Place", "top", "I", false)
  | 2 => ("FlowBoxes$Place", "wide", "I", false)
  | 3 => ("FlowBoxes$Place", "high", "I", false)
  | 4 => ("FlowBoxes$Place", "known", "I", false)
  | 5 => ("FlowBoxes$Place", "rootX", "I", false)
  | 6 => ("FlowBoxes$Place", "rootY", "I", false)
  | 7 => ("FlowBoxes$Place", "baseX", "I", false)
  | 8 => ("FlowBoxes$Place", "baseY", "I", false)
  | 9 => ("FlowBoxes$Place", "held", "Z", false)
  | 10 => ("FlowBoxes$Place", "waitingAround", "LFlowBoxes$Place;", false)
  | 11 => ("FlowBoxes$Place", "firstLine", "LFlowBoxes$Line;", false)
  | 12 => ("FlowBoxes$Place", "lastLine", "LFlowBoxes$Line;", false)
  | 13 => ("FlowBoxes$Place", "floated", "LFlowBoxes$Floated;", true)
  | 14 => ("FlowBoxes$Place", "pieces", "[LFlowBoxes$Thing;", true)
  | 15 => ("FlowBoxes$Place", "laidAt", "I", false)
  | 16 => ("FlowBoxes$Place", "toldWidth", "I", false)
  | 17 => ("FlowBoxes$Place", "toldHeight", "I", false)
  | 18 => ("FlowBoxes$Place", "laidHigh", "I", false)
  | _ => ("FlowBoxes$Place", "bars", "I", false)
def tyX9 : Nat → FieldType := fun k => match k with
  | 0 => .int
  | 1 => .int
  | 2 => .int
  | 3 => .int
  | 4 => .int
  | 5 => .int
  | 6 => .int
  | 7 => .int
  | 8 => .int
  | 9 => .boolean
  | 10 => .object "FlowBoxes$Place"
  | 11 => .object "FlowBoxes$Line"
  | 12 => .object "FlowBoxes$Line"
  | 13 => .object "FlowBoxes$Floated"
  | 14 => .array (.object "FlowBoxes$Thing")
  | 15 => .int
  | 16 => .int
  | 17 => .int
  | 18 => .int
  | _ => .int
abbrev wsX90 : List Cond := u_ws RX9 TX9 20
theorem nmX9 : ∀ a, a < 20 → ∀ b, b < 20 → a ≠ b → (TX9 a).2.1 ≠ (TX9 b).2.1 := by decide +kernel
theorem tyX9_ok : ∀ k, k < 20 → parseFieldDescriptor (TX9 k).2.2.1 = some (tyX9 k) := by decide +kernel
abbrev cX9_init : ByteArray := prog_11_method_1_code
def yX9_init : MethodName := ⟨RX9, "<init>", "(I)V"⟩
abbrev cX9_pieceAt : ByteArray := prog_11_method_2_code
def yX9_pieceAt : MethodName := ⟨RX9, "pieceAt", "(I)LFlowBoxes$Thing;"⟩
def RX10 : String := "FlowBoxes$Strip"
def TX10 : u_T := fun k => match k with
  | 0 => ("FlowBoxes$Strip", "tops", "[I", true)
  | 1 => ("FlowBoxes$Strip", "lows", "[I", true)
  | 2 => ("FlowBoxes$Strip", "items", "I", false)
  | 3 => ("FlowBoxes$Strip", "breaks", "[I", true)
  | 4 => ("FlowBoxes$Strip", "breakCount", "I", false)
  | 5 => ("FlowBoxes$Strip", "begins", "[I", true)
  | _ => ("FlowBoxes$Strip", "columns", "I", false)
def tyX10 : Nat → FieldType := fun k => match k with
  | 0 => .array .int
  | 1 => .array .int
  | 2 => .int
  | 3 => .array .int
  | 4 => .int
  | 5 => .array .int
  | _ => .int
abbrev wsX100 : List Cond := u_ws RX10 TX10 7
theorem nmX10 : ∀ a, a < 7 → ∀ b, b < 7 → a ≠ b → (TX10 a).2.1 ≠ (TX10 b).2.1 := by decide +kernel
theorem tyX10_ok : ∀ k, k < 7 → parseFieldDescriptor (TX10 k).2.2.1 = some (tyX10 k) := by decide +kernel
abbrev cX10_init : ByteArray := prog_12_method_1_code
def yX10_init : MethodName := ⟨RX10, "<init>", "()V"⟩
abbrev cX10_add : ByteArray := prog_12_method_2_code
def yX10_add : MethodName := ⟨RX10, "add", "(II)V"⟩
abbrev cX10_addPlace : ByteArray := prog_12_method_3_code
def yX10_addPlace : MethodName := ⟨RX10, "addPlace", "(II)V"⟩
abbrev cX10_findBreaks : ByteArray := prog_12_method_4_code
def yX10_findBreaks : MethodName := ⟨RX10, "findBreaks", "(I)V"⟩
abbrev cX10_keepWholeItems : ByteArray := prog_12_method_5_code
def yX10_keepWholeItems : MethodName := ⟨RX10, "keepWholeItems", "()V"⟩
abbrev cX10_split : ByteArray := prog_12_method_6_code
def yX10_split : MethodName := ⟨RX10, "split", "(I)I"⟩
abbrev cX10_leastHeight : ByteArray := prog_12_method_7_code
def yX10_leastHeight : MethodName := ⟨RX10, "leastHeight", "(I)I"⟩
abbrev cX10_columnAt : ByteArray := prog_12_method_8_code
def yX10_columnAt : MethodName := ⟨RX10, "columnAt", "(I)I"⟩
abbrev cX10_beginOf : ByteArray := prog_12_method_9_code
def yX10_beginOf : MethodName := ⟨RX10, "beginOf", "(I)I"⟩
def RX11 : String := "FlowBoxes$Thing"
def TX11 : u_T := fun k => match k with
  | 0 => ("FlowBoxes$Thing", "line", "LFlowBoxes$Line;", false)
  | 1 => ("FlowBoxes$Thing", "offset", "I", false)
  | 2 => ("FlowBoxes$Thing", "length", "I", false)
  | 3 => ("FlowBoxes$Thing", "ascent", "I", false)
  | _ => ("FlowBoxes$Thing", "descent", "I", false)
def tyX11 : Nat → FieldType := fun k => match k with
  | 0 => .object "FlowBoxes$Line"
  | 1 => .int
  | 2 => .int
  | 3 => .int
  | _ => .int
abbrev wsX110 : List Cond := u_ws RX11 TX11 5
theorem nmX11 : ∀ a, a < 5 → ∀ b, b < 5 → a ≠ b → (TX11 a).2.1 ≠ (TX11 b).2.1 := by decide +kernel
theorem tyX11_ok : ∀ k, k < 5 → parseFieldDescriptor (TX11 k).2.2.1 = some (tyX11 k) := by decide +kernel
abbrev cX11_init : ByteArray := prog_13_method_1_code
def yX11_init : MethodName := ⟨RX11, "<init>", "()V"⟩
abbrev cX11_leftSide : ByteArray := prog_13_method_2_code
def yX11_leftSide : MethodName := ⟨RX11, "leftSide", "()I"⟩
abbrev cX11_topSide : ByteArray := prog_13_method_3_code
def yX11_topSide : MethodName := ⟨RX11, "topSide", "()I"⟩
def RX12 : String := "FlowBoxes"
def TX12 : u_T := fun k => match k with
  | 0 => ("FlowBoxes", "nodes", "[LFlowBoxes$Node;", true)
  | 1 => ("FlowBoxes", "root", "LFlowBoxes$Node;", true)
  | 2 => ("FlowBoxes", "kept", "LFlowBoxes$Layout;", true)
  | 3 => ("FlowBoxes", "fresh", "LFlowBoxes$Layout;", true)
  | 4 => ("FlowBoxes", "painter", "LFlowBoxes$Painter;", true)
  | 5 => ("FlowBoxes", "made", "I", false)
  | 6 => ("FlowBoxes", "pageWidth", "I", false)
  | 7 => ("FlowBoxes", "turn", "I", false)
  | 8 => ("FlowBoxes", "workDone", "I", false)
  | _ => ("FlowBoxes", "latestWork", "I", false)
def tyX12 : Nat → FieldType := fun k => match k with
  | 0 => .array (.object "FlowBoxes$Node")
  | 1 => .object "FlowBoxes$Node"
  | 2 => .object "FlowBoxes$Layout"
  | 3 => .object "FlowBoxes$Layout"
  | 4 => .object "FlowBoxes$Painter"
  | 5 => .int
  | 6 => .int
  | 7 => .int
  | 8 => .int
  | _ => .int
abbrev wsX120 : List Cond := u_ws RX12 TX12 10
theorem nmX12 : ∀ a, a < 10 → ∀ b, b < 10 → a ≠ b → (TX12 a).2.1 ≠ (TX12 b).2.1 := by decide +kernel
theorem tyX12_ok : ∀ k, k < 10 → parseFieldDescriptor (TX12 k).2.2.1 = some (tyX12 k) := by decide +kernel
abbrev cX12_init : ByteArray := prog_1_method_1_code
def yX12_init : MethodName := ⟨RX12, "<init>", "()V"⟩
abbrev cX12_box : ByteArray := prog_1_method_2_code
def yX12_box : MethodName := ⟨RX12, "box", "(II)I"⟩
abbrev cX12_text : ByteArray := prog_1_method_3_code
def yX12_text : MethodName := ⟨RX12, "text", "(III)I"⟩
abbrev cX12_word : ByteArray := prog_1_method_4_code
def yX12_word : MethodName := ⟨RX12, "word", "(III)I"⟩
abbrev cX12_children : ByteArray := prog_1_method_7_code
def yX12_children : MethodName := ⟨RX12, "children", "(I)I"⟩
abbrev cX12_style : ByteArray := prog_1_method_8_code
def yX12_style : MethodName := ⟨RX12, "style", "(III)I"⟩
abbrev cX12_page : ByteArray := prog_1_method_9_code
def yX12_page : MethodName := ⟨RX12, "page", "(I)I"⟩
abbrev cX12_x : ByteArray := prog_1_method_10_code
def yX12_x : MethodName := ⟨RX12, "x", "(I)I"⟩
abbrev cX12_y : ByteArray := prog_1_method_11_code
def yX12_y : MethodName := ⟨RX12, "y", "(I)I"⟩
abbrev cX12_width : ByteArray := prog_1_method_12_code
def yX12_width : MethodName := ⟨RX12, "width", "(I)I"⟩
abbrev cX12_height : ByteArray := prog_1_method_13_code
def yX12_height : MethodName := ⟨RX12, "height", "(I)I"⟩
abbrev cX12_fromNothing : ByteArray := prog_1_method_14_code
def yX12_fromNothing : MethodName := ⟨RX12, "fromNothing", "(II)I"⟩
abbrev cX12_bars : ByteArray := prog_1_method_17_code
def yX12_bars : MethodName := ⟨RX12, "bars", "(I)I"⟩
abbrev cX12_lines : ByteArray := prog_1_method_18_code
def yX12_lines : MethodName := ⟨RX12, "lines", "(I)I"⟩
abbrev cX12_line : ByteArray := prog_1_method_19_code
def yX12_line : MethodName := ⟨RX12, "line", "(III)I"⟩
abbrev cX12_painted : ByteArray := prog_1_method_21_code
def yX12_painted : MethodName := ⟨RX12, "painted", "()I"⟩
abbrev cX12_nodeAt : ByteArray := prog_1_method_26_code
def yX12_nodeAt : MethodName := ⟨RX12, "nodeAt", "(I)LFlowBoxes$Node;"⟩
abbrev cX12_boxAt : ByteArray := prog_1_method_27_code
def yX12_boxAt : MethodName := ⟨RX12, "boxAt", "(I)LFlowBoxes$Node;"⟩
abbrev cX12_textAt : ByteArray := prog_1_method_28_code
def yX12_textAt : MethodName := ⟨RX12, "textAt", "(I)LFlowBoxes$Node;"⟩
abbrev cX12_placedAt : ByteArray := prog_1_method_29_code
def yX12_placedAt : MethodName := ⟨RX12, "placedAt", "(I)LFlowBoxes$Node;"⟩
abbrev cX12_lineAt : ByteArray := prog_1_method_31_code
def yX12_lineAt : MethodName := ⟨RX12, "lineAt", "(LFlowBoxes$Node;I)LFlowBoxes$Line;"⟩
abbrev cX12_hasRoom : ByteArray := prog_1_method_32_code
def yX12_hasRoom : MethodName := ⟨RX12, "hasRoom", "(LFlowBoxes$Node;)Z"⟩
abbrev cX12_insertNode : ByteArray := prog_1_method_33_code
def yX12_insertNode : MethodName := ⟨RX12, "insertNode", "(LFlowBoxes$Node;II)I"⟩
abbrev cX12_allows : ByteArray := prog_1_method_34_code
def yX12_allows : MethodName := ⟨RX12, "allows", "(II)Z"⟩
abbrev cX12_isPercentage : ByteArray := prog_1_method_35_code
def yX12_isPercentage : MethodName := ⟨RX12, "isPercentage", "(I)Z"⟩
abbrev cX12_reachesInside : ByteArray := prog_1_method_36_code
def yX12_reachesInside : MethodName := ⟨RX12, "reachesInside", "(I)Z"⟩
abbrev cX12_noteChange : ByteArray := prog_1_method_37_code
def yX12_noteChange : MethodName := ⟨RX12, "noteChange", "(LFlowBoxes$Node;)V"⟩
abbrev cX12_noteChangeInside : ByteArray := prog_1_method_38_code
def yX12_noteChangeInside : MethodName := ⟨RX12, "noteChangeInside", "(LFlowBoxes$Node;)V"⟩
abbrev cX12_layAgain : ByteArray := prog_1_method_39_code
def yX12_layAgain : MethodName := ⟨RX12, "layAgain", "()V"⟩
abbrev cX12_sideOf : ByteArray := prog_1_method_40_code
def yX12_sideOf : MethodName := ⟨RX12, "sideOf", "(LFlowBoxes$Node;ILFlowBoxes$Layout;)I"⟩
abbrev cX12_pieceSide : ByteArray := prog_1_method_41_code
def yX12_pieceSide : MethodName := ⟨RX12, "pieceSide", "(LFlowBoxes$Node;IILFlowBoxes$Layout;)I"⟩
def RX13 : String := "FlowBoxesModel$Flow"
def TX13 : u_T := fun k => match k with
  | _ => ("", "", "", false)
def tyX13 : Nat → FieldType := fun k => match k with
  | _ => .int
abbrev wsX130 : List Cond := u_ws RX13 TX13 0
theorem nmX13 : ∀ a, a < 0 → ∀ b, b < 0 → a ≠ b → (TX13 a).2.1 ≠ (TX13 b).2.1 := by decide +kernel
theorem tyX13_ok : ∀ k, k < 0 → parseFieldDescriptor (TX13 k).2.2.1 = some (tyX13 k) := by decide +kernel
def RX14 : String := "FlowBoxesModel$Lines"
def TX14 : u_T := fun k => match k with
  | _ => ("", "", "", false)
def tyX14 : Nat → FieldType := fun k => match k with
  | _ => .int
abbrev wsX140 : List Cond := u_ws RX14 TX14 0
theorem nmX14 : ∀ a, a < 0 → ∀ b, b < 0 → a ≠ b → (TX14 a).2.1 ≠ (TX14 b).2.1 := by decide +kernel
theorem tyX14_ok : ∀ k, k < 0 → parseFieldDescriptor (TX14 k).2.2.1 = some (tyX14 k) := by decide +kernel
def RX15 : String := "FlowBoxesModel"
def TX15 : u_T := fun k => match k with
  | _ => ("", "", "", false)
def tyX15 : Nat → FieldType := fun k => match k with
  | _ => .int
abbrev wsX150 : List Cond := u_ws RX15 TX15 0
theorem nmX15 : ∀ a, a < 0 → ∀ b, b < 0 → a ≠ b → (TX15 a).2.1 ≠ (TX15 b).2.1 := by decide +kernel
theorem tyX15_ok : ∀ k, k < 0 → parseFieldDescriptor (TX15 k).2.2.1 = some (tyX15 k) := by decide +kernel
def RJx29ce0 : String := "java/lang/Enum"
abbrev cJx29ce0_ordinal_8abf5 : ByteArray := prog_18_method_2_code
def yJx29ce0_ordinal_8abf5 : MethodName := ⟨RJx29ce0, "ordinal", "()I"⟩
def RL : String := "FlowBoxesLaw"
abbrev cL_cell : ByteArray := method_2_code
def yL_cell : MethodName := ⟨RL, "cell", "([II)I"⟩
abbrev cL_low : ByteArray := method_3_code
def yL_low : MethodName := ⟨RL, "low", "(II)I"⟩
abbrev cL_pends : ByteArray := method_4_code
def yL_pends : MethodName := ⟨RL, "pends", "(I[I)V"⟩
abbrev cL_ends : ByteArray := method_5_code
def yL_ends : MethodName := ⟨RL, "ends", "([I[I)V"⟩
abbrev cL_next : ByteArray := method_6_code
def yL_next : MethodName := ⟨RL, "next", "(II[I[I)I"⟩
abbrev cL_known : ByteArray := method_7_code
def yL_known : MethodName := ⟨RL, "known", "(I[I[I[I)I"⟩
abbrev cL_inside : ByteArray := method_8_code
def yL_inside : MethodName := ⟨RL, "inside", "(I[I[I)I"⟩
abbrev cL_enters : ByteArray := method_9_code
def yL_enters : MethodName := ⟨RL, "enters", "(I[I[I[I[I[I[I[I)V"⟩
abbrev cL_leaves : ByteArray := method_10_code
def yL_leaves : MethodName := ⟨RL, "leaves", "(I[I[I[I[I[I)V"⟩
abbrev cL_shuts : ByteArray := method_11_code
def yL_shuts : MethodName := ⟨RL, "shuts", "(IIII[I[I)V"⟩
abbrev cL_runs : ByteArray := method_12_code
def yL_runs : MethodName := ⟨RL, "runs", "(II[I[I[I[I[I[I)I"⟩
abbrev cL_lays : ByteArray := method_13_code
def yL_lays : MethodName := ⟨RL, "lays", "([I[I[I[I[I[I[I[I[I)V"⟩
abbrev cL_same : ByteArray := method_14_code
def yL_same : MethodName := ⟨RL, "same", "(LFlowBoxes;[I[I[I[I[I)Z"⟩
abbrev cL_makes : ByteArray := method_15_code
def yL_makes : MethodName := ⟨RL, "makes", "(LFlowBoxes;I[I[I[I[I)Z"⟩
abbrev cL_styles : ByteArray := method_16_code
def yL_styles : MethodName := ⟨RL, "styles", "(LFlowBoxes;I[I[I[I[I[I)Z"⟩
abbrev cL_law : ByteArray := code
def yL_law : MethodName := ⟨RL, "law", "([I)Z"⟩
end
section
/-! THE STORE: what lies in the heap, by kind of cell, field and address; a method's walk (Wp) and contract (Ct) over it. -/
abbrev Sto : Type := (Nat → Nat × Nat) × (Nat → Nat → Int32) × (Nat → Nat → Option Nat) × (Nat → Nat → Int32) × (Nat → Nat → Option Nat)
/-- the kind of the cell a: 0 none; 1 to 10 an object; 20 int[]; 21 to 23 an array of references; 25 an int[] that is only read; 30 a constant of Kind; and its length (or number) -/
def zT (σ : Sto) (a : Nat) : Nat × Nat := σ.1 a
def zI (σ : Sto) (f a : Nat) : Int32 := σ.2.1 f a
def zR (σ : Sto) (f a : Nat) : Option Nat := σ.2.2.1 f a
def zA (σ : Sto) (a i : Nat) : Int32 := σ.2.2.2.1 a i
def zQ (σ : Sto) (a i : Nat) : Option Nat := σ.2.2.2.2 a i
def wI (σ : Sto) (f a : Nat) (x : Int32) : Sto := (σ.1, fun f' a' => if f' = f ∧ a' = a then x else σ.2.1 f' a', σ.2.2)
def wR (σ : Sto) (f a : Nat) (x : Option Nat) : Sto := (σ.1, σ.2.1, fun f' a' => if f' = f ∧ a' = a then x else σ.2.2.1 f' a', σ.2.2.2)
def wA (σ : Sto) (a i : Nat) (x : Int32) : Sto := (σ.1, σ.2.1, σ.2.2.1, fun a' i' => if a' = a ∧ i' = i then x else σ.2.2.2.1 a' i', σ.2.2.2.2)
def wQ (σ : Sto) (a i : Nat) (x : Option Nat) : Sto := (σ.1, σ.2.1, σ.2.2.1, σ.2.2.2.1, fun a' i' => if a' = a ∧ i' = i then x else σ.2.2.2.2 a' i')
def wT (σ : Sto) (a : Nat) (t : Nat × Nat) : Sto := (fun a' => if a' = a then t else σ.1 a', σ.2)
theorem zT_wI {σ f a x b} : zT (wI σ f a x) b = zT σ b := rfl
theorem zT_wR {σ f a x b} : zT (wR σ f a x) b = zT σ b := rfl
theorem zT_wA {σ f a x b} : zT (wA σ f a x) b = zT σ b := rfl
theorem zT_wQ {σ f a x b} : zT (wQ σ f a x) b = zT σ b := rfl
theorem zT_wT {σ a t b} : zT (wT σ a t) b = if b = a then t else zT σ b := rfl
theorem zI_wI {σ f a x g b} : zI (wI σ f a x) g b = if g = f ∧ b = a then x else zI σ g b := rfl
theorem zI_wR {σ f a x g b} : zI (wR σ f a x) g b = zI σ g b := rfl
theorem zI_wA {σ f a x g b} : zI (wA σ f a x) g b = zI σ g b := rfl
theorem zI_wQ {σ f a x g b} : zI (wQ σ f a x) g b = zI σ g b := rfl
theorem zI_wT {σ a t g b} : zI (wT σ a t) g b = zI σ g b := rfl
theorem zR_wI {σ f a x g b} : zR (wI σ f a x) g b = zR σ g b := rfl
theorem zR_wR {σ f a x g b} : zR (wR σ f a x) g b = if g = f ∧ b = a then x else zR σ g b := rfl
theorem zR_wA {σ f a x g b} : zR (wA σ f a x) g b = zR σ g b := rfl
theorem zR_wQ {σ f a x g b} : zR (wQ σ f a x) g b = zR σ g b := rfl
theorem zR_wT {σ a t g b} : zR (wT σ a t) g b = zR σ g b := rfl
theorem zA_wI {σ f a x b i} : zA (wI σ f a x) b i = zA σ b i := rfl
theorem zA_wR {σ f a x b i} : zA (wR σ f a x) b i = zA σ b i := rfl
theorem zA_wA {σ a j x b i} : zA (wA σ a j x) b i = if b = a ∧ i = j then x else zA σ b i := rfl
theorem zA_wQ {σ a j x b i} : zA (wQ σ a j x) b i = zA σ b i := rfl
theorem zA_wT {σ a t b i} : zA (wT σ a t) b i = zA σ b i := rfl
theorem zQ_wI {σ f a x b i} : zQ (wI σ f a x) b i = zQ σ b i := rfl
theorem zQ_wR {σ f a x b i} : zQ (wR σ f a x) b i = zQ σ b i := rfl
theorem zQ_wA {σ a j x b i} : zQ (wA σ a j x) b i = zQ σ b i := rfl
theorem zQ_wQ {σ a j x b i} : zQ (wQ σ a j x) b i = if b = a ∧ i = j then x else zQ σ b i := rfl
theorem zQ_wT {σ a t b i} : zQ (wT σ a t) b i = zQ σ b i := rfl
/-- the classes whose objects lie in the store; the kind of an object is its place here and 1 -/
def zcl : List vw_C := [(RX1, TX1, 7), (RX2, TX2, 20), (RX4, TX4, 6), (RX5, TX5, 6), (RX7, TX7, 20), (RX8, TX8, 2), (RX9, TX9, 20), (RX10, TX10, 7), (RX11, TX11, 5), (RX12, TX12, 10)]
/-- is the field 100 * kind + slot one of references? -/
def zref (f : Nat) : Bool := match zcl[f / 100 - 1]? with
  | some r => match parseFieldDescriptor (r.2.1 (f % 100)).2.2.1 with
    | some .int => false
    | some .boolean => false
    | _ => true
  | none => false
def zval (b : Bool) (σ : Sto) (f a : Nat) : Value := match b with
  | true => va_rf (zR σ f a)
  | false => .int (zI σ f a)
def zV (σ : Sto) (c a k : Nat) : Value := zval (zref (100 * c + k)) σ (100 * c + k) a
/-- fixed for a whole script: the tables' numbers; the first address that is the script's run's own; the constants of Kind; the switch's array; the classes of arrays -/
abbrev Gb : Type := va_G × Nat × (Nat → Nat) × Nat × (Nat → ClassId)
def gP (G : Gb) : Nat → Prop := fun q => G.2.1 ≤ q
def gwl : List Cond := lw_tbl.filter goodWord
def isNW (w : Cond) : Bool := match w with
  | .fieldLinkNest .. => true
  | .methodLinkNest .. => true
  | _ => false
def gnl : List Cond := lw_tbl.filter isNW
def ztys (G : Gb) : List (ClassId × FieldType) := [(G.2.2.2.2 0, .int), (G.2.2.2.2 1, .object "FlowBoxes$Node"), (G.2.2.2.2 2, .object "FlowBoxes$Flow"), (G.2.2.2.2 3, .object "FlowBoxes$Thing")]
def znm : List String := ["BLOCK", "SPAN", "INLINE", "ROW", "CELL", "FLOATING", "ABSOLUTE", "TEXT", "OUT"]
def zen : List (String × String × String × List Int32) := [("java/lang/Enum", "ordinal", "I", [0, 1, 2, 3, 4, 5, 6, 7, 8])]
/-- what the tables and the statics give, in any state of the run -/
def zK (G : Gb) (U : State) (H : Heap) : Prop :=
  va_K G.1 zcl (ztys G) U ∧ (∀ w ∈ gnl, va_Nw w U) ∧ (va_AO "FlowBoxes$Node" U ∧ va_AO "FlowBoxes$Flow" U ∧ va_AO "FlowBoxes$Thing" U) ∧
  va_En RX3 "LFlowBoxes$Kind;" znm zen G.2.2.1 (gP G) U H ∧ va_Z RX0 "$SwitchMap$FlowBoxes$Kind" "[I" (.ref G.2.2.2.1) (gP G) U H ∧ G.2.1 ≤ H.size
def zP0 (σ : Sto) : Prop := ∀ a, (zT σ a).1 = 0 → (∀ f, zI σ f a = 0 ∧ zR σ f a = none) ∧ (∀ i, zA σ a i = 0 ∧ zQ σ a i = none)
def zP1 (G : Gb) (σ : Sto) (H : Heap) : Prop := ∀ a c n, zT σ a = (c + 1, n) → c < 10 → G.2.1 ≤ a ∧ ∃ r : vw_C, zcl[c]? = some r ∧ t_OB a (G.1.1 c) r.2.2 (G.1.2 c) H (zV σ (c + 1) a)
def zP2 (G : Gb) (σ : Sto) (H : Heap) : Prop := ∀ a n, zT σ a = (20, n) → G.2.1 ≤ a ∧ H[a]? = some (arrV (G.2.2.2.2 0) n (fun j => .int (zA σ a j)))
def zP3 (G : Gb) (σ : Sto) (H : Heap) : Prop := ∀ a j n, zT σ a = (21 + j, n) → j < 3 → G.2.1 ≤ a ∧ H[a]? = some (arrV (G.2.2.2.2 (j + 1)) n (fun i => va_rf (zQ σ a i)))
def zP4 (G : Gb) (σ : Sto) (U : State) (H : Heap) : Prop := ∀ a n, zT σ a = (25, n) → a < G.2.1 ∧ va_X a n (fun j => zA σ a j) U H
def zP5 (G : Gb) (σ : Sto) : Prop := ∀ a n, zT σ a = (30, n) → n < 9 ∧ a = G.2.2.1 n
def zP6 (σ : Sto) (H : Heap) : Prop := ∀ a, (zT σ a).1 ≠ 0 → a < H.size
/-- the heap holds the store -/
def zP (G : Gb) (σ : Sto) (U : State) (H : Heap) : Prop := zP0 σ ∧ zP1 G σ H ∧ zP2 G σ H ∧ zP3 G σ H ∧ zP4 G σ U H ∧ zP5 G σ ∧ zP6 σ H
theorem zK.warm {G : Gb} {u U : State} {H : Heap} (hW : u.WarmedH U.vm) (h : zK G u H) : zK G U H := by
  obtain ⟨h1, h2, h3, h4, h5, h6⟩ := h
  refine ⟨va_K.moved hW.alike h1, fun w hw => ?_, ⟨h3.1.moved hW.alike, h3.2.1.moved hW.alike, h3.2.2.moved hW.alike⟩, va_En.moved hW.alike h4, va_Z.moved hW.alike h5, h6⟩
  have hn := (List.mem_filter.mp hw).2
  cases w <;> first | exact va_Nw.warmF hW (h2 _ hw) | exact va_Nw.warmM hW (h2 _ hw) | exact absurd hn (by simp [isNW])
theorem zK.kept {G : Gb} {U : State} {H H1 : Heap} (h : zK G U H) (hz : H.size ≤ H1.size) (hq : ∀ a : Nat, a < H.size → ¬ gP G a → H1[a]? = H[a]?) : zK G U H1 := by
  obtain ⟨h1, h2, h3, h4, h5, h6⟩ := h
  exact ⟨h1, h2, h3, va_En.kept h4 hq, va_Z.kept h5 hq, Nat.le_trans h6 hz⟩
theorem zK.same {G : Gb} {u U : State} {H : Heap} (e : u.vm = U.vm) (h : zK G u H) : zK G U H := by
  obtain ⟨h1, h2, h3, h4, h5, h6⟩ := h
  have hv : u.vm.Alike U.vm := by rw [e]; exact Vm.Alike.refl _
  refine ⟨va_K.moved hv h1, fun w hw => ?_, ⟨h3.1.moved hv, h3.2.1.moved hv, h3.2.2.moved hv⟩, va_En.moved hv h4, va_Z.moved hv h5, h6⟩
  have hn := (List.mem_filter.mp hw).2
  cases w <;> first | (exfalso; simp [isNW] at hn; done) | exact va_Nw.same rfl e (h2 _ hw)
theorem zP.moved {G : Gb} {σ : Sto} {u U : State} {H : Heap} (hvm : u.vm.Alike U.vm) (h : zP G σ u H) : zP G σ U H := by
  obtain ⟨h0, h1, h2, h3, h4, h5, h6⟩ := h
  exact ⟨h0, h1, h2, h3, fun a n e => ⟨(h4 a n e).1, va_X.moved hvm (h4 a n e).2⟩, h5, h6⟩
/-- a method's code: its class, bytes, locals, what it returns; is it a constructor -/
abbrev Mth : Type := String × ByteArray × Nat × Option FieldType × Bool
/-- how a method ends -/
def zQC (G : Gb) (Q : Option Value → Sto → Prop) : Array Value → State → Outcome → State → Prop := fun _ st o t =>
  (∃ v σ', o = .returned v ∧ Q v σ' ∧ zP G σ' t t.heap) ∧ va_F (gP G) st t
def zCX (M : Mth) (p : Program) (s : State) (m : MethodId) (args : Array Value) (meth : Method) (c : Code) : Prop :=
  p.tables.exec = Jvm.exec ∧ c.code = M.2.1 ∧ c.maxLocals = M.2.2.1 ∧ s.vm.findClass M.1 = some m.cls ∧ (∀ w ∈ gwl, w.before args s = true) ∧ meth.sig.returnType = M.2.2.2.1 ∧ meth.locks = false ∧ (M.2.2.2.2 = true → meth.name = "<init>")
/-- from here, with the store σ and at most mc cells of ms slots still to be made, d frames above: the method comes to its end, with Q -/
def Wp (l : Launch) (G : Gb) (d mc ms : Nat) (M : Mth) (pc : Nat) (lv : List (Nat × Value)) (st : List Value) (σ : Sto) (Q : Option Value → Sto → Prop) : Prop :=
  ∀ (p : Program) (e : Env) (R : Room) (s : State) (m : MethodId) (args : Array Value) (below : List Frame) (meth : Method) (c : Code) (H : Heap) (locs : List Loc) (cells slots k n : Nat) (ls : Array Slot),
    zCX M p s m args meth c → zK G s s.heap → va_S (gP G) s.heap H locs → zP G σ s H → lv_has ls M.2.2.1 lv →
    d ≤ R.frames → 40 * d ≤ R.locals → cells + mc ≤ k → slots + ms ≤ n → k ≤ R.cells → n ≤ R.slots →
    W p l e R s m args below meth c H locs cells slots (MQ below (zQC G Q) args s k n (gP G)) (F0 m pc ls st)
/-- a method's contract: called with av over the store σ it returns, with Q -/
def Ct (l : Launch) (G : Gb) (d mc ms : Nat) (y : MethodName) (M : Mth) (av : List Value) (σ : Sto) (Q : Option Value → Sto → Prop) : Prop :=
  Met l y (.code y M.2.1 M.2.2.1 M.2.2.2.1 :: gwl) { frames := d, cells := mc, slots := ms, locals := 40 * d } (va_Pc av (fun U => zK G U U.heap ∧ zP G σ U U.heap)) (zQC G Q) mc ms (gP G)
theorem Wp.mono {l G d mc ms M pc lv st σ} {Q Q2 : Option Value → Sto → Prop} {d2 mc2 ms2 : Nat} (h : Wp l G d mc ms M pc lv st σ Q) (hd : d ≤ d2) (h1 : mc ≤ mc2) (h2 : ms ≤ ms2) (hQ : ∀ v s, Q v s → Q2 v s) : Wp l G d2 mc2 ms2 M pc lv st σ Q2 := by
  intro p e R s m args below meth c H locs cells slots k n ls C K S P L r1 r2 r3 r4 r5 r6 T hT X
  obtain ⟨t, a, o, b1, b2, ⟨⟨v, s', e1, e2, e3⟩, hF⟩, b4⟩ := h p e R s m args below meth c H locs cells slots k n ls C K S P L (Nat.le_trans hd r1) (Nat.le_trans (Nat.mul_le_mul_left 40 hd) r2) (by omega) (by omega) r5 r6 T hT X
  exact ⟨t, a, o, b1, b2, ⟨⟨v, s', e1, hQ _ _ e2, e3⟩, hF⟩, b4⟩
theorem Ct.of {l G d mc ms} {y : MethodName} {M : Mth} {av : List Value} {σ Q} (hy : plainName y.cls = true) (hc : y.cls = M.1) (hn : (lg_sl av).length ≤ M.2.2.1) (hi : M.2.2.2.2 = true → y.name = "<init>")
    (h : Wp l G d mc ms M 0 (lv_args 0 av) [] σ Q) : Ct l G d mc ms y M av σ Q := by
  refine Met.ofW (cc := M.2.1) (maxL := M.2.2.1) (ret := M.2.2.2.1) hy rfl ?_
  intro p e s m args below meth c s₁ B hml hv
  obtain ⟨rfl, hK, hP⟩ := hv
  have hts := atoms_spec (ws := (.code y M.2.1 M.2.2.1 M.2.2.2.1 :: gwl)) B.pre
  have hown : s.vm.findClass y.cls = some m.cls := findClass_of_methodNamed B.named
  have hl := lv_entry av hn
  rw [lg_entry_eq]
  exact h p e _ s m _ below meth c s.heap [] 0 0 mc ms _ ⟨B.exec, B.bytes, hml, by rw [← hc]; exact hown, fun w hw => hts w (List.mem_cons_of_mem _ hw), B.returns, B.notSynchronized, fun q => (name_of_methodNamed B.named B.method).1.trans (hi q)⟩ hK va_S.rf hP hl (Nat.le_refl _) (Nat.le_refl _) (by omega) (by omega) (Nat.le_refl _) (Nat.le_refl _)
end
section
/-! ROWS: an instruction that leaves the heap as it is, over Wp (by wip/p27/gen_rows.py) -/
theorem zp_iconst {l G d mc ms M pc lv st σ Q} {z : Int} {v : Int32} (hd : decode M.2.1 pc = .ok (.iconst z, 1)) (hv : Int32.ofInt z = v) (kk : Wp l G d mc ms M (pc + 1) lv (.int v :: st) σ Q) : Wp l G d mc ms M pc lv (st) σ Q := by
  intro p e R s m args below meth c H locs cells slots k n ls C K S P L r1 r2 r3 r4 r5 r6
  exact lv_iconst C.1 C.2.1 hd hv (kk p e R s m args below meth c H locs cells slots k n ls C K S P L r1 r2 r3 r4 r5 r6)
theorem zp_bipush {l G d mc ms M pc lv st σ Q} {z : Int} {v : Int32} (hd : decode M.2.1 pc = .ok (.bipush z, 2)) (hv : (Int8.ofInt z).toInt32 = v) (kk : Wp l G d mc ms M (pc + 2) lv (.int v :: st) σ Q) : Wp l G d mc ms M pc lv (st) σ Q := by
  intro p e R s m args below meth c H locs cells slots k n ls C K S P L r1 r2 r3 r4 r5 r6
  exact lv_bipush C.1 C.2.1 hd hv (kk p e R s m args below meth c H locs cells slots k n ls C K S P L r1 r2 r3 r4 r5 r6)
theorem zp_sipush {l G d mc ms M pc lv st σ Q} {z : Int} {v : Int32} (hd : decode M.2.1 pc = .ok (.sipush z, 3)) (hv : (Int16.ofInt z).toInt32 = v) (kk : Wp l G d mc ms M (pc + 3) lv (.int v :: st) σ Q) : Wp l G d mc ms M pc lv (st) σ Q := by
  intro p e R s m args below meth c H locs cells slots k n ls C K S P L r1 r2 r3 r4 r5 r6
  exact lv_sipush C.1 C.2.1 hd hv (kk p e R s m args below meth c H locs cells slots k n ls C K S P L r1 r2 r3 r4 r5 r6)
theorem zp_null {l G d mc ms M pc lv st σ Q}  (hd : decode M.2.1 pc = .ok (.aconst_null, 1)) (kk : Wp l G d mc ms M (pc + 1) lv (.null :: st) σ Q) : Wp l G d mc ms M pc lv (st) σ Q := by
  intro p e R s m args below meth c H locs cells slots k n ls C K S P L r1 r2 r3 r4 r5 r6
  exact lv_null C.1 C.2.1 hd (kk p e R s m args below meth c H locs cells slots k n ls C K S P L r1 r2 r3 r4 r5 r6)
theorem zl_at {ls : Array Slot} {nL : Nat} {lv : List (Nat × Value)} {i : Nat} {v : Value} (h : lv_has ls nL lv) (hk : (i, v) ∈ lv) : ls[i]? = some (.val v) := h.2.2 (i, v) hk
theorem zp_iload_n {l G d mc ms M pc lv st σ Q} {k0 : Fin 4} {i : Nat} {x : Int32} (hd : decode M.2.1 pc = .ok (.iload_n k0, 1)) (hi : (k0 : Nat) = i) (hk : (i, Value.int x) ∈ lv) (kk : Wp l G d mc ms M (pc + 1) lv (.int x :: st) σ Q) : Wp l G d mc ms M pc lv st σ Q := by
  intro p e R s m args below meth c H locs cells slots k n ls C K S P L r1 r2 r3 r4 r5 r6
  exact lv_iload_n C.1 C.2.1 hd hi (zl_at L hk) (kk p e R s m args below meth c H locs cells slots k n ls C K S P L r1 r2 r3 r4 r5 r6)
theorem zp_iload {l G d mc ms M pc lv st σ Q} {i : Nat} {x : Int32} (hd : decode M.2.1 pc = .ok (.iload i, 2)) (hk : (i, Value.int x) ∈ lv) (kk : Wp l G d mc ms M (pc + 2) lv (.int x :: st) σ Q) : Wp l G d mc ms M pc lv st σ Q := by
  intro p e R s m args below meth c H locs cells slots k n ls C K S P L r1 r2 r3 r4 r5 r6
  exact lv_iload C.1 C.2.1 hd (zl_at L hk) (kk p e R s m args below meth c H locs cells slots k n ls C K S P L r1 r2 r3 r4 r5 r6)
theorem zp_aload_n {l G d mc ms M pc lv st σ Q} {k0 : Fin 4} {i : Nat} {a : Nat} (hd : decode M.2.1 pc = .ok (.aload_n k0, 1)) (hi : (k0 : Nat) = i) (hk : (i, Value.ref a) ∈ lv) (kk : Wp l G d mc ms M (pc + 1) lv (.ref a :: st) σ Q) : Wp l G d mc ms M pc lv st σ Q := by
  intro p e R s m args below meth c H locs cells slots k n ls C K S P L r1 r2 r3 r4 r5 r6
  exact lv_aload_n C.1 C.2.1 hd hi (zl_at L hk) (kk p e R s m args below meth c H locs cells slots k n ls C K S P L r1 r2 r3 r4 r5 r6)
theorem zp_aload {l G d mc ms M pc lv st σ Q} {i : Nat} {a : Nat} (hd : decode M.2.1 pc = .ok (.aload i, 2)) (hk : (i, Value.ref a) ∈ lv) (kk : Wp l G d mc ms M (pc + 2) lv (.ref a :: st) σ Q) : Wp l G d mc ms M pc lv st σ Q := by
  intro p e R s m args below meth c H locs cells slots k n ls C K S P L r1 r2 r3 r4 r5 r6
  exact lv_aload C.1 C.2.1 hd (zl_at L hk) (kk p e R s m args below meth c H locs cells slots k n ls C K S P L r1 r2 r3 r4 r5 r6)
theorem zp_istore_n {l G d mc ms M pc lv st σ Q} {k0 : Fin 4} {i : Nat} {x : Int32} {lv2 : List (Nat × Value)} (hd : decode M.2.1 pc = .ok (.istore_n k0, 1)) (hi : (k0 : Nat) = i) (hn : i < M.2.2.1) (hl : (i, Value.int x) :: lv.filter (fun q => !(q.1 == i) && !(q.1 + 1 == i && q.2.category == 2)) = lv2) (kk : Wp l G d mc ms M (pc + 1) lv2 st σ Q) : Wp l G d mc ms M pc lv (Value.int x :: st) σ Q := by
  intro p e R s m args below meth c H locs cells slots k n ls C K S P L r1 r2 r3 r4 r5 r6
  exact lv_istore_n C.1 C.2.1 hd hi L hn hl (fun ls L => (kk p e R s m args below meth c H locs cells slots k n ls C K S P L r1 r2 r3 r4 r5 r6))
theorem zp_istore {l G d mc ms M pc lv st σ Q} {i : Nat} {x : Int32} {lv2 : List (Nat × Value)} (hd : decode M.2.1 pc = .ok (.istore i, 2)) (hn : i < M.2.2.1) (hl : (i, Value.int x) :: lv.filter (fun q => !(q.1 == i) && !(q.1 + 1 == i && q.2.category == 2)) = lv2) (kk : Wp l G d mc ms M (pc + 2) lv2 st σ Q) : Wp l G d mc ms M pc lv (Value.int x :: st) σ Q := by
  intro p e R s m args below meth c H locs cells slots k n ls C K S P L r1 r2 r3 r4 r5 r6
  exact lv_istore C.1 C.2.1 hd L hn hl (fun ls L => (kk p e R s m args below meth c H locs cells slots k n ls C K S P L r1 r2 r3 r4 r5 r6))
theorem zp_astore_n {l G d mc ms M pc lv st σ Q} {k0 : Fin 4} {i : Nat} {x : Nat} {lv2 : List (Nat × Value)} (hd : decode M.2.1 pc = .ok (.astore_n k0, 1)) (hi : (k0 : Nat) = i) (hn : i < M.2.2.1) (hl : (i, Value.ref x) :: lv.filter (fun q => !(q.1 == i) && !(q.1 + 1 == i && q.2.category == 2)) = lv2) (kk : Wp l G d mc ms M (pc + 1) lv2 st σ Q) : Wp l G d mc ms M pc lv (Value.ref x :: st) σ Q := by
  intro p e R s m args below meth c H locs cells slots k n ls C K S P L r1 r2 r3 r4 r5 r6
  exact lv_astore_n C.1 C.2.1 hd hi L hn hl (fun ls L => (kk p e R s m args below meth c H locs cells slots k n ls C K S P L r1 r2 r3 r4 r5 r6))
theorem zp_astore {l G d mc ms M pc lv st σ Q} {i : Nat} {x : Nat} {lv2 : List (Nat × Value)} (hd : decode M.2.1 pc = .ok (.astore i, 2)) (hn : i < M.2.2.1) (hl : (i, Value.ref x) :: lv.filter (fun q => !(q.1 == i) && !(q.1 + 1 == i && q.2.category == 2)) = lv2) (kk : Wp l G d mc ms M (pc + 2) lv2 st σ Q) : Wp l G d mc ms M pc lv (Value.ref x :: st) σ Q := by
  intro p e R s m args below meth c H locs cells slots k n ls C K S P L r1 r2 r3 r4 r5 r6
  exact lv_astore C.1 C.2.1 hd L hn hl (fun ls L => (kk p e R s m args below meth c H locs cells slots k n ls C K S P L r1 r2 r3 r4 r5 r6))
theorem zp_iinc {l G d mc ms M pc lv st σ Q} {i k1 : Nat} {z : Int} {x v : Int32} {lv2 : List (Nat × Value)} (hd : decode M.2.1 pc = .ok (.iinc i z, 3)) (hk : lv[k1]? = some (i, .int x)) (hv : x + Int32.ofInt z = v) (hn : i < M.2.2.1) (hl : (i, Value.int v) :: lv.filter (fun q => !(q.1 == i) && !(q.1 + 1 == i && q.2.category == 2)) = lv2) (kk : Wp l G d mc ms M (pc + 3) lv2 st σ Q) : Wp l G d mc ms M pc lv st σ Q := by
  intro p e R s m args below meth c H locs cells slots k n ls C K S P L r1 r2 r3 r4 r5 r6
  exact lv_iinc C.1 C.2.1 hd L hk hv hn hl (fun ls L => (kk p e R s m args below meth c H locs cells slots k n ls C K S P L r1 r2 r3 r4 r5 r6))
theorem zp_goto {l G d mc ms M pc lv st σ Q} {off : Int} {tgt : Nat} (hd : decode M.2.1 pc = .ok (.goto off, 3)) (ht : (pc : Int) + off = (tgt : Int)) (kk : Wp l G d mc ms M tgt lv st σ Q) : Wp l G d mc ms M pc lv st σ Q := by
  intro p e R s m args below meth c H locs cells slots k n ls C K S P L r1 r2 r3 r4 r5 r6
  exact lv_goto C.1 C.2.1 hd ht (kk p e R s m args below meth c H locs cells slots k n ls C K S P L r1 r2 r3 r4 r5 r6)
theorem zp_dup {l G d mc ms M pc lv st σ Q} {v : Value} (hd : decode M.2.1 pc = .ok (.dup, 1)) (hv : v.category = 1) (kk : Wp l G d mc ms M (pc + 1) lv (v :: v :: st) σ Q) : Wp l G d mc ms M pc lv (v :: st) σ Q := by
  intro p e R s m args below meth c H locs cells slots k n ls C K S P L r1 r2 r3 r4 r5 r6
  exact lv_dup C.1 C.2.1 hd hv (kk p e R s m args below meth c H locs cells slots k n ls C K S P L r1 r2 r3 r4 r5 r6)
theorem zp_dup2 {l G d mc ms M pc lv st σ Q} {v w : Value} (hd : decode M.2.1 pc = .ok (.dup2, 1)) (hv : v.category = 1) (hw : w.category = 1) (kk : Wp l G d mc ms M (pc + 1) lv (v :: w :: v :: w :: st) σ Q) : Wp l G d mc ms M pc lv (v :: w :: st) σ Q := by
  intro p e R s m args below meth c H locs cells slots k n ls C K S P L r1 r2 r3 r4 r5 r6
  exact lv_dup2_11 C.1 C.2.1 hd hv hw (kk p e R s m args below meth c H locs cells slots k n ls C K S P L r1 r2 r3 r4 r5 r6)
theorem zp_pop {l G d mc ms M pc lv st σ Q} {v : Value} (hd : decode M.2.1 pc = .ok (.pop, 1)) (hv : v.category = 1) (kk : Wp l G d mc ms M (pc + 1) lv (st) σ Q) : Wp l G d mc ms M pc lv (v :: st) σ Q := by
  intro p e R s m args below meth c H locs cells slots k n ls C K S P L r1 r2 r3 r4 r5 r6
  exact lv_pop C.1 C.2.1 hd hv (kk p e R s m args below meth c H locs cells slots k n ls C K S P L r1 r2 r3 r4 r5 r6)
theorem zp_iadd {l G d mc ms M pc lv st σ Q} {x y : Int32} (hd : decode M.2.1 pc = .ok (.iadd, 1)) (kk : Wp l G d mc ms M (pc + 1) lv (.int (x + y) :: st) σ Q) : Wp l G d mc ms M pc lv (.int y :: .int x :: st) σ Q := by
  intro p e R s m args below meth c H locs cells slots k n ls C K S P L r1 r2 r3 r4 r5 r6
  exact lv_iadd C.1 C.2.1 hd (kk p e R s m args below meth c H locs cells slots k n ls C K S P L r1 r2 r3 r4 r5 r6)
theorem zp_isub {l G d mc ms M pc lv st σ Q} {x y : Int32} (hd : decode M.2.1 pc = .ok (.isub, 1)) (kk : Wp l G d mc ms M (pc + 1) lv (.int (x - y) :: st) σ Q) : Wp l G d mc ms M pc lv (.int y :: .int x :: st) σ Q := by
  intro p e R s m args below meth c H locs cells slots k n ls C K S P L r1 r2 r3 r4 r5 r6
  exact lv_isub C.1 C.2.1 hd (kk p e R s m args below meth c H locs cells slots k n ls C K S P L r1 r2 r3 r4 r5 r6)
theorem zp_imul {l G d mc ms M pc lv st σ Q} {x y : Int32} (hd : decode M.2.1 pc = .ok (.imul, 1)) (kk : Wp l G d mc ms M (pc + 1) lv (.int (x * y) :: st) σ Q) : Wp l G d mc ms M pc lv (.int y :: .int x :: st) σ Q := by
  intro p e R s m args below meth c H locs cells slots k n ls C K S P L r1 r2 r3 r4 r5 r6
  exact lv_imul C.1 C.2.1 hd (kk p e R s m args below meth c H locs cells slots k n ls C K S P L r1 r2 r3 r4 r5 r6)
theorem zp_iand {l G d mc ms M pc lv st σ Q} {x y : Int32} (hd : decode M.2.1 pc = .ok (.iand, 1)) (kk : Wp l G d mc ms M (pc + 1) lv (.int (x &&& y) :: st) σ Q) : Wp l G d mc ms M pc lv (.int y :: .int x :: st) σ Q := by
  intro p e R s m args below meth c H locs cells slots k n ls C K S P L r1 r2 r3 r4 r5 r6
  exact lv_iand C.1 C.2.1 hd (kk p e R s m args below meth c H locs cells slots k n ls C K S P L r1 r2 r3 r4 r5 r6)
theorem zp_ior {l G d mc ms M pc lv st σ Q} {x y : Int32} (hd : decode M.2.1 pc = .ok (.ior, 1)) (kk : Wp l G d mc ms M (pc + 1) lv (.int (x ||| y) :: st) σ Q) : Wp l G d mc ms M pc lv (.int y :: .int x :: st) σ Q := by
  intro p e R s m args below meth c H locs cells slots k n ls C K S P L r1 r2 r3 r4 r5 r6
  exact lv_ior C.1 C.2.1 hd (kk p e R s m args below meth c H locs cells slots k n ls C K S P L r1 r2 r3 r4 r5 r6)
theorem zp_ixor {l G d mc ms M pc lv st σ Q} {x y : Int32} (hd : decode M.2.1 pc = .ok (.ixor, 1)) (kk : Wp l G d mc ms M (pc + 1) lv (.int (x ^^^ y) :: st) σ Q) : Wp l G d mc ms M pc lv (.int y :: .int x :: st) σ Q := by
  intro p e R s m args below meth c H locs cells slots k n ls C K S P L r1 r2 r3 r4 r5 r6
  exact lv_ixor C.1 C.2.1 hd (kk p e R s m args below meth c H locs cells slots k n ls C K S P L r1 r2 r3 r4 r5 r6)
theorem zp_idiv {l G d mc ms M pc lv st σ Q} {x y : Int32} (hd : decode M.2.1 pc = .ok (.idiv, 1)) (hne : ¬ y = 0) (kk : Wp l G d mc ms M (pc + 1) lv (.int (x / y) :: st) σ Q) : Wp l G d mc ms M pc lv (.int y :: .int x :: st) σ Q := by
  intro p e R s m args below meth c H locs cells slots k n ls C K S P L r1 r2 r3 r4 r5 r6
  exact lv_idiv C.1 C.2.1 hd hne (kk p e R s m args below meth c H locs cells slots k n ls C K S P L r1 r2 r3 r4 r5 r6)
theorem zp_irem {l G d mc ms M pc lv st σ Q} {x y : Int32} (hd : decode M.2.1 pc = .ok (.irem, 1)) (hne : ¬ y = 0) (kk : Wp l G d mc ms M (pc + 1) lv (.int (x - x / y * y) :: st) σ Q) : Wp l G d mc ms M pc lv (.int y :: .int x :: st) σ Q := by
  intro p e R s m args below meth c H locs cells slots k n ls C K S P L r1 r2 r3 r4 r5 r6
  exact lv_irem C.1 C.2.1 hd hne (kk p e R s m args below meth c H locs cells slots k n ls C K S P L r1 r2 r3 r4 r5 r6)
theorem zp_ishr {l G d mc ms M pc lv st σ Q} {x y : Int32} (hd : decode M.2.1 pc = .ok (.ishr, 1)) (kk : Wp l G d mc ms M (pc + 1) lv (.int (x >>> (y &&& 31)) :: st) σ Q) : Wp l G d mc ms M pc lv (.int y :: .int x :: st) σ Q := by
  intro p e R s m args below meth c H locs cells slots k n ls C K S P L r1 r2 r3 r4 r5 r6
  exact lv_ishr C.1 C.2.1 hd (kk p e R s m args below meth c H locs cells slots k n ls C K S P L r1 r2 r3 r4 r5 r6)
theorem zp_ishl {l G d mc ms M pc lv st σ Q} {x y : Int32} (hd : decode M.2.1 pc = .ok (.ishl, 1)) (kk : Wp l G d mc ms M (pc + 1) lv (.int (x <<< (y &&& 31)) :: st) σ Q) : Wp l G d mc ms M pc lv (.int y :: .int x :: st) σ Q := by
  intro p e R s m args below meth c H locs cells slots k n ls C K S P L r1 r2 r3 r4 r5 r6
  exact lv_ishl C.1 C.2.1 hd (kk p e R s m args below meth c H locs cells slots k n ls C K S P L r1 r2 r3 r4 r5 r6)
theorem zp_ineg {l G d mc ms M pc lv st σ Q} {x : Int32} (hd : decode M.2.1 pc = .ok (.ineg, 1)) (kk : Wp l G d mc ms M (pc + 1) lv (.int (-x) :: st) σ Q) : Wp l G d mc ms M pc lv (.int x :: st) σ Q := by
  intro p e R s m args below meth c H locs cells slots k n ls C K S P L r1 r2 r3 r4 r5 r6
  exact lv_ineg C.1 C.2.1 hd (kk p e R s m args below meth c H locs cells slots k n ls C K S P L r1 r2 r3 r4 r5 r6)
theorem zp_i2l {l G d mc ms M pc lv st σ Q} {x : Int32} (hd : decode M.2.1 pc = .ok (.i2l, 1)) (kk : Wp l G d mc ms M (pc + 1) lv (.long x.toInt64 :: st) σ Q) : Wp l G d mc ms M pc lv (.int x :: st) σ Q := by
  intro p e R s m args below meth c H locs cells slots k n ls C K S P L r1 r2 r3 r4 r5 r6
  exact lv_i2l C.1 C.2.1 hd rfl (kk p e R s m args below meth c H locs cells slots k n ls C K S P L r1 r2 r3 r4 r5 r6)
theorem zp_lmul {l G d mc ms M pc lv st σ Q} {x y : Int64} (hd : decode M.2.1 pc = .ok (.lmul, 1)) (kk : Wp l G d mc ms M (pc + 1) lv (.long (x * y) :: st) σ Q) : Wp l G d mc ms M pc lv (.long y :: .long x :: st) σ Q := by
  intro p e R s m args below meth c H locs cells slots k n ls C K S P L r1 r2 r3 r4 r5 r6
  exact lv_lmul C.1 C.2.1 hd (kk p e R s m args below meth c H locs cells slots k n ls C K S P L r1 r2 r3 r4 r5 r6)
theorem zp_ldiv {l G d mc ms M pc lv st σ Q} {x y : Int64} (hd : decode M.2.1 pc = .ok (.ldiv, 1)) (hne : ¬ y = 0) (kk : Wp l G d mc ms M (pc + 1) lv (.long (x / y) :: st) σ Q) : Wp l G d mc ms M pc lv (.long y :: .long x :: st) σ Q := by
  intro p e R s m args below meth c H locs cells slots k n ls C K S P L r1 r2 r3 r4 r5 r6
  exact lv_ldiv C.1 C.2.1 hd hne (kk p e R s m args below meth c H locs cells slots k n ls C K S P L r1 r2 r3 r4 r5 r6)
theorem zp_l2i {l G d mc ms M pc lv st σ Q} {x : Int64} (hd : decode M.2.1 pc = .ok (.l2i, 1)) (kk : Wp l G d mc ms M (pc + 1) lv (.int x.toInt32 :: st) σ Q) : Wp l G d mc ms M pc lv (.long x :: st) σ Q := by
  intro p e R s m args below meth c H locs cells slots k n ls C K S P L r1 r2 r3 r4 r5 r6
  exact lv_l2i C.1 C.2.1 hd rfl (kk p e R s m args below meth c H locs cells slots k n ls C K S P L r1 r2 r3 r4 r5 r6)
theorem zp_icmp_eq {l G d mc ms M pc lv st σ Q} {x y : Int32} {off : Int} {tgt : Nat} (hd : decode M.2.1 pc = .ok (.if_icmp .eq off, 3)) (ht : (pc : Int) + off = (tgt : Int)) (kt : x = y → Wp l G d mc ms M tgt lv st σ Q) (kf : ¬ (x = y) → Wp l G d mc ms M (pc + 3) lv st σ Q) : Wp l G d mc ms M pc lv (.int y :: .int x :: st) σ Q := by
  intro p e R s m args below meth c H locs cells slots k n ls C K S P L r1 r2 r3 r4 r5 r6
  exact lv_icmp_eq C.1 C.2.1 hd ht (fun q => (kt q p e R s m args below meth c H locs cells slots k n ls C K S P L r1 r2 r3 r4 r5 r6)) (fun q => (kf q p e R s m args below meth c H locs cells slots k n ls C K S P L r1 r2 r3 r4 r5 r6))
theorem zp_icmp_ne {l G d mc ms M pc lv st σ Q} {x y : Int32} {off : Int} {tgt : Nat} (hd : decode M.2.1 pc = .ok (.if_icmp .ne off, 3)) (ht : (pc : Int) + off = (tgt : Int)) (kt : ¬ x = y → Wp l G d mc ms M tgt lv st σ Q) (kf : x = y → Wp l G d mc ms M (pc + 3) lv st σ Q) : Wp l G d mc ms M pc lv (.int y :: .int x :: st) σ Q := by
  intro p e R s m args below meth c H locs cells slots k n ls C K S P L r1 r2 r3 r4 r5 r6
  exact lv_icmp_ne C.1 C.2.1 hd ht (fun q => (kt q p e R s m args below meth c H locs cells slots k n ls C K S P L r1 r2 r3 r4 r5 r6)) (fun q => (kf q p e R s m args below meth c H locs cells slots k n ls C K S P L r1 r2 r3 r4 r5 r6))
theorem zp_icmp_lt {l G d mc ms M pc lv st σ Q} {x y : Int32} {off : Int} {tgt : Nat} (hd : decode M.2.1 pc = .ok (.if_icmp .lt off, 3)) (ht : (pc : Int) + off = (tgt : Int)) (kt : x < y → Wp l G d mc ms M tgt lv st σ Q) (kf : ¬ (x < y) → Wp l G d mc ms M (pc + 3) lv st σ Q) : Wp l G d mc ms M pc lv (.int y :: .int x :: st) σ Q := by
  intro p e R s m args below meth c H locs cells slots k n ls C K S P L r1 r2 r3 r4 r5 r6
  exact lv_icmp_lt C.1 C.2.1 hd ht (fun q => (kt q p e R s m args below meth c H locs cells slots k n ls C K S P L r1 r2 r3 r4 r5 r6)) (fun q => (kf q p e R s m args below meth c H locs cells slots k n ls C K S P L r1 r2 r3 r4 r5 r6))
theorem zp_icmp_ge {l G d mc ms M pc lv st σ Q} {x y : Int32} {off : Int} {tgt : Nat} (hd : decode M.2.1 pc = .ok (.if_icmp .ge off, 3)) (ht : (pc : Int) + off = (tgt : Int)) (kt : y ≤ x → Wp l G d mc ms M tgt lv st σ Q) (kf : ¬ (y ≤ x) → Wp l G d mc ms M (pc + 3) lv st σ Q) : Wp l G d mc ms M pc lv (.int y :: .int x :: st) σ Q := by
  intro p e R s m args below meth c H locs cells slots k n ls C K S P L r1 r2 r3 r4 r5 r6
  exact lv_icmp_ge C.1 C.2.1 hd ht (fun q => (kt q p e R s m args below meth c H locs cells slots k n ls C K S P L r1 r2 r3 r4 r5 r6)) (fun q => (kf q p e R s m args below meth c H locs cells slots k n ls C K S P L r1 r2 r3 r4 r5 r6))
theorem zp_icmp_gt {l G d mc ms M pc lv st σ Q} {x y : Int32} {off : Int} {tgt : Nat} (hd : decode M.2.1 pc = .ok (.if_icmp .gt off, 3)) (ht : (pc : Int) + off = (tgt : Int)) (kt : y < x → Wp l G d mc ms M tgt lv st σ Q) (kf : ¬ (y < x) → Wp l G d mc ms M (pc + 3) lv st σ Q) : Wp l G d mc ms M pc lv (.int y :: .int x :: st) σ Q := by
  intro p e R s m args below meth c H locs cells slots k n ls C K S P L r1 r2 r3 r4 r5 r6
  exact lv_icmp_gt C.1 C.2.1 hd ht (fun q => (kt q p e R s m args below meth c H locs cells slots k n ls C K S P L r1 r2 r3 r4 r5 r6)) (fun q => (kf q p e R s m args below meth c H locs cells slots k n ls C K S P L r1 r2 r3 r4 r5 r6))
theorem zp_icmp_le {l G d mc ms M pc lv st σ Q} {x y : Int32} {off : Int} {tgt : Nat} (hd : decode M.2.1 pc = .ok (.if_icmp .le off, 3)) (ht : (pc : Int) + off = (tgt : Int)) (kt : x ≤ y → Wp l G d mc ms M tgt lv st σ Q) (kf : ¬ (x ≤ y) → Wp l G d mc ms M (pc + 3) lv st σ Q) : Wp l G d mc ms M pc lv (.int y :: .int x :: st) σ Q := by
  intro p e R s m args below meth c H locs cells slots k n ls C K S P L r1 r2 r3 r4 r5 r6
  exact lv_icmp_le C.1 C.2.1 hd ht (fun q => (kt q p e R s m args below meth c H locs cells slots k n ls C K S P L r1 r2 r3 r4 r5 r6)) (fun q => (kf q p e R s m args below meth c H locs cells slots k n ls C K S P L r1 r2 r3 r4 r5 r6))
theorem zp_if_eq {l G d mc ms M pc lv st σ Q} {x : Int32} {off : Int} {tgt : Nat} (hd : decode M.2.1 pc = .ok (.ifCond .eq off, 3)) (ht : (pc : Int) + off = (tgt : Int)) (kt : x = 0 → Wp l G d mc ms M tgt lv st σ Q) (kf : ¬ (x = 0) → Wp l G d mc ms M (pc + 3) lv st σ Q) : Wp l G d mc ms M pc lv (.int x :: st) σ Q := by
  intro p e R s m args below meth c H locs cells slots k n ls C K S P L r1 r2 r3 r4 r5 r6
  exact lv_if_eq C.1 C.2.1 hd ht (fun q => (kt q p e R s m args below meth c H locs cells slots k n ls C K S P L r1 r2 r3 r4 r5 r6)) (fun q => (kf q p e R s m args below meth c H locs cells slots k n ls C K S P L r1 r2 r3 r4 r5 r6))
theorem zp_if_ne {l G d mc ms M pc lv st σ Q} {x : Int32} {off : Int} {tgt : Nat} (hd : decode M.2.1 pc = .ok (.ifCond .ne off, 3)) (ht : (pc : Int) + off = (tgt : Int)) (kt : ¬ x = 0 → Wp l G d mc ms M tgt lv st σ Q) (kf : x = 0 → Wp l G d mc ms M (pc + 3) lv st σ Q) : Wp l G d mc ms M pc lv (.int x :: st) σ Q := by
  intro p e R s m args below meth c H locs cells slots k n ls C K S P L r1 r2 r3 r4 r5 r6
  exact lv_if_ne C.1 C.2.1 hd ht (fun q => (kt q p e R s m args below meth c H locs cells slots k n ls C K S P L r1 r2 r3 r4 r5 r6)) (fun q => (kf q p e R s m args below meth c H locs cells slots k n ls C K S P L r1 r2 r3 r4 r5 r6))
theorem zp_if_lt {l G d mc ms M pc lv st σ Q} {x : Int32} {off : Int} {tgt : Nat} (hd : decode M.2.1 pc = .ok (.ifCond .lt off, 3)) (ht : (pc : Int) + off = (tgt : Int)) (kt : x < 0 → Wp l G d mc ms M tgt lv st σ Q) (kf : ¬ (x < 0) → Wp l G d mc ms M (pc + 3) lv st σ Q) : Wp l G d mc ms M pc lv (.int x :: st) σ Q := by
  intro p e R s m args below meth c H locs cells slots k n ls C K S P L r1 r2 r3 r4 r5 r6
  exact lv_if_lt C.1 C.2.1 hd ht (fun q => (kt q p e R s m args below meth c H locs cells slots k n ls C K S P L r1 r2 r3 r4 r5 r6)) (fun q => (kf q p e R s m args below meth c H locs cells slots k n ls C K S P L r1 r2 r3 r4 r5 r6))
theorem zp_if_ge {l G d mc ms M pc lv st σ Q} {x : Int32} {off : Int} {tgt : Nat} (hd : decode M.2.1 pc = .ok (.ifCond .ge off, 3)) (ht : (pc : Int) + off = (tgt : Int)) (kt : 0 ≤ x → Wp l G d mc ms M tgt lv st σ Q) (kf : ¬ (0 ≤ x) → Wp l G d mc ms M (pc + 3) lv st σ Q) : Wp l G d mc ms M pc lv (.int x :: st) σ Q := by
  intro p e R s m args below meth c H locs cells slots k n ls C K S P L r1 r2 r3 r4 r5 r6
  exact lv_if_ge C.1 C.2.1 hd ht (fun q => (kt q p e R s m args below meth c H locs cells slots k n ls C K S P L r1 r2 r3 r4 r5 r6)) (fun q => (kf q p e R s m args below meth c H locs cells slots k n ls C K S P L r1 r2 r3 r4 r5 r6))
theorem zp_if_gt {l G d mc ms M pc lv st σ Q} {x : Int32} {off : Int} {tgt : Nat} (hd : decode M.2.1 pc = .ok (.ifCond .gt off, 3)) (ht : (pc : Int) + off = (tgt : Int)) (kt : 0 < x → Wp l G d mc ms M tgt lv st σ Q) (kf : ¬ (0 < x) → Wp l G d mc ms M (pc + 3) lv st σ Q) : Wp l G d mc ms M pc lv (.int x :: st) σ Q := by
  intro p e R s m args below meth c H locs cells slots k n ls C K S P L r1 r2 r3 r4 r5 r6
  exact lv_if_gt C.1 C.2.1 hd ht (fun q => (kt q p e R s m args below meth c H locs cells slots k n ls C K S P L r1 r2 r3 r4 r5 r6)) (fun q => (kf q p e R s m args below meth c H locs cells slots k n ls C K S P L r1 r2 r3 r4 r5 r6))
theorem zp_if_le {l G d mc ms M pc lv st σ Q} {x : Int32} {off : Int} {tgt : Nat} (hd : decode M.2.1 pc = .ok (.ifCond .le off, 3)) (ht : (pc : Int) + off = (tgt : Int)) (kt : x ≤ 0 → Wp l G d mc ms M tgt lv st σ Q) (kf : ¬ (x ≤ 0) → Wp l G d mc ms M (pc + 3) lv st σ Q) : Wp l G d mc ms M pc lv (.int x :: st) σ Q := by
  intro p e R s m args below meth c H locs cells slots k n ls C K S P L r1 r2 r3 r4 r5 r6
  exact lv_if_le C.1 C.2.1 hd ht (fun q => (kt q p e R s m args below meth c H locs cells slots k n ls C K S P L r1 r2 r3 r4 r5 r6)) (fun q => (kf q p e R s m args below meth c H locs cells slots k n ls C K S P L r1 r2 r3 r4 r5 r6))
theorem zp_acmp_eq {l G d mc ms M pc lv st σ Q} {rx ry : Option Nat} {vx vy : Value} {off : Int} {tgt : Nat} (hd : decode M.2.1 pc = .ok (.if_acmp .eq off, 3)) (ht : (pc : Int) + off = (tgt : Int)) (hx : vx = va_rf rx) (hy : vy = va_rf ry) (kt : rx = ry → Wp l G d mc ms M tgt lv st σ Q) (kf : ¬ (rx = ry) → Wp l G d mc ms M (pc + 3) lv st σ Q) : Wp l G d mc ms M pc lv (vy :: vx :: st) σ Q := by
  intro p e R s m args below meth c H locs cells slots k n ls C K S P L r1 r2 r3 r4 r5 r6
  subst hx; subst hy
  exact lv_acmp_eq C.1 C.2.1 hd ht (fun q => (kt q p e R s m args below meth c H locs cells slots k n ls C K S P L r1 r2 r3 r4 r5 r6)) (fun q => (kf q p e R s m args below meth c H locs cells slots k n ls C K S P L r1 r2 r3 r4 r5 r6))
theorem zp_acmp_ne {l G d mc ms M pc lv st σ Q} {rx ry : Option Nat} {vx vy : Value} {off : Int} {tgt : Nat} (hd : decode M.2.1 pc = .ok (.if_acmp .ne off, 3)) (ht : (pc : Int) + off = (tgt : Int)) (hx : vx = va_rf rx) (hy : vy = va_rf ry) (kt : ¬ rx = ry → Wp l G d mc ms M tgt lv st σ Q) (kf : rx = ry → Wp l G d mc ms M (pc + 3) lv st σ Q) : Wp l G d mc ms M pc lv (vy :: vx :: st) σ Q := by
  intro p e R s m args below meth c H locs cells slots k n ls C K S P L r1 r2 r3 r4 r5 r6
  subst hx; subst hy
  exact lv_acmp_ne C.1 C.2.1 hd ht (fun q => (kt q p e R s m args below meth c H locs cells slots k n ls C K S P L r1 r2 r3 r4 r5 r6)) (fun q => (kf q p e R s m args below meth c H locs cells slots k n ls C K S P L r1 r2 r3 r4 r5 r6))
theorem zp_ifnull {l G d mc ms M pc lv st σ Q} {r : Option Nat} {v : Value} {off : Int} {tgt : Nat} (hd : decode M.2.1 pc = .ok (.ifnull off, 3)) (ht : (pc : Int) + off = (tgt : Int)) (hv : v = va_rf r) (kt : r = none → Wp l G d mc ms M tgt lv st σ Q) (kf : ∀ a, r = some a → Wp l G d mc ms M (pc + 3) lv st σ Q) : Wp l G d mc ms M pc lv (v :: st) σ Q := by
  intro p e R s m args below meth c H locs cells slots k n ls C K S P L r1 r2 r3 r4 r5 r6
  subst hv
  cases r with
  | none => exact lv_ifnullN C.1 C.2.1 hd ht (kt rfl p e R s m args below meth c H locs cells slots k n ls C K S P L r1 r2 r3 r4 r5 r6)
  | some a => exact lv_ifnull C.1 C.2.1 hd (kf a rfl p e R s m args below meth c H locs cells slots k n ls C K S P L r1 r2 r3 r4 r5 r6)
theorem zp_ifnonnull {l G d mc ms M pc lv st σ Q} {r : Option Nat} {v : Value} {off : Int} {tgt : Nat} (hd : decode M.2.1 pc = .ok (.ifnonnull off, 3)) (ht : (pc : Int) + off = (tgt : Int)) (hv : v = va_rf r) (kt : ∀ a, r = some a → Wp l G d mc ms M tgt lv st σ Q) (kf : r = none → Wp l G d mc ms M (pc + 3) lv st σ Q) : Wp l G d mc ms M pc lv (v :: st) σ Q := by
  intro p e R s m args below meth c H locs cells slots k n ls C K S P L r1 r2 r3 r4 r5 r6
  subst hv
  cases r with
  | none => exact lv_ifnonnullN C.1 C.2.1 hd (kf rfl p e R s m args below meth c H locs cells slots k n ls C K S P L r1 r2 r3 r4 r5 r6)
  | some a => exact lv_ifnonnull C.1 C.2.1 hd ht (kt a rfl p e R s m args below meth c H locs cells slots k n ls C K S P L r1 r2 r3 r4 r5 r6)
theorem zp_tableIn {l G d mc ms M pc lv st σ Q} {dflt lo hi : Int} {offs : Array Int} {len : Nat} {x : Int32} {off : Int} {tgt : Nat} (hd : decode M.2.1 pc = .ok (.tableswitch dflt lo hi offs, len)) (h1 : ¬ x.toInt < lo) (h2 : ¬ hi < x.toInt) (ho : offs[(x.toInt - lo).toNat]? = some off) (ht : (pc : Int) + off = (tgt : Int)) (kk : Wp l G d mc ms M tgt lv st σ Q) : Wp l G d mc ms M pc lv (.int x :: st) σ Q := by
  intro p e R s m args below meth c H locs cells slots k n ls C K S P L r1 r2 r3 r4 r5 r6
  exact lv_tableIn C.1 C.2.1 hd h1 h2 ho ht (kk p e R s m args below meth c H locs cells slots k n ls C K S P L r1 r2 r3 r4 r5 r6)
theorem zp_tableOut {l G d mc ms M pc lv st σ Q} {dflt lo hi : Int} {offs : Array Int} {len : Nat} {x : Int32} {tgt : Nat} (hd : decode M.2.1 pc = .ok (.tableswitch dflt lo hi offs, len)) (h : x.toInt < lo ∨ hi < x.toInt) (ht : (pc : Int) + dflt = (tgt : Int)) (kk : Wp l G d mc ms M tgt lv st σ Q) : Wp l G d mc ms M pc lv (.int x :: st) σ Q := by
  intro p e R s m args below meth c H locs cells slots k n ls C K S P L r1 r2 r3 r4 r5 r6
  exact lv_tableOut C.1 C.2.1 hd h ht (kk p e R s m args below meth c H locs cells slots k n ls C K S P L r1 r2 r3 r4 r5 r6)
theorem zp_lookup {l G d mc ms M pc lv st σ Q} {dflt : Int} {ps : Array (Int × Int)} {len : Nat} {x : Int32} {off : Int} {tgt : Nat} (hd : decode M.2.1 pc = .ok (.lookupswitch dflt ps, len)) (hp : (ps.toList.zip (ps.toList.drop 1)).all (fun (a, next) => a.1 < next.1) = true) (ho : Op.lookupswitch.offset ps.toList dflt x.toInt = off) (ht : (pc : Int) + off = (tgt : Int)) (kk : Wp l G d mc ms M tgt lv st σ Q) : Wp l G d mc ms M pc lv (.int x :: st) σ Q := by
  intro p e R s m args below meth c H locs cells slots k n ls C K S P L r1 r2 r3 r4 r5 r6
  exact lv_lookup C.1 C.2.1 hd hp ho ht (kk p e R s m args below meth c H locs cells slots k n ls C K S P L r1 r2 r3 r4 r5 r6)
theorem zp_ldc {l G d mc ms M pc lv st σ Q} {i : Nat} {v : Int32} (hd : decode M.2.1 pc = .ok (.ldc i, 2)) (hw : Cond.constant M.1 i v ∈ gwl) (kk : Wp l G d mc ms M (pc + 2) lv (.int v :: st) σ Q) : Wp l G d mc ms M pc lv st σ Q := by
  intro p e R s m args below meth c H locs cells slots k n ls C K S P L r1 r2 r3 r4 r5 r6
  exact lv_ldc C.1 C.2.1 C.2.2.2.1 (C.2.2.2.2.1 _ hw) hd (kk p e R s m args below meth c H locs cells slots k n ls C K S P L r1 r2 r3 r4 r5 r6)
end
section
/-! ROWS that read or change the heap, over Wp -/
/-- a field's link: own reads it at the place i of its pool: kind kd, number f, its type, final or not, of references or not -/
def zFL (own : String) (i kd f : Nat) (ty : FieldType) (fin b x : Bool) : Prop :=
  ∃ (c k : Nat) (r : vw_C), kd = c + 1 ∧ c < 10 ∧ f = 100 * kd + k ∧ zcl[c]? = some r ∧ k < r.2.2 ∧ parseFieldDescriptor (r.2.1 k).2.2.1 = some ty ∧ (r.2.1 k).2.2.2 = fin ∧ zref f = b ∧ (r.2.1 k).1 = r.1 ∧
    ((x = false ∧ Cond.fieldLink own i (r.2.1 k).1 (r.2.1 k).2.1 (r.2.1 k).2.2.1 ∈ gwl) ∨ (x = true ∧ Cond.fieldLinkNest own i (r.2.1 k).1 (r.2.1 k).2.1 (r.2.1 k).2.2.1 "FlowBoxes" ∈ gnl))
theorem gw_of {i : Nat} {w : Cond} (h : tables_1[i]? = some w) (hg : goodWord w = true) : w ∈ gwl := List.mem_filter.mpr ⟨List.mem_append_right _ (List.mem_of_getElem? h), hg⟩
theorem gs_of {q : MethodName × Nat} (h : q ∈ lw_privs) : Cond.selects q.1.cls q.1 q.1 ∈ gwl := List.mem_filter.mpr ⟨List.mem_append_left _ (List.mem_map.mpr ⟨q, h, rfl⟩), rfl⟩
theorem gn_of {i : Nat} {w : Cond} (h : tables_1[i]? = some w) (hg : isNW w = true) : w ∈ gnl := List.mem_filter.mpr ⟨List.mem_append_right _ (List.mem_of_getElem? h), hg⟩
/-- what the tables say of a class: its fields' words; their types; their names apart; what a new object's fields hold -/
def zCl (c : Nat) (r : vw_C) (ty : Nat → FieldType) : Prop := (∀ w ∈ u_ws r.1 r.2.1 r.2.2, w ∈ gwl) ∧ (∀ k, k < r.2.2 → parseFieldDescriptor (r.2.1 k).2.2.1 = some (ty k)) ∧ (∀ a, a < r.2.2 → ∀ b, b < r.2.2 → a ≠ b → (r.2.1 a).2.1 ≠ (r.2.1 b).2.1) ∧
  (∀ k, k < r.2.2 → defaultValue (ty k) = cond (zref (100 * (c + 1) + k)) Value.null (Value.int 0)) ∧ r.2.2 ≤ 20
theorem gw_all {ws : List Cond} (h : ∀ w ∈ ws, w ∈ lw_tbl) (hg : ws.all goodWord = true) : ∀ w ∈ ws, w ∈ gwl := fun w hw => List.mem_filter.mpr ⟨h w hw, List.all_eq_true.mp hg w hw⟩
theorem zCl_0 : zCl 0 (RX1, TX1, 7) tyX1 := ⟨gw_all (by decide +kernel) (by decide +kernel), tyX1_ok, nmX1, by decide +kernel, by decide⟩
theorem zCl_1 : zCl 1 (RX2, TX2, 20) tyX2 := ⟨gw_all (by decide +kernel) (by decide +kernel), tyX2_ok, nmX2, by decide +kernel, by decide⟩
theorem zCl_2 : zCl 2 (RX4, TX4, 6) tyX4 := ⟨gw_all (by decide +kernel) (by decide +kernel), tyX4_ok, nmX4, by decide +kernel, by decide⟩
theorem zCl_3 : zCl 3 (RX5, TX5, 6) tyX5 := ⟨gw_all (by decide +kernel) (by decide +kernel), tyX5_ok, nmX5, by decide +kernel, by decide⟩
theorem zCl_4 : zCl 4 (RX7, TX7, 20) tyX7 := ⟨gw_all (by decide +kernel) (by decide +kernel), tyX7_ok, nmX7, by decide +kernel, by decide⟩
theorem zCl_5 : zCl 5 (RX8, TX8, 2) tyX8 := ⟨gw_all (by decide +kernel) (by decide +kernel), tyX8_ok, nmX8, by decide +kernel, by decide⟩
theorem zCl_6 : zCl 6 (RX9, TX9, 20) tyX9 := ⟨gw_all (by decide +kernel) (by decide +kernel), tyX9_ok, nmX9, by decide +kernel, by decide⟩
theorem zCl_7 : zCl 7 (RX10, TX10, 7) tyX10 := ⟨gw_all (by decide +kernel) (by decide +kernel), tyX10_ok, nmX10, by decide +kernel, by decide⟩
theorem zCl_8 : zCl 8 (RX11, TX11, 5) tyX11 := ⟨gw_all (by decide +kernel) (by decide +kernel), tyX11_ok, nmX11, by decide +kernel, by decide⟩
theorem zCl_9 : zCl 9 (RX12, TX12, 10) tyX12 := ⟨gw_all (by decide +kernel) (by decide +kernel), tyX12_ok, nmX12, by decide +kernel, by decide⟩
theorem zCl_ok {c : Nat} {r : vw_C} (h : zcl[c]? = some r) : ∃ ty, zCl c r ty := by
  match c, h with
  | 0, h => cases h; exact ⟨_, zCl_0⟩
  | 1, h => cases h; exact ⟨_, zCl_1⟩
  | 2, h => cases h; exact ⟨_, zCl_2⟩
  | 3, h => cases h; exact ⟨_, zCl_3⟩
  | 4, h => cases h; exact ⟨_, zCl_4⟩
  | 5, h => cases h; exact ⟨_, zCl_5⟩
  | 6, h => cases h; exact ⟨_, zCl_6⟩
  | 7, h => cases h; exact ⟨_, zCl_7⟩
  | 8, h => cases h; exact ⟨_, zCl_8⟩
  | 9, h => cases h; exact ⟨_, zCl_9⟩
  | c + 10, h => simp [zcl] at h
theorem zP.lt {G σ U H a} (h : zP G σ U H) (ha : (zT σ a).1 ≠ 0) : a < H.size := h.2.2.2.2.2.2 a ha
theorem zV_same {σ σ' : Sto} {c a : Nat} (hI : ∀ f, zI σ' f a = zI σ f a) (hR : ∀ f, zR σ' f a = zR σ f a) : zV σ' c a = zV σ c a := by
  funext k
  unfold zV zval
  cases zref (100 * c + k)
  · show Value.int _ = Value.int _; rw [hI]
  · show va_rf _ = va_rf _; rw [hR]
/-- a store that differs from one that the heap holds at the cell a alone -/
theorem zP.change {G : Gb} {σ σ' : Sto} {U : State} {H H1 : Heap} {a : Nat} (h : zP G σ U H) (hT : ∀ b, zT σ' b = zT σ b) (ha : (zT σ a).1 ≠ 0) (hb : G.2.1 ≤ a)
    (hI : ∀ f b, b ≠ a → zI σ' f b = zI σ f b) (hR : ∀ f b, b ≠ a → zR σ' f b = zR σ f b) (hA : ∀ b, b ≠ a → zA σ' b = zA σ b) (hQ : ∀ b, b ≠ a → zQ σ' b = zQ σ b) (hz : H1.size = H.size) (ho : ∀ q, q ≠ a → H1[q]? = H[q]?)
    (h1 : ∀ c n, zT σ a = (c + 1, n) → c < 10 → ∃ r : vw_C, zcl[c]? = some r ∧ t_OB a (G.1.1 c) r.2.2 (G.1.2 c) H1 (zV σ' (c + 1) a))
    (h2 : ∀ n, zT σ a = (20, n) → H1[a]? = some (arrV (G.2.2.2.2 0) n (fun j => .int (zA σ' a j))))
    (h3 : ∀ j n, zT σ a = (21 + j, n) → j < 3 → H1[a]? = some (arrV (G.2.2.2.2 (j + 1)) n (fun i => va_rf (zQ σ' a i)))) : zP G σ' U H1 := by
  obtain ⟨p0, p1, p2, p3, p4, p5, p6⟩ := h
  refine ⟨fun b e => ?_, fun b c n e hc => ?_, fun b n e => ?_, fun b j n e hj => ?_, fun b n e => ?_, fun b n e => ?_, fun b e => ?_⟩
  · rw [hT] at e
    have hne : b ≠ a := fun q => ha (by rw [← q]; exact e)
    exact ⟨fun f => by rw [hI f b hne, hR f b hne]; exact (p0 b e).1 f, fun i => by rw [hA b hne, hQ b hne]; exact (p0 b e).2 i⟩
  · rw [hT] at e
    by_cases hne : b = a
    · subst hne
      exact ⟨hb, h1 c n e hc⟩
    · obtain ⟨g1, r, g2, g3⟩ := p1 b c n e hc
      exact ⟨g1, r, g2, by rw [zV_same (fun f => hI f b hne) (fun f => hR f b hne)]; exact g3.kept (ho b hne)⟩
  · rw [hT] at e
    by_cases hne : b = a
    · subst hne
      exact ⟨hb, h2 n e⟩
    · exact ⟨(p2 b n e).1, by rw [ho b hne, hA b hne]; exact (p2 b n e).2⟩
  · rw [hT] at e
    by_cases hne : b = a
    · subst hne
      exact ⟨hb, h3 j n e hj⟩
    · exact ⟨(p3 b j n e hj).1, by rw [ho b hne, hQ b hne]; exact (p3 b j n e hj).2⟩
  · rw [hT] at e
    have hne : b ≠ a := fun q => by have := (p4 b n e).1; omega
    exact ⟨(p4 b n e).1, by rw [hA b hne]; exact va_X.kept (p4 b n e).2 (ho b hne)⟩
  · rw [hT] at e
    exact p5 b n e
  · rw [hT] at e
    rw [hz]
    exact p6 b e
/-- a store with one cell more -/
theorem zP.push {G : Gb} {σ : Sto} {U : State} {H H1 : Heap} {t : Nat × Nat} (h : zP G σ U H) (hb : G.2.1 ≤ H.size) (hz : H1.size = H.size + 1) (ho : ∀ q, q < H.size → H1[q]? = H[q]?) (ht : t.1 ≠ 0 ∧ t.1 ≠ 25 ∧ t.1 ≠ 30)
    (h1 : ∀ c, t.1 = c + 1 → c < 10 → ∃ r : vw_C, zcl[c]? = some r ∧ t_OB H.size (G.1.1 c) r.2.2 (G.1.2 c) H1 (zV σ (c + 1) H.size))
    (h2 : t.1 = 20 → H1[H.size]? = some (arrV (G.2.2.2.2 0) t.2 (fun j => .int (zA σ H.size j))))
    (h3 : ∀ j, t.1 = 21 + j → j < 3 → H1[H.size]? = some (arrV (G.2.2.2.2 (j + 1)) t.2 (fun i => va_rf (zQ σ H.size i)))) : zP G (wT σ H.size t) U H1 := by
  have hlt : ∀ b, (zT σ b).1 ≠ 0 → b < H.size := fun b e => h.lt e
  obtain ⟨p0, p1, p2, p3, p4, p5, p6⟩ := h
  have hT : ∀ b x, zT (wT σ H.size t) b = x → (b = H.size ∧ t = x) ∨ (b ≠ H.size ∧ zT σ b = x) := fun b x e => by
    rw [zT_wT] at e
    by_cases q : b = H.size
    · rw [if_pos q] at e; exact Or.inl ⟨q, e⟩
    · rw [if_neg q] at e; exact Or.inr ⟨q, e⟩
  refine ⟨fun b e => ?_, fun b c n e hc => ?_, fun b n e => ?_, fun b j n e hj => ?_, fun b n e => ?_, fun b n e => ?_, fun b e => ?_⟩
  · rcases hT b _ rfl with ⟨q1, q2⟩ | ⟨q1, q2⟩
    · rw [← q2] at e; exact absurd e ht.1
    · rw [← q2] at e; exact p0 b e
  · rcases hT b _ e with ⟨q1, q2⟩ | ⟨q1, q2⟩
    · subst q1
      exact ⟨hb, h1 c (by rw [q2]) hc⟩
    · obtain ⟨g1, r, g2, g3⟩ := p1 b c n q2 hc
      exact ⟨g1, r, g2, g3.kept (ho b (hlt b (by rw [q2]; exact Nat.succ_ne_zero c)))⟩
  · rcases hT b _ e with ⟨q1, q2⟩ | ⟨q1, q2⟩
    · subst q1
      have := h2 (by rw [q2])
      rw [q2] at this
      exact ⟨hb, this⟩
    · exact ⟨(p2 b n q2).1, by rw [ho b (hlt b (by rw [q2]; exact fun z => by cases z))]; exact (p2 b n q2).2⟩
  · rcases hT b _ e with ⟨q1, q2⟩ | ⟨q1, q2⟩
    · subst q1
      have := h3 j (by rw [q2]) hj
      rw [q2] at this
      exact ⟨hb, this⟩
    · exact ⟨(p3 b j n q2 hj).1, by rw [ho b (hlt b (by rw [q2]; show 21 + j ≠ 0; omega))]; exact (p3 b j n q2 hj).2⟩
  · rcases hT b _ e with ⟨q1, q2⟩ | ⟨q1, q2⟩
    · rw [q2] at ht; exact absurd rfl ht.2.1
    · exact ⟨(p4 b n q2).1, va_X.kept (p4 b n q2).2 (ho b (hlt b (by rw [q2]; exact fun z => by cases z)))⟩
  · rcases hT b _ e with ⟨q1, q2⟩ | ⟨q1, q2⟩
    · rw [q2] at ht; exact absurd rfl ht.2.2
    · exact p5 b n q2
  · rcases hT b _ rfl with ⟨q1, q2⟩ | ⟨q1, q2⟩
    · omega
    · rw [← q2] at e; have := hlt b e; omega
theorem zp_get {l G d mc ms M pc lv st σ Q} {i kd f a n : Nat} {ty : FieldType} {fin b x : Bool} (hd : decode M.2.1 pc = .ok (.getfield i, 3)) (h : zFL M.1 i kd f ty fin b x) (ht : zT σ a = (kd, n)) (kk : Wp l G d mc ms M (pc + 3) lv (zval b σ f a :: st) σ Q) : Wp l G d mc ms M pc lv (.ref a :: st) σ Q := by
  intro p e R s m args below meth c H locs cells slots k n ls C K S P L r1 r2 r3 r4 r5 r6
  obtain ⟨c0, k0, r0, rfl, hc10, rfl, hr, hk, hty, hfin, rfl, -, hl⟩ := h
  obtain ⟨hbase, r, h1, cell, q1, q2, q3, q4⟩ := P.2.1 a c0 _ ht hc10
  cases h1.symm.trans hr
  obtain ⟨ty0, hC, -⟩ := zCl_ok hr
  obtain ⟨hS, hfc, kC, hkC, hkind⟩ := K.1.1 c0 _ hr
  obtain ⟨cf, kf, fi, fd, hi, hsl⟩ := hS k0 hk
  have hfs := (u_facts hfc hkC (u_lays C.2.2.2.2.1 hC hk) hi).1
  rcases hl with ⟨-, hl⟩ | ⟨-, hl⟩
  · exact W.getf C.1 C.2.1 C.2.2.2.1 (C.2.2.2.2.1 _ hl) hi hfs q1 (by rw [q3]; exact fun h => by cases h) (v := zV σ (c0 + 1) a k0) (by rw [hsl, q4 k0 hk]) rfl rfl hd (kk p e R s m args below meth c H locs cells slots k n ls C K S P L r1 r2 r3 r4 r5 r6)
  · exact va_Wgetf C.1 C.2.1 C.2.2.2.1 (va_Nw.use rfl (K.2.1 _ hl)) hi hfs q1 (by rw [q3]; exact fun h => by cases h) (v := zV σ (c0 + 1) a k0) (by rw [hsl, q4 k0 hk]) rfl rfl hd (kk p e R s m args below meth c H locs cells slots k n ls C K S P L r1 r2 r3 r4 r5 r6)

theorem zp_getI {l G d mc ms M pc lv st σ Q} {i kd f a n : Nat} {ty : FieldType} {fin x : Bool} (hd : decode M.2.1 pc = .ok (.getfield i, 3)) (h : zFL M.1 i kd f ty fin false x) (ht : zT σ a = (kd, n)) (kk : Wp l G d mc ms M (pc + 3) lv (.int (zI σ f a) :: st) σ Q) : Wp l G d mc ms M pc lv (.ref a :: st) σ Q := zp_get hd h ht kk
theorem zp_getR {l G d mc ms M pc lv st σ Q} {i kd f a n : Nat} {ty : FieldType} {fin x : Bool} {v : Value} (hd : decode M.2.1 pc = .ok (.getfield i, 3)) (h : zFL M.1 i kd f ty fin true x) (ht : zT σ a = (kd, n)) (hv : va_rf (zR σ f a) = v) (kk : Wp l G d mc ms M (pc + 3) lv (v :: st) σ Q) : Wp l G d mc ms M pc lv (.ref a :: st) σ Q := zp_get hd h ht (by rw [show zval true σ f a = v from hv]; exact kk)
/-- what a field may be given -/
def zfit (ty : FieldType) (v : Value) : Prop := narrow ty v = v ∧ fits ty v = true
theorem zp_put0 {l G d mc ms M pc lv st σ Q} {i kd f a n : Nat} {ty : FieldType} {fin b x : Bool} {v : Value} {σ' : Sto} (hd : decode M.2.1 pc = .ok (.putfield i, 3)) (h : zFL M.1 i kd f ty fin b x) (hfin : fin = false ∨ (M.2.2.2.2 = true ∧ x = false ∧ ∀ (c0 k0 : Nat) (r : vw_C), f = 100 * (c0 + 1) + k0 → k0 < 20 → zcl[c0]? = some r → (r.2.1 k0).1 = M.1)) (ht : zT σ a = (kd, n)) (hv : zfit ty v)
    (hT : ∀ b, zT σ' b = zT σ b) (hI : ∀ g b, b ≠ a → zI σ' g b = zI σ g b) (hR : ∀ g b, b ≠ a → zR σ' g b = zR σ g b) (hA : ∀ b, zA σ' b = zA σ b) (hQ : ∀ b, zQ σ' b = zQ σ b) (hV : ∀ c k, zV σ' c a k = if 100 * c + k = f then v else zV σ c a k)
    (kk : Wp l G d mc ms M (pc + 3) lv st σ' Q) : Wp l G d mc ms M pc lv (v :: .ref a :: st) σ Q := by
  intro p e R s m args below meth c H locs cells slots k n ls C K S P L r1 r2 r3 r4 r5 r6
  obtain ⟨c0, k0, r0, rfl, hc10, rfl, hr, hk, hty, hfn, rfl, hO, hl⟩ := h
  obtain ⟨hbase, r, h1, cell, q1, q2, q3, q4⟩ := P.2.1 a c0 _ ht hc10
  cases h1.symm.trans hr
  obtain ⟨ty0, hC, hC2, hC3, -, hC5⟩ := zCl_ok hr
  have hap := va_apart (own := M.1) (C.2.2.2.2.1) hC ty0 hC2 hC3 K.1 hr
  obtain ⟨hS, hfc, kC, hkC, hkind⟩ := K.1.1 c0 _ hr
  obtain ⟨cf, kf, fi, fd, hi, hsl⟩ := hS k0 hk
  have hfs := (u_facts hfc hkC (u_lays C.2.2.2.2.1 hC hk) hi).1
  have hlay := C.2.2.2.2.1 _ (hC _ (u_in_lay hk))
  unfold u_lay at hlay
  have fin_ : ∀ H1 : Heap, H1[a]? = some (cell.setSlot fd.slot v) → H1.size = H.size → (∀ q, q ≠ a → H1[q]? = H[q]?) → va_S (gP G) s.heap H1 (locs ++ [⟨a, fd.slot⟩]) ∧ zP G σ' s H1 := fun H1 e1 e2 e3 => by
    refine ⟨S.put e2 e3 hbase, P.change hT (by rw [ht]; exact Nat.succ_ne_zero _) hbase hI hR (fun b _ => hA b) (fun b _ => hQ b) e2 e3 (fun c2 n2 e hc => ?_) (fun n2 e => ?_) (fun j n2 e hj => ?_)⟩
    · rw [ht] at e
      cases e
      refine ⟨_, hr, t_OB.to (V := updV (zV σ (c0 + 1) a) k0 v) ⟨_, e1, q2, q3, by rw [hsl]; exact t_set q4 hap hk v⟩ (fun j hj => ?_)⟩
      rw [hV]
      by_cases hjk : j = k0
      · subst hjk; simp [updV]
      · rw [if_neg (by omega)]; simp [updV, hjk]
    · rw [ht] at e; have e' : c0 + 1 = 20 := congrArg Prod.fst e; omega
    · rw [ht] at e; have e' : c0 + 1 = 21 + j := congrArg Prod.fst e; omega
  have kk' : ∀ H1 : Heap, H1[a]? = some (cell.setSlot fd.slot v) → H1.size = H.size → (∀ q, q ≠ a → H1[q]? = H[q]?) → W p l e R s m args below meth c H1 (locs ++ [⟨a, fd.slot⟩]) cells slots (MQ below (zQC G Q) args s k n (gP G)) (F0 m (pc + 3) ls st) := fun H1 e1 e2 e3 =>
    kk p e R s m args below meth c H1 _ cells slots k n ls C K (fin_ H1 e1 e2 e3).1 (fin_ H1 e1 e2 e3).2 L r1 r2 r3 r4 r5 r6
  have hsz : fd.slot < cell.slots.size := by rw [hsl]; exact k2_hasslot (q4 k0 hk)
  cases hfl : (r0.2.1 k0).2.2.2 with
  | false =>
    rw [if_neg (by rw [hfl]; decide)] at hlay
    have h6 := u_store hfc hkC hkind hlay hi hty hv.1 hv.2
    rcases hl with ⟨-, hl⟩ | ⟨-, hl⟩
    · exact W.putK C.1 C.2.1 (f := fd) ⟨C.2.2.2.1, C.2.2.2.2.1 _ hl, ⟨_, _, _, hi⟩, hfs⟩ (by rw [q2]; exact h6) q1 q3 hsz rfl rfl hd kk'
    · exact va_WputK C.1 C.2.1 (f := fd) C.2.2.2.1 (va_Nw.use rfl (K.2.1 _ hl)) hi hfs (by rw [q2]; exact h6) q1 q3 hsz rfl rfl hd kk'
  | true =>
    rcases hfin with hf | ⟨hf, hx, hown⟩
    · rw [hfn, hf] at hfl; cases hfl
    · rw [if_pos hfl] at hlay
      have hdecl := hown c0 k0 r0 rfl (Nat.lt_of_lt_of_le hk hC5) hr
      have hcf : m.cls = cf := by
        obtain ⟨_, _, c', _, _, _, -, -, hf', -, -, -, hown2, -⟩ := Cond.laysFinal_spec hlay
        have e1 : c' = cf := by have := hi.symm.trans hf'; simp at this; exact this.1.symm
        rw [hdecl] at hown2
        rw [← e1]; exact Option.some.inj (C.2.2.2.1.symm.trans hown2)
      have h6 := u_fits hfc hkC hkind (Or.inr hlay) hi hty hv.1 hv.2
      rcases hl with ⟨-, hl⟩ | ⟨hx2, hl⟩
      · exact W.putFinK C.1 C.2.1 C.2.2.2.1 (C.2.2.2.2.1 _ hl) hi hfs hcf (C.2.2.2.2.2.2.2 hf) (by rw [q2]; exact h6) q1 q3 hsz rfl rfl hd kk'
      · rw [hx] at hx2; cases hx2
end
section
/-! ROWS, second part: putfield by kind, arrays, new objects -/
theorem zV_wI {σ : Sto} {f a : Nat} {x : Int32} (hf : zref f = false) (c k : Nat) : zV (wI σ f a x) c a k = if 100 * c + k = f then .int x else zV σ c a k := by
  unfold zV zval
  by_cases e : 100 * c + k = f
  · rw [if_pos e, e, hf]
    show Value.int _ = _
    rw [zI_wI, if_pos ⟨rfl, rfl⟩]
  · rw [if_neg e]
    cases zref (100 * c + k)
    · show Value.int _ = Value.int _; rw [zI_wI, if_neg (fun h => e h.1)]
    · rfl
theorem zV_wR {σ : Sto} {f a : Nat} {x : Option Nat} (hf : zref f = true) (c k : Nat) : zV (wR σ f a x) c a k = if 100 * c + k = f then va_rf x else zV σ c a k := by
  unfold zV zval
  by_cases e : 100 * c + k = f
  · rw [if_pos e, e, hf]
    show va_rf _ = _
    rw [zR_wR, if_pos ⟨rfl, rfl⟩]
  · rw [if_neg e]
    cases zref (100 * c + k)
    · rfl
    · show va_rf _ = va_rf _; rw [zR_wR, if_neg (fun h => e h.1)]
theorem zFL.ref {own i kd f ty fin b x} (h : zFL own i kd f ty fin b x) : zref f = b := by
  obtain ⟨c0, k0, r0, -, -, -, -, -, -, -, hb, -⟩ := h
  exact hb
theorem zp_putI {l G d mc ms M pc lv st σ Q} {i kd f a n : Nat} {x : Bool} {v : Int32} (hd : decode M.2.1 pc = .ok (.putfield i, 3)) (h : zFL M.1 i kd f .int false false x) (ht : zT σ a = (kd, n)) (kk : Wp l G d mc ms M (pc + 3) lv st (wI σ f a v) Q) : Wp l G d mc ms M pc lv (.int v :: .ref a :: st) σ Q :=
  zp_put0 (σ' := wI σ f a v) hd h (Or.inl rfl) ht ⟨rfl, rfl⟩ (fun _ => rfl) (fun g b hb => by rw [zI_wI, if_neg (fun q => hb q.2)]) (fun _ _ _ => rfl) (fun _ => rfl) (fun _ => rfl) (zV_wI h.ref) kk
theorem zfit_bool {v : Int32} (hv : v = 0 ∨ v = 1) : zfit .boolean (.int v) := by
  rcases hv with rfl | rfl
  · exact ⟨by decide, by decide⟩
  · exact ⟨by decide, by decide⟩
theorem zp_putZ {l G d mc ms M pc lv st σ Q} {i kd f a n : Nat} {x : Bool} {v : Int32} (hd : decode M.2.1 pc = .ok (.putfield i, 3)) (h : zFL M.1 i kd f .boolean false false x) (ht : zT σ a = (kd, n)) (hv : v = 0 ∨ v = 1) (kk : Wp l G d mc ms M (pc + 3) lv st (wI σ f a v) Q) : Wp l G d mc ms M pc lv (.int v :: .ref a :: st) σ Q :=
  zp_put0 (σ' := wI σ f a v) hd h (Or.inl rfl) ht (zfit_bool hv) (fun _ => rfl) (fun g b hb => by rw [zI_wI, if_neg (fun q => hb q.2)]) (fun _ _ _ => rfl) (fun _ => rfl) (fun _ => rfl) (zV_wI h.ref) kk
theorem zfit_ref {C : String} {r : Option Nat} : zfit (.object C) (va_rf r) := by cases r <;> exact ⟨rfl, rfl⟩
theorem zfit_arr {t : FieldType} {r : Option Nat} : zfit (.array t) (va_rf r) := by cases r <;> exact ⟨rfl, rfl⟩
theorem zp_putR {l G d mc ms M pc lv st σ Q} {i kd f a n : Nat} {C : String} {x : Bool} {v : Value} {r : Option Nat} (hd : decode M.2.1 pc = .ok (.putfield i, 3)) (h : zFL M.1 i kd f (.object C) false true x) (ht : zT σ a = (kd, n)) (hv : v = va_rf r) (kk : Wp l G d mc ms M (pc + 3) lv st (wR σ f a r) Q) : Wp l G d mc ms M pc lv (v :: .ref a :: st) σ Q := by
  subst hv
  exact zp_put0 (σ' := wR σ f a r) hd h (Or.inl rfl) ht zfit_ref (fun _ => rfl) (fun _ _ _ => rfl) (fun g b hb => by rw [zR_wR, if_neg (fun q => hb q.2)]) (fun _ => rfl) (fun _ => rfl) (zV_wR h.ref) kk
/-- final fields, in the class's own constructor -/
def zOwn (own : String) (f : Nat) : Prop := ∀ (c0 k0 : Nat) (r : vw_C), f = 100 * (c0 + 1) + k0 → k0 < 20 → zcl[c0]? = some r → (r.2.1 k0).1 = own
theorem zOwn_of {own : String} {f : Nat} {r0 : vw_C} (h1 : zcl[f / 100 - 1]? = some r0) (h2 : (r0.2.1 (f % 100)).1 = own) : zOwn own f := by
  intro c0 k0 r e hk hr
  have e1 : f / 100 - 1 = c0 := by omega
  have e2 : f % 100 = k0 := by omega
  rw [e1] at h1
  cases h1.symm.trans hr
  rw [e2] at h2
  exact h2
theorem zp_putIf {l G d mc ms M pc lv st σ Q} {i kd f a n : Nat} {v : Int32} (hd : decode M.2.1 pc = .ok (.putfield i, 3)) (h : zFL M.1 i kd f .int true false false) (hi : M.2.2.2.2 = true) (ho : zOwn M.1 f) (ht : zT σ a = (kd, n)) (kk : Wp l G d mc ms M (pc + 3) lv st (wI σ f a v) Q) : Wp l G d mc ms M pc lv (.int v :: .ref a :: st) σ Q :=
  zp_put0 (σ' := wI σ f a v) hd h (Or.inr ⟨hi, rfl, ho⟩) ht ⟨rfl, rfl⟩ (fun _ => rfl) (fun g b hb => by rw [zI_wI, if_neg (fun q => hb q.2)]) (fun _ _ _ => rfl) (fun _ => rfl) (fun _ => rfl) (zV_wI h.ref) kk
theorem zp_putZf {l G d mc ms M pc lv st σ Q} {i kd f a n : Nat} {v : Int32} (hd : decode M.2.1 pc = .ok (.putfield i, 3)) (h : zFL M.1 i kd f .boolean true false false) (hi : M.2.2.2.2 = true) (ho : zOwn M.1 f) (ht : zT σ a = (kd, n)) (hv : v = 0 ∨ v = 1) (kk : Wp l G d mc ms M (pc + 3) lv st (wI σ f a v) Q) : Wp l G d mc ms M pc lv (.int v :: .ref a :: st) σ Q :=
  zp_put0 (σ' := wI σ f a v) hd h (Or.inr ⟨hi, rfl, ho⟩) ht (zfit_bool hv) (fun _ => rfl) (fun g b hb => by rw [zI_wI, if_neg (fun q => hb q.2)]) (fun _ _ _ => rfl) (fun _ => rfl) (fun _ => rfl) (zV_wI h.ref) kk
theorem zp_putRf {l G d mc ms M pc lv st σ Q} {i kd f a n : Nat} {ty : FieldType} {v : Value} {r : Option Nat} (hd : decode M.2.1 pc = .ok (.putfield i, 3)) (h : zFL M.1 i kd f ty true true false) (hi : M.2.2.2.2 = true) (ho : zOwn M.1 f) (ht : zT σ a = (kd, n)) (hv : v = va_rf r) (hfit : zfit ty (va_rf r)) (kk : Wp l G d mc ms M (pc + 3) lv st (wR σ f a r) Q) : Wp l G d mc ms M pc lv (v :: .ref a :: st) σ Q := by
  subst hv
  exact zp_put0 (σ' := wR σ f a r) hd h (Or.inr ⟨hi, rfl, ho⟩) ht hfit (fun _ => rfl) (fun _ _ _ => rfl) (fun g b hb => by rw [zR_wR, if_neg (fun q => hb q.2)]) (fun _ => rfl) (fun _ => rfl) (zV_wR h.ref) kk
/-- arrays of ints -/
theorem zp_iaload {l G d mc ms M pc lv st σ Q} {a kd n j : Nat} {x : Int32} (hd : decode M.2.1 pc = .ok (.iaload, 1)) (ht : zT σ a = (kd, n)) (hk : kd = 20 ∨ kd = 25) (hj : x.toNatClampNeg = j) (hin : vp_in x n) (kk : Wp l G d mc ms M (pc + 1) lv (.int (zA σ a j) :: st) σ Q) : Wp l G d mc ms M pc lv (.int x :: .ref a :: st) σ Q := by
  intro p e R s m args below meth c H locs cells slots k n' ls C K S P L r1 r2 r3 r4 r5 r6
  have hlt : x.toNatClampNeg < n := Nat.not_le.mp fun q => hin (Or.inr q)
  subst hj
  have kk' := kk p e R s m args below meth c H locs cells slots k n' ls C K S P L r1 r2 r3 r4 r5 r6
  rcases hk with rfl | rfl
  · exact W.iald (v := .int (zA σ a x.toNatClampNeg)) C.1 C.2.1 (P.2.2.1 a n ht).2 ((K.1.2 0 _ rfl).1 n (fun j => .int (zA σ a j))) (fun q => by cases q) (by show ¬ (x < 0 ∨ (arrV _ _ _).slots.size ≤ _); rw [arrV_size]; exact hin) (by show (arrV _ _ _).slots[_]? = _; rw [arrV_read _ _ hlt]) rfl rfl hd kk'
  · obtain ⟨-, scr, h1, h2, h3, h4, h5⟩ := P.2.2.2.2.1 a n ht
    exact W.iald (v := .int (zA σ a x.toNatClampNeg)) C.1 C.2.1 h1 h2 h3 (by rw [h4]; exact hin) (h5 _ hlt) rfl rfl hd kk'
theorem zp_iastore {l G d mc ms M pc lv st σ Q} {a n j : Nat} {x v : Int32} (hd : decode M.2.1 pc = .ok (.iastore, 1)) (ht : zT σ a = (20, n)) (hj : x.toNatClampNeg = j) (hin : vp_in x n) (kk : Wp l G d mc ms M (pc + 1) lv st (wA σ a j v) Q) : Wp l G d mc ms M pc lv (.int v :: .int x :: .ref a :: st) σ Q := by
  intro p e R s m args below meth c H locs cells slots k n' ls C K S P L r1 r2 r3 r4 r5 r6
  subst hj
  obtain ⟨hbase, hcell⟩ := P.2.2.1 a n ht
  refine W.iast C.1 C.2.1 hcell ((K.1.2 0 _ rfl).1 n (fun j => .int (zA σ a j))) (fun q => by cases q) (by show ¬ (x < 0 ∨ (arrV _ _ _).slots.size ≤ _); rw [arrV_size]; exact hin) rfl rfl hd fun H1 e1 z oq => ?_
  refine kk p e R s m args below meth c H1 _ cells slots k n' ls C K (S.put z oq hbase) (P.change (fun _ => rfl) (by rw [ht]; exact fun q => by cases q) hbase (fun _ _ _ => rfl) (fun _ _ _ => rfl) (fun b hb => by funext i; rw [zA_wA, if_neg (fun q => hb q.1)]) (fun _ _ => rfl) z oq (fun c2 n2 e2 hc => ?_) (fun n2 e2 => ?_) (fun j n2 e2 hj => ?_)) L r1 r2 r3 r4 r5 r6
  · rw [ht] at e2; have e' : 20 = c2 + 1 := congrArg Prod.fst e2; omega
  · rw [ht] at e2
    have e' : n = n2 := congrArg Prod.snd e2
    subst e'
    rw [e1, arrV_store]
    congr 2
    funext q
    by_cases hq : q = x.toNatClampNeg
    · subst hq
      simp [updV, zA_wA]
    · simp [updV, zA_wA, hq]
  · rw [ht] at e2; have e' : 20 = 21 + j := congrArg Prod.fst e2; omega
theorem zp_alen {l G d mc ms M pc lv st σ Q} {a kd n : Nat} {v : Int32} (hd : decode M.2.1 pc = .ok (.arraylength, 1)) (ht : zT σ a = (kd, n)) (hk : kd = 20 ∨ kd = 25 ∨ kd = 21 ∨ kd = 22 ∨ kd = 23) (hv : Int32.ofNat n = v) (kk : Wp l G d mc ms M (pc + 1) lv (.int v :: st) σ Q) : Wp l G d mc ms M pc lv (.ref a :: st) σ Q := by
  intro p e R s m args below meth c H locs cells slots k n' ls C K S P L r1 r2 r3 r4 r5 r6
  subst hv
  have kk' := kk p e R s m args below meth c H locs cells slots k n' ls C K S P L r1 r2 r3 r4 r5 r6
  rcases hk with rfl | rfl | rfl | rfl | rfl
  · exact W.alen (n := Int32.ofNat n) C.1 C.2.1 (P.2.2.1 a n ht).2 ((K.1.2 0 _ rfl).1 n (fun j => .int (zA σ a j))) (by rw [arrV_size] <;> rfl) rfl rfl hd kk'
  · obtain ⟨-, scr, h1, h2, h3, h4, h5⟩ := P.2.2.2.2.1 a n ht
    exact W.alen (n := Int32.ofNat n) C.1 C.2.1 h1 h2 (by rw [h4] <;> rfl) rfl rfl hd kk'
  · exact W.alen (n := Int32.ofNat n) C.1 C.2.1 (P.2.2.2.1 a 0 n ht (by decide)).2 ((K.1.2 1 _ rfl).1 n (fun j => va_rf (zQ σ a j))) (by rw [arrV_size] <;> rfl) rfl rfl hd kk'
  · exact W.alen (n := Int32.ofNat n) C.1 C.2.1 (P.2.2.2.1 a 1 n ht (by decide)).2 ((K.1.2 2 _ rfl).1 n (fun j => va_rf (zQ σ a j))) (by rw [arrV_size] <;> rfl) rfl rfl hd kk'
  · exact W.alen (n := Int32.ofNat n) C.1 C.2.1 (P.2.2.2.1 a 2 n ht (by decide)).2 ((K.1.2 3 _ rfl).1 n (fun j => va_rf (zQ σ a j))) (by rw [arrV_size] <;> rfl) rfl rfl hd kk'
end
section
/-! ROWS, third part: statics, enum constants, new cells, arrays of references, calls, returns (by wip/p27/gen_rows3.py) -/
theorem zp_kin {l G d mc ms M pc lv st σ Q} (kk : (∀ i j, i < 9 → j < 9 → G.2.2.1 i = G.2.2.1 j → i = j) → Wp l G d mc ms M pc lv st σ Q) : Wp l G d mc ms M pc lv st σ Q := by
  intro p e R s m args below meth c H locs cells slots k n ls C K S P L r1 r2 r3 r4 r5 r6
  exact kk K.2.2.2.1.2 p e R s m args below meth c H locs cells slots k n ls C K S P L r1 r2 r3 r4 r5 r6
theorem zp_zp0 {l G d mc ms M pc lv st σ Q} (kk : zP0 σ → Wp l G d mc ms M pc lv st σ Q) : Wp l G d mc ms M pc lv st σ Q := by
  intro p e R s m args below meth c H locs cells slots k n ls C K S P L r1 r2 r3 r4 r5 r6
  exact kk P.1 p e R s m args below meth c H locs cells slots k n ls C K S P L r1 r2 r3 r4 r5 r6
theorem zp_kind {l G d mc ms M pc lv st σ Q} {index i : Nat} {nm : String} (hd : decode M.2.1 pc = .ok (.getstatic index, 3)) (hi : i < 9) (hn : znm.getD i "" = nm) (hl : Cond.fieldLink M.1 index RX3 nm "LFlowBoxes$Kind;" ∈ gwl) (kk : Wp l G d mc ms M (pc + 3) lv (.ref (G.2.2.1 i) :: st) σ Q) : Wp l G d mc ms M pc lv st σ Q := by
  intro p e R s m args below meth c H locs cells slots k n ls C K S P L r1 r2 r3 r4 r5 r6
  subst hn
  exact va_gets C.1 C.2.1 (K.2.2.2.1.1 i hi).1 S C.2.2.2.1 (C.2.2.2.2.1 _ hl) (fun _ h => h) hd (kk p e R s m args below meth c H locs cells slots k n ls C K S P L r1 r2 r3 r4 r5 r6)
theorem zp_swmap {l G d mc ms M pc lv st σ Q} {index : Nat} (hd : decode M.2.1 pc = .ok (.getstatic index, 3)) (hl : Cond.fieldLink M.1 index RX0 "$SwitchMap$FlowBoxes$Kind" "[I" ∈ gwl) (kk : Wp l G d mc ms M (pc + 3) lv (.ref G.2.2.2.1 :: st) σ Q) : Wp l G d mc ms M pc lv st σ Q := by
  intro p e R s m args below meth c H locs cells slots k n ls C K S P L r1 r2 r3 r4 r5 r6
  exact va_gets C.1 C.2.1 K.2.2.2.2.1 S C.2.2.2.1 (C.2.2.2.2.1 _ hl) (fun _ h => h) hd (kk p e R s m args below meth c H locs cells slots k n ls C K S P L r1 r2 r3 r4 r5 r6)
theorem zp_ord {l G d mc ms M pc lv st σ Q} {index i : Nat} {x : Int32} (hd : decode M.2.1 pc = .ok (.getfield index, 3)) (hi : i < 9) (hx : ([0, 1, 2, 3, 4, 5, 6, 7, 8] : List Int32).getD i 0 = x) (hl : Cond.fieldLink M.1 index "java/lang/Enum" "ordinal" "I" ∈ gwl) (kk : Wp l G d mc ms M (pc + 3) lv (.int x :: st) σ Q) : Wp l G d mc ms M pc lv (.ref (G.2.2.1 i) :: st) σ Q := by
  intro p e R s m args below meth c H locs cells slots k n ls C K S P L r1 r2 r3 r4 r5 r6
  subst hx
  exact va_getE (q := ("java/lang/Enum", "ordinal", "I", [0, 1, 2, 3, 4, 5, 6, 7, 8])) C.1 C.2.1 K.2.2.2.1 hi S C.2.2.2.1 List.mem_cons_self (C.2.2.2.2.1 _ hl) (fun _ h => h) hd (kk p e R s m args below meth c H locs cells slots k n ls C K S P L r1 r2 r3 r4 r5 r6)
theorem zSle {G : Gb} {s : State} {H : Heap} {locs : List Loc} (K : zK G s s.heap) (S : va_S (gP G) s.heap H locs) : G.2.1 ≤ H.size := Nat.le_trans K.2.2.2.2.2 S.1
theorem zq0 {G : Gb} {σ : Sto} {s : State} {H : Heap} (P : zP G σ s H) : (zT σ H.size).1 = 0 := Decidable.byContradiction fun h => absurd (P.2.2.2.2.2.2 _ h) (Nat.lt_irrefl _)
theorem zSpush {G : Gb} {s : State} {H H1 : Heap} {locs : List Loc} (S : va_S (gP G) s.heap H locs) (z1 : H1.size = H.size + 1) (o1 : ∀ q, q < H.size → H1[q]? = H[q]?) : va_S (gP G) s.heap H1 locs :=
  ⟨Nat.le_trans S.1 (by omega), fun x h1 h2 => (o1 x (Nat.lt_of_lt_of_le h1 S.1)).trans (S.2.1 x h1 h2), S.2.2⟩
theorem zp_newI {l G d mc ms M pc lv st σ Q} {x : Int32} {N mc2 ms2 : Nat} (hd : decode M.2.1 pc = .ok (.newarray .int, 2)) (hw : Cond.arrayClass .int ∈ gwl) (hn : ¬ x < 0) (hN : x.toNatClampNeg = N) (hb : N * 4 ≤ 536870912) (h1 : mc2 + 1 ≤ mc) (h2 : ms2 + N ≤ ms)
    (kk : ∀ q, (zT σ q).1 = 0 → Wp l G d mc2 ms2 M (pc + 2) lv (.ref q :: st) (wT σ q (20, N)) Q) : Wp l G d mc ms M pc lv (.int x :: st) σ Q := by
  intro p e R s m args below meth c H locs cells slots k n ls C K S P L r1 r2 r3 r4 r5 r6
  refine va_newaK (atype := .int) C.1 C.2.1 (C.2.2.2.2.1 _ hw) rfl hd rfl hn hN hb (by omega) (by omega) rfl fun H1 cA e1 z1 o1 hAr hNm => ?_
  have hcA : cA = G.2.2.2.2 0 := Option.some.inj (hNm.symm.trans ((K.1.2 0 _ rfl).2))
  subst hcA
  refine kk H.size (zq0 P) p e R s m args below meth c H1 locs (cells + 1) (slots + N) k n ls C K (zSpush S z1 o1) (P.push (zSle K S) z1 o1 ⟨by show (20 : Nat) ≠ 0; decide, by show (20 : Nat) ≠ 25; decide, by show (20 : Nat) ≠ 30; decide⟩ (fun c h => by have h : (20 : Nat) = c + 1 := h; intro q; omega) (fun _ => ?_) (fun j h => by have h : (20 : Nat) = 21 + j := h; omega)) L r1 r2 (by omega) (by omega) r5 r6
  rw [e1]
  have hz : (fun j => Value.int (zA σ H.size j)) = fun _ => defaultValue (newarray.typeOf .int) := by funext j; rw [((P.1 _ (zq0 P)).2 j).1]; rfl
  rw [hz]
theorem zp_new {l G d mc ms M pc lv st σ Q} {c0 index mc2 ms2 : Nat} {r0 : vw_C} (hd : decode M.2.1 pc = .ok (.new index, 3)) (hr : zcl[c0]? = some r0) (hw1 : Cond.classLink M.1 index r0.1 ∈ gwl) (hw2 : Cond.instantiable r0.1 r0.2.2 ∈ gwl) (hw3 : Cond.initialized r0.1 ∈ gwl) (h1 : mc2 + 1 ≤ mc) (h2 : ms2 + r0.2.2 ≤ ms)
    (kk : ∀ q, (zT σ q).1 = 0 → Wp l G d mc2 ms2 M (pc + 3) lv (.ref q :: st) (wT σ q (c0 + 1, 0)) Q) : Wp l G d mc ms M pc lv st σ Q := by
  intro p e R s m args below meth c H locs cells slots k n ls C K S P L r1 r2 r3 r4 r5 r6
  obtain ⟨ty, hC⟩ := zCl_ok hr
  have hKn := K.1.1 c0 _ hr
  have hlt : c0 < 10 := (List.getElem?_eq_some_iff.mp hr).1
  refine W.newcK C.1 C.2.1 C.2.2.2.1 (C.2.2.2.2.1 _ hw1) (C.2.2.2.2.1 _ hw2) (C.2.2.2.2.1 _ hw3) rfl hd (by omega) (by omega) hKn.2.1 rfl fun H1 kC hkC e1 z1 o1 => ?_
  refine kk H.size (zq0 P) p e R s m args below meth c H1 locs (cells + 1) (slots + r0.2.2) k n ls C K (zSpush S z1 o1) (P.push (zSle K S) z1 o1 ⟨Nat.succ_ne_zero _, by show c0 + 1 ≠ 25; omega, by show c0 + 1 ≠ 30; omega⟩ (fun c h hc => ?_) (fun h => by have h : c0 + 1 = 20 := h; omega) (fun j h => by have h : c0 + 1 = 21 + j := h; omega)) L r1 r2 (by omega) (by omega) r5 r6
  have h : c0 + 1 = c + 1 := h
  have h : c0 = c := by omega
  subst h
  refine ⟨r0, hr, (u_born ty C.2.2.2.2.1 hC.1 hKn hkC e1 hC.2.1).to (fun j hj => ?_)⟩
  have hz := (P.1 _ (zq0 P)).1 (100 * (c0 + 1) + j)
  rw [hC.2.2.2.1 j hj]
  unfold zV zval
  cases zref (100 * (c0 + 1) + j)
  · show Value.int 0 = Value.int _; rw [hz.1]
  · show Value.null = va_rf _; rw [hz.2]; rfl
theorem zao1 {G U H} (K : zK G U H) : va_AO "FlowBoxes$Node" U := K.2.2.1.1
theorem zao2 {G U H} (K : zK G U H) : va_AO "FlowBoxes$Flow" U := K.2.2.1.2.1
theorem zao3 {G U H} (K : zK G U H) : va_AO "FlowBoxes$Thing" U := K.2.2.1.2.2
theorem zp_newQ {l G d mc ms M pc lv st σ Q} {x : Int32} {N mc2 ms2 index j : Nat} {Cn : String} (hd : decode M.2.1 pc = .ok (.anewarray index, 3)) (hw : Cond.classLink M.1 index Cn ∈ gwl) (hj : j < 3) (hty : (ztys G)[j + 1]? = some (G.2.2.2.2 (j + 1), .object Cn)) (hao : ∀ {U H}, zK G U H → va_AO Cn U) (hn : ¬ x < 0) (hN : x.toNatClampNeg = N) (hb : N * 4 ≤ 536870912) (h1 : mc2 + 1 ≤ mc) (h2 : ms2 + N ≤ ms)
    (kk : ∀ q, (zT σ q).1 = 0 → Wp l G d mc2 ms2 M (pc + 3) lv (.ref q :: st) (wT σ q (21 + j, N)) Q) : Wp l G d mc ms M pc lv (.int x :: st) σ Q := by
  intro p e R s m args below meth c H locs cells slots k n ls C K S P L r1 r2 r3 r4 r5 r6
  subst hN
  refine W.anew C.1 C.2.1 C.2.2.2.1 (C.2.2.2.2.1 _ hw) (va_AO.use (hao K)) rfl hd rfl hn hb (by omega) (by omega) fun cA kA comp f1 f2 f3 f4 => ?_
  obtain ⟨kA2, comp2, -, -, -, g4⟩ := (K.1.2 (j + 1) _ hty).2
  have hcA : cA = G.2.2.2.2 (j + 1) := Option.some.inj (f1.symm.trans g4)
  subst hcA
  generalize hH1 : H.push ({ cls := G.2.2.2.2 (j + 1), slots := Array.replicate x.toNatClampNeg .null, vm := .none } : Cell) = H1
  have z1 : H1.size = H.size + 1 := by rw [← hH1, Array.size_push]
  have e1 : H1[H.size]? = some (arrV (G.2.2.2.2 (j + 1)) x.toNatClampNeg (fun _ => .null)) := by rw [← hH1, Array.getElem?_push_size, ← arrV_new]
  have o1 : ∀ q : Nat, q < H.size → H1[q]? = H[q]? := fun q hq => by rw [← hH1, Array.getElem?_push, if_neg (Nat.ne_of_lt hq)]
  refine kk H.size (zq0 P) p e R s m args below meth c H1 locs (cells + 1) (slots + x.toNatClampNeg) k n ls C K (zSpush S z1 o1) (P.push (zSle K S) z1 o1 ⟨by show 21 + j ≠ 0; omega, by show 21 + j ≠ 25; omega, by show 21 + j ≠ 30; omega⟩ (fun c h hc => by have h : 21 + j = c + 1 := h; omega) (fun h => by have h : 21 + j = 20 := h; omega) (fun j2 h _ => ?_)) L r1 r2 (by omega) (by omega) r5 r6
  have h : 21 + j = 21 + j2 := h
  have h : j = j2 := by omega
  subst h
  rw [e1]
  have hz : (fun i => va_rf (zQ σ H.size i)) = fun _ => Value.null := by funext i; rw [((P.1 _ (zq0 P)).2 i).2]; rfl
  rw [hz]
theorem zp_aaload {l G d mc ms M pc lv st σ Q} {a j n i : Nat} {x : Int32} {Cn : String} {v : Value} (hd : decode M.2.1 pc = .ok (.aaload, 1)) (ht : zT σ a = (21 + j, n)) (hj : j < 3) (hty : (ztys G)[j + 1]? = some (G.2.2.2.2 (j + 1), .object Cn)) (hi : x.toNatClampNeg = i) (hin : vp_in x n) (hv : va_rf (zQ σ a i) = v) (kk : Wp l G d mc ms M (pc + 1) lv (v :: st) σ Q) : Wp l G d mc ms M pc lv (.int x :: .ref a :: st) σ Q := by
  intro p e R s m args below meth c H locs cells slots k n' ls C K S P L r1 r2 r3 r4 r5 r6
  have hlt : x.toNatClampNeg < n := Nat.not_le.mp fun q => hin (Or.inr q)
  subst hi; subst hv
  exact W.aald (v := va_rf (zQ σ a x.toNatClampNeg)) (ty := .object Cn) C.1 C.2.1 (P.2.2.2.1 a j n ht hj).2 ((K.1.2 (j + 1) _ hty).1 n (fun i => va_rf (zQ σ a i))) rfl (fun q => by cases q) (by show ¬ (x < 0 ∨ (arrV _ _ _).slots.size ≤ _); rw [arrV_size]; exact hin) (by show (arrV _ _ _).slots[_]? = _; rw [arrV_read _ _ hlt]) rfl rfl hd (kk p e R s m args below meth c H locs cells slots k n' ls C K S P L r1 r2 r3 r4 r5 r6)
theorem zp_aastore {l G d mc ms M pc lv st σ Q} {a j n i c0 v nv : Nat} {x : Int32} {r0 : vw_C} (hd : decode M.2.1 pc = .ok (.aastore, 1)) (ht : zT σ a = (21 + j, n)) (hj : j < 3) (hr : zcl[c0]? = some r0) (hty : (ztys G)[j + 1]? = some (G.2.2.2.2 (j + 1), .object r0.1)) (hv : zT σ v = (c0 + 1, nv)) (hi : x.toNatClampNeg = i) (hin : vp_in x n) (kk : Wp l G d mc ms M (pc + 1) lv st (wQ σ a i (some v)) Q) : Wp l G d mc ms M pc lv (.ref v :: .int x :: .ref a :: st) σ Q := by
  intro p e R s m args below meth c H locs cells slots k n' ls C K S P L r1 r2 r3 r4 r5 r6
  subst hi
  have hlt : x.toNatClampNeg < n := Nat.not_le.mp fun q => hin (Or.inr q)
  have h0 : ¬ x < 0 := fun q => hin (Or.inl q)
  have hc10 : c0 < 10 := (List.getElem?_eq_some_iff.mp hr).1
  obtain ⟨hbase, hcell⟩ := P.2.2.2.1 a j n ht hj
  obtain ⟨-, r1', hr1, cellV, g1, g2, g3, -⟩ := P.2.1 v c0 _ hv hc10
  have hcls := (K.1.1 c0 r0 hr).2
  obtain ⟨kA, comp, k1, k2, k3, -⟩ := (K.1.2 (j + 1) _ hty).2
  have hcomp : comp = G.1.1 c0 := Option.some.inj (k3.symm.trans hcls.1)
  subst hcomp
  obtain ⟨kC, hkC, -⟩ := hcls.2
  refine W.aast C.1 C.2.1 hcell (fun q h => by cases h) (fun h => by cases h) k1 k2 rfl hkC ⟨h0, by show _ < (arrV _ _ _).slots.size; rw [arrV_size]; exact hlt⟩ g1 (fun q h => by rw [g3] at h; cases h) (by rw [g2]; exact hkC) (by rw [g2]; exact va_assign hcls) rfl rfl hd fun H1 e1 z oq => ?_
  refine kk p e R s m args below meth c H1 _ cells slots k n' ls C K (S.put z oq hbase) (P.change (fun _ => rfl) (by rw [ht]; show 21 + j ≠ 0; omega) hbase (fun _ _ _ => rfl) (fun _ _ _ => rfl) (fun _ _ => rfl) (fun b hb => by funext i; rw [zQ_wQ, if_neg (fun q => hb q.1)]) z oq (fun c2 n2 e2 hc => ?_) (fun n2 e2 => ?_) (fun j2 n2 e2 hj2 => ?_)) L r1 r2 r3 r4 r5 r6
  · rw [ht] at e2; have e' : 21 + j = c2 + 1 := congrArg Prod.fst e2; omega
  · rw [ht] at e2; have e' : 21 + j = 20 := congrArg Prod.fst e2; omega
  · rw [ht] at e2
    have e' : 21 + j = 21 + j2 := congrArg Prod.fst e2
    have e'' : n = n2 := congrArg Prod.snd e2
    have e' : j = j2 := by omega
    subst e'; subst e''
    rw [e1, arrV_store]
    congr 2
    funext q
    by_cases hq : q = x.toNatClampNeg
    · subst hq
      simp [updV, zQ_wQ, va_rf]
    · simp [updV, zQ_wQ, hq]
/-- java.lang.Object's constructor -/
theorem zp_objInit {l G d mc ms M pc lv st σ Q} {a index : Nat} (hd : decode M.2.1 pc = .ok (.invokespecial index, 3)) (hl : Cond.methodLink M.1 index objectInit ∈ gwl) (hi : Cond.instanceMethod objectInit ∈ gwl) (hc : Cond.code objectInit ⟨#[0xb1]⟩ 1 none ∈ gwl) (h1 : 1 ≤ d) (hst : (st.map fun v => v.category).sum ≤ 8) (kk : Wp l G d mc ms M (pc + 3) lv st σ Q) : Wp l G d mc ms M pc lv (.ref a :: st) σ Q := by
  intro p e R s m args below meth c H locs cells slots k n ls C K S P L r1 r2 r3 r4 r5 r6
  refine W.objInit C.1 C.2.1 C.2.2.2.1 (C.2.2.2.2.1 _ hl) (C.2.2.2.2.1 _ hi) (C.2.2.2.2.1 _ hc) rfl (by rw [C.2.2.1]; exact L.1) rfl hd (by omega) (by show 2 * 0 + (st.map fun v => v.category).sum + 12 ≤ _; omega) ?_
  exact (kk p e R s m args below meth c H locs cells slots k n ls C K S P L r1 r2 r3 r4 r5 r6)
theorem zp_max {l G d mc ms M pc lv st σ Q} {x y v : Int32} {index : Nat} (hd : decode M.2.1 pc = .ok (.invokestatic index, 3)) (hl : Cond.methodLink M.1 index Lib.Math.max.name ∈ gwl) (hs : Cond.static Lib.Math.max.name ∈ gwl) (hi : Cond.initialized "java/lang/Math" ∈ gwl) (hc : Cond.code Lib.Math.max.name Lib.Math.max.code 2 (some .int) ∈ gwl) (h1 : 1 ≤ d) (hst : (st.map fun v => v.category).sum ≤ 8) (hv : (if x < y then y else x) = v) (kk : Wp l G d mc ms M (pc + 3) lv (.int v :: st) σ Q) : Wp l G d mc ms M pc lv (.int y :: .int x :: st) σ Q := by
  intro p e R s m args below meth c H locs cells slots k n ls C K S P L r1 r2 r3 r4 r5 r6
  subst hv
  exact va_mmax C.1 C.2.1 (by rw [C.2.2.1]; exact L.1.symm) C.2.2.2.1 (C.2.2.2.2.1 _ hl) (C.2.2.2.2.1 _ hs) (C.2.2.2.2.1 _ hi) (C.2.2.2.2.1 _ hc) (by omega) (by omega) (by omega) (by omega) hd (kk p e R s m args below meth c H locs cells slots k n ls C K S P L r1 r2 r3 r4 r5 r6)
theorem zp_min {l G d mc ms M pc lv st σ Q} {x y v : Int32} {index : Nat} (hd : decode M.2.1 pc = .ok (.invokestatic index, 3)) (hl : Cond.methodLink M.1 index Lib.Math.min.name ∈ gwl) (hs : Cond.static Lib.Math.min.name ∈ gwl) (hi : Cond.initialized "java/lang/Math" ∈ gwl) (hc : Cond.code Lib.Math.min.name Lib.Math.min.code 2 (some .int) ∈ gwl) (h1 : 1 ≤ d) (hst : (st.map fun v => v.category).sum ≤ 8) (hv : (if y < x then y else x) = v) (kk : Wp l G d mc ms M (pc + 3) lv (.int v :: st) σ Q) : Wp l G d mc ms M pc lv (.int y :: .int x :: st) σ Q := by
  intro p e R s m args below meth c H locs cells slots k n ls C K S P L r1 r2 r3 r4 r5 r6
  subst hv
  exact va_mmin C.1 C.2.1 (by rw [C.2.2.1]; exact L.1.symm) C.2.2.2.1 (C.2.2.2.2.1 _ hl) (C.2.2.2.2.1 _ hs) (C.2.2.2.2.1 _ hi) (C.2.2.2.2.1 _ hc) (by omega) (by omega) (by omega) (by omega) hd (kk p e R s m args below meth c H locs cells slots k n ls C K S P L r1 r2 r3 r4 r5 r6)

theorem zp_vret {l G d mc ms M pc lv σ Q} (hr : M.2.2.2.1 = none) (hd : decode M.2.1 pc = .ok (.return_, 1)) (hQ : Q none σ) : Wp l G d mc ms M pc lv [] σ Q := by
  intro p e R s m args below meth c H locs cells slots k n ls C K S P L r1 r2 r3 r4 r5 r6
  refine W.widen (k := k) (n := n) (by omega) (by omega) ?_
  exact W.vret C.1 C.2.1 (C.2.2.2.2.2.1.trans hr) (fun t ht hW => ⟨⟨_, σ, rfl, hQ, by rw [ht]; exact zP.moved hW.alike P⟩, S.F ht⟩) S.2.2 hd C.2.2.2.2.2.2.1
theorem zp_iret {l G d mc ms M pc lv σ Q} {v : Int32} (hr : M.2.2.2.1 = some .int) (hd : decode M.2.1 pc = .ok (.ireturn, 1)) (hQ : Q (some (.int v)) σ) : Wp l G d mc ms M pc lv [.int v] σ Q := by
  intro p e R s m args below meth c H locs cells slots k n ls C K S P L r1 r2 r3 r4 r5 r6
  refine W.widen (k := k) (n := n) (by omega) (by omega) ?_
  exact W.iret C.1 C.2.1 (C.2.2.2.2.2.1.trans hr) (fun t ht hW => ⟨⟨_, σ, rfl, hQ, by rw [ht]; exact zP.moved hW.alike P⟩, S.F ht⟩) S.2.2 hd C.2.2.2.2.2.2.1
theorem zp_zret {l G d mc ms M pc lv σ Q} {v : Int32} (hr : M.2.2.2.1 = some .boolean) (hv : v = 0 ∨ v = 1) (hd : decode M.2.1 pc = .ok (.ireturn, 1)) (hQ : Q (some (.int v)) σ) : Wp l G d mc ms M pc lv [.int v] σ Q := by
  intro p e R s m args below meth c H locs cells slots k n ls C K S P L r1 r2 r3 r4 r5 r6
  refine W.widen (k := k) (n := n) (by omega) (by omega) ?_
  exact W.zret C.1 C.2.1 (C.2.2.2.2.2.1.trans hr) (zfit_bool hv).1 (fun t ht hW => ⟨⟨_, σ, rfl, hQ, by rw [ht]; exact zP.moved hW.alike P⟩, S.F ht⟩) S.2.2 hd C.2.2.2.2.2.2.1
theorem zp_aret {l G d mc ms M pc lv σ Q} {v : Value} {C0 : String} {r : Option Nat} (hr : M.2.2.2.1 = some (.object C0)) (hv : v = va_rf r) (hd : decode M.2.1 pc = .ok (.areturn, 1)) (hQ : Q (some v) σ) : Wp l G d mc ms M pc lv [v] σ Q := by
  intro p e R s m args below meth c H locs cells slots k n ls C K S P L r1 r2 r3 r4 r5 r6
  refine W.widen (k := k) (n := n) (by omega) (by omega) ?_
  exact W.aret C.1 C.2.1 (C.2.2.2.2.2.1.trans hr) (Or.inl ⟨_, rfl⟩) (by subst hv; exact va_rf_or r) (fun t ht hW => ⟨⟨_, σ, rfl, hQ, by rw [ht]; exact zP.moved hW.alike P⟩, S.F ht⟩) S.2.2 hd C.2.2.2.2.2.2.1
theorem zgood {w : Cond} (h : w ∈ gwl) : (w.onTables && w.keeps) = true ∨ ∃ ty, w = .arrayClass ty := good_of_word (List.mem_filter.mp h).2
theorem zgoodIn {y : MethodName} {M : Mth} (hw : Cond.code y M.2.1 M.2.2.1 M.2.2.2.1 ∈ gwl) : GoodIn gwl (.code y M.2.1 M.2.2.1 M.2.2.2.1 :: gwl) := fun w h => by
  rcases List.mem_cons.mp h with rfl | h
  · exact ⟨hw, zgood hw⟩
  · exact ⟨h, zgood h⟩
theorem zblind {G : Gb} {av : List Value} {σ : Sto} : FrameBlind (va_Pc av (fun U => zK G U U.heap ∧ zP G σ U U.heap)) := fun a U g mk q => by
  obtain ⟨q0, q1, q2⟩ := q
  exact ⟨q0, zK.same (u := U) (U := U.calling g mk a) rfl q1, zP.moved (u := U) (U := U.calling g mk a) (Vm.Alike.refl U.vm) q2⟩
theorem zpre {G : Gb} {av : List Value} {σ : Sto} {s : State} {H : Heap} {locs : List Loc} (K : zK G s s.heap) (S : va_S (gP G) s.heap H locs) (P : zP G σ s H) : ∀ U : State, U.heap = H → s.WarmedH U.vm → va_Pc av (fun U => zK G U U.heap ∧ zP G σ U U.heap) av.toArray U := fun U hU hW => by
  refine ⟨rfl, ?_, ?_⟩
  · rw [hU]; exact zK.warm hW (zK.kept K S.1 S.2.1)
  · rw [hU]; exact zP.moved hW.alike P
/-- what is pushed behind a call -/
def zpush (v : Option Value) (st : List Value) : List Value := match v with
  | none => st
  | some x => x :: st
theorem zpush_eq (v : Option Value) (st : List Value) : v.toList ++ st = zpush v st := by cases v <;> rfl
theorem zcall0 {l : Launch} {G : Gb} {p : Program} {e : Env} {R : Room} {s : State} {m : MethodId} {args a : Array Value} {below : List Frame} {meth : Method} {c : Code} {H : Heap} {locs : List Loc} {cells slots mc ms pc : Nat} {ls : Array Slot} {st0 rest : List Value} {Q' : Option Value → Sto → Prop} {Q : State → Prop}
    (hr : va_Run p l e R s m args below meth c H locs cells slots mc ms (F0 m pc ls st0) rest (zQC G Q' a) (gP G)) (S : va_S (gP G) s.heap H locs)
    (kk : ∀ v σ' H1 locs1, Q' v σ' → zP G σ' s H1 → va_S (gP G) s.heap H1 locs1 → W p l e R s m args below meth c H1 locs1 (cells + mc) (slots + ms) Q (F0 m (pc + 3) ls (zpush v rest))) : W p l e R s m args below meth c H locs cells slots Q (F0 m pc ls st0) := by
  intro T hT X
  obtain ⟨v, st₀, t, T', L, h0, X', hL, e1, e2, ⟨⟨v', σ', hv, hp, hb⟩, hz, hk⟩, stp⟩ := hr T hT X
  cases hv
  rw [h0] at hz hk
  have hal : s.vm.Alike t.vm := by rw [← e2]; exact X'.warmed.alike
  obtain ⟨t2, a1, b1⟩ := kk v σ' T'.heap (locs ++ L) hp (by rw [e1]; exact zP.moved hal.symm hb)
    ⟨Nat.le_trans S.1 (by rw [e1]; exact hz), fun q h1 h2 => by rw [e1, hk q (Nat.lt_of_lt_of_le h1 S.1) h2]; exact S.2.1 q h1 h2, fun q hq => by
      rcases List.mem_append.mp hq with h | h
      · exact S.2.2 q h
      · exact hL q h⟩ T' rfl X'
  rw [← zpush_eq] at a1
  exact ⟨t2, stp t2 a1, b1⟩
/-- what a call asks of the callee -/
def zCl0 (own : String) (index : Nat) (y : MethodName) (M' : Mth) (n : Nat) (nest : Bool) : Prop :=
  Cond.code y M'.2.1 M'.2.2.1 M'.2.2.2.1 ∈ gwl ∧ Cond.initialized y.cls ∈ gwl ∧ M'.2.2.1 ≤ 21 ∧ (y.cls ≠ "java/lang/invoke/MethodHandle" ∧ y.cls ≠ "java/lang/invoke/VarHandle" ∧ (parseMethodDescriptor y.desc).map (fun d => d.parameters.length) = some n) ∧
    ((nest = false ∧ Cond.methodLink own index y ∈ gwl) ∨ (nest = true ∧ Cond.methodLinkNest own index y "FlowBoxes" ∈ gnl))
theorem zCl0.B {own : String} {index n : Nat} {y : MethodName} {M' : Mth} {R : Room} {s : State} {args : Array Value} {d d' mc ms : Nat} (h : zCl0 own index y M' n false) (ht : ∀ w ∈ gwl, w.before args s = true) (hd : d' + 1 ≤ d) (r1 : d ≤ R.frames) (r2 : 40 * d ≤ R.locals) :
    CallB R s args own index y M'.2.1 M'.2.2.1 M'.2.2.2.1 (.code y M'.2.1 M'.2.2.1 M'.2.2.2.1 :: gwl) { frames := d', cells := mc, slots := ms, locals := 40 * d' } mc ms n := by
  obtain ⟨h1, h2, h3, h4, h5⟩ := h
  rcases h5 with ⟨-, h5⟩ | ⟨h5, -⟩
  · exact callB_of n ht (zgoodIn h1) rfl rfl rfl (ht _ h2) (ht _ h5) h4 ⟨by show d' + 1 ≤ _; omega, by show 8 + (_ + 11) + 40 * d' ≤ _; omega⟩
  · cases h5
theorem zCl0.N {G : Gb} {own : String} {index n : Nat} {y : MethodName} {M' : Mth} {R : Room} {s : State} {args : Array Value} {d d' mc ms : Nat} (h : zCl0 own index y M' n true) (ht : ∀ w ∈ gwl, w.before args s = true) (K : zK G s s.heap) (hd : d' + 1 ≤ d) (r1 : d ≤ R.frames) (r2 : 40 * d ≤ R.locals) :
    va_CN R s args own index y "FlowBoxes" M'.2.1 M'.2.2.1 M'.2.2.2.1 (.code y M'.2.1 M'.2.2.1 M'.2.2.2.1 :: gwl) { frames := d', cells := mc, slots := ms, locals := 40 * d' } mc ms n := by
  obtain ⟨h1, h2, h3, h4, h5⟩ := h
  rcases h5 with ⟨h5, -⟩ | ⟨-, h5⟩
  · cases h5
  · exact va_cnB n ht (zgoodIn h1) rfl rfl rfl (K.2.1 _ h5) (ht _ h2) h4 ⟨by show d' + 1 ≤ _; omega, by show 8 + (_ + 11) + 40 * d' ≤ _; omega⟩
theorem zp_callS {l G d mc ms M pc lv st st0 σ Q} {index n : Nat} {y : MethodName} {M' : Mth} {av : List Value} {d' mc' ms' mc2 ms2 : Nat} {Q' : Option Value → Sto → Prop} {nest : Bool} (hd : decode M.2.1 pc = .ok (.invokestatic index, 3)) (hct : Ct l G d' mc' ms' y M' av σ Q') (hc : zCl0 M.1 index y M' n nest) (hs : Cond.static y ∈ gwl) (hn : av.length = n) (hst : st0 = av.reverse ++ st) (hd' : d' + 1 ≤ d) (h1 : mc' + mc2 ≤ mc) (h2 : ms' + ms2 ≤ ms) (hsm : (st.map fun v => v.category).sum ≤ 8)
    (kk : ∀ v σ', Q' v σ' → Wp l G d mc2 ms2 M (pc + 3) lv (zpush v st) σ' Q) : Wp l G d mc ms M pc lv st0 σ Q := by
  intro p e R s m args below meth c H locs cells slots k n' ls C K S P L r1 r2 r3 r4 r5 r6
  cases nest with
  | false => exact zcall0 (va_runS ⟨C.1, C.2.1, C.2.2.1, C.2.2.2.1, C.2.2.2.2.1⟩ hct ⟨hc.B C.2.2.2.2.1 hd' r1 r2, C.2.2.2.2.1 _ hs⟩ ⟨zblind, zpre K S P⟩ rfl hn L.1 hst (by show 2 * 0 + _ ≤ 8; omega) hd ⟨by omega, by omega⟩) S (fun v σ' H1 locs1 hq P1 S1 => kk v σ' hq p e R s m args below meth c H1 locs1 (cells + mc') (slots + ms') k n' ls C K S1 P1 L r1 r2 (by omega) (by omega) r5 r6)
  | true => exact zcall0 (va_runSN ⟨C.1, C.2.1, C.2.2.1, C.2.2.2.1, C.2.2.2.2.1⟩ hct ⟨hc.N C.2.2.2.2.1 K hd' r1 r2, C.2.2.2.2.1 _ hs, trivial⟩ ⟨zblind, zpre K S P⟩ rfl hn L.1 hst (by show 2 * 0 + _ ≤ 8; omega) hd ⟨by omega, by omega⟩) S (fun v σ' H1 locs1 hq P1 S1 => kk v σ' hq p e R s m args below meth c H1 locs1 (cells + mc') (slots + ms') k n' ls C K S1 P1 L r1 r2 (by omega) (by omega) r5 r6)
theorem zrecv {G : Gb} {σ : Sto} {s : State} {H : Heap} {b c0 nb : Nat} {r0 : vw_C} (K : zK G s s.heap) (P : zP G σ s H) (hr : zcl[c0]? = some r0) (ht : zT σ b = (c0 + 1, nb)) : ∃ cellB : Cell, H[b]? = some cellB ∧ cellB.vm.isStatics = false ∧ s.vm.findClass r0.1 = some cellB.cls := by
  obtain ⟨-, r1', hr1, cell, g1, g2, g3, -⟩ := P.2.1 b c0 _ ht ((List.getElem?_eq_some_iff.mp hr).1)
  exact ⟨cell, g1, by rw [g3]; rfl, by rw [g2]; exact (K.1.1 c0 r0 hr).2.1⟩
theorem zp_callVr {l G d mc ms M pc lv st st0 σ Q} {index n : Nat} {y : MethodName} {M' : Mth} {av : List Value} {d' mc' ms' mc2 ms2 : Nat} {Q' : Option Value → Sto → Prop} {nest : Bool} {b : Nat} (hrec : ∀ s H, zK G s s.heap → zP G σ s H → (∀ locs, va_S (gP G) s.heap H locs → ∃ cellB : Cell, H[b]? = some cellB ∧ cellB.vm.isStatics = false ∧ s.vm.findClass y.cls = some cellB.cls)) (hd : decode M.2.1 pc = .ok (.invokevirtual index, 3)) (hct : Ct l G d' mc' ms' y M' (.ref b :: av) σ Q') (hc : zCl0 M.1 index y M' n nest) (hi : Cond.instanceMethod y ∈ gwl) (hse : Cond.selects y.cls y y ∈ gwl) (hn : av.length = n) (hst : st0 = av.reverse ++ .ref b :: st) (hd' : d' + 1 ≤ d) (h1 : mc' + mc2 ≤ mc) (h2 : ms' + ms2 ≤ ms) (hsm : (st.map fun v => v.category).sum ≤ 8)
    (kk : ∀ v σ', Q' v σ' → Wp l G d mc2 ms2 M (pc + 3) lv (zpush v st) σ' Q) : Wp l G d mc ms M pc lv st0 σ Q := by
  intro p e R s m args below meth c H locs cells slots k n' ls C K S P L r1 r2 r3 r4 r5 r6
  cases nest with
  | false => exact zcall0 (va_runV (C := y.cls) ⟨C.1, C.2.1, C.2.2.1, C.2.2.2.1, C.2.2.2.2.1⟩ hct ⟨hc.B C.2.2.2.2.1 hd' r1 r2, C.2.2.2.2.1 _ hi, C.2.2.2.2.1 _ hse⟩ ⟨zblind, hrec s H K P _ S, zpre K S P⟩ rfl hn L.1 hst (by show 2 * 0 + _ ≤ 8; omega) hd ⟨by omega, by omega⟩) S (fun v σ' H1 locs1 hq P1 S1 => kk v σ' hq p e R s m args below meth c H1 locs1 (cells + mc') (slots + ms') k n' ls C K S1 P1 L r1 r2 (by omega) (by omega) r5 r6)
  | true => exact zcall0 (va_runVN (C := y.cls) ⟨C.1, C.2.1, C.2.2.1, C.2.2.2.1, C.2.2.2.2.1⟩ hct ⟨hc.N C.2.2.2.2.1 K hd' r1 r2, C.2.2.2.2.1 _ hi, C.2.2.2.2.1 _ hse⟩ ⟨zblind, hrec s H K P _ S, zpre K S P⟩ rfl hn L.1 hst (by show 2 * 0 + _ ≤ 8; omega) hd ⟨by omega, by omega⟩) S (fun v σ' H1 locs1 hq P1 S1 => kk v σ' hq p e R s m args below meth c H1 locs1 (cells + mc') (slots + ms') k n' ls C K S1 P1 L r1 r2 (by omega) (by omega) r5 r6)
theorem zp_callV {l G d mc ms M pc lv st st0 σ Q} {index n : Nat} {y : MethodName} {M' : Mth} {av : List Value} {d' mc' ms' mc2 ms2 : Nat} {Q' : Option Value → Sto → Prop} {nest : Bool} {b c0 nb : Nat} {r0 : vw_C} (hd : decode M.2.1 pc = .ok (.invokevirtual index, 3)) (hct : Ct l G d' mc' ms' y M' (.ref b :: av) σ Q') (hc : zCl0 M.1 index y M' n nest) (hi : Cond.instanceMethod y ∈ gwl) (hse : Cond.selects y.cls y y ∈ gwl) (hr : zcl[c0]? = some r0) (hrc : r0.1 = y.cls) (ht : zT σ b = (c0 + 1, nb)) (hn : av.length = n) (hst : st0 = av.reverse ++ .ref b :: st) (hd' : d' + 1 ≤ d) (h1 : mc' + mc2 ≤ mc) (h2 : ms' + ms2 ≤ ms) (hsm : (st.map fun v => v.category).sum ≤ 8)
    (kk : ∀ v σ', Q' v σ' → Wp l G d mc2 ms2 M (pc + 3) lv (zpush v st) σ' Q) : Wp l G d mc ms M pc lv st0 σ Q :=
  zp_callVr (fun s H K P locs _ => by rw [← hrc]; exact zrecv K P hr ht) hd hct hc hi hse hn hst hd' h1 h2 hsm kk
/-- .. on a constant of Kind -/
theorem zp_callK {l G d mc ms M pc lv st st0 σ Q} {index n : Nat} {y : MethodName} {M' : Mth} {av : List Value} {d' mc' ms' mc2 ms2 : Nat} {Q' : Option Value → Sto → Prop} {nest : Bool} {i : Nat} (hi9 : i < 9) (hyc : y.cls = RX3) (hd : decode M.2.1 pc = .ok (.invokevirtual index, 3)) (hct : Ct l G d' mc' ms' y M' (.ref (G.2.2.1 i) :: av) σ Q') (hc : zCl0 M.1 index y M' n nest) (hi : Cond.instanceMethod y ∈ gwl) (hse : Cond.selects y.cls y y ∈ gwl) (hn : av.length = n) (hst : st0 = av.reverse ++ .ref (G.2.2.1 i) :: st) (hd' : d' + 1 ≤ d) (h1 : mc' + mc2 ≤ mc) (h2 : ms' + ms2 ≤ ms) (hsm : (st.map fun v => v.category).sum ≤ 8)
    (kk : ∀ v σ', Q' v σ' → Wp l G d mc2 ms2 M (pc + 3) lv (zpush v st) σ' Q) : Wp l G d mc ms M pc lv st0 σ Q :=
  zp_callVr (fun s H K P locs S => by rw [hyc]; exact va_recvE K.2.2.2.1 hi9 S) hd hct hc hi hse hn hst hd' h1 h2 hsm kk
theorem zp_callI {l G d mc ms M pc lv st st0 σ Q} {index n : Nat} {y : MethodName} {M' : Mth} {av : List Value} {d' mc' ms' mc2 ms2 : Nat} {Q' : Option Value → Sto → Prop} {nest : Bool} {b : Nat} (hd : decode M.2.1 pc = .ok (.invokespecial index, 3)) (hct : Ct l G d' mc' ms' y M' (.ref b :: av) σ Q') (hc : zCl0 M.1 index y M' n nest) (hret : M'.2.2.2.1 = none) (hi : Cond.instanceMethod y ∈ gwl) (hyn : y.name = "<init>") (hn : av.length = n) (hst : st0 = av.reverse ++ .ref b :: st) (hd' : d' + 1 ≤ d) (h1 : mc' + mc2 ≤ mc) (h2 : ms' + ms2 ≤ ms) (hsm : (st.map fun v => v.category).sum ≤ 8)
    (kk : ∀ v σ', Q' v σ' → Wp l G d mc2 ms2 M (pc + 3) lv (zpush v st) σ' Q) : Wp l G d mc ms M pc lv st0 σ Q := by
  intro p e R s m args below meth c H locs cells slots k n' ls C K S P L r1 r2 r3 r4 r5 r6
  obtain ⟨nm', b', L', ret', isI'⟩ := M'
  cases hret
  cases nest with
  | false => exact zcall0 (va_runI ⟨C.1, C.2.1, C.2.2.1, C.2.2.2.1, C.2.2.2.2.1⟩ hct ⟨hc.B C.2.2.2.2.1 hd' r1 r2, hyn, C.2.2.2.2.1 _ hi⟩ ⟨zblind, zpre K S P⟩ rfl hn L.1 hst (by show 2 * 0 + _ ≤ 8; omega) hd ⟨by omega, by omega⟩) S (fun v σ' H1 locs1 hq P1 S1 => kk v σ' hq p e R s m args below meth c H1 locs1 (cells + mc') (slots + ms') k n' ls C K S1 P1 L r1 r2 (by omega) (by omega) r5 r6)
  | true => exact zcall0 (va_runIN ⟨C.1, C.2.1, C.2.2.1, C.2.2.2.1, C.2.2.2.2.1⟩ hct ⟨hc.N C.2.2.2.2.1 K hd' r1 r2, hyn, C.2.2.2.2.1 _ hi⟩ ⟨zblind, zpre K S P⟩ rfl hn L.1 hst (by show 2 * 0 + _ ≤ 8; omega) hd ⟨by omega, by omega⟩) S (fun v σ' H1 locs1 hq P1 S1 => kk v σ' hq p e R s m args below meth c H1 locs1 (cells + mc') (slots + ms') k n' ls C K S1 P1 L r1 r2 (by omega) (by omega) r5 r6)
/-- Enum.ordinal on a constant of Kind -/
theorem zp_callO {l G d mc ms M pc lv st st0 σ Q} {index n : Nat} {y : MethodName} {M' : Mth} {av : List Value} {d' mc' ms' mc2 ms2 : Nat} {Q' : Option Value → Sto → Prop} {nest : Bool} {i : Nat} (hi9 : i < 9) (hd : decode M.2.1 pc = .ok (.invokevirtual index, 3)) (hct : Ct l G d' mc' ms' y M' [.ref (G.2.2.1 i)] σ Q') (hyy : y = ⟨"java/lang/Enum", "ordinal", "()I"⟩) (hml : M'.2.2.1 ≤ 21)
    (hw1 : Cond.methodLink M.1 index ⟨RX3, "ordinal", "()I"⟩ ∈ gwl) (hw2 : Cond.sameMethod RX3 "java/lang/Enum" "ordinal" "()I" ∈ gwl) (hw3 : Cond.selects RX3 ⟨RX3, "ordinal", "()I"⟩ y ∈ gwl) (hw4 : Cond.instanceMethod y ∈ gwl) (hw5 : Cond.initialized y.cls ∈ gwl) (hw6 : Cond.code y M'.2.1 M'.2.2.1 M'.2.2.2.1 ∈ gwl) (hst : st0 = .ref (G.2.2.1 i) :: st) (hd' : d' + 1 ≤ d) (h1 : mc' + mc2 ≤ mc) (h2 : ms' + ms2 ≤ ms) (hsm : (st.map fun v => v.category).sum ≤ 8)
    (kk : ∀ v σ', Q' v σ' → Wp l G d mc2 ms2 M (pc + 3) lv (zpush v st) σ' Q) : Wp l G d mc ms M pc lv st0 σ Q := by
  intro p e R s m args below meth c H locs cells slots k n' ls C K S P L r1 r2 r3 r4 r5 r6
  refine zcall0 (va_runU (C := RX3) (owner := "java/lang/Enum") (x := ⟨RX3, "ordinal", "()I"⟩) (As := []) ⟨C.1, C.2.1, C.2.2.1, C.2.2.2.1, C.2.2.2.2.1⟩ hct (va_cwU (Ts := gwl) 0 C.2.2.2.2.1 (fun w hw => ?_) rfl rfl rfl hyy ⟨by decide, by decide, by decide +kernel⟩ ⟨by show d' + 1 ≤ _; omega, by show 8 + (_ + 11) + 40 * d' ≤ _; omega⟩) ⟨zblind, va_recvE K.2.2.2.1 hi9 S, zpre K S P⟩ rfl rfl L.1 hst (by show 2 * 0 + _ ≤ 8; omega) hd ⟨by omega, by omega⟩) S (fun v σ' H1 locs1 hq P1 S1 => kk v σ' hq p e R s m args below meth c H1 locs1 (cells + mc') (slots + ms') k n' ls C K S1 P1 L r1 r2 (by omega) (by omega) r5 r6)
  unfold va_wsU at hw
  rcases List.mem_append.mp hw with h | h
  · simp only [List.mem_cons, List.not_mem_nil, or_false] at h
    rcases h with rfl | rfl | rfl | rfl | rfl
    · exact ⟨hw1, zgood hw1⟩
    · exact ⟨hw2, zgood hw2⟩
    · exact ⟨hw3, zgood hw3⟩
    · exact ⟨hw4, zgood hw4⟩
    · exact ⟨hw5, zgood hw5⟩
  · exact zgoodIn hw6 w h
theorem Wp.widen {l G d mc ms M pc lv st σ Q} {d2 mc2 ms2 : Nat} (hd : d2 ≤ d) (h1 : mc2 ≤ mc) (h2 : ms2 ≤ ms) (h : Wp l G d2 mc2 ms2 M pc lv st σ Q) : Wp l G d mc ms M pc lv st σ Q := h.mono hd h1 h2 (fun _ _ q => q)
theorem zp_lv {l G d mc ms M pc lv st σ Q} {lv2 : List (Nat × Value)} (ks : List Nat) (hl : lv_pick lv ks = lv2) (kk : Wp l G d mc ms M pc lv2 st σ Q) : Wp l G d mc ms M pc lv st σ Q := by
  intro p e R s m args below meth c H locs cells slots k n ls C K S P L r1 r2 r3 r4 r5 r6
  exact kk p e R s m args below meth c H locs cells slots k n ls C K S P (lv_sub L ks hl) r1 r2 r3 r4 r5 r6
theorem zp_topi {l G d mc ms M pc lv st σ Q} {e : Int32} (kk : ∀ x, x = e → Wp l G d mc ms M pc lv (.int x :: st) σ Q) : Wp l G d mc ms M pc lv (.int e :: st) σ Q := kk e rfl
theorem Ct.mono {l G d mc ms} {y : MethodName} {M : Mth} {av : List Value} {σ} {Q Q2 : Option Value → Sto → Prop} (h : ∀ Q', (∀ v s, Q v s → Q' v s) → Ct l G d mc ms y M av σ Q') (hQ : ∀ v s, Q v s → Q2 v s) : Ct l G d mc ms y M av σ Q2 := h Q2 hQ
end
section
/-! WORDS of the tables, by name (by wip/p27/gen_words.py): m_ methods, wd_ words, fl_ field links, cl_ what a call asks -/
def mX12_init : Mth := (RX12, cX12_init, 3, none, true)
def mX7_init : Mth := (RX7, cX7_init, 5, none, true)
def mX7_firstValue : Mth := (RX7, cX7_firstValue, 1, (some .int), false)
def mX9_init : Mth := (RX9, cX9_init, 3, none, true)
def mX1_init : Mth := (RX1, cX1_init, 1, none, true)
def mX11_init : Mth := (RX11, cX11_init, 1, none, true)
def mX10_init : Mth := (RX10, cX10_init, 1, none, true)
def mX7_assignRoles : Mth := (RX7, cX7_assignRoles, 2, none, false)
def mX7_assignRole : Mth := (RX7, cX7_assignRole, 2, none, false)
def mX7_findKind : Mth := (RX7, cX7_findKind, 2, (some (.object "FlowBoxes$Kind")), false)
def mX7_isText : Mth := (RX7, cX7_isText, 1, (some .boolean), false)
def mX7_countsFor : Mth := (RX7, cX7_countsFor, 2, (some .boolean), false)
def mJx29ce0_ordinal_8abf5 : Mth := (RJx29ce0, cJx29ce0_ordinal_8abf5, 1, (some .int), false)
def mX7_isInColumns : Mth := (RX7, cX7_isInColumns, 2, (some .boolean), false)
def mX7_countScrollsAround : Mth := (RX7, cX7_countScrollsAround, 3, (some .int), false)
def mX7_onward : Mth := (RX7, cX7_onward, 4, (some (.object "FlowBoxes$Node")), false)
def mX4_init : Mth := (RX4, cX4_init, 4, none, true)
def mX2_init : Mth := (RX2, cX2_init, 1, none, true)
def mX8_init : Mth := (RX8, cX8_init, 1, none, true)
def mX4_layAll : Mth := (RX4, cX4_layAll, 5, (some .int), false)
def mX4_layOut : Mth := (RX4, cX4_layOut, 6, none, false)
def mX4_placeOf : Mth := (RX4, cX4_placeOf, 2, (some (.object "FlowBoxes$Place")), false)
def mX4_layTable : Mth := (RX4, cX4_layTable, 9, (some .int), false)
def mX6_countColumns : Mth := (RX6, cX6_countColumns, 5, (some .int), false)
def mX4_placeEvenly : Mth := (RX4, cX4_placeEvenly, 6, none, false)
def mX4_placeColumn : Mth := (RX4, cX4_placeColumn, 8, none, false)
def mX6_cellAt : Mth := (RX6, cX6_cellAt, 4, (some (.object "FlowBoxes$Node")), false)
def mX7_flatEdges : Mth := (RX7, cX7_flatEdges, 1, (some .int), false)
def mX4_placeByContent : Mth := (RX4, cX4_placeByContent, 12, none, false)
def mX6_leastOfColumn : Mth := (RX6, cX6_leastOfColumn, 5, (some .int), false)
def mX6_outerLeast : Mth := (RX6, cX6_outerLeast, 3, (some .int), false)
def mX6_mostOf : Mth := (RX6, cX6_mostOf, 1, (some .int), false)
def mX6_mostOfTable : Mth := (RX6, cX6_mostOfTable, 6, (some .int), false)
def mX6_mostOfColumn : Mth := (RX6, cX6_mostOfColumn, 5, (some .int), false)
def mX6_outerMost : Mth := (RX6, cX6_outerMost, 3, (some .int), false)
def mX6_leastOf : Mth := (RX6, cX6_leastOf, 1, (some .int), false)
def mX6_leastOfTable : Mth := (RX6, cX6_leastOfTable, 6, (some .int), false)
def mX6_besideEachOther : Mth := (RX6, cX6_besideEachOther, 5, (some .int), false)
def mX6_leastInside : Mth := (RX6, cX6_leastInside, 3, (some .int), false)
def mX6_leastOfWords : Mth := (RX6, cX6_leastOfWords, 5, (some .int), false)
def mX6_inColumns : Mth := (RX6, cX6_inColumns, 3, (some .int), false)
def mX7_flatRim : Mth := (RX7, cX7_flatRim, 1, (some .int), false)
def mX6_mostInside : Mth := (RX6, cX6_mostInside, 4, (some .int), false)
def mX3_isInLines : Mth := (RX3, cX3_isInLines, 1, (some .boolean), false)
def mX7_endOfRun : Mth := (RX7, cX7_endOfRun, 3, (some (.object "FlowBoxes$Node")), false)
def mX7_mayStandInRun : Mth := (RX7, cX7_mayStandInRun, 1, (some .boolean), false)
def mX6_mostOfRun : Mth := (RX6, cX6_mostOfRun, 6, (some .int), false)
def mX7_onwardInRun : Mth := (RX7, cX7_onwardInRun, 3, (some (.object "FlowBoxes$Node")), false)
def mX4_lackOf : Mth := (RX4, cX4_lackOf, 2, (some .int), false)
def mX4_partOf : Mth := (RX4, cX4_partOf, 3, (some .int), false)
def mX4_layRow : Mth := (RX4, cX4_layRow, 6, (some .int), false)
def mX4_heightIn : Mth := (RX4, cX4_heightIn, 3, (some .int), false)
def mX7_uprightEdges : Mth := (RX7, cX7_uprightEdges, 1, (some .int), false)
def mX4_layWithBars : Mth := (RX4, cX4_layWithBars, 10, (some .int), false)
def mX4_flowContext : Mth := (RX4, cX4_flowContext, 4, (some .int), false)
def mX4_flowOf : Mth := (RX4, cX4_flowOf, 2, (some (.object "FlowBoxes$Flow")), false)
def mX2_begin : Mth := (RX2, cX2_begin, 1, none, false)
def mX4_flowContainer : Mth := (RX4, cX4_flowContainer, 7, none, false)
def mX4_freeLines : Mth := (RX4, cX4_freeLines, 2, none, false)
def mX4_hasThings : Mth := (RX4, cX4_hasThings, 3, (some .boolean), false)
def mX4_flowLines : Mth := (RX4, cX4_flowLines, 6, none, false)
def mX2_endMargins : Mth := (RX2, cX2_endMargins, 2, none, false)
def mX2_pendingY : Mth := (RX2, cX2_pendingY, 1, (some .int), false)
def mX2_dropMargins : Mth := (RX2, cX2_dropMargins, 1, none, false)
def mX4_addWords : Mth := (RX4, cX4_addWords, 10, none, false)
def mX4_shiftOf : Mth := (RX4, cX4_shiftOf, 3, (some .int), false)
def mX9_pieceAt : Mth := (RX9, cX9_pieceAt, 2, (some (.object "FlowBoxes$Thing")), false)
def mX4_addThing : Mth := (RX4, cX4_addThing, 9, none, false)
def mX2_look : Mth := (RX2, cX2_look, 5, none, false)
def mX1_reachesInto : Mth := (RX1, cX1_reachesInto, 5, (some .boolean), false)
def mX2_fits : Mth := (RX2, cX2_fits, 2, (some .boolean), false)
def mX2_nextOffset : Mth := (RX2, cX2_nextOffset, 1, (some .int), false)
def mX2_band : Mth := (RX2, cX2_band, 1, (some .int), false)
def mX4_putThing : Mth := (RX4, cX4_putThing, 4, none, false)
def mX4_addLine : Mth := (RX4, cX4_addLine, 3, (some (.object "FlowBoxes$Line")), false)
def mX5_init : Mth := (RX5, cX5_init, 1, none, true)
def mX4_endLine : Mth := (RX4, cX4_endLine, 6, none, false)
def mX2_reachTo : Mth := (RX2, cX2_reachTo, 2, none, false)
def mX4_putFloat : Mth := (RX4, cX4_putFloat, 8, none, false)
def mX4_widthIn : Mth := (RX4, cX4_widthIn, 4, (some .int), false)
def mX4_knownHeight : Mth := (RX4, cX4_knownHeight, 3, (some .int), false)
def mX7_uprightRim : Mth := (RX7, cX7_uprightRim, 1, (some .int), false)
def mX2_floatTop : Mth := (RX2, cX2_floatTop, 2, (some .int), false)
def mX2_findHeight : Mth := (RX2, cX2_findHeight, 6, (some .int), false)
def mX2_nextLow : Mth := (RX2, cX2_nextLow, 5, (some .int), false)
def mX2_addFloat : Mth := (RX2, cX2_addFloat, 2, none, false)
def mX4_addInlineBlock : Mth := (RX4, cX4_addInlineBlock, 8, none, false)
def mX4_meetFloat : Mth := (RX4, cX4_meetFloat, 5, none, false)
def mX2_addLate : Mth := (RX2, cX2_addLate, 3, none, false)
def mX4_meetAbsolute : Mth := (RX4, cX4_meetAbsolute, 4, none, false)
def mX4_flowWithoutLines : Mth := (RX4, cX4_flowWithoutLines, 5, none, false)
def mX4_flowOutside : Mth := (RX4, cX4_flowOutside, 4, none, false)
def mX4_flowContextBlock : Mth := (RX4, cX4_flowContextBlock, 8, none, false)
def mX2_pend : Mth := (RX2, cX2_pend, 2, none, false)
def mX2_clearFloats : Mth := (RX2, cX2_clearFloats, 5, none, false)
def mX4_flowPlainBlock : Mth := (RX4, cX4_flowPlainBlock, 5, none, false)
def mX4_endHeldBlock : Mth := (RX4, cX4_endHeldBlock, 4, none, false)
def mX4_endWaitingBlock : Mth := (RX4, cX4_endWaitingBlock, 3, none, false)
def mX2_contentHeight : Mth := (RX2, cX2_contentHeight, 3, (some .int), false)
def mX4_layInColumns : Mth := (RX4, cX4_layInColumns, 7, (some .int), false)
def mX4_gatherItems : Mth := (RX4, cX4_gatherItems, 5, none, false)
def mX4_gatherLines : Mth := (RX4, cX4_gatherLines, 3, none, false)
def mX10_add : Mth := (RX10, cX10_add, 4, none, false)
def mX4_inlineTop : Mth := (RX4, cX4_inlineTop, 3, (some .int), false)
def mX11_topSide : Mth := (RX11, cX11_topSide, 1, (some .int), false)
def mX4_isFlownThrough : Mth := (RX4, cX4_isFlownThrough, 1, (some .boolean), false)
def mX10_findBreaks : Mth := (RX10, cX10_findBreaks, 3, none, false)
def mX10_addPlace : Mth := (RX10, cX10_addPlace, 4, none, false)
def mX10_keepWholeItems : Mth := (RX10, cX10_keepWholeItems, 6, none, false)
def mX10_leastHeight : Mth := (RX10, cX10_leastHeight, 6, (some .int), false)
def mX10_split : Mth := (RX10, cX10_split, 5, (some .int), false)
def mX4_moveToColumns : Mth := (RX4, cX4_moveToColumns, 6, none, false)
def mX4_moveLines : Mth := (RX4, cX4_moveLines, 5, none, false)
def mX10_columnAt : Mth := (RX10, cX10_columnAt, 3, (some .int), false)
def mX10_beginOf : Mth := (RX10, cX10_beginOf, 2, (some .int), false)
def mX4_layAbsolute : Mth := (RX4, cX4_layAbsolute, 4, none, false)
def mX4_stackAround : Mth := (RX4, cX4_stackAround, 2, (some (.object "FlowBoxes$Node")), false)
def mX7_isStack : Mth := (RX7, cX7_isStack, 1, (some .boolean), false)
def mX4_settle : Mth := (RX4, cX4_settle, 4, none, false)
def mX4_settleAbsolute : Mth := (RX4, cX4_settleAbsolute, 10, none, false)
def mX4_settleInFlow : Mth := (RX4, cX4_settleInFlow, 7, none, false)
def mX4_offsetOf : Mth := (RX4, cX4_offsetOf, 1, (some .int), false)
def mX4_inlineLeft : Mth := (RX4, cX4_inlineLeft, 3, (some .int), false)
def mX11_leftSide : Mth := (RX11, cX11_leftSide, 1, (some .int), false)
def mX8_arrange : Mth := (RX8, cX8_arrange, 2, none, false)
def mX8_paintStack : Mth := (RX8, cX8_paintStack, 3, none, false)
def mX8_add : Mth := (RX8, cX8_add, 2, none, false)
def mX8_paintStacksIn : Mth := (RX8, cX8_paintStacksIn, 5, none, false)
def mX8_paintInside : Mth := (RX8, cX8_paintInside, 6, none, false)
def mX8_stepOf : Mth := (RX8, cX8_stepOf, 1, (some .int), false)
def mX12_page : Mth := (RX12, cX12_page, 3, (some .int), false)
def mX12_layAgain : Mth := (RX12, cX12_layAgain, 1, none, false)
def mL_cell : Mth := (RL, cL_cell, 2, (some .int), false)
def mL_low : Mth := (RL, cL_low, 2, (some .int), false)
def mL_lays : Mth := (RL, cL_lays, 13, none, false)
def mL_next : Mth := (RL, cL_next, 5, (some .int), false)
def mL_runs : Mth := (RL, cL_runs, 18, (some .int), false)
def mL_ends : Mth := (RL, cL_ends, 3, none, false)
def mL_shuts : Mth := (RL, cL_shuts, 6, none, false)
def mL_inside : Mth := (RL, cL_inside, 3, (some .int), false)
def mL_enters : Mth := (RL, cL_enters, 10, none, false)
def mL_pends : Mth := (RL, cL_pends, 2, none, false)
def mL_known : Mth := (RL, cL_known, 5, (some .int), false)
def mL_leaves : Mth := (RL, cL_leaves, 9, none, false)
def mL_same : Mth := (RL, cL_same, 10, (some .boolean), false)
def mX12_height : Mth := (RX12, cX12_height, 2, (some .int), false)
def mX12_placedAt : Mth := (RX12, cX12_placedAt, 4, (some (.object "FlowBoxes$Node")), false)
def mX12_nodeAt : Mth := (RX12, cX12_nodeAt, 2, (some (.object "FlowBoxes$Node")), false)
def mX12_sideOf : Mth := (RX12, cX12_sideOf, 4, (some .int), false)
def mX12_pieceSide : Mth := (RX12, cX12_pieceSide, 7, (some .int), false)
def mX12_width : Mth := (RX12, cX12_width, 2, (some .int), false)
def mX12_painted : Mth := (RX12, cX12_painted, 1, (some .int), false)
def mX12_x : Mth := (RX12, cX12_x, 2, (some .int), false)
def mX12_y : Mth := (RX12, cX12_y, 2, (some .int), false)
def mX12_bars : Mth := (RX12, cX12_bars, 3, (some .int), false)
def mX12_boxAt : Mth := (RX12, cX12_boxAt, 3, (some (.object "FlowBoxes$Node")), false)
def mX12_fromNothing : Mth := (RX12, cX12_fromNothing, 4, (some .int), false)
def mX4_forgetAll : Mth := (RX4, cX4_forgetAll, 3, none, false)
def mX12_line : Mth := (RX12, cX12_line, 7, (some .int), false)
def mX7_holdsLines : Mth := (RX7, cX7_holdsLines, 1, (some .boolean), false)
def mX12_lineAt : Mth := (RX12, cX12_lineAt, 4, (some (.object "FlowBoxes$Line")), false)
def mX12_lines : Mth := (RX12, cX12_lines, 5, (some .int), false)
def mL_makes : Mth := (RL, cL_makes, 11, (some .boolean), false)
def mX12_children : Mth := (RX12, cX12_children, 3, (some .int), false)
def mX7_countChildren : Mth := (RX7, cX7_countChildren, 3, (some .int), false)
def mX12_text : Mth := (RX12, cX12_text, 6, (some .int), false)
def mX12_hasRoom : Mth := (RX12, cX12_hasRoom, 2, (some .boolean), false)
def mX12_insertNode : Mth := (RX12, cX12_insertNode, 6, (some .int), false)
def mX7_putIn : Mth := (RX7, cX7_putIn, 6, none, false)
def mX12_noteChange : Mth := (RX12, cX12_noteChange, 3, none, false)
def mX12_box : Mth := (RX12, cX12_box, 5, (some .int), false)
def mX12_word : Mth := (RX12, cX12_word, 5, (some .int), false)
def mX12_textAt : Mth := (RX12, cX12_textAt, 3, (some (.object "FlowBoxes$Node")), false)
def mL_styles : Mth := (RL, cL_styles, 11, (some .boolean), false)
def mX12_style : Mth := (RX12, cX12_style, 6, (some .int), false)
def mX12_allows : Mth := (RX12, cX12_allows, 2, (some .boolean), false)
def mX12_isPercentage : Mth := (RX12, cX12_isPercentage, 1, (some .boolean), false)
def mX12_reachesInside : Mth := (RX12, cX12_reachesInside, 1, (some .boolean), false)
def mX12_noteChangeInside : Mth := (RX12, cX12_noteChangeInside, 3, none, false)
theorem wd_0 : (Cond.initialized "FlowBoxesLaw") ∈ gwl := gw_of (i := 0) (by decide +kernel) rfl
theorem wd_1 : (Cond.initialized "FlowBoxes") ∈ gwl := gw_of (i := 1) (by decide +kernel) rfl
theorem wd_2 : (Cond.initialized "FlowBoxes$Node") ∈ gwl := gw_of (i := 2) (by decide +kernel) rfl
theorem wd_3 : (Cond.initialized "FlowBoxes$Place") ∈ gwl := gw_of (i := 3) (by decide +kernel) rfl
theorem wd_4 : (Cond.initialized "FlowBoxes$Floated") ∈ gwl := gw_of (i := 4) (by decide +kernel) rfl
theorem wd_5 : (Cond.initialized "FlowBoxes$Thing") ∈ gwl := gw_of (i := 5) (by decide +kernel) rfl
theorem wd_6 : (Cond.initialized "java/lang/Enum") ∈ gwl := gw_of (i := 6) (by decide +kernel) rfl
theorem wd_7 : (Cond.initialized "FlowBoxes$Kind") ∈ gwl := gw_of (i := 7) (by decide +kernel) rfl
theorem wd_8 : (Cond.initialized "FlowBoxes$Strip") ∈ gwl := gw_of (i := 8) (by decide +kernel) rfl
theorem wd_9 : (Cond.initialized "FlowBoxes$1") ∈ gwl := gw_of (i := 9) (by decide +kernel) rfl
theorem wd_10 : (Cond.initialized "FlowBoxes$Layout") ∈ gwl := gw_of (i := 10) (by decide +kernel) rfl
theorem wd_11 : (Cond.initialized "FlowBoxes$Flow") ∈ gwl := gw_of (i := 11) (by decide +kernel) rfl
theorem wd_12 : (Cond.initialized "FlowBoxes$Painter") ∈ gwl := gw_of (i := 12) (by decide +kernel) rfl
theorem wd_13 : (Cond.initialized "FlowBoxes$Measures") ∈ gwl := gw_of (i := 13) (by decide +kernel) rfl
theorem wd_14 : (Cond.initialized "java/lang/Math") ∈ gwl := gw_of (i := 14) (by decide +kernel) rfl
theorem wd_15 : (Cond.initialized "FlowBoxes$Line") ∈ gwl := gw_of (i := 15) (by decide +kernel) rfl
theorem wd_16 : (Cond.initialized "java/lang/Throwable") ∈ gwl := gw_of (i := 16) (by decide +kernel) rfl
theorem wd_17 : (Cond.initialized "java/lang/Exception") ∈ gwl := gw_of (i := 17) (by decide +kernel) rfl
theorem wd_18 : (Cond.initialized "java/lang/RuntimeException") ∈ gwl := gw_of (i := 18) (by decide +kernel) rfl
theorem wd_19 : (Cond.initialized "java/lang/IndexOutOfBoundsException") ∈ gwl := gw_of (i := 19) (by decide +kernel) rfl
theorem wd_20 : (Cond.initialized "java/lang/IllegalArgumentException") ∈ gwl := gw_of (i := 20) (by decide +kernel) rfl
theorem wd_21 : (Cond.initialized "java/lang/IllegalStateException") ∈ gwl := gw_of (i := 21) (by decide +kernel) rfl
theorem wd_22 : (Cond.classLink "FlowBoxesLaw" (49 : Nat) "FlowBoxes") ∈ gwl := gw_of (i := 22) (by decide +kernel) rfl
theorem wd_23 : (Cond.instantiable "FlowBoxes" (10 : Nat)) ∈ gwl := gw_of (i := 23) (by decide +kernel) rfl
theorem wd_24 : (Cond.methodLink "FlowBoxesLaw" (99 : Nat) ({ cls := "FlowBoxes", name := "<init>", desc := "()V" } : MethodName)) ∈ gwl := gw_of (i := 24) (by decide +kernel) rfl
theorem wd_25 : (Cond.instanceMethod ({ cls := "FlowBoxes", name := "<init>", desc := "()V" } : MethodName)) ∈ gwl := gw_of (i := 25) (by decide +kernel) rfl
theorem wd_26 : (Cond.code ({ cls := "FlowBoxes", name := "<init>", desc := "()V" } : MethodName) prog_1_method_1_code (3 : Nat) (Option.none : Option FieldType)) ∈ gwl := gw_of (i := 26) (by decide +kernel) rfl
theorem wd_27 : (Cond.methodLink "FlowBoxes" (1 : Nat) ({ cls := "java/lang/Object", name := "<init>", desc := "()V" } : MethodName)) ∈ gwl := gw_of (i := 27) (by decide +kernel) rfl
theorem wd_28 : (Cond.instanceMethod ({ cls := "java/lang/Object", name := "<init>", desc := "()V" } : MethodName)) ∈ gwl := gw_of (i := 28) (by decide +kernel) rfl
theorem wd_29 : (Cond.code ({ cls := "java/lang/Object", name := "<init>", desc := "()V" } : MethodName) object_method_1_code (1 : Nat) (Option.none : Option FieldType)) ∈ gwl := gw_of (i := 29) (by decide +kernel) rfl
theorem wd_30 : (Cond.classLink "FlowBoxes" (7 : Nat) "FlowBoxes$Node") ∈ gwl := gw_of (i := 30) (by decide +kernel) rfl
theorem wd_31 : (Cond.instantiable "FlowBoxes$Node" (20 : Nat)) ∈ gwl := gw_of (i := 31) (by decide +kernel) rfl
theorem wd_33 : (Cond.instanceMethod ({ cls := "FlowBoxes$Node", name := "<init>", desc := "(ILFlowBoxes$Node;I)V" } : MethodName)) ∈ gwl := gw_of (i := 33) (by decide +kernel) rfl
theorem wd_34 : (Cond.code ({ cls := "FlowBoxes$Node", name := "<init>", desc := "(ILFlowBoxes$Node;I)V" } : MethodName) prog_9_method_1_code (5 : Nat) (Option.none : Option FieldType)) ∈ gwl := gw_of (i := 34) (by decide +kernel) rfl
theorem wd_35 : (Cond.methodLink "FlowBoxes$Node" (3 : Nat) ({ cls := "java/lang/Object", name := "<init>", desc := "()V" } : MethodName)) ∈ gwl := gw_of (i := 35) (by decide +kernel) rfl
theorem wd_36 : (Cond.methodLink "FlowBoxes$Node" (32 : Nat) ({ cls := "FlowBoxes$Node", name := "firstValue", desc := "(I)I" } : MethodName)) ∈ gwl := gw_of (i := 36) (by decide +kernel) rfl
theorem wd_37 : (Cond.static ({ cls := "FlowBoxes$Node", name := "firstValue", desc := "(I)I" } : MethodName)) ∈ gwl := gw_of (i := 37) (by decide +kernel) rfl
theorem wd_38 : (Cond.code ({ cls := "FlowBoxes$Node", name := "firstValue", desc := "(I)I" } : MethodName) prog_9_method_2_code (1 : Nat) (Option.some FieldType.int)) ∈ gwl := gw_of (i := 38) (by decide +kernel) rfl
theorem wd_39 : (Cond.classLink "FlowBoxes$Node" (42 : Nat) "FlowBoxes$Place") ∈ gwl := gw_of (i := 39) (by decide +kernel) rfl
theorem wd_40 : (Cond.instantiable "FlowBoxes$Place" (20 : Nat)) ∈ gwl := gw_of (i := 40) (by decide +kernel) rfl
theorem wd_42 : (Cond.instanceMethod ({ cls := "FlowBoxes$Place", name := "<init>", desc := "(I)V" } : MethodName)) ∈ gwl := gw_of (i := 42) (by decide +kernel) rfl
theorem wd_43 : (Cond.code ({ cls := "FlowBoxes$Place", name := "<init>", desc := "(I)V" } : MethodName) prog_11_method_1_code (3 : Nat) (Option.none : Option FieldType)) ∈ gwl := gw_of (i := 43) (by decide +kernel) rfl
theorem wd_44 : (Cond.methodLink "FlowBoxes$Place" (3 : Nat) ({ cls := "java/lang/Object", name := "<init>", desc := "()V" } : MethodName)) ∈ gwl := gw_of (i := 44) (by decide +kernel) rfl
theorem wd_45 : (Cond.classLink "FlowBoxes$Place" (9 : Nat) "FlowBoxes$Floated") ∈ gwl := gw_of (i := 45) (by decide +kernel) rfl
theorem wd_46 : (Cond.instantiable "FlowBoxes$Floated" (7 : Nat)) ∈ gwl := gw_of (i := 46) (by decide +kernel) rfl
theorem wd_48 : (Cond.instanceMethod ({ cls := "FlowBoxes$Floated", name := "<init>", desc := "()V" } : MethodName)) ∈ gwl := gw_of (i := 48) (by decide +kernel) rfl
theorem wd_49 : (Cond.code ({ cls := "FlowBoxes$Floated", name := "<init>", desc := "()V" } : MethodName) prog_3_method_1_code (1 : Nat) (Option.none : Option FieldType)) ∈ gwl := gw_of (i := 49) (by decide +kernel) rfl
theorem wd_50 : (Cond.methodLink "FlowBoxes$Floated" (1 : Nat) ({ cls := "java/lang/Object", name := "<init>", desc := "()V" } : MethodName)) ∈ gwl := gw_of (i := 50) (by decide +kernel) rfl
theorem wd_51 : (Cond.fieldLink "FlowBoxes$Floated" (13 : Nat) "FlowBoxes$Floated" "left" "I") ∈ gwl := gw_of (i := 51) (by decide +kernel) rfl
theorem wd_54 : (Cond.fieldLink "FlowBoxes$Floated" (19 : Nat) "FlowBoxes$Floated" "top" "I") ∈ gwl := gw_of (i := 54) (by decide +kernel) rfl
theorem wd_57 : (Cond.fieldLink "FlowBoxes$Floated" (7 : Nat) "FlowBoxes$Floated" "right" "I") ∈ gwl := gw_of (i := 57) (by decide +kernel) rfl
theorem wd_60 : (Cond.fieldLink "FlowBoxes$Floated" (16 : Nat) "FlowBoxes$Floated" "low" "I") ∈ gwl := gw_of (i := 60) (by decide +kernel) rfl
theorem wd_84 : (Cond.arrayClass FieldType.int) ∈ gwl := gw_of (i := 84) (by decide +kernel) rfl
theorem wd_85 : (Cond.classLink "FlowBoxes$Place" (18 : Nat) "FlowBoxes$Thing") ∈ gwl := gw_of (i := 85) (by decide +kernel) rfl
theorem wd_87 : (Cond.instantiable "FlowBoxes$Thing" (5 : Nat)) ∈ gwl := gw_of (i := 87) (by decide +kernel) rfl
theorem wd_89 : (Cond.instanceMethod ({ cls := "FlowBoxes$Thing", name := "<init>", desc := "()V" } : MethodName)) ∈ gwl := gw_of (i := 89) (by decide +kernel) rfl
theorem wd_90 : (Cond.code ({ cls := "FlowBoxes$Thing", name := "<init>", desc := "()V" } : MethodName) prog_13_method_1_code (1 : Nat) (Option.none : Option FieldType)) ∈ gwl := gw_of (i := 90) (by decide +kernel) rfl
theorem wd_91 : (Cond.methodLink "FlowBoxes$Thing" (1 : Nat) ({ cls := "java/lang/Object", name := "<init>", desc := "()V" } : MethodName)) ∈ gwl := gw_of (i := 91) (by decide +kernel) rfl
theorem wd_92 : (Cond.fieldLink "FlowBoxes$Thing" (7 : Nat) "FlowBoxes$Thing" "line" "LFlowBoxes$Line;") ∈ gwl := gw_of (i := 92) (by decide +kernel) rfl
theorem wd_95 : (Cond.fieldLink "FlowBoxes$Thing" (19 : Nat) "FlowBoxes$Thing" "offset" "I") ∈ gwl := gw_of (i := 95) (by decide +kernel) rfl
theorem wd_99 : (Cond.fieldLink "FlowBoxes$Thing" (28 : Nat) "FlowBoxes$Thing" "ascent" "I") ∈ gwl := gw_of (i := 99) (by decide +kernel) rfl
theorem wd_120 : (Cond.fieldLink "FlowBoxes$Place" (25 : Nat) "FlowBoxes$Place" "known" "I") ∈ gwl := gw_of (i := 120) (by decide +kernel) rfl
theorem wd_137 : (Cond.fieldLink "FlowBoxes$Place" (12 : Nat) "FlowBoxes$Place" "floated" "LFlowBoxes$Floated;") ∈ gwl := gw_of (i := 137) (by decide +kernel) rfl
theorem wd_139 : (Cond.fieldLink "FlowBoxes$Place" (20 : Nat) "FlowBoxes$Place" "pieces" "[LFlowBoxes$Thing;") ∈ gwl := gw_of (i := 139) (by decide +kernel) rfl
theorem wd_140 : (Cond.fieldLink "FlowBoxes$Place" (29 : Nat) "FlowBoxes$Place" "laidAt" "I") ∈ gwl := gw_of (i := 140) (by decide +kernel) rfl
theorem wd_188 : (Cond.fieldLink "FlowBoxes$Node" (54 : Nat) "FlowBoxes$Kind" "TEXT" "LFlowBoxes$Kind;") ∈ gwl := gw_of (i := 188) (by decide +kernel) rfl
theorem wd_190 : (Cond.fieldLink "FlowBoxes$Node" (60 : Nat) "FlowBoxes$Kind" "BLOCK" "LFlowBoxes$Kind;") ∈ gwl := gw_of (i := 190) (by decide +kernel) rfl
theorem wd_192 : (Cond.fieldLink "FlowBoxes$Node" (9 : Nat) "FlowBoxes$Node" "number" "I") ∈ gwl := gw_of (i := 192) (by decide +kernel) rfl
theorem wd_193 : (Cond.fieldLink "FlowBoxes$Node" (15 : Nat) "FlowBoxes$Node" "parent" "LFlowBoxes$Node;") ∈ gwl := gw_of (i := 193) (by decide +kernel) rfl
theorem wd_196 : (Cond.fieldLink "FlowBoxes$Node" (19 : Nat) "FlowBoxes$Node" "depth" "I") ∈ gwl := gw_of (i := 196) (by decide +kernel) rfl
theorem wd_199 : (Cond.fieldLink "FlowBoxes$Node" (22 : Nat) "FlowBoxes$Node" "size" "I") ∈ gwl := gw_of (i := 199) (by decide +kernel) rfl
theorem wd_202 : (Cond.fieldLink "FlowBoxes$Node" (25 : Nat) "FlowBoxes$Node" "styles" "[I") ∈ gwl := gw_of (i := 202) (by decide +kernel) rfl
theorem wd_204 : (Cond.fieldLink "FlowBoxes$Node" (29 : Nat) "FlowBoxes$Node" "counted" "[I") ∈ gwl := gw_of (i := 204) (by decide +kernel) rfl
theorem wd_208 : (Cond.fieldLink "FlowBoxes$Node" (36 : Nat) "FlowBoxes$Node" "lengths" "[I") ∈ gwl := gw_of (i := 208) (by decide +kernel) rfl
theorem wd_212 : (Cond.fieldLink "FlowBoxes$Node" (39 : Nat) "FlowBoxes$Node" "cuts" "[I") ∈ gwl := gw_of (i := 212) (by decide +kernel) rfl
theorem wd_216 : (Cond.fieldLink "FlowBoxes$Node" (47 : Nat) "FlowBoxes$Node" "kept" "LFlowBoxes$Place;") ∈ gwl := gw_of (i := 216) (by decide +kernel) rfl
theorem wd_219 : (Cond.fieldLink "FlowBoxes$Node" (51 : Nat) "FlowBoxes$Node" "fresh" "LFlowBoxes$Place;") ∈ gwl := gw_of (i := 219) (by decide +kernel) rfl
theorem wd_223 : (Cond.fieldLink "FlowBoxes$Node" (80 : Nat) "FlowBoxes$Node" "first" "LFlowBoxes$Node;") ∈ gwl := gw_of (i := 223) (by decide +kernel) rfl
theorem wd_225 : (Cond.fieldLink "FlowBoxes$Node" (83 : Nat) "FlowBoxes$Node" "next" "LFlowBoxes$Node;") ∈ gwl := gw_of (i := 225) (by decide +kernel) rfl
theorem wd_233 : (Cond.fieldLink "FlowBoxes$Node" (63 : Nat) "FlowBoxes$Node" "kind" "LFlowBoxes$Kind;") ∈ gwl := gw_of (i := 233) (by decide +kernel) rfl
theorem wd_239 : (Cond.fieldLink "FlowBoxes$Node" (70 : Nat) "FlowBoxes$Node" "isTable" "Z") ∈ gwl := gw_of (i := 239) (by decide +kernel) rfl
theorem wd_242 : (Cond.fieldLink "FlowBoxes$Node" (135 : Nat) "FlowBoxes$Node" "isContext" "Z") ∈ gwl := gw_of (i := 242) (by decide +kernel) rfl
theorem wd_245 : (Cond.fieldLink "FlowBoxes$Node" (126 : Nat) "FlowBoxes$Node" "scrolls" "Z") ∈ gwl := gw_of (i := 245) (by decide +kernel) rfl
theorem wd_247 : (Cond.fieldLink "FlowBoxes$Node" (98 : Nat) "FlowBoxes$Node" "leastWidth" "I") ∈ gwl := gw_of (i := 247) (by decide +kernel) rfl
theorem wd_249 : (Cond.fieldLink "FlowBoxes$Node" (101 : Nat) "FlowBoxes$Node" "mostWidth" "I") ∈ gwl := gw_of (i := 249) (by decide +kernel) rfl
theorem wd_291 : (Cond.classLink "FlowBoxes" (12 : Nat) "FlowBoxes$Strip") ∈ gwl := gw_of (i := 291) (by decide +kernel) rfl
theorem wd_292 : (Cond.instantiable "FlowBoxes$Strip" (7 : Nat)) ∈ gwl := gw_of (i := 292) (by decide +kernel) rfl
theorem wd_294 : (Cond.instanceMethod ({ cls := "FlowBoxes$Strip", name := "<init>", desc := "()V" } : MethodName)) ∈ gwl := gw_of (i := 294) (by decide +kernel) rfl
theorem wd_295 : (Cond.code ({ cls := "FlowBoxes$Strip", name := "<init>", desc := "()V" } : MethodName) prog_12_method_1_code (1 : Nat) (Option.none : Option FieldType)) ∈ gwl := gw_of (i := 295) (by decide +kernel) rfl
theorem wd_296 : (Cond.methodLink "FlowBoxes$Strip" (3 : Nat) ({ cls := "java/lang/Object", name := "<init>", desc := "()V" } : MethodName)) ∈ gwl := gw_of (i := 296) (by decide +kernel) rfl
theorem wd_297 : (Cond.fieldLink "FlowBoxes$Strip" (11 : Nat) "FlowBoxes$Strip" "tops" "[I") ∈ gwl := gw_of (i := 297) (by decide +kernel) rfl
theorem wd_298 : (Cond.fieldLink "FlowBoxes$Strip" (15 : Nat) "FlowBoxes$Strip" "lows" "[I") ∈ gwl := gw_of (i := 298) (by decide +kernel) rfl
theorem wd_299 : (Cond.fieldLink "FlowBoxes$Strip" (24 : Nat) "FlowBoxes$Strip" "items" "I") ∈ gwl := gw_of (i := 299) (by decide +kernel) rfl
theorem wd_301 : (Cond.fieldLink "FlowBoxes$Strip" (18 : Nat) "FlowBoxes$Strip" "breaks" "[I") ∈ gwl := gw_of (i := 301) (by decide +kernel) rfl
theorem wd_302 : (Cond.fieldLink "FlowBoxes$Strip" (28 : Nat) "FlowBoxes$Strip" "breakCount" "I") ∈ gwl := gw_of (i := 302) (by decide +kernel) rfl
theorem wd_303 : (Cond.fieldLink "FlowBoxes$Strip" (21 : Nat) "FlowBoxes$Strip" "begins" "[I") ∈ gwl := gw_of (i := 303) (by decide +kernel) rfl
theorem wd_304 : (Cond.fieldLink "FlowBoxes$Strip" (44 : Nat) "FlowBoxes$Strip" "columns" "I") ∈ gwl := gw_of (i := 304) (by decide +kernel) rfl
theorem wd_321 : (Cond.static ({ cls := "FlowBoxes$Node", name := "assignRoles", desc := "(LFlowBoxes$Node;)V" } : MethodName)) ∈ gwl := gw_of (i := 321) (by decide +kernel) rfl
theorem wd_322 : (Cond.code ({ cls := "FlowBoxes$Node", name := "assignRoles", desc := "(LFlowBoxes$Node;)V" } : MethodName) prog_9_method_17_code (2 : Nat) (Option.none : Option FieldType)) ∈ gwl := gw_of (i := 322) (by decide +kernel) rfl
theorem wd_323 : (Cond.methodLink "FlowBoxes$Node" (104 : Nat) ({ cls := "FlowBoxes$Node", name := "assignRole", desc := "()V" } : MethodName)) ∈ gwl := gw_of (i := 323) (by decide +kernel) rfl
theorem wd_325 : (Cond.instanceMethod ({ cls := "FlowBoxes$Node", name := "assignRole", desc := "()V" } : MethodName)) ∈ gwl := gw_of (i := 325) (by decide +kernel) rfl
theorem wd_326 : (Cond.code ({ cls := "FlowBoxes$Node", name := "assignRole", desc := "()V" } : MethodName) prog_9_method_18_code (2 : Nat) (Option.none : Option FieldType)) ∈ gwl := gw_of (i := 326) (by decide +kernel) rfl
theorem wd_327 : (Cond.methodLink "FlowBoxes$Node" (111 : Nat) ({ cls := "FlowBoxes$Node", name := "findKind", desc := "()LFlowBoxes$Kind;" } : MethodName)) ∈ gwl := gw_of (i := 327) (by decide +kernel) rfl
theorem wd_329 : (Cond.instanceMethod ({ cls := "FlowBoxes$Node", name := "findKind", desc := "()LFlowBoxes$Kind;" } : MethodName)) ∈ gwl := gw_of (i := 329) (by decide +kernel) rfl
theorem wd_330 : (Cond.code ({ cls := "FlowBoxes$Node", name := "findKind", desc := "()LFlowBoxes$Kind;" } : MethodName) prog_9_method_19_code (2 : Nat) (Option.some (FieldType.object "FlowBoxes$Kind"))) ∈ gwl := gw_of (i := 330) (by decide +kernel) rfl
theorem wd_331 : (Cond.fieldLink "FlowBoxes$Node" (77 : Nat) "FlowBoxes$Kind" "ROW" "LFlowBoxes$Kind;") ∈ gwl := gw_of (i := 331) (by decide +kernel) rfl
theorem wd_333 : (Cond.methodLink "FlowBoxes$Node" (66 : Nat) ({ cls := "FlowBoxes$Node", name := "isText", desc := "()Z" } : MethodName)) ∈ gwl := gw_of (i := 333) (by decide +kernel) rfl
theorem wd_335 : (Cond.instanceMethod ({ cls := "FlowBoxes$Node", name := "isText", desc := "()Z" } : MethodName)) ∈ gwl := gw_of (i := 335) (by decide +kernel) rfl
theorem wd_336 : (Cond.code ({ cls := "FlowBoxes$Node", name := "isText", desc := "()Z" } : MethodName) prog_9_method_3_code (1 : Nat) (Option.some FieldType.boolean)) ∈ gwl := gw_of (i := 336) (by decide +kernel) rfl
theorem wd_337 : (Cond.fieldLink "FlowBoxes$Node" (138 : Nat) "FlowBoxes$Kind" "OUT" "LFlowBoxes$Kind;") ∈ gwl := gw_of (i := 337) (by decide +kernel) rfl
theorem wd_339 : (Cond.fieldLink "FlowBoxes$Node" (132 : Nat) "FlowBoxes$Kind" "CELL" "LFlowBoxes$Kind;") ∈ gwl := gw_of (i := 339) (by decide +kernel) rfl
theorem wd_341 : (Cond.fieldLink "FlowBoxes$Node" (95 : Nat) "FlowBoxes$Kind" "ABSOLUTE" "LFlowBoxes$Kind;") ∈ gwl := gw_of (i := 341) (by decide +kernel) rfl
theorem wd_343 : (Cond.fieldLink "FlowBoxes$Node" (92 : Nat) "FlowBoxes$Kind" "FLOATING" "LFlowBoxes$Kind;") ∈ gwl := gw_of (i := 343) (by decide +kernel) rfl
theorem wd_345 : (Cond.fieldLink "FlowBoxes$Node" (74 : Nat) "FlowBoxes$Kind" "SPAN" "LFlowBoxes$Kind;") ∈ gwl := gw_of (i := 345) (by decide +kernel) rfl
theorem wd_347 : (Cond.fieldLink "FlowBoxes$Node" (129 : Nat) "FlowBoxes$Kind" "INLINE" "LFlowBoxes$Kind;") ∈ gwl := gw_of (i := 347) (by decide +kernel) rfl
theorem wd_349 : (Cond.methodLink "FlowBoxes$Node" (115 : Nat) ({ cls := "FlowBoxes$Node", name := "countsFor", desc := "(I)Z" } : MethodName)) ∈ gwl := gw_of (i := 349) (by decide +kernel) rfl
theorem wd_351 : (Cond.instanceMethod ({ cls := "FlowBoxes$Node", name := "countsFor", desc := "(I)Z" } : MethodName)) ∈ gwl := gw_of (i := 351) (by decide +kernel) rfl
theorem wd_352 : (Cond.code ({ cls := "FlowBoxes$Node", name := "countsFor", desc := "(I)Z" } : MethodName) prog_9_method_20_code (2 : Nat) (Option.some FieldType.boolean)) ∈ gwl := gw_of (i := 352) (by decide +kernel) rfl
theorem wd_353 : (Cond.fieldLink "FlowBoxes$Node" (141 : Nat) "FlowBoxes$1" "$SwitchMap$FlowBoxes$Kind" "[I") ∈ gwl := gw_of (i := 353) (by decide +kernel) rfl
theorem wd_355 : (Cond.methodLink "FlowBoxes$Node" (146 : Nat) ({ cls := "FlowBoxes$Kind", name := "ordinal", desc := "()I" } : MethodName)) ∈ gwl := gw_of (i := 355) (by decide +kernel) rfl
theorem wd_356 : (Cond.sameMethod "FlowBoxes$Kind" "java/lang/Enum" "ordinal" "()I") ∈ gwl := gw_of (i := 356) (by decide +kernel) rfl
theorem wd_358 : (Cond.selects "FlowBoxes$Kind" ({ cls := "FlowBoxes$Kind", name := "ordinal", desc := "()I" } : MethodName) ({ cls := "java/lang/Enum", name := "ordinal", desc := "()I" } : MethodName)) ∈ gwl := gw_of (i := 358) (by decide +kernel) rfl
theorem wd_359 : (Cond.instanceMethod ({ cls := "java/lang/Enum", name := "ordinal", desc := "()I" } : MethodName)) ∈ gwl := gw_of (i := 359) (by decide +kernel) rfl
theorem wd_360 : (Cond.code ({ cls := "java/lang/Enum", name := "ordinal", desc := "()I" } : MethodName) prog_18_method_2_code (1 : Nat) (Option.some FieldType.int)) ∈ gwl := gw_of (i := 360) (by decide +kernel) rfl
theorem wd_361 : (Cond.methodLink "FlowBoxes$Node" (119 : Nat) ({ cls := "FlowBoxes$Node", name := "isInColumns", desc := "()Z" } : MethodName)) ∈ gwl := gw_of (i := 361) (by decide +kernel) rfl
theorem wd_363 : (Cond.instanceMethod ({ cls := "FlowBoxes$Node", name := "isInColumns", desc := "()Z" } : MethodName)) ∈ gwl := gw_of (i := 363) (by decide +kernel) rfl
theorem wd_364 : (Cond.code ({ cls := "FlowBoxes$Node", name := "isInColumns", desc := "()Z" } : MethodName) prog_9_method_21_code (2 : Nat) (Option.some FieldType.boolean)) ∈ gwl := gw_of (i := 364) (by decide +kernel) rfl
theorem wd_365 : (Cond.methodLink "FlowBoxes$Node" (122 : Nat) ({ cls := "FlowBoxes$Node", name := "countScrollsAround", desc := "()I" } : MethodName)) ∈ gwl := gw_of (i := 365) (by decide +kernel) rfl
theorem wd_367 : (Cond.instanceMethod ({ cls := "FlowBoxes$Node", name := "countScrollsAround", desc := "()I" } : MethodName)) ∈ gwl := gw_of (i := 367) (by decide +kernel) rfl
theorem wd_368 : (Cond.code ({ cls := "FlowBoxes$Node", name := "countScrollsAround", desc := "()I" } : MethodName) prog_9_method_22_code (3 : Nat) (Option.some FieldType.int)) ∈ gwl := gw_of (i := 368) (by decide +kernel) rfl
theorem wd_369 : (Cond.methodLink "FlowBoxes$Node" (107 : Nat) ({ cls := "FlowBoxes$Node", name := "onward", desc := "(LFlowBoxes$Node;LFlowBoxes$Node;Z)LFlowBoxes$Node;" } : MethodName)) ∈ gwl := gw_of (i := 369) (by decide +kernel) rfl
theorem wd_370 : (Cond.static ({ cls := "FlowBoxes$Node", name := "onward", desc := "(LFlowBoxes$Node;LFlowBoxes$Node;Z)LFlowBoxes$Node;" } : MethodName)) ∈ gwl := gw_of (i := 370) (by decide +kernel) rfl
theorem wd_371 : (Cond.code ({ cls := "FlowBoxes$Node", name := "onward", desc := "(LFlowBoxes$Node;LFlowBoxes$Node;Z)LFlowBoxes$Node;" } : MethodName) prog_9_method_12_code (4 : Nat) (Option.some (FieldType.object "FlowBoxes$Node"))) ∈ gwl := gw_of (i := 371) (by decide +kernel) rfl
theorem wd_373 : (Cond.classLink "FlowBoxes" (36 : Nat) "FlowBoxes$Layout") ∈ gwl := gw_of (i := 373) (by decide +kernel) rfl
theorem wd_374 : (Cond.instantiable "FlowBoxes$Layout" (6 : Nat)) ∈ gwl := gw_of (i := 374) (by decide +kernel) rfl
theorem wd_376 : (Cond.instanceMethod ({ cls := "FlowBoxes$Layout", name := "<init>", desc := "(ZLFlowBoxes$Strip;)V" } : MethodName)) ∈ gwl := gw_of (i := 376) (by decide +kernel) rfl
theorem wd_377 : (Cond.code ({ cls := "FlowBoxes$Layout", name := "<init>", desc := "(ZLFlowBoxes$Strip;)V" } : MethodName) prog_6_method_1_code (4 : Nat) (Option.none : Option FieldType)) ∈ gwl := gw_of (i := 377) (by decide +kernel) rfl
theorem wd_378 : (Cond.methodLink "FlowBoxes$Layout" (3 : Nat) ({ cls := "java/lang/Object", name := "<init>", desc := "()V" } : MethodName)) ∈ gwl := gw_of (i := 378) (by decide +kernel) rfl
theorem wd_379 : (Cond.classLink "FlowBoxes$Layout" (19 : Nat) "FlowBoxes$Flow") ∈ gwl := gw_of (i := 379) (by decide +kernel) rfl
theorem wd_381 : (Cond.instantiable "FlowBoxes$Flow" (20 : Nat)) ∈ gwl := gw_of (i := 381) (by decide +kernel) rfl
theorem wd_383 : (Cond.instanceMethod ({ cls := "FlowBoxes$Flow", name := "<init>", desc := "()V" } : MethodName)) ∈ gwl := gw_of (i := 383) (by decide +kernel) rfl
theorem wd_384 : (Cond.code ({ cls := "FlowBoxes$Flow", name := "<init>", desc := "()V" } : MethodName) prog_4_method_1_code (1 : Nat) (Option.none : Option FieldType)) ∈ gwl := gw_of (i := 384) (by decide +kernel) rfl
theorem wd_385 : (Cond.methodLink "FlowBoxes$Flow" (3 : Nat) ({ cls := "java/lang/Object", name := "<init>", desc := "()V" } : MethodName)) ∈ gwl := gw_of (i := 385) (by decide +kernel) rfl
theorem wd_386 : (Cond.fieldLink "FlowBoxes$Flow" (9 : Nat) "FlowBoxes$Flow" "y" "I") ∈ gwl := gw_of (i := 386) (by decide +kernel) rfl
theorem wd_388 : (Cond.fieldLink "FlowBoxes$Flow" (15 : Nat) "FlowBoxes$Flow" "above" "I") ∈ gwl := gw_of (i := 388) (by decide +kernel) rfl
theorem wd_389 : (Cond.fieldLink "FlowBoxes$Flow" (18 : Nat) "FlowBoxes$Flow" "below" "I") ∈ gwl := gw_of (i := 389) (by decide +kernel) rfl
theorem wd_390 : (Cond.fieldLink "FlowBoxes$Flow" (21 : Nat) "FlowBoxes$Flow" "waiting" "LFlowBoxes$Place;") ∈ gwl := gw_of (i := 390) (by decide +kernel) rfl
theorem wd_392 : (Cond.fieldLink "FlowBoxes$Flow" (25 : Nat) "FlowBoxes$Flow" "firstFloat" "LFlowBoxes$Floated;") ∈ gwl := gw_of (i := 392) (by decide +kernel) rfl
theorem wd_393 : (Cond.fieldLink "FlowBoxes$Flow" (29 : Nat) "FlowBoxes$Flow" "lastFloat" "LFlowBoxes$Floated;") ∈ gwl := gw_of (i := 393) (by decide +kernel) rfl
theorem wd_394 : (Cond.fieldLink "FlowBoxes$Flow" (33 : Nat) "FlowBoxes$Flow" "reach" "I") ∈ gwl := gw_of (i := 394) (by decide +kernel) rfl
theorem wd_396 : (Cond.fieldLink "FlowBoxes$Flow" (91 : Nat) "FlowBoxes$Flow" "left" "I") ∈ gwl := gw_of (i := 396) (by decide +kernel) rfl
theorem wd_398 : (Cond.fieldLink "FlowBoxes$Flow" (97 : Nat) "FlowBoxes$Flow" "wide" "I") ∈ gwl := gw_of (i := 398) (by decide +kernel) rfl
theorem wd_400 : (Cond.fieldLink "FlowBoxes$Flow" (94 : Nat) "FlowBoxes$Flow" "bandLeft" "I") ∈ gwl := gw_of (i := 400) (by decide +kernel) rfl
theorem wd_402 : (Cond.fieldLink "FlowBoxes$Flow" (100 : Nat) "FlowBoxes$Flow" "bandRight" "I") ∈ gwl := gw_of (i := 402) (by decide +kernel) rfl
theorem wd_404 : (Cond.fieldLink "FlowBoxes$Flow" (103 : Nat) "FlowBoxes$Flow" "reached" "Z") ∈ gwl := gw_of (i := 404) (by decide +kernel) rfl
theorem wd_406 : (Cond.fieldLink "FlowBoxes$Flow" (36 : Nat) "FlowBoxes$Flow" "line" "LFlowBoxes$Line;") ∈ gwl := gw_of (i := 406) (by decide +kernel) rfl
theorem wd_408 : (Cond.fieldLink "FlowBoxes$Flow" (40 : Nat) "FlowBoxes$Flow" "things" "I") ∈ gwl := gw_of (i := 408) (by decide +kernel) rfl
theorem wd_410 : (Cond.fieldLink "FlowBoxes$Flow" (43 : Nat) "FlowBoxes$Flow" "filled" "I") ∈ gwl := gw_of (i := 410) (by decide +kernel) rfl
theorem wd_415 : (Cond.fieldLink "FlowBoxes$Flow" (46 : Nat) "FlowBoxes$Flow" "firstLate" "LFlowBoxes$Floated;") ∈ gwl := gw_of (i := 415) (by decide +kernel) rfl
theorem wd_417 : (Cond.fieldLink "FlowBoxes$Flow" (49 : Nat) "FlowBoxes$Flow" "lastLate" "LFlowBoxes$Floated;") ∈ gwl := gw_of (i := 417) (by decide +kernel) rfl
theorem wd_460 : (Cond.fieldLink "FlowBoxes$Layout" (9 : Nat) "FlowBoxes$Layout" "isFresh" "Z") ∈ gwl := gw_of (i := 460) (by decide +kernel) rfl
theorem wd_461 : (Cond.fieldLink "FlowBoxes$Layout" (15 : Nat) "FlowBoxes$Layout" "strip" "LFlowBoxes$Strip;") ∈ gwl := gw_of (i := 461) (by decide +kernel) rfl
theorem wd_462 : (Cond.fieldLink "FlowBoxes$Layout" (21 : Nat) "FlowBoxes$Layout" "flows" "[LFlowBoxes$Flow;") ∈ gwl := gw_of (i := 462) (by decide +kernel) rfl
theorem wd_463 : (Cond.fieldLink "FlowBoxes$Layout" (510 : Nat) "FlowBoxes$Layout" "freeLine" "LFlowBoxes$Line;") ∈ gwl := gw_of (i := 463) (by decide +kernel) rfl
theorem wd_464 : (Cond.fieldLink "FlowBoxes$Layout" (49 : Nat) "FlowBoxes$Layout" "turn" "I") ∈ gwl := gw_of (i := 464) (by decide +kernel) rfl
theorem wd_465 : (Cond.fieldLink "FlowBoxes$Layout" (52 : Nat) "FlowBoxes$Layout" "count" "I") ∈ gwl := gw_of (i := 465) (by decide +kernel) rfl
theorem wd_479 : (Cond.classLink "FlowBoxes" (48 : Nat) "FlowBoxes$Painter") ∈ gwl := gw_of (i := 479) (by decide +kernel) rfl
theorem wd_480 : (Cond.instantiable "FlowBoxes$Painter" (2 : Nat)) ∈ gwl := gw_of (i := 480) (by decide +kernel) rfl
theorem wd_482 : (Cond.instanceMethod ({ cls := "FlowBoxes$Painter", name := "<init>", desc := "()V" } : MethodName)) ∈ gwl := gw_of (i := 482) (by decide +kernel) rfl
theorem wd_483 : (Cond.code ({ cls := "FlowBoxes$Painter", name := "<init>", desc := "()V" } : MethodName) prog_10_method_1_code (1 : Nat) (Option.none : Option FieldType)) ∈ gwl := gw_of (i := 483) (by decide +kernel) rfl
theorem wd_484 : (Cond.methodLink "FlowBoxes$Painter" (3 : Nat) ({ cls := "java/lang/Object", name := "<init>", desc := "()V" } : MethodName)) ∈ gwl := gw_of (i := 484) (by decide +kernel) rfl
theorem wd_485 : (Cond.classLink "FlowBoxes$Painter" (9 : Nat) "FlowBoxes$Node") ∈ gwl := gw_of (i := 485) (by decide +kernel) rfl
theorem wd_486 : (Cond.fieldLink "FlowBoxes$Painter" (11 : Nat) "FlowBoxes$Painter" "order" "[LFlowBoxes$Node;") ∈ gwl := gw_of (i := 486) (by decide +kernel) rfl
theorem wd_487 : (Cond.fieldLink "FlowBoxes$Painter" (17 : Nat) "FlowBoxes$Painter" "count" "I") ∈ gwl := gw_of (i := 487) (by decide +kernel) rfl
theorem wd_496 : (Cond.instanceMethod ({ cls := "FlowBoxes$Layout", name := "layAll", desc := "(LFlowBoxes$Node;II)I" } : MethodName)) ∈ gwl := gw_of (i := 496) (by decide +kernel) rfl
theorem wd_497 : (Cond.code ({ cls := "FlowBoxes$Layout", name := "layAll", desc := "(LFlowBoxes$Node;II)I" } : MethodName) prog_6_method_4_code (5 : Nat) (Option.some FieldType.int)) ∈ gwl := gw_of (i := 497) (by decide +kernel) rfl
theorem wd_498 : (Cond.methodLink "FlowBoxes$Layout" (55 : Nat) ({ cls := "FlowBoxes$Layout", name := "layOut", desc := "(LFlowBoxes$Node;II)V" } : MethodName)) ∈ gwl := gw_of (i := 498) (by decide +kernel) rfl
theorem wd_500 : (Cond.instanceMethod ({ cls := "FlowBoxes$Layout", name := "layOut", desc := "(LFlowBoxes$Node;II)V" } : MethodName)) ∈ gwl := gw_of (i := 500) (by decide +kernel) rfl
theorem wd_501 : (Cond.code ({ cls := "FlowBoxes$Layout", name := "layOut", desc := "(LFlowBoxes$Node;II)V" } : MethodName) prog_6_method_17_code (6 : Nat) (Option.none : Option FieldType)) ∈ gwl := gw_of (i := 501) (by decide +kernel) rfl
theorem wd_502 : (Cond.methodLink "FlowBoxes$Layout" (35 : Nat) ({ cls := "FlowBoxes$Layout", name := "placeOf", desc := "(LFlowBoxes$Node;)LFlowBoxes$Place;" } : MethodName)) ∈ gwl := gw_of (i := 502) (by decide +kernel) rfl
theorem wd_504 : (Cond.instanceMethod ({ cls := "FlowBoxes$Layout", name := "placeOf", desc := "(LFlowBoxes$Node;)LFlowBoxes$Place;" } : MethodName)) ∈ gwl := gw_of (i := 504) (by decide +kernel) rfl
theorem wd_505 : (Cond.code ({ cls := "FlowBoxes$Layout", name := "placeOf", desc := "(LFlowBoxes$Node;)LFlowBoxes$Place;" } : MethodName) prog_6_method_2_code (2 : Nat) (Option.some (FieldType.object "FlowBoxes$Place"))) ∈ gwl := gw_of (i := 505) (by decide +kernel) rfl
theorem wd_506 : (Cond.methodLink "FlowBoxes$Layout" (197 : Nat) ({ cls := "FlowBoxes$Layout", name := "layTable", desc := "(LFlowBoxes$Node;LFlowBoxes$Place;)I" } : MethodName)) ∈ gwl := gw_of (i := 506) (by decide +kernel) rfl
theorem wd_508 : (Cond.instanceMethod ({ cls := "FlowBoxes$Layout", name := "layTable", desc := "(LFlowBoxes$Node;LFlowBoxes$Place;)I" } : MethodName)) ∈ gwl := gw_of (i := 508) (by decide +kernel) rfl
theorem wd_509 : (Cond.code ({ cls := "FlowBoxes$Layout", name := "layTable", desc := "(LFlowBoxes$Node;LFlowBoxes$Place;)I" } : MethodName) prog_6_method_41_code (9 : Nat) (Option.some FieldType.int)) ∈ gwl := gw_of (i := 509) (by decide +kernel) rfl
theorem wd_511 : (Cond.static ({ cls := "FlowBoxes$Measures", name := "countColumns", desc := "(LFlowBoxes$Node;)I" } : MethodName)) ∈ gwl := gw_of (i := 511) (by decide +kernel) rfl
theorem wd_512 : (Cond.code ({ cls := "FlowBoxes$Measures", name := "countColumns", desc := "(LFlowBoxes$Node;)I" } : MethodName) prog_8_method_11_code (5 : Nat) (Option.some FieldType.int)) ∈ gwl := gw_of (i := 512) (by decide +kernel) rfl
theorem wd_513 : (Cond.fieldLink "FlowBoxes$Measures" (121 : Nat) "FlowBoxes$Kind" "CELL" "LFlowBoxes$Kind;") ∈ gwl := gw_of (i := 513) (by decide +kernel) rfl
theorem wd_514 : (Cond.methodLink "FlowBoxes$Measures" (55 : Nat) ({ cls := "java/lang/Math", name := "max", desc := "(II)I" } : MethodName)) ∈ gwl := gw_of (i := 514) (by decide +kernel) rfl
theorem wd_515 : (Cond.static ({ cls := "java/lang/Math", name := "max", desc := "(II)I" } : MethodName)) ∈ gwl := gw_of (i := 515) (by decide +kernel) rfl
theorem wd_516 : (Cond.code ({ cls := "java/lang/Math", name := "max", desc := "(II)I" } : MethodName) prog_23_method_65_code (2 : Nat) (Option.some FieldType.int)) ∈ gwl := gw_of (i := 516) (by decide +kernel) rfl
theorem wd_517 : (Cond.methodLink "FlowBoxes$Layout" (185 : Nat) ({ cls := "java/lang/Math", name := "max", desc := "(II)I" } : MethodName)) ∈ gwl := gw_of (i := 517) (by decide +kernel) rfl
theorem wd_518 : (Cond.methodLink "FlowBoxes$Layout" (525 : Nat) ({ cls := "FlowBoxes$Layout", name := "placeEvenly", desc := "(LFlowBoxes$Node;II)V" } : MethodName)) ∈ gwl := gw_of (i := 518) (by decide +kernel) rfl
theorem wd_520 : (Cond.instanceMethod ({ cls := "FlowBoxes$Layout", name := "placeEvenly", desc := "(LFlowBoxes$Node;II)V" } : MethodName)) ∈ gwl := gw_of (i := 520) (by decide +kernel) rfl
theorem wd_521 : (Cond.code ({ cls := "FlowBoxes$Layout", name := "placeEvenly", desc := "(LFlowBoxes$Node;II)V" } : MethodName) prog_6_method_43_code (6 : Nat) (Option.none : Option FieldType)) ∈ gwl := gw_of (i := 521) (by decide +kernel) rfl
theorem wd_522 : (Cond.methodLink "FlowBoxes$Layout" (540 : Nat) ({ cls := "FlowBoxes$Layout", name := "placeColumn", desc := "(LFlowBoxes$Node;III)V" } : MethodName)) ∈ gwl := gw_of (i := 522) (by decide +kernel) rfl
theorem wd_524 : (Cond.instanceMethod ({ cls := "FlowBoxes$Layout", name := "placeColumn", desc := "(LFlowBoxes$Node;III)V" } : MethodName)) ∈ gwl := gw_of (i := 524) (by decide +kernel) rfl
theorem wd_525 : (Cond.code ({ cls := "FlowBoxes$Layout", name := "placeColumn", desc := "(LFlowBoxes$Node;III)V" } : MethodName) prog_6_method_46_code (8 : Nat) (Option.none : Option FieldType)) ∈ gwl := gw_of (i := 525) (by decide +kernel) rfl
theorem wd_527 : (Cond.static ({ cls := "FlowBoxes$Measures", name := "cellAt", desc := "(LFlowBoxes$Node;I)LFlowBoxes$Node;" } : MethodName)) ∈ gwl := gw_of (i := 527) (by decide +kernel) rfl
theorem wd_528 : (Cond.code ({ cls := "FlowBoxes$Measures", name := "cellAt", desc := "(LFlowBoxes$Node;I)LFlowBoxes$Node;" } : MethodName) prog_8_method_12_code (4 : Nat) (Option.some (FieldType.object "FlowBoxes$Node"))) ∈ gwl := gw_of (i := 528) (by decide +kernel) rfl
theorem wd_531 : (Cond.instanceMethod ({ cls := "FlowBoxes$Node", name := "flatEdges", desc := "()I" } : MethodName)) ∈ gwl := gw_of (i := 531) (by decide +kernel) rfl
theorem wd_532 : (Cond.code ({ cls := "FlowBoxes$Node", name := "flatEdges", desc := "()I" } : MethodName) prog_9_method_5_code (1 : Nat) (Option.some FieldType.int)) ∈ gwl := gw_of (i := 532) (by decide +kernel) rfl
theorem wd_533 : (Cond.methodLink "FlowBoxes$Layout" (528 : Nat) ({ cls := "FlowBoxes$Layout", name := "placeByContent", desc := "(LFlowBoxes$Node;II)V" } : MethodName)) ∈ gwl := gw_of (i := 533) (by decide +kernel) rfl
theorem wd_535 : (Cond.instanceMethod ({ cls := "FlowBoxes$Layout", name := "placeByContent", desc := "(LFlowBoxes$Node;II)V" } : MethodName)) ∈ gwl := gw_of (i := 535) (by decide +kernel) rfl
theorem wd_536 : (Cond.code ({ cls := "FlowBoxes$Layout", name := "placeByContent", desc := "(LFlowBoxes$Node;II)V" } : MethodName) prog_6_method_44_code (12 : Nat) (Option.none : Option FieldType)) ∈ gwl := gw_of (i := 536) (by decide +kernel) rfl
theorem wd_538 : (Cond.static ({ cls := "FlowBoxes$Measures", name := "leastOfColumn", desc := "(LFlowBoxes$Node;I)I" } : MethodName)) ∈ gwl := gw_of (i := 538) (by decide +kernel) rfl
theorem wd_539 : (Cond.code ({ cls := "FlowBoxes$Measures", name := "leastOfColumn", desc := "(LFlowBoxes$Node;I)I" } : MethodName) prog_8_method_13_code (5 : Nat) (Option.some FieldType.int)) ∈ gwl := gw_of (i := 539) (by decide +kernel) rfl
theorem wd_540 : (Cond.methodLink "FlowBoxes$Measures" (124 : Nat) ({ cls := "FlowBoxes$Measures", name := "cellAt", desc := "(LFlowBoxes$Node;I)LFlowBoxes$Node;" } : MethodName)) ∈ gwl := gw_of (i := 540) (by decide +kernel) rfl
theorem wd_541 : (Cond.methodLink "FlowBoxes$Measures" (83 : Nat) ({ cls := "FlowBoxes$Measures", name := "outerLeast", desc := "(LFlowBoxes$Node;)I" } : MethodName)) ∈ gwl := gw_of (i := 541) (by decide +kernel) rfl
theorem wd_542 : (Cond.static ({ cls := "FlowBoxes$Measures", name := "outerLeast", desc := "(LFlowBoxes$Node;)I" } : MethodName)) ∈ gwl := gw_of (i := 542) (by decide +kernel) rfl
theorem wd_543 : (Cond.code ({ cls := "FlowBoxes$Measures", name := "outerLeast", desc := "(LFlowBoxes$Node;)I" } : MethodName) prog_8_method_5_code (3 : Nat) (Option.some FieldType.int)) ∈ gwl := gw_of (i := 543) (by decide +kernel) rfl
theorem wd_544 : (Cond.methodLink "FlowBoxes$Measures" (45 : Nat) ({ cls := "FlowBoxes$Measures", name := "mostOf", desc := "(LFlowBoxes$Node;)I" } : MethodName)) ∈ gwl := gw_of (i := 544) (by decide +kernel) rfl
theorem wd_545 : (Cond.static ({ cls := "FlowBoxes$Measures", name := "mostOf", desc := "(LFlowBoxes$Node;)I" } : MethodName)) ∈ gwl := gw_of (i := 545) (by decide +kernel) rfl
theorem wd_546 : (Cond.code ({ cls := "FlowBoxes$Measures", name := "mostOf", desc := "(LFlowBoxes$Node;)I" } : MethodName) prog_8_method_3_code (1 : Nat) (Option.some FieldType.int)) ∈ gwl := gw_of (i := 546) (by decide +kernel) rfl
theorem wd_547 : (Cond.methodLink "FlowBoxes$Measures" (35 : Nat) ({ cls := "FlowBoxes$Measures", name := "mostOfTable", desc := "(LFlowBoxes$Node;)I" } : MethodName)) ∈ gwl := gw_of (i := 547) (by decide +kernel) rfl
theorem wd_548 : (Cond.static ({ cls := "FlowBoxes$Measures", name := "mostOfTable", desc := "(LFlowBoxes$Node;)I" } : MethodName)) ∈ gwl := gw_of (i := 548) (by decide +kernel) rfl
theorem wd_549 : (Cond.code ({ cls := "FlowBoxes$Measures", name := "mostOfTable", desc := "(LFlowBoxes$Node;)I" } : MethodName) prog_8_method_16_code (6 : Nat) (Option.some FieldType.int)) ∈ gwl := gw_of (i := 549) (by decide +kernel) rfl
theorem wd_550 : (Cond.methodLink "FlowBoxes$Measures" (128 : Nat) ({ cls := "FlowBoxes$Measures", name := "countColumns", desc := "(LFlowBoxes$Node;)I" } : MethodName)) ∈ gwl := gw_of (i := 550) (by decide +kernel) rfl
theorem wd_551 : (Cond.methodLink "FlowBoxes$Measures" (138 : Nat) ({ cls := "FlowBoxes$Measures", name := "mostOfColumn", desc := "(LFlowBoxes$Node;I)I" } : MethodName)) ∈ gwl := gw_of (i := 551) (by decide +kernel) rfl
theorem wd_552 : (Cond.static ({ cls := "FlowBoxes$Measures", name := "mostOfColumn", desc := "(LFlowBoxes$Node;I)I" } : MethodName)) ∈ gwl := gw_of (i := 552) (by decide +kernel) rfl
theorem wd_553 : (Cond.code ({ cls := "FlowBoxes$Measures", name := "mostOfColumn", desc := "(LFlowBoxes$Node;I)I" } : MethodName) prog_8_method_14_code (5 : Nat) (Option.some FieldType.int)) ∈ gwl := gw_of (i := 553) (by decide +kernel) rfl
theorem wd_554 : (Cond.methodLink "FlowBoxes$Measures" (111 : Nat) ({ cls := "FlowBoxes$Measures", name := "outerMost", desc := "(LFlowBoxes$Node;)I" } : MethodName)) ∈ gwl := gw_of (i := 554) (by decide +kernel) rfl
theorem wd_555 : (Cond.static ({ cls := "FlowBoxes$Measures", name := "outerMost", desc := "(LFlowBoxes$Node;)I" } : MethodName)) ∈ gwl := gw_of (i := 555) (by decide +kernel) rfl
theorem wd_556 : (Cond.code ({ cls := "FlowBoxes$Measures", name := "outerMost", desc := "(LFlowBoxes$Node;)I" } : MethodName) prog_8_method_6_code (3 : Nat) (Option.some FieldType.int)) ∈ gwl := gw_of (i := 556) (by decide +kernel) rfl
theorem wd_557 : (Cond.methodLink "FlowBoxes$Measures" (48 : Nat) ({ cls := "FlowBoxes$Measures", name := "leastOf", desc := "(LFlowBoxes$Node;)I" } : MethodName)) ∈ gwl := gw_of (i := 557) (by decide +kernel) rfl
theorem wd_558 : (Cond.static ({ cls := "FlowBoxes$Measures", name := "leastOf", desc := "(LFlowBoxes$Node;)I" } : MethodName)) ∈ gwl := gw_of (i := 558) (by decide +kernel) rfl
theorem wd_559 : (Cond.code ({ cls := "FlowBoxes$Measures", name := "leastOf", desc := "(LFlowBoxes$Node;)I" } : MethodName) prog_8_method_2_code (1 : Nat) (Option.some FieldType.int)) ∈ gwl := gw_of (i := 559) (by decide +kernel) rfl
theorem wd_560 : (Cond.methodLink "FlowBoxes$Measures" (19 : Nat) ({ cls := "FlowBoxes$Measures", name := "leastOfTable", desc := "(LFlowBoxes$Node;)I" } : MethodName)) ∈ gwl := gw_of (i := 560) (by decide +kernel) rfl
theorem wd_561 : (Cond.static ({ cls := "FlowBoxes$Measures", name := "leastOfTable", desc := "(LFlowBoxes$Node;)I" } : MethodName)) ∈ gwl := gw_of (i := 561) (by decide +kernel) rfl
theorem wd_562 : (Cond.code ({ cls := "FlowBoxes$Measures", name := "leastOfTable", desc := "(LFlowBoxes$Node;)I" } : MethodName) prog_8_method_15_code (6 : Nat) (Option.some FieldType.int)) ∈ gwl := gw_of (i := 562) (by decide +kernel) rfl
theorem wd_563 : (Cond.methodLink "FlowBoxes$Measures" (131 : Nat) ({ cls := "FlowBoxes$Measures", name := "leastOfColumn", desc := "(LFlowBoxes$Node;I)I" } : MethodName)) ∈ gwl := gw_of (i := 563) (by decide +kernel) rfl
theorem wd_564 : (Cond.methodLink "FlowBoxes$Measures" (134 : Nat) ({ cls := "FlowBoxes$Measures", name := "besideEachOther", desc := "(LFlowBoxes$Node;III)I" } : MethodName)) ∈ gwl := gw_of (i := 564) (by decide +kernel) rfl
theorem wd_565 : (Cond.static ({ cls := "FlowBoxes$Measures", name := "besideEachOther", desc := "(LFlowBoxes$Node;III)I" } : MethodName)) ∈ gwl := gw_of (i := 565) (by decide +kernel) rfl
theorem wd_566 : (Cond.code ({ cls := "FlowBoxes$Measures", name := "besideEachOther", desc := "(LFlowBoxes$Node;III)I" } : MethodName) prog_8_method_17_code (5 : Nat) (Option.some FieldType.int)) ∈ gwl := gw_of (i := 566) (by decide +kernel) rfl
theorem wd_567 : (Cond.methodLink "FlowBoxes$Measures" (25 : Nat) ({ cls := "FlowBoxes$Measures", name := "leastInside", desc := "(LFlowBoxes$Node;)I" } : MethodName)) ∈ gwl := gw_of (i := 567) (by decide +kernel) rfl
theorem wd_568 : (Cond.static ({ cls := "FlowBoxes$Measures", name := "leastInside", desc := "(LFlowBoxes$Node;)I" } : MethodName)) ∈ gwl := gw_of (i := 568) (by decide +kernel) rfl
theorem wd_569 : (Cond.code ({ cls := "FlowBoxes$Measures", name := "leastInside", desc := "(LFlowBoxes$Node;)I" } : MethodName) prog_8_method_7_code (3 : Nat) (Option.some FieldType.int)) ∈ gwl := gw_of (i := 569) (by decide +kernel) rfl
theorem wd_570 : (Cond.fieldLink "FlowBoxes$Measures" (69 : Nat) "FlowBoxes$Kind" "TEXT" "LFlowBoxes$Kind;") ∈ gwl := gw_of (i := 570) (by decide +kernel) rfl
theorem wd_571 : (Cond.methodLink "FlowBoxes$Measures" (74 : Nat) ({ cls := "FlowBoxes$Measures", name := "leastOfWords", desc := "(LFlowBoxes$Node;)I" } : MethodName)) ∈ gwl := gw_of (i := 571) (by decide +kernel) rfl
theorem wd_572 : (Cond.static ({ cls := "FlowBoxes$Measures", name := "leastOfWords", desc := "(LFlowBoxes$Node;)I" } : MethodName)) ∈ gwl := gw_of (i := 572) (by decide +kernel) rfl
theorem wd_573 : (Cond.code ({ cls := "FlowBoxes$Measures", name := "leastOfWords", desc := "(LFlowBoxes$Node;)I" } : MethodName) prog_8_method_8_code (5 : Nat) (Option.some FieldType.int)) ∈ gwl := gw_of (i := 573) (by decide +kernel) rfl
theorem wd_574 : (Cond.fieldLink "FlowBoxes$Measures" (77 : Nat) "FlowBoxes$Kind" "SPAN" "LFlowBoxes$Kind;") ∈ gwl := gw_of (i := 574) (by decide +kernel) rfl
theorem wd_575 : (Cond.fieldLink "FlowBoxes$Measures" (80 : Nat) "FlowBoxes$Kind" "ABSOLUTE" "LFlowBoxes$Kind;") ∈ gwl := gw_of (i := 575) (by decide +kernel) rfl
theorem wd_577 : (Cond.methodLink "FlowBoxes$Measures" (28 : Nat) ({ cls := "FlowBoxes$Measures", name := "inColumns", desc := "(LFlowBoxes$Node;I)I" } : MethodName)) ∈ gwl := gw_of (i := 577) (by decide +kernel) rfl
theorem wd_578 : (Cond.static ({ cls := "FlowBoxes$Measures", name := "inColumns", desc := "(LFlowBoxes$Node;I)I" } : MethodName)) ∈ gwl := gw_of (i := 578) (by decide +kernel) rfl
theorem wd_579 : (Cond.code ({ cls := "FlowBoxes$Measures", name := "inColumns", desc := "(LFlowBoxes$Node;I)I" } : MethodName) prog_8_method_4_code (3 : Nat) (Option.some FieldType.int)) ∈ gwl := gw_of (i := 579) (by decide +kernel) rfl
theorem wd_582 : (Cond.instanceMethod ({ cls := "FlowBoxes$Node", name := "flatRim", desc := "()I" } : MethodName)) ∈ gwl := gw_of (i := 582) (by decide +kernel) rfl
theorem wd_583 : (Cond.code ({ cls := "FlowBoxes$Node", name := "flatRim", desc := "()I" } : MethodName) prog_9_method_7_code (1 : Nat) (Option.some FieldType.int)) ∈ gwl := gw_of (i := 583) (by decide +kernel) rfl
theorem wd_584 : (Cond.methodLink "FlowBoxes$Measures" (38 : Nat) ({ cls := "FlowBoxes$Measures", name := "mostInside", desc := "(LFlowBoxes$Node;)I" } : MethodName)) ∈ gwl := gw_of (i := 584) (by decide +kernel) rfl
theorem wd_585 : (Cond.static ({ cls := "FlowBoxes$Measures", name := "mostInside", desc := "(LFlowBoxes$Node;)I" } : MethodName)) ∈ gwl := gw_of (i := 585) (by decide +kernel) rfl
theorem wd_586 : (Cond.code ({ cls := "FlowBoxes$Measures", name := "mostInside", desc := "(LFlowBoxes$Node;)I" } : MethodName) prog_8_method_9_code (4 : Nat) (Option.some FieldType.int)) ∈ gwl := gw_of (i := 586) (by decide +kernel) rfl
theorem wd_589 : (Cond.instanceMethod ({ cls := "FlowBoxes$Kind", name := "isInLines", desc := "()Z" } : MethodName)) ∈ gwl := gw_of (i := 589) (by decide +kernel) rfl
theorem wd_590 : (Cond.instantiable "FlowBoxes$Kind" (3 : Nat)) ∈ gwl := gw_of (i := 590) (by decide +kernel) rfl
theorem wd_591 : (Cond.code ({ cls := "FlowBoxes$Kind", name := "isInLines", desc := "()Z" } : MethodName) prog_5_method_4_code (1 : Nat) (Option.some FieldType.boolean)) ∈ gwl := gw_of (i := 591) (by decide +kernel) rfl
theorem wd_592 : (Cond.fieldLink "FlowBoxes$Kind" (25 : Nat) "FlowBoxes$Kind" "TEXT" "LFlowBoxes$Kind;") ∈ gwl := gw_of (i := 592) (by decide +kernel) rfl
theorem wd_593 : (Cond.fieldLink "FlowBoxes$Kind" (7 : Nat) "FlowBoxes$Kind" "SPAN" "LFlowBoxes$Kind;") ∈ gwl := gw_of (i := 593) (by decide +kernel) rfl
theorem wd_594 : (Cond.fieldLink "FlowBoxes$Kind" (10 : Nat) "FlowBoxes$Kind" "INLINE" "LFlowBoxes$Kind;") ∈ gwl := gw_of (i := 594) (by decide +kernel) rfl
theorem wd_596 : (Cond.static ({ cls := "FlowBoxes$Node", name := "endOfRun", desc := "(LFlowBoxes$Node;)LFlowBoxes$Node;" } : MethodName)) ∈ gwl := gw_of (i := 596) (by decide +kernel) rfl
theorem wd_597 : (Cond.code ({ cls := "FlowBoxes$Node", name := "endOfRun", desc := "(LFlowBoxes$Node;)LFlowBoxes$Node;" } : MethodName) prog_9_method_14_code (3 : Nat) (Option.some (FieldType.object "FlowBoxes$Node"))) ∈ gwl := gw_of (i := 597) (by decide +kernel) rfl
theorem wd_598 : (Cond.methodLink "FlowBoxes$Node" (86 : Nat) ({ cls := "FlowBoxes$Node", name := "mayStandInRun", desc := "()Z" } : MethodName)) ∈ gwl := gw_of (i := 598) (by decide +kernel) rfl
theorem wd_600 : (Cond.instanceMethod ({ cls := "FlowBoxes$Node", name := "mayStandInRun", desc := "()Z" } : MethodName)) ∈ gwl := gw_of (i := 600) (by decide +kernel) rfl
theorem wd_601 : (Cond.code ({ cls := "FlowBoxes$Node", name := "mayStandInRun", desc := "()Z" } : MethodName) prog_9_method_15_code (1 : Nat) (Option.some FieldType.boolean)) ∈ gwl := gw_of (i := 601) (by decide +kernel) rfl
theorem wd_603 : (Cond.methodLink "FlowBoxes$Measures" (107 : Nat) ({ cls := "FlowBoxes$Measures", name := "mostOfRun", desc := "(LFlowBoxes$Node;LFlowBoxes$Node;)I" } : MethodName)) ∈ gwl := gw_of (i := 603) (by decide +kernel) rfl
theorem wd_604 : (Cond.static ({ cls := "FlowBoxes$Measures", name := "mostOfRun", desc := "(LFlowBoxes$Node;LFlowBoxes$Node;)I" } : MethodName)) ∈ gwl := gw_of (i := 604) (by decide +kernel) rfl
theorem wd_605 : (Cond.code ({ cls := "FlowBoxes$Measures", name := "mostOfRun", desc := "(LFlowBoxes$Node;LFlowBoxes$Node;)I" } : MethodName) prog_8_method_10_code (6 : Nat) (Option.some FieldType.int)) ∈ gwl := gw_of (i := 605) (by decide +kernel) rfl
theorem wd_607 : (Cond.static ({ cls := "FlowBoxes$Node", name := "onwardInRun", desc := "(LFlowBoxes$Node;LFlowBoxes$Node;)LFlowBoxes$Node;" } : MethodName)) ∈ gwl := gw_of (i := 607) (by decide +kernel) rfl
theorem wd_608 : (Cond.code ({ cls := "FlowBoxes$Node", name := "onwardInRun", desc := "(LFlowBoxes$Node;LFlowBoxes$Node;)LFlowBoxes$Node;" } : MethodName) prog_9_method_13_code (3 : Nat) (Option.some (FieldType.object "FlowBoxes$Node"))) ∈ gwl := gw_of (i := 608) (by decide +kernel) rfl
theorem wd_609 : (Cond.methodLink "FlowBoxes$Layout" (547 : Nat) ({ cls := "FlowBoxes$Layout", name := "lackOf", desc := "(LFlowBoxes$Node;I)I" } : MethodName)) ∈ gwl := gw_of (i := 609) (by decide +kernel) rfl
theorem wd_610 : (Cond.static ({ cls := "FlowBoxes$Layout", name := "lackOf", desc := "(LFlowBoxes$Node;I)I" } : MethodName)) ∈ gwl := gw_of (i := 610) (by decide +kernel) rfl
theorem wd_611 : (Cond.code ({ cls := "FlowBoxes$Layout", name := "lackOf", desc := "(LFlowBoxes$Node;I)I" } : MethodName) prog_6_method_45_code (2 : Nat) (Option.some FieldType.int)) ∈ gwl := gw_of (i := 611) (by decide +kernel) rfl
theorem wd_613 : (Cond.methodLink "FlowBoxes$Layout" (191 : Nat) ({ cls := "java/lang/Math", name := "min", desc := "(II)I" } : MethodName)) ∈ gwl := gw_of (i := 613) (by decide +kernel) rfl
theorem wd_614 : (Cond.static ({ cls := "java/lang/Math", name := "min", desc := "(II)I" } : MethodName)) ∈ gwl := gw_of (i := 614) (by decide +kernel) rfl
theorem wd_615 : (Cond.code ({ cls := "java/lang/Math", name := "min", desc := "(II)I" } : MethodName) prog_23_method_69_code (2 : Nat) (Option.some FieldType.int)) ∈ gwl := gw_of (i := 615) (by decide +kernel) rfl
theorem wd_616 : (Cond.methodLink "FlowBoxes$Layout" (166 : Nat) ({ cls := "FlowBoxes$Layout", name := "partOf", desc := "(III)I" } : MethodName)) ∈ gwl := gw_of (i := 616) (by decide +kernel) rfl
theorem wd_617 : (Cond.static ({ cls := "FlowBoxes$Layout", name := "partOf", desc := "(III)I" } : MethodName)) ∈ gwl := gw_of (i := 617) (by decide +kernel) rfl
theorem wd_618 : (Cond.code ({ cls := "FlowBoxes$Layout", name := "partOf", desc := "(III)I" } : MethodName) prog_6_method_15_code (3 : Nat) (Option.some FieldType.int)) ∈ gwl := gw_of (i := 618) (by decide +kernel) rfl
theorem wd_619 : (Cond.fieldLink "FlowBoxes$Layout" (531 : Nat) "FlowBoxes$Kind" "ROW" "LFlowBoxes$Kind;") ∈ gwl := gw_of (i := 619) (by decide +kernel) rfl
theorem wd_620 : (Cond.methodLink "FlowBoxes$Layout" (534 : Nat) ({ cls := "FlowBoxes$Layout", name := "layRow", desc := "(LFlowBoxes$Node;I)I" } : MethodName)) ∈ gwl := gw_of (i := 620) (by decide +kernel) rfl
theorem wd_622 : (Cond.instanceMethod ({ cls := "FlowBoxes$Layout", name := "layRow", desc := "(LFlowBoxes$Node;I)I" } : MethodName)) ∈ gwl := gw_of (i := 622) (by decide +kernel) rfl
theorem wd_623 : (Cond.code ({ cls := "FlowBoxes$Layout", name := "layRow", desc := "(LFlowBoxes$Node;I)I" } : MethodName) prog_6_method_42_code (6 : Nat) (Option.some FieldType.int)) ∈ gwl := gw_of (i := 623) (by decide +kernel) rfl
theorem wd_624 : (Cond.fieldLink "FlowBoxes$Layout" (537 : Nat) "FlowBoxes$Kind" "CELL" "LFlowBoxes$Kind;") ∈ gwl := gw_of (i := 624) (by decide +kernel) rfl
theorem wd_625 : (Cond.methodLink "FlowBoxes$Layout" (101 : Nat) ({ cls := "FlowBoxes$Layout", name := "heightIn", desc := "(LFlowBoxes$Node;I)I" } : MethodName)) ∈ gwl := gw_of (i := 625) (by decide +kernel) rfl
theorem wd_626 : (Cond.static ({ cls := "FlowBoxes$Layout", name := "heightIn", desc := "(LFlowBoxes$Node;I)I" } : MethodName)) ∈ gwl := gw_of (i := 626) (by decide +kernel) rfl
theorem wd_627 : (Cond.code ({ cls := "FlowBoxes$Layout", name := "heightIn", desc := "(LFlowBoxes$Node;I)I" } : MethodName) prog_6_method_14_code (3 : Nat) (Option.some FieldType.int)) ∈ gwl := gw_of (i := 627) (by decide +kernel) rfl
theorem wd_630 : (Cond.instanceMethod ({ cls := "FlowBoxes$Node", name := "uprightEdges", desc := "()I" } : MethodName)) ∈ gwl := gw_of (i := 630) (by decide +kernel) rfl
theorem wd_631 : (Cond.code ({ cls := "FlowBoxes$Node", name := "uprightEdges", desc := "()I" } : MethodName) prog_9_method_6_code (1 : Nat) (Option.some FieldType.int)) ∈ gwl := gw_of (i := 631) (by decide +kernel) rfl
theorem wd_632 : (Cond.methodLink "FlowBoxes$Layout" (215 : Nat) ({ cls := "FlowBoxes$Layout", name := "layWithBars", desc := "(LFlowBoxes$Node;LFlowBoxes$Place;)I" } : MethodName)) ∈ gwl := gw_of (i := 632) (by decide +kernel) rfl
theorem wd_634 : (Cond.instanceMethod ({ cls := "FlowBoxes$Layout", name := "layWithBars", desc := "(LFlowBoxes$Node;LFlowBoxes$Place;)I" } : MethodName)) ∈ gwl := gw_of (i := 634) (by decide +kernel) rfl
theorem wd_635 : (Cond.code ({ cls := "FlowBoxes$Layout", name := "layWithBars", desc := "(LFlowBoxes$Node;LFlowBoxes$Place;)I" } : MethodName) prog_6_method_20_code (10 : Nat) (Option.some FieldType.int)) ∈ gwl := gw_of (i := 635) (by decide +kernel) rfl
theorem wd_636 : (Cond.methodLink "FlowBoxes$Layout" (224 : Nat) ({ cls := "FlowBoxes$Layout", name := "flowContext", desc := "(LFlowBoxes$Node;I)I" } : MethodName)) ∈ gwl := gw_of (i := 636) (by decide +kernel) rfl
theorem wd_638 : (Cond.instanceMethod ({ cls := "FlowBoxes$Layout", name := "flowContext", desc := "(LFlowBoxes$Node;I)I" } : MethodName)) ∈ gwl := gw_of (i := 638) (by decide +kernel) rfl
theorem wd_639 : (Cond.code ({ cls := "FlowBoxes$Layout", name := "flowContext", desc := "(LFlowBoxes$Node;I)I" } : MethodName) prog_6_method_19_code (4 : Nat) (Option.some FieldType.int)) ∈ gwl := gw_of (i := 639) (by decide +kernel) rfl
theorem wd_640 : (Cond.methodLink "FlowBoxes$Layout" (230 : Nat) ({ cls := "FlowBoxes$Layout", name := "flowOf", desc := "(LFlowBoxes$Node;)LFlowBoxes$Flow;" } : MethodName)) ∈ gwl := gw_of (i := 640) (by decide +kernel) rfl
theorem wd_642 : (Cond.instanceMethod ({ cls := "FlowBoxes$Layout", name := "flowOf", desc := "(LFlowBoxes$Node;)LFlowBoxes$Flow;" } : MethodName)) ∈ gwl := gw_of (i := 642) (by decide +kernel) rfl
theorem wd_643 : (Cond.code ({ cls := "FlowBoxes$Layout", name := "flowOf", desc := "(LFlowBoxes$Node;)LFlowBoxes$Flow;" } : MethodName) prog_6_method_18_code (2 : Nat) (Option.some (FieldType.object "FlowBoxes$Flow"))) ∈ gwl := gw_of (i := 643) (by decide +kernel) rfl
theorem wd_646 : (Cond.instanceMethod ({ cls := "FlowBoxes$Flow", name := "begin", desc := "()V" } : MethodName)) ∈ gwl := gw_of (i := 646) (by decide +kernel) rfl
theorem wd_647 : (Cond.code ({ cls := "FlowBoxes$Flow", name := "begin", desc := "()V" } : MethodName) prog_4_method_2_code (1 : Nat) (Option.none : Option FieldType)) ∈ gwl := gw_of (i := 647) (by decide +kernel) rfl
theorem wd_648 : (Cond.constant "FlowBoxes$Flow" (32 : Nat) (-1000000 : Int32)) ∈ gwl := gw_of (i := 648) (by decide +kernel) rfl
theorem wd_649 : (Cond.methodLink "FlowBoxes$Layout" (237 : Nat) ({ cls := "FlowBoxes$Layout", name := "flowContainer", desc := "(LFlowBoxes$Node;LFlowBoxes$Flow;II)V" } : MethodName)) ∈ gwl := gw_of (i := 649) (by decide +kernel) rfl
theorem wd_651 : (Cond.instanceMethod ({ cls := "FlowBoxes$Layout", name := "flowContainer", desc := "(LFlowBoxes$Node;LFlowBoxes$Flow;II)V" } : MethodName)) ∈ gwl := gw_of (i := 651) (by decide +kernel) rfl
theorem wd_652 : (Cond.code ({ cls := "FlowBoxes$Layout", name := "flowContainer", desc := "(LFlowBoxes$Node;LFlowBoxes$Flow;II)V" } : MethodName) prog_6_method_21_code (7 : Nat) (Option.none : Option FieldType)) ∈ gwl := gw_of (i := 652) (by decide +kernel) rfl
theorem wd_653 : (Cond.methodLink "FlowBoxes$Layout" (253 : Nat) ({ cls := "FlowBoxes$Layout", name := "freeLines", desc := "(LFlowBoxes$Place;)V" } : MethodName)) ∈ gwl := gw_of (i := 653) (by decide +kernel) rfl
theorem wd_655 : (Cond.instanceMethod ({ cls := "FlowBoxes$Layout", name := "freeLines", desc := "(LFlowBoxes$Place;)V" } : MethodName)) ∈ gwl := gw_of (i := 655) (by decide +kernel) rfl
theorem wd_656 : (Cond.code ({ cls := "FlowBoxes$Layout", name := "freeLines", desc := "(LFlowBoxes$Place;)V" } : MethodName) prog_6_method_40_code (2 : Nat) (Option.none : Option FieldType)) ∈ gwl := gw_of (i := 656) (by decide +kernel) rfl
theorem wd_659 : (Cond.methodLink "FlowBoxes$Layout" (268 : Nat) ({ cls := "FlowBoxes$Layout", name := "hasThings", desc := "(LFlowBoxes$Node;LFlowBoxes$Node;)Z" } : MethodName)) ∈ gwl := gw_of (i := 659) (by decide +kernel) rfl
theorem wd_660 : (Cond.static ({ cls := "FlowBoxes$Layout", name := "hasThings", desc := "(LFlowBoxes$Node;LFlowBoxes$Node;)Z" } : MethodName)) ∈ gwl := gw_of (i := 660) (by decide +kernel) rfl
theorem wd_661 : (Cond.code ({ cls := "FlowBoxes$Layout", name := "hasThings", desc := "(LFlowBoxes$Node;LFlowBoxes$Node;)Z" } : MethodName) prog_6_method_28_code (3 : Nat) (Option.some FieldType.boolean)) ∈ gwl := gw_of (i := 661) (by decide +kernel) rfl
theorem wd_662 : (Cond.fieldLink "FlowBoxes$Layout" (135 : Nat) "FlowBoxes$Kind" "INLINE" "LFlowBoxes$Kind;") ∈ gwl := gw_of (i := 662) (by decide +kernel) rfl
theorem wd_664 : (Cond.methodLink "FlowBoxes$Layout" (272 : Nat) ({ cls := "FlowBoxes$Layout", name := "flowLines", desc := "(LFlowBoxes$Node;LFlowBoxes$Flow;LFlowBoxes$Node;LFlowBoxes$Node;)V" } : MethodName)) ∈ gwl := gw_of (i := 664) (by decide +kernel) rfl
theorem wd_666 : (Cond.instanceMethod ({ cls := "FlowBoxes$Layout", name := "flowLines", desc := "(LFlowBoxes$Node;LFlowBoxes$Flow;LFlowBoxes$Node;LFlowBoxes$Node;)V" } : MethodName)) ∈ gwl := gw_of (i := 666) (by decide +kernel) rfl
theorem wd_667 : (Cond.code ({ cls := "FlowBoxes$Layout", name := "flowLines", desc := "(LFlowBoxes$Node;LFlowBoxes$Flow;LFlowBoxes$Node;LFlowBoxes$Node;)V" } : MethodName) prog_6_method_30_code (6 : Nat) (Option.none : Option FieldType)) ∈ gwl := gw_of (i := 667) (by decide +kernel) rfl
theorem wd_670 : (Cond.instanceMethod ({ cls := "FlowBoxes$Flow", name := "endMargins", desc := "()V" } : MethodName)) ∈ gwl := gw_of (i := 670) (by decide +kernel) rfl
theorem wd_671 : (Cond.code ({ cls := "FlowBoxes$Flow", name := "endMargins", desc := "()V" } : MethodName) prog_4_method_6_code (2 : Nat) (Option.none : Option FieldType)) ∈ gwl := gw_of (i := 671) (by decide +kernel) rfl
theorem wd_672 : (Cond.methodLink "FlowBoxes$Flow" (61 : Nat) ({ cls := "FlowBoxes$Flow", name := "pendingY", desc := "()I" } : MethodName)) ∈ gwl := gw_of (i := 672) (by decide +kernel) rfl
theorem wd_674 : (Cond.instanceMethod ({ cls := "FlowBoxes$Flow", name := "pendingY", desc := "()I" } : MethodName)) ∈ gwl := gw_of (i := 674) (by decide +kernel) rfl
theorem wd_675 : (Cond.code ({ cls := "FlowBoxes$Flow", name := "pendingY", desc := "()I" } : MethodName) prog_4_method_4_code (1 : Nat) (Option.some FieldType.int)) ∈ gwl := gw_of (i := 675) (by decide +kernel) rfl
theorem wd_676 : (Cond.methodLink "FlowBoxes$Flow" (65 : Nat) ({ cls := "FlowBoxes$Flow", name := "dropMargins", desc := "()V" } : MethodName)) ∈ gwl := gw_of (i := 676) (by decide +kernel) rfl
theorem wd_678 : (Cond.instanceMethod ({ cls := "FlowBoxes$Flow", name := "dropMargins", desc := "()V" } : MethodName)) ∈ gwl := gw_of (i := 678) (by decide +kernel) rfl
theorem wd_679 : (Cond.code ({ cls := "FlowBoxes$Flow", name := "dropMargins", desc := "()V" } : MethodName) prog_4_method_5_code (1 : Nat) (Option.none : Option FieldType)) ∈ gwl := gw_of (i := 679) (by decide +kernel) rfl
theorem wd_680 : (Cond.fieldLink "FlowBoxes$Layout" (393 : Nat) "FlowBoxes$1" "$SwitchMap$FlowBoxes$Kind" "[I") ∈ gwl := gw_of (i := 680) (by decide +kernel) rfl
theorem wd_681 : (Cond.methodLink "FlowBoxes$Layout" (398 : Nat) ({ cls := "FlowBoxes$Kind", name := "ordinal", desc := "()I" } : MethodName)) ∈ gwl := gw_of (i := 681) (by decide +kernel) rfl
theorem wd_682 : (Cond.methodLink "FlowBoxes$Layout" (401 : Nat) ({ cls := "FlowBoxes$Layout", name := "addWords", desc := "(LFlowBoxes$Node;LFlowBoxes$Flow;LFlowBoxes$Node;)V" } : MethodName)) ∈ gwl := gw_of (i := 682) (by decide +kernel) rfl
theorem wd_684 : (Cond.instanceMethod ({ cls := "FlowBoxes$Layout", name := "addWords", desc := "(LFlowBoxes$Node;LFlowBoxes$Flow;LFlowBoxes$Node;)V" } : MethodName)) ∈ gwl := gw_of (i := 684) (by decide +kernel) rfl
theorem wd_685 : (Cond.code ({ cls := "FlowBoxes$Layout", name := "addWords", desc := "(LFlowBoxes$Node;LFlowBoxes$Flow;LFlowBoxes$Node;)V" } : MethodName) prog_6_method_32_code (10 : Nat) (Option.none : Option FieldType)) ∈ gwl := gw_of (i := 685) (by decide +kernel) rfl
theorem wd_686 : (Cond.methodLink "FlowBoxes$Layout" (422 : Nat) ({ cls := "FlowBoxes$Layout", name := "shiftOf", desc := "(LFlowBoxes$Node;)I" } : MethodName)) ∈ gwl := gw_of (i := 686) (by decide +kernel) rfl
theorem wd_687 : (Cond.static ({ cls := "FlowBoxes$Layout", name := "shiftOf", desc := "(LFlowBoxes$Node;)I" } : MethodName)) ∈ gwl := gw_of (i := 687) (by decide +kernel) rfl
theorem wd_688 : (Cond.code ({ cls := "FlowBoxes$Layout", name := "shiftOf", desc := "(LFlowBoxes$Node;)I" } : MethodName) prog_6_method_31_code (3 : Nat) (Option.some FieldType.int)) ∈ gwl := gw_of (i := 688) (by decide +kernel) rfl
theorem wd_690 : (Cond.fieldLink "FlowBoxes$Layout" (194 : Nat) "FlowBoxes$Kind" "SPAN" "LFlowBoxes$Kind;") ∈ gwl := gw_of (i := 690) (by decide +kernel) rfl
theorem wd_693 : (Cond.instanceMethod ({ cls := "FlowBoxes$Place", name := "pieceAt", desc := "(I)LFlowBoxes$Thing;" } : MethodName)) ∈ gwl := gw_of (i := 693) (by decide +kernel) rfl
theorem wd_694 : (Cond.code ({ cls := "FlowBoxes$Place", name := "pieceAt", desc := "(I)LFlowBoxes$Thing;" } : MethodName) prog_11_method_2_code (2 : Nat) (Option.some (FieldType.object "FlowBoxes$Thing"))) ∈ gwl := gw_of (i := 694) (by decide +kernel) rfl
theorem wd_695 : (Cond.methodLink "FlowBoxes$Layout" (444 : Nat) ({ cls := "FlowBoxes$Layout", name := "addThing", desc := "(LFlowBoxes$Node;LFlowBoxes$Flow;LFlowBoxes$Thing;LFlowBoxes$Thing;I)V" } : MethodName)) ∈ gwl := gw_of (i := 695) (by decide +kernel) rfl
theorem wd_697 : (Cond.instanceMethod ({ cls := "FlowBoxes$Layout", name := "addThing", desc := "(LFlowBoxes$Node;LFlowBoxes$Flow;LFlowBoxes$Thing;LFlowBoxes$Thing;I)V" } : MethodName)) ∈ gwl := gw_of (i := 697) (by decide +kernel) rfl
theorem wd_698 : (Cond.code ({ cls := "FlowBoxes$Layout", name := "addThing", desc := "(LFlowBoxes$Node;LFlowBoxes$Flow;LFlowBoxes$Thing;LFlowBoxes$Thing;I)V" } : MethodName) prog_6_method_34_code (9 : Nat) (Option.none : Option FieldType)) ∈ gwl := gw_of (i := 698) (by decide +kernel) rfl
theorem wd_701 : (Cond.instanceMethod ({ cls := "FlowBoxes$Flow", name := "look", desc := "(II)V" } : MethodName)) ∈ gwl := gw_of (i := 701) (by decide +kernel) rfl
theorem wd_702 : (Cond.code ({ cls := "FlowBoxes$Flow", name := "look", desc := "(II)V" } : MethodName) prog_4_method_9_code (5 : Nat) (Option.none : Option FieldType)) ∈ gwl := gw_of (i := 702) (by decide +kernel) rfl
theorem wd_703 : (Cond.methodLink "FlowBoxes$Flow" (52 : Nat) ({ cls := "java/lang/Math", name := "max", desc := "(II)I" } : MethodName)) ∈ gwl := gw_of (i := 703) (by decide +kernel) rfl
theorem wd_706 : (Cond.instanceMethod ({ cls := "FlowBoxes$Floated", name := "reachesInto", desc := "(IIII)Z" } : MethodName)) ∈ gwl := gw_of (i := 706) (by decide +kernel) rfl
theorem wd_707 : (Cond.code ({ cls := "FlowBoxes$Floated", name := "reachesInto", desc := "(IIII)Z" } : MethodName) prog_3_method_2_code (5 : Nat) (Option.some FieldType.boolean)) ∈ gwl := gw_of (i := 707) (by decide +kernel) rfl
theorem wd_708 : (Cond.methodLink "FlowBoxes$Flow" (58 : Nat) ({ cls := "java/lang/Math", name := "min", desc := "(II)I" } : MethodName)) ∈ gwl := gw_of (i := 708) (by decide +kernel) rfl
theorem wd_711 : (Cond.instanceMethod ({ cls := "FlowBoxes$Flow", name := "fits", desc := "(I)Z" } : MethodName)) ∈ gwl := gw_of (i := 711) (by decide +kernel) rfl
theorem wd_712 : (Cond.code ({ cls := "FlowBoxes$Flow", name := "fits", desc := "(I)Z" } : MethodName) prog_4_method_17_code (2 : Nat) (Option.some FieldType.boolean)) ∈ gwl := gw_of (i := 712) (by decide +kernel) rfl
theorem wd_713 : (Cond.methodLink "FlowBoxes$Flow" (133 : Nat) ({ cls := "FlowBoxes$Flow", name := "nextOffset", desc := "()I" } : MethodName)) ∈ gwl := gw_of (i := 713) (by decide +kernel) rfl
theorem wd_715 : (Cond.instanceMethod ({ cls := "FlowBoxes$Flow", name := "nextOffset", desc := "()I" } : MethodName)) ∈ gwl := gw_of (i := 715) (by decide +kernel) rfl
theorem wd_716 : (Cond.code ({ cls := "FlowBoxes$Flow", name := "nextOffset", desc := "()I" } : MethodName) prog_4_method_16_code (1 : Nat) (Option.some FieldType.int)) ∈ gwl := gw_of (i := 716) (by decide +kernel) rfl
theorem wd_717 : (Cond.methodLink "FlowBoxes$Flow" (118 : Nat) ({ cls := "FlowBoxes$Flow", name := "band", desc := "()I" } : MethodName)) ∈ gwl := gw_of (i := 717) (by decide +kernel) rfl
theorem wd_719 : (Cond.instanceMethod ({ cls := "FlowBoxes$Flow", name := "band", desc := "()I" } : MethodName)) ∈ gwl := gw_of (i := 719) (by decide +kernel) rfl
theorem wd_720 : (Cond.code ({ cls := "FlowBoxes$Flow", name := "band", desc := "()I" } : MethodName) prog_4_method_10_code (1 : Nat) (Option.some FieldType.int)) ∈ gwl := gw_of (i := 720) (by decide +kernel) rfl
theorem wd_721 : (Cond.methodLink "FlowBoxes$Layout" (465 : Nat) ({ cls := "FlowBoxes$Layout", name := "putThing", desc := "(LFlowBoxes$Node;LFlowBoxes$Flow;LFlowBoxes$Thing;)V" } : MethodName)) ∈ gwl := gw_of (i := 721) (by decide +kernel) rfl
theorem wd_723 : (Cond.instanceMethod ({ cls := "FlowBoxes$Layout", name := "putThing", desc := "(LFlowBoxes$Node;LFlowBoxes$Flow;LFlowBoxes$Thing;)V" } : MethodName)) ∈ gwl := gw_of (i := 723) (by decide +kernel) rfl
theorem wd_724 : (Cond.code ({ cls := "FlowBoxes$Layout", name := "putThing", desc := "(LFlowBoxes$Node;LFlowBoxes$Flow;LFlowBoxes$Thing;)V" } : MethodName) prog_6_method_35_code (4 : Nat) (Option.none : Option FieldType)) ∈ gwl := gw_of (i := 724) (by decide +kernel) rfl
theorem wd_725 : (Cond.methodLink "FlowBoxes$Layout" (475 : Nat) ({ cls := "FlowBoxes$Layout", name := "addLine", desc := "(LFlowBoxes$Place;)LFlowBoxes$Line;" } : MethodName)) ∈ gwl := gw_of (i := 725) (by decide +kernel) rfl
theorem wd_727 : (Cond.instanceMethod ({ cls := "FlowBoxes$Layout", name := "addLine", desc := "(LFlowBoxes$Place;)LFlowBoxes$Line;" } : MethodName)) ∈ gwl := gw_of (i := 727) (by decide +kernel) rfl
theorem wd_728 : (Cond.code ({ cls := "FlowBoxes$Layout", name := "addLine", desc := "(LFlowBoxes$Place;)LFlowBoxes$Line;" } : MethodName) prog_6_method_39_code (3 : Nat) (Option.some (FieldType.object "FlowBoxes$Line"))) ∈ gwl := gw_of (i := 728) (by decide +kernel) rfl
theorem wd_729 : (Cond.classLink "FlowBoxes$Layout" (490 : Nat) "FlowBoxes$Line") ∈ gwl := gw_of (i := 729) (by decide +kernel) rfl
theorem wd_730 : (Cond.instantiable "FlowBoxes$Line" (6 : Nat)) ∈ gwl := gw_of (i := 730) (by decide +kernel) rfl
theorem wd_732 : (Cond.instanceMethod ({ cls := "FlowBoxes$Line", name := "<init>", desc := "()V" } : MethodName)) ∈ gwl := gw_of (i := 732) (by decide +kernel) rfl
theorem wd_733 : (Cond.code ({ cls := "FlowBoxes$Line", name := "<init>", desc := "()V" } : MethodName) prog_7_method_1_code (1 : Nat) (Option.none : Option FieldType)) ∈ gwl := gw_of (i := 733) (by decide +kernel) rfl
theorem wd_734 : (Cond.methodLink "FlowBoxes$Line" (1 : Nat) ({ cls := "java/lang/Object", name := "<init>", desc := "()V" } : MethodName)) ∈ gwl := gw_of (i := 734) (by decide +kernel) rfl
theorem wd_763 : (Cond.constant "FlowBoxes$Layout" (482 : Nat) (-1000000 : Int32)) ∈ gwl := gw_of (i := 763) (by decide +kernel) rfl
theorem wd_765 : (Cond.methodLink "FlowBoxes$Layout" (415 : Nat) ({ cls := "FlowBoxes$Layout", name := "endLine", desc := "(LFlowBoxes$Flow;)V" } : MethodName)) ∈ gwl := gw_of (i := 765) (by decide +kernel) rfl
theorem wd_767 : (Cond.instanceMethod ({ cls := "FlowBoxes$Layout", name := "endLine", desc := "(LFlowBoxes$Flow;)V" } : MethodName)) ∈ gwl := gw_of (i := 767) (by decide +kernel) rfl
theorem wd_768 : (Cond.code ({ cls := "FlowBoxes$Layout", name := "endLine", desc := "(LFlowBoxes$Flow;)V" } : MethodName) prog_6_method_36_code (6 : Nat) (Option.none : Option FieldType)) ∈ gwl := gw_of (i := 768) (by decide +kernel) rfl
theorem wd_771 : (Cond.instanceMethod ({ cls := "FlowBoxes$Flow", name := "reachTo", desc := "(I)V" } : MethodName)) ∈ gwl := gw_of (i := 771) (by decide +kernel) rfl
theorem wd_772 : (Cond.code ({ cls := "FlowBoxes$Flow", name := "reachTo", desc := "(I)V" } : MethodName) prog_4_method_8_code (2 : Nat) (Option.none : Option FieldType)) ∈ gwl := gw_of (i := 772) (by decide +kernel) rfl
theorem wd_773 : (Cond.methodLink "FlowBoxes$Layout" (299 : Nat) ({ cls := "FlowBoxes$Layout", name := "putFloat", desc := "(LFlowBoxes$Node;LFlowBoxes$Flow;I)V" } : MethodName)) ∈ gwl := gw_of (i := 773) (by decide +kernel) rfl
theorem wd_775 : (Cond.instanceMethod ({ cls := "FlowBoxes$Layout", name := "putFloat", desc := "(LFlowBoxes$Node;LFlowBoxes$Flow;I)V" } : MethodName)) ∈ gwl := gw_of (i := 775) (by decide +kernel) rfl
theorem wd_776 : (Cond.code ({ cls := "FlowBoxes$Layout", name := "putFloat", desc := "(LFlowBoxes$Node;LFlowBoxes$Flow;I)V" } : MethodName) prog_6_method_27_code (8 : Nat) (Option.none : Option FieldType)) ∈ gwl := gw_of (i := 776) (by decide +kernel) rfl
theorem wd_778 : (Cond.methodLink "FlowBoxes$Layout" (94 : Nat) ({ cls := "FlowBoxes$Layout", name := "widthIn", desc := "(LFlowBoxes$Node;II)I" } : MethodName)) ∈ gwl := gw_of (i := 778) (by decide +kernel) rfl
theorem wd_779 : (Cond.static ({ cls := "FlowBoxes$Layout", name := "widthIn", desc := "(LFlowBoxes$Node;II)I" } : MethodName)) ∈ gwl := gw_of (i := 779) (by decide +kernel) rfl
theorem wd_780 : (Cond.code ({ cls := "FlowBoxes$Layout", name := "widthIn", desc := "(LFlowBoxes$Node;II)I" } : MethodName) prog_6_method_13_code (4 : Nat) (Option.some FieldType.int)) ∈ gwl := gw_of (i := 780) (by decide +kernel) rfl
theorem wd_783 : (Cond.fieldLink "FlowBoxes$Layout" (179 : Nat) "FlowBoxes$Kind" "BLOCK" "LFlowBoxes$Kind;") ∈ gwl := gw_of (i := 783) (by decide +kernel) rfl
theorem wd_784 : (Cond.methodLink "FlowBoxes$Layout" (310 : Nat) ({ cls := "FlowBoxes$Layout", name := "knownHeight", desc := "(LFlowBoxes$Node;)I" } : MethodName)) ∈ gwl := gw_of (i := 784) (by decide +kernel) rfl
theorem wd_786 : (Cond.instanceMethod ({ cls := "FlowBoxes$Layout", name := "knownHeight", desc := "(LFlowBoxes$Node;)I" } : MethodName)) ∈ gwl := gw_of (i := 786) (by decide +kernel) rfl
theorem wd_787 : (Cond.code ({ cls := "FlowBoxes$Layout", name := "knownHeight", desc := "(LFlowBoxes$Node;)I" } : MethodName) prog_6_method_16_code (3 : Nat) (Option.some FieldType.int)) ∈ gwl := gw_of (i := 787) (by decide +kernel) rfl
theorem wd_790 : (Cond.instanceMethod ({ cls := "FlowBoxes$Node", name := "uprightRim", desc := "()I" } : MethodName)) ∈ gwl := gw_of (i := 790) (by decide +kernel) rfl
theorem wd_791 : (Cond.code ({ cls := "FlowBoxes$Node", name := "uprightRim", desc := "()I" } : MethodName) prog_9_method_8_code (1 : Nat) (Option.some FieldType.int)) ∈ gwl := gw_of (i := 791) (by decide +kernel) rfl
theorem wd_794 : (Cond.instanceMethod ({ cls := "FlowBoxes$Flow", name := "floatTop", desc := "(I)I" } : MethodName)) ∈ gwl := gw_of (i := 794) (by decide +kernel) rfl
theorem wd_795 : (Cond.code ({ cls := "FlowBoxes$Flow", name := "floatTop", desc := "(I)I" } : MethodName) prog_4_method_13_code (2 : Nat) (Option.some FieldType.int)) ∈ gwl := gw_of (i := 795) (by decide +kernel) rfl
theorem wd_798 : (Cond.instanceMethod ({ cls := "FlowBoxes$Flow", name := "findHeight", desc := "(III)I" } : MethodName)) ∈ gwl := gw_of (i := 798) (by decide +kernel) rfl
theorem wd_799 : (Cond.code ({ cls := "FlowBoxes$Flow", name := "findHeight", desc := "(III)I" } : MethodName) prog_4_method_12_code (6 : Nat) (Option.some FieldType.int)) ∈ gwl := gw_of (i := 799) (by decide +kernel) rfl
theorem wd_800 : (Cond.methodLink "FlowBoxes$Flow" (114 : Nat) ({ cls := "FlowBoxes$Flow", name := "look", desc := "(II)V" } : MethodName)) ∈ gwl := gw_of (i := 800) (by decide +kernel) rfl
theorem wd_801 : (Cond.methodLink "FlowBoxes$Flow" (121 : Nat) ({ cls := "FlowBoxes$Flow", name := "nextLow", desc := "(I)I" } : MethodName)) ∈ gwl := gw_of (i := 801) (by decide +kernel) rfl
theorem wd_803 : (Cond.instanceMethod ({ cls := "FlowBoxes$Flow", name := "nextLow", desc := "(I)I" } : MethodName)) ∈ gwl := gw_of (i := 803) (by decide +kernel) rfl
theorem wd_804 : (Cond.code ({ cls := "FlowBoxes$Flow", name := "nextLow", desc := "(I)I" } : MethodName) prog_4_method_11_code (5 : Nat) (Option.some FieldType.int)) ∈ gwl := gw_of (i := 804) (by decide +kernel) rfl
theorem wd_807 : (Cond.instanceMethod ({ cls := "FlowBoxes$Flow", name := "addFloat", desc := "(LFlowBoxes$Floated;)V" } : MethodName)) ∈ gwl := gw_of (i := 807) (by decide +kernel) rfl
theorem wd_808 : (Cond.code ({ cls := "FlowBoxes$Flow", name := "addFloat", desc := "(LFlowBoxes$Floated;)V" } : MethodName) prog_4_method_14_code (2 : Nat) (Option.none : Option FieldType)) ∈ gwl := gw_of (i := 808) (by decide +kernel) rfl
theorem wd_809 : (Cond.methodLink "FlowBoxes$Flow" (126 : Nat) ({ cls := "FlowBoxes$Flow", name := "reachTo", desc := "(I)V" } : MethodName)) ∈ gwl := gw_of (i := 809) (by decide +kernel) rfl
theorem wd_811 : (Cond.methodLink "FlowBoxes$Layout" (405 : Nat) ({ cls := "FlowBoxes$Layout", name := "addInlineBlock", desc := "(LFlowBoxes$Node;LFlowBoxes$Flow;LFlowBoxes$Node;)V" } : MethodName)) ∈ gwl := gw_of (i := 811) (by decide +kernel) rfl
theorem wd_813 : (Cond.instanceMethod ({ cls := "FlowBoxes$Layout", name := "addInlineBlock", desc := "(LFlowBoxes$Node;LFlowBoxes$Flow;LFlowBoxes$Node;)V" } : MethodName)) ∈ gwl := gw_of (i := 813) (by decide +kernel) rfl
theorem wd_814 : (Cond.code ({ cls := "FlowBoxes$Layout", name := "addInlineBlock", desc := "(LFlowBoxes$Node;LFlowBoxes$Flow;LFlowBoxes$Node;)V" } : MethodName) prog_6_method_33_code (8 : Nat) (Option.none : Option FieldType)) ∈ gwl := gw_of (i := 814) (by decide +kernel) rfl
theorem wd_815 : (Cond.methodLink "FlowBoxes$Layout" (408 : Nat) ({ cls := "FlowBoxes$Layout", name := "meetFloat", desc := "(LFlowBoxes$Flow;LFlowBoxes$Node;)V" } : MethodName)) ∈ gwl := gw_of (i := 815) (by decide +kernel) rfl
theorem wd_817 : (Cond.instanceMethod ({ cls := "FlowBoxes$Layout", name := "meetFloat", desc := "(LFlowBoxes$Flow;LFlowBoxes$Node;)V" } : MethodName)) ∈ gwl := gw_of (i := 817) (by decide +kernel) rfl
theorem wd_818 : (Cond.code ({ cls := "FlowBoxes$Layout", name := "meetFloat", desc := "(LFlowBoxes$Flow;LFlowBoxes$Node;)V" } : MethodName) prog_6_method_37_code (5 : Nat) (Option.none : Option FieldType)) ∈ gwl := gw_of (i := 818) (by decide +kernel) rfl
theorem wd_822 : (Cond.instanceMethod ({ cls := "FlowBoxes$Flow", name := "addLate", desc := "(LFlowBoxes$Floated;LFlowBoxes$Node;)V" } : MethodName)) ∈ gwl := gw_of (i := 822) (by decide +kernel) rfl
theorem wd_823 : (Cond.code ({ cls := "FlowBoxes$Flow", name := "addLate", desc := "(LFlowBoxes$Floated;LFlowBoxes$Node;)V" } : MethodName) prog_4_method_15_code (3 : Nat) (Option.none : Option FieldType)) ∈ gwl := gw_of (i := 823) (by decide +kernel) rfl
theorem wd_824 : (Cond.methodLink "FlowBoxes$Layout" (412 : Nat) ({ cls := "FlowBoxes$Layout", name := "meetAbsolute", desc := "(LFlowBoxes$Flow;LFlowBoxes$Node;)V" } : MethodName)) ∈ gwl := gw_of (i := 824) (by decide +kernel) rfl
theorem wd_826 : (Cond.instanceMethod ({ cls := "FlowBoxes$Layout", name := "meetAbsolute", desc := "(LFlowBoxes$Flow;LFlowBoxes$Node;)V" } : MethodName)) ∈ gwl := gw_of (i := 826) (by decide +kernel) rfl
theorem wd_827 : (Cond.code ({ cls := "FlowBoxes$Layout", name := "meetAbsolute", desc := "(LFlowBoxes$Flow;LFlowBoxes$Node;)V" } : MethodName) prog_6_method_38_code (4 : Nat) (Option.none : Option FieldType)) ∈ gwl := gw_of (i := 827) (by decide +kernel) rfl
theorem wd_828 : (Cond.methodLink "FlowBoxes$Layout" (276 : Nat) ({ cls := "FlowBoxes$Layout", name := "flowWithoutLines", desc := "(LFlowBoxes$Flow;LFlowBoxes$Node;LFlowBoxes$Node;)V" } : MethodName)) ∈ gwl := gw_of (i := 828) (by decide +kernel) rfl
theorem wd_830 : (Cond.instanceMethod ({ cls := "FlowBoxes$Layout", name := "flowWithoutLines", desc := "(LFlowBoxes$Flow;LFlowBoxes$Node;LFlowBoxes$Node;)V" } : MethodName)) ∈ gwl := gw_of (i := 830) (by decide +kernel) rfl
theorem wd_831 : (Cond.code ({ cls := "FlowBoxes$Layout", name := "flowWithoutLines", desc := "(LFlowBoxes$Flow;LFlowBoxes$Node;LFlowBoxes$Node;)V" } : MethodName) prog_6_method_29_code (5 : Nat) (Option.none : Option FieldType)) ∈ gwl := gw_of (i := 831) (by decide +kernel) rfl
theorem wd_832 : (Cond.methodLink "FlowBoxes$Layout" (280 : Nat) ({ cls := "FlowBoxes$Layout", name := "flowOutside", desc := "(LFlowBoxes$Node;LFlowBoxes$Flow;)V" } : MethodName)) ∈ gwl := gw_of (i := 832) (by decide +kernel) rfl
theorem wd_834 : (Cond.instanceMethod ({ cls := "FlowBoxes$Layout", name := "flowOutside", desc := "(LFlowBoxes$Node;LFlowBoxes$Flow;)V" } : MethodName)) ∈ gwl := gw_of (i := 834) (by decide +kernel) rfl
theorem wd_835 : (Cond.code ({ cls := "FlowBoxes$Layout", name := "flowOutside", desc := "(LFlowBoxes$Node;LFlowBoxes$Flow;)V" } : MethodName) prog_6_method_22_code (4 : Nat) (Option.none : Option FieldType)) ∈ gwl := gw_of (i := 835) (by decide +kernel) rfl
theorem wd_836 : (Cond.fieldLink "FlowBoxes$Layout" (293 : Nat) "FlowBoxes$Kind" "FLOATING" "LFlowBoxes$Kind;") ∈ gwl := gw_of (i := 836) (by decide +kernel) rfl
theorem wd_838 : (Cond.fieldLink "FlowBoxes$Layout" (63 : Nat) "FlowBoxes$Kind" "ABSOLUTE" "LFlowBoxes$Kind;") ∈ gwl := gw_of (i := 838) (by decide +kernel) rfl
theorem wd_839 : (Cond.methodLink "FlowBoxes$Layout" (284 : Nat) ({ cls := "FlowBoxes$Layout", name := "flowContextBlock", desc := "(LFlowBoxes$Node;LFlowBoxes$Flow;)V" } : MethodName)) ∈ gwl := gw_of (i := 839) (by decide +kernel) rfl
theorem wd_841 : (Cond.instanceMethod ({ cls := "FlowBoxes$Layout", name := "flowContextBlock", desc := "(LFlowBoxes$Node;LFlowBoxes$Flow;)V" } : MethodName)) ∈ gwl := gw_of (i := 841) (by decide +kernel) rfl
theorem wd_842 : (Cond.code ({ cls := "FlowBoxes$Layout", name := "flowContextBlock", desc := "(LFlowBoxes$Node;LFlowBoxes$Flow;)V" } : MethodName) prog_6_method_26_code (8 : Nat) (Option.none : Option FieldType)) ∈ gwl := gw_of (i := 842) (by decide +kernel) rfl
theorem wd_845 : (Cond.instanceMethod ({ cls := "FlowBoxes$Flow", name := "pend", desc := "(I)V" } : MethodName)) ∈ gwl := gw_of (i := 845) (by decide +kernel) rfl
theorem wd_846 : (Cond.code ({ cls := "FlowBoxes$Flow", name := "pend", desc := "(I)V" } : MethodName) prog_4_method_3_code (2 : Nat) (Option.none : Option FieldType)) ∈ gwl := gw_of (i := 846) (by decide +kernel) rfl
theorem wd_849 : (Cond.instanceMethod ({ cls := "FlowBoxes$Flow", name := "clearFloats", desc := "(I)V" } : MethodName)) ∈ gwl := gw_of (i := 849) (by decide +kernel) rfl
theorem wd_850 : (Cond.code ({ cls := "FlowBoxes$Flow", name := "clearFloats", desc := "(I)V" } : MethodName) prog_4_method_7_code (5 : Nat) (Option.none : Option FieldType)) ∈ gwl := gw_of (i := 850) (by decide +kernel) rfl
theorem wd_852 : (Cond.methodLink "FlowBoxes$Layout" (287 : Nat) ({ cls := "FlowBoxes$Layout", name := "flowPlainBlock", desc := "(LFlowBoxes$Node;LFlowBoxes$Flow;)V" } : MethodName)) ∈ gwl := gw_of (i := 852) (by decide +kernel) rfl
theorem wd_854 : (Cond.instanceMethod ({ cls := "FlowBoxes$Layout", name := "flowPlainBlock", desc := "(LFlowBoxes$Node;LFlowBoxes$Flow;)V" } : MethodName)) ∈ gwl := gw_of (i := 854) (by decide +kernel) rfl
theorem wd_855 : (Cond.code ({ cls := "FlowBoxes$Layout", name := "flowPlainBlock", desc := "(LFlowBoxes$Node;LFlowBoxes$Flow;)V" } : MethodName) prog_6_method_23_code (5 : Nat) (Option.none : Option FieldType)) ∈ gwl := gw_of (i := 855) (by decide +kernel) rfl
theorem wd_856 : (Cond.methodLink "FlowBoxes$Layout" (331 : Nat) ({ cls := "FlowBoxes$Layout", name := "endHeldBlock", desc := "([ILFlowBoxes$Place;LFlowBoxes$Flow;)V" } : MethodName)) ∈ gwl := gw_of (i := 856) (by decide +kernel) rfl
theorem wd_857 : (Cond.static ({ cls := "FlowBoxes$Layout", name := "endHeldBlock", desc := "([ILFlowBoxes$Place;LFlowBoxes$Flow;)V" } : MethodName)) ∈ gwl := gw_of (i := 857) (by decide +kernel) rfl
theorem wd_858 : (Cond.code ({ cls := "FlowBoxes$Layout", name := "endHeldBlock", desc := "([ILFlowBoxes$Place;LFlowBoxes$Flow;)V" } : MethodName) prog_6_method_25_code (4 : Nat) (Option.none : Option FieldType)) ∈ gwl := gw_of (i := 858) (by decide +kernel) rfl
theorem wd_860 : (Cond.methodLink "FlowBoxes$Layout" (335 : Nat) ({ cls := "FlowBoxes$Layout", name := "endWaitingBlock", desc := "([ILFlowBoxes$Place;LFlowBoxes$Flow;)V" } : MethodName)) ∈ gwl := gw_of (i := 860) (by decide +kernel) rfl
theorem wd_861 : (Cond.static ({ cls := "FlowBoxes$Layout", name := "endWaitingBlock", desc := "([ILFlowBoxes$Place;LFlowBoxes$Flow;)V" } : MethodName)) ∈ gwl := gw_of (i := 861) (by decide +kernel) rfl
theorem wd_862 : (Cond.code ({ cls := "FlowBoxes$Layout", name := "endWaitingBlock", desc := "([ILFlowBoxes$Place;LFlowBoxes$Flow;)V" } : MethodName) prog_6_method_24_code (3 : Nat) (Option.none : Option FieldType)) ∈ gwl := gw_of (i := 862) (by decide +kernel) rfl
theorem wd_865 : (Cond.instanceMethod ({ cls := "FlowBoxes$Flow", name := "contentHeight", desc := "()I" } : MethodName)) ∈ gwl := gw_of (i := 865) (by decide +kernel) rfl
theorem wd_866 : (Cond.code ({ cls := "FlowBoxes$Flow", name := "contentHeight", desc := "()I" } : MethodName) prog_4_method_18_code (3 : Nat) (Option.some FieldType.int)) ∈ gwl := gw_of (i := 866) (by decide +kernel) rfl
theorem wd_867 : (Cond.methodLink "FlowBoxes$Layout" (221 : Nat) ({ cls := "FlowBoxes$Layout", name := "layInColumns", desc := "(LFlowBoxes$Node;LFlowBoxes$Place;)I" } : MethodName)) ∈ gwl := gw_of (i := 867) (by decide +kernel) rfl
theorem wd_869 : (Cond.instanceMethod ({ cls := "FlowBoxes$Layout", name := "layInColumns", desc := "(LFlowBoxes$Node;LFlowBoxes$Place;)I" } : MethodName)) ∈ gwl := gw_of (i := 869) (by decide +kernel) rfl
theorem wd_870 : (Cond.code ({ cls := "FlowBoxes$Layout", name := "layInColumns", desc := "(LFlowBoxes$Node;LFlowBoxes$Place;)I" } : MethodName) prog_6_method_47_code (7 : Nat) (Option.some FieldType.int)) ∈ gwl := gw_of (i := 870) (by decide +kernel) rfl
theorem wd_871 : (Cond.methodLink "FlowBoxes$Layout" (557 : Nat) ({ cls := "FlowBoxes$Layout", name := "gatherItems", desc := "(LFlowBoxes$Node;)V" } : MethodName)) ∈ gwl := gw_of (i := 871) (by decide +kernel) rfl
theorem wd_873 : (Cond.instanceMethod ({ cls := "FlowBoxes$Layout", name := "gatherItems", desc := "(LFlowBoxes$Node;)V" } : MethodName)) ∈ gwl := gw_of (i := 873) (by decide +kernel) rfl
theorem wd_874 : (Cond.code ({ cls := "FlowBoxes$Layout", name := "gatherItems", desc := "(LFlowBoxes$Node;)V" } : MethodName) prog_6_method_49_code (5 : Nat) (Option.none : Option FieldType)) ∈ gwl := gw_of (i := 874) (by decide +kernel) rfl
theorem wd_875 : (Cond.methodLink "FlowBoxes$Layout" (578 : Nat) ({ cls := "FlowBoxes$Layout", name := "gatherLines", desc := "(LFlowBoxes$Place;)V" } : MethodName)) ∈ gwl := gw_of (i := 875) (by decide +kernel) rfl
theorem wd_877 : (Cond.instanceMethod ({ cls := "FlowBoxes$Layout", name := "gatherLines", desc := "(LFlowBoxes$Place;)V" } : MethodName)) ∈ gwl := gw_of (i := 877) (by decide +kernel) rfl
theorem wd_878 : (Cond.code ({ cls := "FlowBoxes$Layout", name := "gatherLines", desc := "(LFlowBoxes$Place;)V" } : MethodName) prog_6_method_50_code (3 : Nat) (Option.none : Option FieldType)) ∈ gwl := gw_of (i := 878) (by decide +kernel) rfl
theorem wd_881 : (Cond.instanceMethod ({ cls := "FlowBoxes$Strip", name := "add", desc := "(II)V" } : MethodName)) ∈ gwl := gw_of (i := 881) (by decide +kernel) rfl
theorem wd_882 : (Cond.code ({ cls := "FlowBoxes$Strip", name := "add", desc := "(II)V" } : MethodName) prog_12_method_2_code (4 : Nat) (Option.none : Option FieldType)) ∈ gwl := gw_of (i := 882) (by decide +kernel) rfl
theorem wd_883 : (Cond.methodLink "FlowBoxes$Layout" (145 : Nat) ({ cls := "FlowBoxes$Layout", name := "inlineTop", desc := "(LFlowBoxes$Node;LFlowBoxes$Place;)I" } : MethodName)) ∈ gwl := gw_of (i := 883) (by decide +kernel) rfl
theorem wd_884 : (Cond.static ({ cls := "FlowBoxes$Layout", name := "inlineTop", desc := "(LFlowBoxes$Node;LFlowBoxes$Place;)I" } : MethodName)) ∈ gwl := gw_of (i := 884) (by decide +kernel) rfl
theorem wd_885 : (Cond.code ({ cls := "FlowBoxes$Layout", name := "inlineTop", desc := "(LFlowBoxes$Node;LFlowBoxes$Place;)I" } : MethodName) prog_6_method_12_code (3 : Nat) (Option.some FieldType.int)) ∈ gwl := gw_of (i := 885) (by decide +kernel) rfl
theorem wd_888 : (Cond.instanceMethod ({ cls := "FlowBoxes$Thing", name := "topSide", desc := "()I" } : MethodName)) ∈ gwl := gw_of (i := 888) (by decide +kernel) rfl
theorem wd_889 : (Cond.code ({ cls := "FlowBoxes$Thing", name := "topSide", desc := "()I" } : MethodName) prog_13_method_3_code (1 : Nat) (Option.some FieldType.int)) ∈ gwl := gw_of (i := 889) (by decide +kernel) rfl
theorem wd_890 : (Cond.methodLink "FlowBoxes$Layout" (584 : Nat) ({ cls := "FlowBoxes$Layout", name := "isFlownThrough", desc := "(LFlowBoxes$Node;)Z" } : MethodName)) ∈ gwl := gw_of (i := 890) (by decide +kernel) rfl
theorem wd_891 : (Cond.static ({ cls := "FlowBoxes$Layout", name := "isFlownThrough", desc := "(LFlowBoxes$Node;)Z" } : MethodName)) ∈ gwl := gw_of (i := 891) (by decide +kernel) rfl
theorem wd_892 : (Cond.code ({ cls := "FlowBoxes$Layout", name := "isFlownThrough", desc := "(LFlowBoxes$Node;)Z" } : MethodName) prog_6_method_48_code (1 : Nat) (Option.some FieldType.boolean)) ∈ gwl := gw_of (i := 892) (by decide +kernel) rfl
theorem wd_896 : (Cond.instanceMethod ({ cls := "FlowBoxes$Strip", name := "findBreaks", desc := "(I)V" } : MethodName)) ∈ gwl := gw_of (i := 896) (by decide +kernel) rfl
theorem wd_897 : (Cond.code ({ cls := "FlowBoxes$Strip", name := "findBreaks", desc := "(I)V" } : MethodName) prog_12_method_4_code (3 : Nat) (Option.none : Option FieldType)) ∈ gwl := gw_of (i := 897) (by decide +kernel) rfl
theorem wd_898 : (Cond.methodLink "FlowBoxes$Strip" (31 : Nat) ({ cls := "FlowBoxes$Strip", name := "addPlace", desc := "(II)V" } : MethodName)) ∈ gwl := gw_of (i := 898) (by decide +kernel) rfl
theorem wd_900 : (Cond.instanceMethod ({ cls := "FlowBoxes$Strip", name := "addPlace", desc := "(II)V" } : MethodName)) ∈ gwl := gw_of (i := 900) (by decide +kernel) rfl
theorem wd_901 : (Cond.code ({ cls := "FlowBoxes$Strip", name := "addPlace", desc := "(II)V" } : MethodName) prog_12_method_3_code (4 : Nat) (Option.none : Option FieldType)) ∈ gwl := gw_of (i := 901) (by decide +kernel) rfl
theorem wd_902 : (Cond.methodLink "FlowBoxes$Strip" (35 : Nat) ({ cls := "FlowBoxes$Strip", name := "keepWholeItems", desc := "()V" } : MethodName)) ∈ gwl := gw_of (i := 902) (by decide +kernel) rfl
theorem wd_904 : (Cond.instanceMethod ({ cls := "FlowBoxes$Strip", name := "keepWholeItems", desc := "()V" } : MethodName)) ∈ gwl := gw_of (i := 904) (by decide +kernel) rfl
theorem wd_905 : (Cond.code ({ cls := "FlowBoxes$Strip", name := "keepWholeItems", desc := "()V" } : MethodName) prog_12_method_5_code (6 : Nat) (Option.none : Option FieldType)) ∈ gwl := gw_of (i := 905) (by decide +kernel) rfl
theorem wd_906 : (Cond.methodLink "FlowBoxes$Strip" (38 : Nat) ({ cls := "java/lang/Math", name := "max", desc := "(II)I" } : MethodName)) ∈ gwl := gw_of (i := 906) (by decide +kernel) rfl
theorem wd_909 : (Cond.instanceMethod ({ cls := "FlowBoxes$Strip", name := "leastHeight", desc := "(I)I" } : MethodName)) ∈ gwl := gw_of (i := 909) (by decide +kernel) rfl
theorem wd_910 : (Cond.code ({ cls := "FlowBoxes$Strip", name := "leastHeight", desc := "(I)I" } : MethodName) prog_12_method_7_code (6 : Nat) (Option.some FieldType.int)) ∈ gwl := gw_of (i := 910) (by decide +kernel) rfl
theorem wd_911 : (Cond.methodLink "FlowBoxes$Strip" (47 : Nat) ({ cls := "java/lang/Math", name := "min", desc := "(II)I" } : MethodName)) ∈ gwl := gw_of (i := 911) (by decide +kernel) rfl
theorem wd_912 : (Cond.methodLink "FlowBoxes$Strip" (50 : Nat) ({ cls := "FlowBoxes$Strip", name := "split", desc := "(I)I" } : MethodName)) ∈ gwl := gw_of (i := 912) (by decide +kernel) rfl
theorem wd_914 : (Cond.instanceMethod ({ cls := "FlowBoxes$Strip", name := "split", desc := "(I)I" } : MethodName)) ∈ gwl := gw_of (i := 914) (by decide +kernel) rfl
theorem wd_915 : (Cond.code ({ cls := "FlowBoxes$Strip", name := "split", desc := "(I)I" } : MethodName) prog_12_method_6_code (5 : Nat) (Option.some FieldType.int)) ∈ gwl := gw_of (i := 915) (by decide +kernel) rfl
theorem wd_917 : (Cond.methodLink "FlowBoxes$Layout" (571 : Nat) ({ cls := "FlowBoxes$Layout", name := "moveToColumns", desc := "(LFlowBoxes$Node;I)V" } : MethodName)) ∈ gwl := gw_of (i := 917) (by decide +kernel) rfl
theorem wd_919 : (Cond.instanceMethod ({ cls := "FlowBoxes$Layout", name := "moveToColumns", desc := "(LFlowBoxes$Node;I)V" } : MethodName)) ∈ gwl := gw_of (i := 919) (by decide +kernel) rfl
theorem wd_920 : (Cond.code ({ cls := "FlowBoxes$Layout", name := "moveToColumns", desc := "(LFlowBoxes$Node;I)V" } : MethodName) prog_6_method_51_code (6 : Nat) (Option.none : Option FieldType)) ∈ gwl := gw_of (i := 920) (by decide +kernel) rfl
theorem wd_921 : (Cond.methodLink "FlowBoxes$Layout" (588 : Nat) ({ cls := "FlowBoxes$Layout", name := "moveLines", desc := "(LFlowBoxes$Place;I)V" } : MethodName)) ∈ gwl := gw_of (i := 921) (by decide +kernel) rfl
theorem wd_923 : (Cond.instanceMethod ({ cls := "FlowBoxes$Layout", name := "moveLines", desc := "(LFlowBoxes$Place;I)V" } : MethodName)) ∈ gwl := gw_of (i := 923) (by decide +kernel) rfl
theorem wd_924 : (Cond.code ({ cls := "FlowBoxes$Layout", name := "moveLines", desc := "(LFlowBoxes$Place;I)V" } : MethodName) prog_6_method_52_code (5 : Nat) (Option.none : Option FieldType)) ∈ gwl := gw_of (i := 924) (by decide +kernel) rfl
theorem wd_927 : (Cond.instanceMethod ({ cls := "FlowBoxes$Strip", name := "columnAt", desc := "(I)I" } : MethodName)) ∈ gwl := gw_of (i := 927) (by decide +kernel) rfl
theorem wd_928 : (Cond.code ({ cls := "FlowBoxes$Strip", name := "columnAt", desc := "(I)I" } : MethodName) prog_12_method_8_code (3 : Nat) (Option.some FieldType.int)) ∈ gwl := gw_of (i := 928) (by decide +kernel) rfl
theorem wd_931 : (Cond.instanceMethod ({ cls := "FlowBoxes$Strip", name := "beginOf", desc := "(I)I" } : MethodName)) ∈ gwl := gw_of (i := 931) (by decide +kernel) rfl
theorem wd_932 : (Cond.code ({ cls := "FlowBoxes$Strip", name := "beginOf", desc := "(I)I" } : MethodName) prog_12_method_9_code (2 : Nat) (Option.some FieldType.int)) ∈ gwl := gw_of (i := 932) (by decide +kernel) rfl
theorem wd_933 : (Cond.methodLink "FlowBoxes$Layout" (68 : Nat) ({ cls := "FlowBoxes$Layout", name := "layAbsolute", desc := "(LFlowBoxes$Node;)V" } : MethodName)) ∈ gwl := gw_of (i := 933) (by decide +kernel) rfl
theorem wd_935 : (Cond.instanceMethod ({ cls := "FlowBoxes$Layout", name := "layAbsolute", desc := "(LFlowBoxes$Node;)V" } : MethodName)) ∈ gwl := gw_of (i := 935) (by decide +kernel) rfl
theorem wd_936 : (Cond.code ({ cls := "FlowBoxes$Layout", name := "layAbsolute", desc := "(LFlowBoxes$Node;)V" } : MethodName) prog_6_method_6_code (4 : Nat) (Option.none : Option FieldType)) ∈ gwl := gw_of (i := 936) (by decide +kernel) rfl
theorem wd_937 : (Cond.methodLink "FlowBoxes$Layout" (83 : Nat) ({ cls := "FlowBoxes$Layout", name := "stackAround", desc := "(LFlowBoxes$Node;)LFlowBoxes$Node;" } : MethodName)) ∈ gwl := gw_of (i := 937) (by decide +kernel) rfl
theorem wd_938 : (Cond.static ({ cls := "FlowBoxes$Layout", name := "stackAround", desc := "(LFlowBoxes$Node;)LFlowBoxes$Node;" } : MethodName)) ∈ gwl := gw_of (i := 938) (by decide +kernel) rfl
theorem wd_939 : (Cond.code ({ cls := "FlowBoxes$Layout", name := "stackAround", desc := "(LFlowBoxes$Node;)LFlowBoxes$Node;" } : MethodName) prog_6_method_5_code (2 : Nat) (Option.some (FieldType.object "FlowBoxes$Node"))) ∈ gwl := gw_of (i := 939) (by decide +kernel) rfl
theorem wd_942 : (Cond.instanceMethod ({ cls := "FlowBoxes$Node", name := "isStack", desc := "()Z" } : MethodName)) ∈ gwl := gw_of (i := 942) (by decide +kernel) rfl
theorem wd_943 : (Cond.code ({ cls := "FlowBoxes$Node", name := "isStack", desc := "()Z" } : MethodName) prog_9_method_16_code (1 : Nat) (Option.some FieldType.boolean)) ∈ gwl := gw_of (i := 943) (by decide +kernel) rfl
theorem wd_944 : (Cond.methodLink "FlowBoxes$Layout" (72 : Nat) ({ cls := "FlowBoxes$Layout", name := "settle", desc := "(LFlowBoxes$Node;)V" } : MethodName)) ∈ gwl := gw_of (i := 944) (by decide +kernel) rfl
theorem wd_946 : (Cond.instanceMethod ({ cls := "FlowBoxes$Layout", name := "settle", desc := "(LFlowBoxes$Node;)V" } : MethodName)) ∈ gwl := gw_of (i := 946) (by decide +kernel) rfl
theorem wd_947 : (Cond.code ({ cls := "FlowBoxes$Layout", name := "settle", desc := "(LFlowBoxes$Node;)V" } : MethodName) prog_6_method_7_code (4 : Nat) (Option.none : Option FieldType)) ∈ gwl := gw_of (i := 947) (by decide +kernel) rfl
theorem wd_948 : (Cond.methodLink "FlowBoxes$Layout" (117 : Nat) ({ cls := "FlowBoxes$Layout", name := "settleAbsolute", desc := "(LFlowBoxes$Node;LFlowBoxes$Place;LFlowBoxes$Place;)V" } : MethodName)) ∈ gwl := gw_of (i := 948) (by decide +kernel) rfl
theorem wd_950 : (Cond.instanceMethod ({ cls := "FlowBoxes$Layout", name := "settleAbsolute", desc := "(LFlowBoxes$Node;LFlowBoxes$Place;LFlowBoxes$Place;)V" } : MethodName)) ∈ gwl := gw_of (i := 950) (by decide +kernel) rfl
theorem wd_951 : (Cond.code ({ cls := "FlowBoxes$Layout", name := "settleAbsolute", desc := "(LFlowBoxes$Node;LFlowBoxes$Place;LFlowBoxes$Place;)V" } : MethodName) prog_6_method_9_code (10 : Nat) (Option.none : Option FieldType)) ∈ gwl := gw_of (i := 951) (by decide +kernel) rfl
theorem wd_952 : (Cond.methodLink "FlowBoxes$Layout" (124 : Nat) ({ cls := "FlowBoxes$Layout", name := "settleInFlow", desc := "(LFlowBoxes$Node;LFlowBoxes$Place;LFlowBoxes$Place;)V" } : MethodName)) ∈ gwl := gw_of (i := 952) (by decide +kernel) rfl
theorem wd_954 : (Cond.instanceMethod ({ cls := "FlowBoxes$Layout", name := "settleInFlow", desc := "(LFlowBoxes$Node;LFlowBoxes$Place;LFlowBoxes$Place;)V" } : MethodName)) ∈ gwl := gw_of (i := 954) (by decide +kernel) rfl
theorem wd_955 : (Cond.code ({ cls := "FlowBoxes$Layout", name := "settleInFlow", desc := "(LFlowBoxes$Node;LFlowBoxes$Place;LFlowBoxes$Place;)V" } : MethodName) prog_6_method_8_code (7 : Nat) (Option.none : Option FieldType)) ∈ gwl := gw_of (i := 955) (by decide +kernel) rfl
theorem wd_956 : (Cond.methodLink "FlowBoxes$Layout" (131 : Nat) ({ cls := "FlowBoxes$Layout", name := "offsetOf", desc := "(I)I" } : MethodName)) ∈ gwl := gw_of (i := 956) (by decide +kernel) rfl
theorem wd_957 : (Cond.static ({ cls := "FlowBoxes$Layout", name := "offsetOf", desc := "(I)I" } : MethodName)) ∈ gwl := gw_of (i := 957) (by decide +kernel) rfl
theorem wd_958 : (Cond.code ({ cls := "FlowBoxes$Layout", name := "offsetOf", desc := "(I)I" } : MethodName) prog_6_method_10_code (1 : Nat) (Option.some FieldType.int)) ∈ gwl := gw_of (i := 958) (by decide +kernel) rfl
theorem wd_959 : (Cond.methodLink "FlowBoxes$Layout" (138 : Nat) ({ cls := "FlowBoxes$Layout", name := "inlineLeft", desc := "(LFlowBoxes$Node;LFlowBoxes$Place;)I" } : MethodName)) ∈ gwl := gw_of (i := 959) (by decide +kernel) rfl
theorem wd_960 : (Cond.static ({ cls := "FlowBoxes$Layout", name := "inlineLeft", desc := "(LFlowBoxes$Node;LFlowBoxes$Place;)I" } : MethodName)) ∈ gwl := gw_of (i := 960) (by decide +kernel) rfl
theorem wd_961 : (Cond.code ({ cls := "FlowBoxes$Layout", name := "inlineLeft", desc := "(LFlowBoxes$Node;LFlowBoxes$Place;)I" } : MethodName) prog_6_method_11_code (3 : Nat) (Option.some FieldType.int)) ∈ gwl := gw_of (i := 961) (by decide +kernel) rfl
theorem wd_964 : (Cond.instanceMethod ({ cls := "FlowBoxes$Thing", name := "leftSide", desc := "()I" } : MethodName)) ∈ gwl := gw_of (i := 964) (by decide +kernel) rfl
theorem wd_965 : (Cond.code ({ cls := "FlowBoxes$Thing", name := "leftSide", desc := "()I" } : MethodName) prog_13_method_2_code (1 : Nat) (Option.some FieldType.int)) ∈ gwl := gw_of (i := 965) (by decide +kernel) rfl
theorem wd_968 : (Cond.instanceMethod ({ cls := "FlowBoxes$Painter", name := "arrange", desc := "(LFlowBoxes$Node;)V" } : MethodName)) ∈ gwl := gw_of (i := 968) (by decide +kernel) rfl
theorem wd_969 : (Cond.code ({ cls := "FlowBoxes$Painter", name := "arrange", desc := "(LFlowBoxes$Node;)V" } : MethodName) prog_10_method_3_code (2 : Nat) (Option.none : Option FieldType)) ∈ gwl := gw_of (i := 969) (by decide +kernel) rfl
theorem wd_970 : (Cond.methodLink "FlowBoxes$Painter" (21 : Nat) ({ cls := "FlowBoxes$Painter", name := "paintStack", desc := "(LFlowBoxes$Node;)V" } : MethodName)) ∈ gwl := gw_of (i := 970) (by decide +kernel) rfl
theorem wd_972 : (Cond.instanceMethod ({ cls := "FlowBoxes$Painter", name := "paintStack", desc := "(LFlowBoxes$Node;)V" } : MethodName)) ∈ gwl := gw_of (i := 972) (by decide +kernel) rfl
theorem wd_973 : (Cond.code ({ cls := "FlowBoxes$Painter", name := "paintStack", desc := "(LFlowBoxes$Node;)V" } : MethodName) prog_10_method_5_code (3 : Nat) (Option.none : Option FieldType)) ∈ gwl := gw_of (i := 973) (by decide +kernel) rfl
theorem wd_974 : (Cond.methodLink "FlowBoxes$Painter" (25 : Nat) ({ cls := "FlowBoxes$Painter", name := "add", desc := "(LFlowBoxes$Node;)V" } : MethodName)) ∈ gwl := gw_of (i := 974) (by decide +kernel) rfl
theorem wd_976 : (Cond.instanceMethod ({ cls := "FlowBoxes$Painter", name := "add", desc := "(LFlowBoxes$Node;)V" } : MethodName)) ∈ gwl := gw_of (i := 976) (by decide +kernel) rfl
theorem wd_977 : (Cond.code ({ cls := "FlowBoxes$Painter", name := "add", desc := "(LFlowBoxes$Node;)V" } : MethodName) prog_10_method_4_code (2 : Nat) (Option.none : Option FieldType)) ∈ gwl := gw_of (i := 977) (by decide +kernel) rfl
theorem wd_978 : (Cond.methodLink "FlowBoxes$Painter" (28 : Nat) ({ cls := "FlowBoxes$Painter", name := "paintStacksIn", desc := "(LFlowBoxes$Node;I)V" } : MethodName)) ∈ gwl := gw_of (i := 978) (by decide +kernel) rfl
theorem wd_980 : (Cond.instanceMethod ({ cls := "FlowBoxes$Painter", name := "paintStacksIn", desc := "(LFlowBoxes$Node;I)V" } : MethodName)) ∈ gwl := gw_of (i := 980) (by decide +kernel) rfl
theorem wd_981 : (Cond.code ({ cls := "FlowBoxes$Painter", name := "paintStacksIn", desc := "(LFlowBoxes$Node;I)V" } : MethodName) prog_10_method_6_code (5 : Nat) (Option.none : Option FieldType)) ∈ gwl := gw_of (i := 981) (by decide +kernel) rfl
theorem wd_984 : (Cond.methodLink "FlowBoxes$Painter" (32 : Nat) ({ cls := "FlowBoxes$Painter", name := "paintInside", desc := "(LFlowBoxes$Node;)V" } : MethodName)) ∈ gwl := gw_of (i := 984) (by decide +kernel) rfl
theorem wd_986 : (Cond.instanceMethod ({ cls := "FlowBoxes$Painter", name := "paintInside", desc := "(LFlowBoxes$Node;)V" } : MethodName)) ∈ gwl := gw_of (i := 986) (by decide +kernel) rfl
theorem wd_987 : (Cond.code ({ cls := "FlowBoxes$Painter", name := "paintInside", desc := "(LFlowBoxes$Node;)V" } : MethodName) prog_10_method_7_code (6 : Nat) (Option.none : Option FieldType)) ∈ gwl := gw_of (i := 987) (by decide +kernel) rfl
theorem wd_988 : (Cond.fieldLink "FlowBoxes$Painter" (55 : Nat) "FlowBoxes$Kind" "FLOATING" "LFlowBoxes$Kind;") ∈ gwl := gw_of (i := 988) (by decide +kernel) rfl
theorem wd_989 : (Cond.fieldLink "FlowBoxes$Painter" (60 : Nat) "FlowBoxes$Kind" "INLINE" "LFlowBoxes$Kind;") ∈ gwl := gw_of (i := 989) (by decide +kernel) rfl
theorem wd_990 : (Cond.methodLink "FlowBoxes$Painter" (63 : Nat) ({ cls := "FlowBoxes$Painter", name := "stepOf", desc := "(LFlowBoxes$Node;)I" } : MethodName)) ∈ gwl := gw_of (i := 990) (by decide +kernel) rfl
theorem wd_991 : (Cond.static ({ cls := "FlowBoxes$Painter", name := "stepOf", desc := "(LFlowBoxes$Node;)I" } : MethodName)) ∈ gwl := gw_of (i := 991) (by decide +kernel) rfl
theorem wd_992 : (Cond.code ({ cls := "FlowBoxes$Painter", name := "stepOf", desc := "(LFlowBoxes$Node;)I" } : MethodName) prog_10_method_8_code (1 : Nat) (Option.some FieldType.int)) ∈ gwl := gw_of (i := 992) (by decide +kernel) rfl
theorem wd_993 : (Cond.fieldLink "FlowBoxes$Painter" (67 : Nat) "FlowBoxes$1" "$SwitchMap$FlowBoxes$Kind" "[I") ∈ gwl := gw_of (i := 993) (by decide +kernel) rfl
theorem wd_994 : (Cond.methodLink "FlowBoxes$Painter" (72 : Nat) ({ cls := "FlowBoxes$Kind", name := "ordinal", desc := "()I" } : MethodName)) ∈ gwl := gw_of (i := 994) (by decide +kernel) rfl
theorem wd_995 : (Cond.fieldLink "FlowBoxes" (21 : Nat) "FlowBoxes" "nodes" "[LFlowBoxes$Node;") ∈ gwl := gw_of (i := 995) (by decide +kernel) rfl
theorem wd_996 : (Cond.fieldLink "FlowBoxes" (25 : Nat) "FlowBoxes" "root" "LFlowBoxes$Node;") ∈ gwl := gw_of (i := 996) (by decide +kernel) rfl
theorem wd_997 : (Cond.fieldLink "FlowBoxes" (41 : Nat) "FlowBoxes" "kept" "LFlowBoxes$Layout;") ∈ gwl := gw_of (i := 997) (by decide +kernel) rfl
theorem wd_998 : (Cond.fieldLink "FlowBoxes" (45 : Nat) "FlowBoxes" "fresh" "LFlowBoxes$Layout;") ∈ gwl := gw_of (i := 998) (by decide +kernel) rfl
theorem wd_999 : (Cond.fieldLink "FlowBoxes" (51 : Nat) "FlowBoxes" "painter" "LFlowBoxes$Painter;") ∈ gwl := gw_of (i := 999) (by decide +kernel) rfl
theorem wd_1000 : (Cond.fieldLink "FlowBoxes" (29 : Nat) "FlowBoxes" "made" "I") ∈ gwl := gw_of (i := 1000) (by decide +kernel) rfl
theorem wd_1001 : (Cond.fieldLink "FlowBoxes" (33 : Nat) "FlowBoxes" "pageWidth" "I") ∈ gwl := gw_of (i := 1001) (by decide +kernel) rfl
theorem wd_1002 : (Cond.fieldLink "FlowBoxes" (151 : Nat) "FlowBoxes" "turn" "I") ∈ gwl := gw_of (i := 1002) (by decide +kernel) rfl
theorem wd_1003 : (Cond.fieldLink "FlowBoxes" (62 : Nat) "FlowBoxes" "workDone" "I") ∈ gwl := gw_of (i := 1003) (by decide +kernel) rfl
theorem wd_1004 : (Cond.fieldLink "FlowBoxes" (59 : Nat) "FlowBoxes" "latestWork" "I") ∈ gwl := gw_of (i := 1004) (by decide +kernel) rfl
theorem wd_1026 : (Cond.methodLink "FlowBoxesLaw" (108 : Nat) ({ cls := "FlowBoxes", name := "page", desc := "(I)I" } : MethodName)) ∈ gwl := gw_of (i := 1026) (by decide +kernel) rfl
theorem wd_1027 : (Cond.instanceMethod ({ cls := "FlowBoxes", name := "page", desc := "(I)I" } : MethodName)) ∈ gwl := gw_of (i := 1027) (by decide +kernel) rfl
theorem wd_1028 : (Cond.selects "FlowBoxes" ({ cls := "FlowBoxes", name := "page", desc := "(I)I" } : MethodName) ({ cls := "FlowBoxes", name := "page", desc := "(I)I" } : MethodName)) ∈ gwl := gw_of (i := 1028) (by decide +kernel) rfl
theorem wd_1029 : (Cond.code ({ cls := "FlowBoxes", name := "page", desc := "(I)I" } : MethodName) prog_1_method_9_code (3 : Nat) (Option.some FieldType.int)) ∈ gwl := gw_of (i := 1029) (by decide +kernel) rfl
theorem wd_1030 : (Cond.classLink "FlowBoxes" (92 : Nat) "java/lang/IllegalArgumentException") ∈ gwl := gw_of (i := 1030) (by decide +kernel) rfl
theorem wd_1031 : (Cond.instantiable "java/lang/IllegalArgumentException" (6 : Nat)) ∈ gwl := gw_of (i := 1031) (by decide +kernel) rfl
theorem wd_1039 : (Cond.selects "java/lang/IllegalArgumentException" ({ cls := "java/lang/Throwable", name := "fillInStackTrace", desc := "(I)Ljava/lang/Throwable;" } : MethodName) ({ cls := "java/lang/Throwable", name := "fillInStackTrace", desc := "(I)Ljava/lang/Throwable;" } : MethodName)) ∈ gwl := gw_of (i := 1039) (by decide +kernel) rfl
theorem wd_1040 : (Cond.selects "java/lang/IllegalArgumentException" ({ cls := "java/lang/Throwable", name := "fillInStackTrace", desc := "()Ljava/lang/Throwable;" } : MethodName) ({ cls := "java/lang/Throwable", name := "fillInStackTrace", desc := "()Ljava/lang/Throwable;" } : MethodName)) ∈ gwl := gw_of (i := 1040) (by decide +kernel) rfl
theorem wd_1053 : (Cond.instanceMethod ({ cls := "java/lang/Throwable", name := "<init>", desc := "()V" } : MethodName)) ∈ gwl := gw_of (i := 1053) (by decide +kernel) rfl
theorem wd_1054 : (Cond.code ({ cls := "java/lang/Throwable", name := "<init>", desc := "()V" } : MethodName) prog_25_method_1_code (1 : Nat) (Option.none : Option FieldType)) ∈ gwl := gw_of (i := 1054) (by decide +kernel) rfl
theorem wd_1061 : (Cond.instanceMethod ({ cls := "java/lang/Throwable", name := "fillInStackTrace", desc := "()Ljava/lang/Throwable;" } : MethodName)) ∈ gwl := gw_of (i := 1061) (by decide +kernel) rfl
theorem wd_1062 : (Cond.sameMethod "java/lang/Throwable" "java/lang/Throwable" "fillInStackTrace" "()Ljava/lang/Throwable;") ∈ gwl := gw_of (i := 1062) (by decide +kernel) rfl
theorem wd_1063 : (Cond.selects "java/lang/IllegalStateException" ({ cls := "java/lang/Throwable", name := "fillInStackTrace", desc := "()Ljava/lang/Throwable;" } : MethodName) ({ cls := "java/lang/Throwable", name := "fillInStackTrace", desc := "()Ljava/lang/Throwable;" } : MethodName)) ∈ gwl := gw_of (i := 1063) (by decide +kernel) rfl
theorem wd_1064 : (Cond.selects "java/lang/IndexOutOfBoundsException" ({ cls := "java/lang/Throwable", name := "fillInStackTrace", desc := "()Ljava/lang/Throwable;" } : MethodName) ({ cls := "java/lang/Throwable", name := "fillInStackTrace", desc := "()Ljava/lang/Throwable;" } : MethodName)) ∈ gwl := gw_of (i := 1064) (by decide +kernel) rfl
theorem wd_1068 : (Cond.instanceMethod ({ cls := "java/lang/Throwable", name := "fillInStackTrace", desc := "(I)Ljava/lang/Throwable;" } : MethodName)) ∈ gwl := gw_of (i := 1068) (by decide +kernel) rfl
theorem wd_1069 : (Cond.instantiable "java/lang/Throwable" (6 : Nat)) ∈ gwl := gw_of (i := 1069) (by decide +kernel) rfl
theorem wd_1071 : (Cond.methodLink "FlowBoxes" (94 : Nat) ({ cls := "java/lang/IllegalArgumentException", name := "<init>", desc := "()V" } : MethodName)) ∈ gwl := gw_of (i := 1071) (by decide +kernel) rfl
theorem wd_1072 : (Cond.instanceMethod ({ cls := "java/lang/IllegalArgumentException", name := "<init>", desc := "()V" } : MethodName)) ∈ gwl := gw_of (i := 1072) (by decide +kernel) rfl
theorem wd_1073 : (Cond.code ({ cls := "java/lang/IllegalArgumentException", name := "<init>", desc := "()V" } : MethodName) prog_20_method_1_code (1 : Nat) (Option.none : Option FieldType)) ∈ gwl := gw_of (i := 1073) (by decide +kernel) rfl
theorem wd_1075 : (Cond.instanceMethod ({ cls := "java/lang/RuntimeException", name := "<init>", desc := "()V" } : MethodName)) ∈ gwl := gw_of (i := 1075) (by decide +kernel) rfl
theorem wd_1076 : (Cond.code ({ cls := "java/lang/RuntimeException", name := "<init>", desc := "()V" } : MethodName) prog_24_method_1_code (1 : Nat) (Option.none : Option FieldType)) ∈ gwl := gw_of (i := 1076) (by decide +kernel) rfl
theorem wd_1078 : (Cond.instanceMethod ({ cls := "java/lang/Exception", name := "<init>", desc := "()V" } : MethodName)) ∈ gwl := gw_of (i := 1078) (by decide +kernel) rfl
theorem wd_1079 : (Cond.code ({ cls := "java/lang/Exception", name := "<init>", desc := "()V" } : MethodName) prog_19_method_1_code (1 : Nat) (Option.none : Option FieldType)) ∈ gwl := gw_of (i := 1079) (by decide +kernel) rfl
theorem wd_1093 : (Cond.methodLink "FlowBoxes" (89 : Nat) ({ cls := "FlowBoxes", name := "layAgain", desc := "()V" } : MethodName)) ∈ gwl := gw_of (i := 1093) (by decide +kernel) rfl
theorem wd_1095 : (Cond.instanceMethod ({ cls := "FlowBoxes", name := "layAgain", desc := "()V" } : MethodName)) ∈ gwl := gw_of (i := 1095) (by decide +kernel) rfl
theorem wd_1096 : (Cond.code ({ cls := "FlowBoxes", name := "layAgain", desc := "()V" } : MethodName) prog_1_method_39_code (1 : Nat) (Option.none : Option FieldType)) ∈ gwl := gw_of (i := 1096) (by decide +kernel) rfl
theorem wd_1097 : (Cond.methodLink "FlowBoxesLaw" (100 : Nat) ({ cls := "FlowBoxesLaw", name := "cell", desc := "([II)I" } : MethodName)) ∈ gwl := gw_of (i := 1097) (by decide +kernel) rfl
theorem wd_1098 : (Cond.static ({ cls := "FlowBoxesLaw", name := "cell", desc := "([II)I" } : MethodName)) ∈ gwl := gw_of (i := 1098) (by decide +kernel) rfl
theorem wd_1099 : (Cond.code ({ cls := "FlowBoxesLaw", name := "cell", desc := "([II)I" } : MethodName) method_2_code (2 : Nat) (Option.some FieldType.int)) ∈ gwl := gw_of (i := 1099) (by decide +kernel) rfl
theorem wd_1100 : (Cond.constant "FlowBoxesLaw" (7 : Nat) (53819 : Int32)) ∈ gwl := gw_of (i := 1100) (by decide +kernel) rfl
theorem wd_1101 : (Cond.constant "FlowBoxesLaw" (8 : Nat) (2047065 : Int32)) ∈ gwl := gw_of (i := 1101) (by decide +kernel) rfl
theorem wd_1102 : (Cond.methodLink "FlowBoxesLaw" (81 : Nat) ({ cls := "FlowBoxesLaw", name := "low", desc := "(II)I" } : MethodName)) ∈ gwl := gw_of (i := 1102) (by decide +kernel) rfl
theorem wd_1103 : (Cond.static ({ cls := "FlowBoxesLaw", name := "low", desc := "(II)I" } : MethodName)) ∈ gwl := gw_of (i := 1103) (by decide +kernel) rfl
theorem wd_1104 : (Cond.code ({ cls := "FlowBoxesLaw", name := "low", desc := "(II)I" } : MethodName) method_3_code (2 : Nat) (Option.some FieldType.int)) ∈ gwl := gw_of (i := 1104) (by decide +kernel) rfl
theorem wd_1105 : (Cond.constant "FlowBoxesLaw" (9 : Nat) (2147483647 : Int32)) ∈ gwl := gw_of (i := 1105) (by decide +kernel) rfl
theorem wd_1106 : (Cond.methodLink "FlowBoxesLaw" (115 : Nat) ({ cls := "FlowBoxesLaw", name := "lays", desc := "([I[I[I[I[I[I[I[I[I)V" } : MethodName)) ∈ gwl := gw_of (i := 1106) (by decide +kernel) rfl
theorem wd_1107 : (Cond.static ({ cls := "FlowBoxesLaw", name := "lays", desc := "([I[I[I[I[I[I[I[I[I)V" } : MethodName)) ∈ gwl := gw_of (i := 1107) (by decide +kernel) rfl
theorem wd_1108 : (Cond.code ({ cls := "FlowBoxesLaw", name := "lays", desc := "([I[I[I[I[I[I[I[I[I)V" } : MethodName) method_13_code (13 : Nat) (Option.none : Option FieldType)) ∈ gwl := gw_of (i := 1108) (by decide +kernel) rfl
theorem wd_1109 : (Cond.methodLink "FlowBoxesLaw" (28 : Nat) ({ cls := "FlowBoxesLaw", name := "next", desc := "(II[I[I)I" } : MethodName)) ∈ gwl := gw_of (i := 1109) (by decide +kernel) rfl
theorem wd_1110 : (Cond.static ({ cls := "FlowBoxesLaw", name := "next", desc := "(II[I[I)I" } : MethodName)) ∈ gwl := gw_of (i := 1110) (by decide +kernel) rfl
theorem wd_1111 : (Cond.code ({ cls := "FlowBoxesLaw", name := "next", desc := "(II[I[I)I" } : MethodName) method_6_code (5 : Nat) (Option.some FieldType.int)) ∈ gwl := gw_of (i := 1111) (by decide +kernel) rfl
theorem wd_1112 : (Cond.methodLink "FlowBoxesLaw" (36 : Nat) ({ cls := "FlowBoxesLaw", name := "runs", desc := "(II[I[I[I[I[I[I)I" } : MethodName)) ∈ gwl := gw_of (i := 1112) (by decide +kernel) rfl
theorem wd_1113 : (Cond.static ({ cls := "FlowBoxesLaw", name := "runs", desc := "(II[I[I[I[I[I[I)I" } : MethodName)) ∈ gwl := gw_of (i := 1113) (by decide +kernel) rfl
theorem wd_1114 : (Cond.code ({ cls := "FlowBoxesLaw", name := "runs", desc := "(II[I[I[I[I[I[I)I" } : MethodName) method_12_code (18 : Nat) (Option.some FieldType.int)) ∈ gwl := gw_of (i := 1114) (by decide +kernel) rfl
theorem wd_1115 : (Cond.methodLink "FlowBoxesLaw" (16 : Nat) ({ cls := "FlowBoxesLaw", name := "ends", desc := "([I[I)V" } : MethodName)) ∈ gwl := gw_of (i := 1115) (by decide +kernel) rfl
theorem wd_1116 : (Cond.static ({ cls := "FlowBoxesLaw", name := "ends", desc := "([I[I)V" } : MethodName)) ∈ gwl := gw_of (i := 1116) (by decide +kernel) rfl
theorem wd_1117 : (Cond.code ({ cls := "FlowBoxesLaw", name := "ends", desc := "([I[I)V" } : MethodName) method_5_code (3 : Nat) (Option.none : Option FieldType)) ∈ gwl := gw_of (i := 1117) (by decide +kernel) rfl
theorem wd_1118 : (Cond.methodLink "FlowBoxesLaw" (32 : Nat) ({ cls := "FlowBoxesLaw", name := "shuts", desc := "(IIII[I[I)V" } : MethodName)) ∈ gwl := gw_of (i := 1118) (by decide +kernel) rfl
theorem wd_1119 : (Cond.static ({ cls := "FlowBoxesLaw", name := "shuts", desc := "(IIII[I[I)V" } : MethodName)) ∈ gwl := gw_of (i := 1119) (by decide +kernel) rfl
theorem wd_1120 : (Cond.code ({ cls := "FlowBoxesLaw", name := "shuts", desc := "(IIII[I[I)V" } : MethodName) method_11_code (6 : Nat) (Option.none : Option FieldType)) ∈ gwl := gw_of (i := 1120) (by decide +kernel) rfl
theorem wd_1121 : (Cond.methodLink "FlowBoxesLaw" (24 : Nat) ({ cls := "FlowBoxesLaw", name := "inside", desc := "(I[I[I)I" } : MethodName)) ∈ gwl := gw_of (i := 1121) (by decide +kernel) rfl
theorem wd_1122 : (Cond.static ({ cls := "FlowBoxesLaw", name := "inside", desc := "(I[I[I)I" } : MethodName)) ∈ gwl := gw_of (i := 1122) (by decide +kernel) rfl
theorem wd_1123 : (Cond.code ({ cls := "FlowBoxesLaw", name := "inside", desc := "(I[I[I)I" } : MethodName) method_8_code (3 : Nat) (Option.some FieldType.int)) ∈ gwl := gw_of (i := 1123) (by decide +kernel) rfl
theorem wd_1124 : (Cond.methodLink "FlowBoxesLaw" (40 : Nat) ({ cls := "FlowBoxesLaw", name := "enters", desc := "(I[I[I[I[I[I[I[I)V" } : MethodName)) ∈ gwl := gw_of (i := 1124) (by decide +kernel) rfl
theorem wd_1125 : (Cond.static ({ cls := "FlowBoxesLaw", name := "enters", desc := "(I[I[I[I[I[I[I[I)V" } : MethodName)) ∈ gwl := gw_of (i := 1125) (by decide +kernel) rfl
theorem wd_1126 : (Cond.code ({ cls := "FlowBoxesLaw", name := "enters", desc := "(I[I[I[I[I[I[I[I)V" } : MethodName) method_9_code (10 : Nat) (Option.none : Option FieldType)) ∈ gwl := gw_of (i := 1126) (by decide +kernel) rfl
theorem wd_1127 : (Cond.methodLink "FlowBoxesLaw" (10 : Nat) ({ cls := "FlowBoxesLaw", name := "pends", desc := "(I[I)V" } : MethodName)) ∈ gwl := gw_of (i := 1127) (by decide +kernel) rfl
theorem wd_1128 : (Cond.static ({ cls := "FlowBoxesLaw", name := "pends", desc := "(I[I)V" } : MethodName)) ∈ gwl := gw_of (i := 1128) (by decide +kernel) rfl
theorem wd_1129 : (Cond.code ({ cls := "FlowBoxesLaw", name := "pends", desc := "(I[I)V" } : MethodName) method_4_code (2 : Nat) (Option.none : Option FieldType)) ∈ gwl := gw_of (i := 1129) (by decide +kernel) rfl
theorem wd_1130 : (Cond.methodLink "FlowBoxesLaw" (20 : Nat) ({ cls := "FlowBoxesLaw", name := "known", desc := "(I[I[I[I)I" } : MethodName)) ∈ gwl := gw_of (i := 1130) (by decide +kernel) rfl
theorem wd_1131 : (Cond.static ({ cls := "FlowBoxesLaw", name := "known", desc := "(I[I[I[I)I" } : MethodName)) ∈ gwl := gw_of (i := 1131) (by decide +kernel) rfl
theorem wd_1132 : (Cond.code ({ cls := "FlowBoxesLaw", name := "known", desc := "(I[I[I[I)I" } : MethodName) method_7_code (5 : Nat) (Option.some FieldType.int)) ∈ gwl := gw_of (i := 1132) (by decide +kernel) rfl
theorem wd_1133 : (Cond.methodLink "FlowBoxesLaw" (44 : Nat) ({ cls := "FlowBoxesLaw", name := "leaves", desc := "(I[I[I[I[I[I)V" } : MethodName)) ∈ gwl := gw_of (i := 1133) (by decide +kernel) rfl
theorem wd_1134 : (Cond.static ({ cls := "FlowBoxesLaw", name := "leaves", desc := "(I[I[I[I[I[I)V" } : MethodName)) ∈ gwl := gw_of (i := 1134) (by decide +kernel) rfl
theorem wd_1135 : (Cond.code ({ cls := "FlowBoxesLaw", name := "leaves", desc := "(I[I[I[I[I[I)V" } : MethodName) method_10_code (9 : Nat) (Option.none : Option FieldType)) ∈ gwl := gw_of (i := 1135) (by decide +kernel) rfl
theorem wd_1136 : (Cond.methodLink "FlowBoxesLaw" (119 : Nat) ({ cls := "FlowBoxesLaw", name := "same", desc := "(LFlowBoxes;[I[I[I[I[I)Z" } : MethodName)) ∈ gwl := gw_of (i := 1136) (by decide +kernel) rfl
theorem wd_1137 : (Cond.static ({ cls := "FlowBoxesLaw", name := "same", desc := "(LFlowBoxes;[I[I[I[I[I)Z" } : MethodName)) ∈ gwl := gw_of (i := 1137) (by decide +kernel) rfl
theorem wd_1138 : (Cond.code ({ cls := "FlowBoxesLaw", name := "same", desc := "(LFlowBoxes;[I[I[I[I[I)Z" } : MethodName) method_14_code (10 : Nat) (Option.some FieldType.boolean)) ∈ gwl := gw_of (i := 1138) (by decide +kernel) rfl
theorem wd_1139 : (Cond.methodLink "FlowBoxesLaw" (48 : Nat) ({ cls := "FlowBoxes", name := "height", desc := "(I)I" } : MethodName)) ∈ gwl := gw_of (i := 1139) (by decide +kernel) rfl
theorem wd_1140 : (Cond.instanceMethod ({ cls := "FlowBoxes", name := "height", desc := "(I)I" } : MethodName)) ∈ gwl := gw_of (i := 1140) (by decide +kernel) rfl
theorem wd_1141 : (Cond.selects "FlowBoxes" ({ cls := "FlowBoxes", name := "height", desc := "(I)I" } : MethodName) ({ cls := "FlowBoxes", name := "height", desc := "(I)I" } : MethodName)) ∈ gwl := gw_of (i := 1141) (by decide +kernel) rfl
theorem wd_1142 : (Cond.code ({ cls := "FlowBoxes", name := "height", desc := "(I)I" } : MethodName) prog_1_method_13_code (2 : Nat) (Option.some FieldType.int)) ∈ gwl := gw_of (i := 1142) (by decide +kernel) rfl
theorem wd_1143 : (Cond.methodLink "FlowBoxes" (141 : Nat) ({ cls := "FlowBoxes", name := "placedAt", desc := "(I)LFlowBoxes$Node;" } : MethodName)) ∈ gwl := gw_of (i := 1143) (by decide +kernel) rfl
theorem wd_1145 : (Cond.instanceMethod ({ cls := "FlowBoxes", name := "placedAt", desc := "(I)LFlowBoxes$Node;" } : MethodName)) ∈ gwl := gw_of (i := 1145) (by decide +kernel) rfl
theorem wd_1146 : (Cond.code ({ cls := "FlowBoxes", name := "placedAt", desc := "(I)LFlowBoxes$Node;" } : MethodName) prog_1_method_29_code (4 : Nat) (Option.some (FieldType.object "FlowBoxes$Node"))) ∈ gwl := gw_of (i := 1146) (by decide +kernel) rfl
theorem wd_1147 : (Cond.methodLink "FlowBoxes" (111 : Nat) ({ cls := "FlowBoxes", name := "nodeAt", desc := "(I)LFlowBoxes$Node;" } : MethodName)) ∈ gwl := gw_of (i := 1147) (by decide +kernel) rfl
theorem wd_1149 : (Cond.instanceMethod ({ cls := "FlowBoxes", name := "nodeAt", desc := "(I)LFlowBoxes$Node;" } : MethodName)) ∈ gwl := gw_of (i := 1149) (by decide +kernel) rfl
theorem wd_1150 : (Cond.code ({ cls := "FlowBoxes", name := "nodeAt", desc := "(I)LFlowBoxes$Node;" } : MethodName) prog_1_method_26_code (2 : Nat) (Option.some (FieldType.object "FlowBoxes$Node"))) ∈ gwl := gw_of (i := 1150) (by decide +kernel) rfl
theorem wd_1151 : (Cond.classLink "FlowBoxes" (76 : Nat) "java/lang/IndexOutOfBoundsException") ∈ gwl := gw_of (i := 1151) (by decide +kernel) rfl
theorem wd_1152 : (Cond.instantiable "java/lang/IndexOutOfBoundsException" (6 : Nat)) ∈ gwl := gw_of (i := 1152) (by decide +kernel) rfl
theorem wd_1154 : (Cond.selects "java/lang/IndexOutOfBoundsException" ({ cls := "java/lang/Throwable", name := "fillInStackTrace", desc := "(I)Ljava/lang/Throwable;" } : MethodName) ({ cls := "java/lang/Throwable", name := "fillInStackTrace", desc := "(I)Ljava/lang/Throwable;" } : MethodName)) ∈ gwl := gw_of (i := 1154) (by decide +kernel) rfl
theorem wd_1160 : (Cond.methodLink "FlowBoxes" (78 : Nat) ({ cls := "java/lang/IndexOutOfBoundsException", name := "<init>", desc := "()V" } : MethodName)) ∈ gwl := gw_of (i := 1160) (by decide +kernel) rfl
theorem wd_1161 : (Cond.instanceMethod ({ cls := "java/lang/IndexOutOfBoundsException", name := "<init>", desc := "()V" } : MethodName)) ∈ gwl := gw_of (i := 1161) (by decide +kernel) rfl
theorem wd_1162 : (Cond.code ({ cls := "java/lang/IndexOutOfBoundsException", name := "<init>", desc := "()V" } : MethodName) prog_22_method_1_code (1 : Nat) (Option.none : Option FieldType)) ∈ gwl := gw_of (i := 1162) (by decide +kernel) rfl
theorem wd_1167 : (Cond.fieldLink "FlowBoxes" (170 : Nat) "FlowBoxes$Kind" "OUT" "LFlowBoxes$Kind;") ∈ gwl := gw_of (i := 1167) (by decide +kernel) rfl
theorem wd_1168 : (Cond.fieldLink "FlowBoxes" (175 : Nat) "FlowBoxes$Kind" "SPAN" "LFlowBoxes$Kind;") ∈ gwl := gw_of (i := 1168) (by decide +kernel) rfl
theorem wd_1169 : (Cond.classLink "FlowBoxes" (83 : Nat) "java/lang/IllegalStateException") ∈ gwl := gw_of (i := 1169) (by decide +kernel) rfl
theorem wd_1170 : (Cond.instantiable "java/lang/IllegalStateException" (6 : Nat)) ∈ gwl := gw_of (i := 1170) (by decide +kernel) rfl
theorem wd_1172 : (Cond.selects "java/lang/IllegalStateException" ({ cls := "java/lang/Throwable", name := "fillInStackTrace", desc := "(I)Ljava/lang/Throwable;" } : MethodName) ({ cls := "java/lang/Throwable", name := "fillInStackTrace", desc := "(I)Ljava/lang/Throwable;" } : MethodName)) ∈ gwl := gw_of (i := 1172) (by decide +kernel) rfl
theorem wd_1178 : (Cond.methodLink "FlowBoxes" (85 : Nat) ({ cls := "java/lang/IllegalStateException", name := "<init>", desc := "()V" } : MethodName)) ∈ gwl := gw_of (i := 1178) (by decide +kernel) rfl
theorem wd_1179 : (Cond.instanceMethod ({ cls := "java/lang/IllegalStateException", name := "<init>", desc := "()V" } : MethodName)) ∈ gwl := gw_of (i := 1179) (by decide +kernel) rfl
theorem wd_1180 : (Cond.code ({ cls := "java/lang/IllegalStateException", name := "<init>", desc := "()V" } : MethodName) prog_21_method_1_code (1 : Nat) (Option.none : Option FieldType)) ∈ gwl := gw_of (i := 1180) (by decide +kernel) rfl
theorem wd_1184 : (Cond.methodLink "FlowBoxes" (144 : Nat) ({ cls := "FlowBoxes", name := "sideOf", desc := "(LFlowBoxes$Node;ILFlowBoxes$Layout;)I" } : MethodName)) ∈ gwl := gw_of (i := 1184) (by decide +kernel) rfl
theorem wd_1185 : (Cond.static ({ cls := "FlowBoxes", name := "sideOf", desc := "(LFlowBoxes$Node;ILFlowBoxes$Layout;)I" } : MethodName)) ∈ gwl := gw_of (i := 1185) (by decide +kernel) rfl
theorem wd_1186 : (Cond.code ({ cls := "FlowBoxes", name := "sideOf", desc := "(LFlowBoxes$Node;ILFlowBoxes$Layout;)I" } : MethodName) prog_1_method_40_code (4 : Nat) (Option.some FieldType.int)) ∈ gwl := gw_of (i := 1186) (by decide +kernel) rfl
theorem wd_1187 : (Cond.methodLink "FlowBoxes" (228 : Nat) ({ cls := "FlowBoxes", name := "pieceSide", desc := "(LFlowBoxes$Node;IILFlowBoxes$Layout;)I" } : MethodName)) ∈ gwl := gw_of (i := 1187) (by decide +kernel) rfl
theorem wd_1188 : (Cond.static ({ cls := "FlowBoxes", name := "pieceSide", desc := "(LFlowBoxes$Node;IILFlowBoxes$Layout;)I" } : MethodName)) ∈ gwl := gw_of (i := 1188) (by decide +kernel) rfl
theorem wd_1189 : (Cond.code ({ cls := "FlowBoxes", name := "pieceSide", desc := "(LFlowBoxes$Node;IILFlowBoxes$Layout;)I" } : MethodName) prog_1_method_41_code (7 : Nat) (Option.some FieldType.int)) ∈ gwl := gw_of (i := 1189) (by decide +kernel) rfl
theorem wd_1196 : (Cond.methodLink "FlowBoxesLaw" (54 : Nat) ({ cls := "FlowBoxes", name := "width", desc := "(I)I" } : MethodName)) ∈ gwl := gw_of (i := 1196) (by decide +kernel) rfl
theorem wd_1197 : (Cond.instanceMethod ({ cls := "FlowBoxes", name := "width", desc := "(I)I" } : MethodName)) ∈ gwl := gw_of (i := 1197) (by decide +kernel) rfl
theorem wd_1198 : (Cond.selects "FlowBoxes" ({ cls := "FlowBoxes", name := "width", desc := "(I)I" } : MethodName) ({ cls := "FlowBoxes", name := "width", desc := "(I)I" } : MethodName)) ∈ gwl := gw_of (i := 1198) (by decide +kernel) rfl
theorem wd_1199 : (Cond.code ({ cls := "FlowBoxes", name := "width", desc := "(I)I" } : MethodName) prog_1_method_12_code (2 : Nat) (Option.some FieldType.int)) ∈ gwl := gw_of (i := 1199) (by decide +kernel) rfl
theorem wd_1200 : (Cond.methodLink "FlowBoxesLaw" (57 : Nat) ({ cls := "FlowBoxes", name := "painted", desc := "()I" } : MethodName)) ∈ gwl := gw_of (i := 1200) (by decide +kernel) rfl
theorem wd_1201 : (Cond.instanceMethod ({ cls := "FlowBoxes", name := "painted", desc := "()I" } : MethodName)) ∈ gwl := gw_of (i := 1201) (by decide +kernel) rfl
theorem wd_1202 : (Cond.selects "FlowBoxes" ({ cls := "FlowBoxes", name := "painted", desc := "()I" } : MethodName) ({ cls := "FlowBoxes", name := "painted", desc := "()I" } : MethodName)) ∈ gwl := gw_of (i := 1202) (by decide +kernel) rfl
theorem wd_1203 : (Cond.code ({ cls := "FlowBoxes", name := "painted", desc := "()I" } : MethodName) prog_1_method_21_code (1 : Nat) (Option.some FieldType.int)) ∈ gwl := gw_of (i := 1203) (by decide +kernel) rfl
theorem wd_1204 : (Cond.methodLink "FlowBoxesLaw" (61 : Nat) ({ cls := "FlowBoxes", name := "x", desc := "(I)I" } : MethodName)) ∈ gwl := gw_of (i := 1204) (by decide +kernel) rfl
theorem wd_1205 : (Cond.instanceMethod ({ cls := "FlowBoxes", name := "x", desc := "(I)I" } : MethodName)) ∈ gwl := gw_of (i := 1205) (by decide +kernel) rfl
theorem wd_1206 : (Cond.selects "FlowBoxes" ({ cls := "FlowBoxes", name := "x", desc := "(I)I" } : MethodName) ({ cls := "FlowBoxes", name := "x", desc := "(I)I" } : MethodName)) ∈ gwl := gw_of (i := 1206) (by decide +kernel) rfl
theorem wd_1207 : (Cond.code ({ cls := "FlowBoxes", name := "x", desc := "(I)I" } : MethodName) prog_1_method_10_code (2 : Nat) (Option.some FieldType.int)) ∈ gwl := gw_of (i := 1207) (by decide +kernel) rfl
theorem wd_1208 : (Cond.methodLink "FlowBoxesLaw" (64 : Nat) ({ cls := "FlowBoxes", name := "y", desc := "(I)I" } : MethodName)) ∈ gwl := gw_of (i := 1208) (by decide +kernel) rfl
theorem wd_1209 : (Cond.instanceMethod ({ cls := "FlowBoxes", name := "y", desc := "(I)I" } : MethodName)) ∈ gwl := gw_of (i := 1209) (by decide +kernel) rfl
theorem wd_1210 : (Cond.selects "FlowBoxes" ({ cls := "FlowBoxes", name := "y", desc := "(I)I" } : MethodName) ({ cls := "FlowBoxes", name := "y", desc := "(I)I" } : MethodName)) ∈ gwl := gw_of (i := 1210) (by decide +kernel) rfl
theorem wd_1211 : (Cond.code ({ cls := "FlowBoxes", name := "y", desc := "(I)I" } : MethodName) prog_1_method_11_code (2 : Nat) (Option.some FieldType.int)) ∈ gwl := gw_of (i := 1211) (by decide +kernel) rfl
theorem wd_1212 : (Cond.methodLink "FlowBoxesLaw" (67 : Nat) ({ cls := "FlowBoxes", name := "bars", desc := "(I)I" } : MethodName)) ∈ gwl := gw_of (i := 1212) (by decide +kernel) rfl
theorem wd_1213 : (Cond.instanceMethod ({ cls := "FlowBoxes", name := "bars", desc := "(I)I" } : MethodName)) ∈ gwl := gw_of (i := 1213) (by decide +kernel) rfl
theorem wd_1214 : (Cond.selects "FlowBoxes" ({ cls := "FlowBoxes", name := "bars", desc := "(I)I" } : MethodName) ({ cls := "FlowBoxes", name := "bars", desc := "(I)I" } : MethodName)) ∈ gwl := gw_of (i := 1214) (by decide +kernel) rfl
theorem wd_1215 : (Cond.code ({ cls := "FlowBoxes", name := "bars", desc := "(I)I" } : MethodName) prog_1_method_17_code (3 : Nat) (Option.some FieldType.int)) ∈ gwl := gw_of (i := 1215) (by decide +kernel) rfl
theorem wd_1216 : (Cond.methodLink "FlowBoxes" (68 : Nat) ({ cls := "FlowBoxes", name := "boxAt", desc := "(I)LFlowBoxes$Node;" } : MethodName)) ∈ gwl := gw_of (i := 1216) (by decide +kernel) rfl
theorem wd_1218 : (Cond.instanceMethod ({ cls := "FlowBoxes", name := "boxAt", desc := "(I)LFlowBoxes$Node;" } : MethodName)) ∈ gwl := gw_of (i := 1218) (by decide +kernel) rfl
theorem wd_1219 : (Cond.code ({ cls := "FlowBoxes", name := "boxAt", desc := "(I)LFlowBoxes$Node;" } : MethodName) prog_1_method_27_code (3 : Nat) (Option.some (FieldType.object "FlowBoxes$Node"))) ∈ gwl := gw_of (i := 1219) (by decide +kernel) rfl
theorem wd_1220 : (Cond.methodLink "FlowBoxesLaw" (70 : Nat) ({ cls := "FlowBoxes", name := "fromNothing", desc := "(II)I" } : MethodName)) ∈ gwl := gw_of (i := 1220) (by decide +kernel) rfl
theorem wd_1221 : (Cond.instanceMethod ({ cls := "FlowBoxes", name := "fromNothing", desc := "(II)I" } : MethodName)) ∈ gwl := gw_of (i := 1221) (by decide +kernel) rfl
theorem wd_1222 : (Cond.selects "FlowBoxes" ({ cls := "FlowBoxes", name := "fromNothing", desc := "(II)I" } : MethodName) ({ cls := "FlowBoxes", name := "fromNothing", desc := "(II)I" } : MethodName)) ∈ gwl := gw_of (i := 1222) (by decide +kernel) rfl
theorem wd_1223 : (Cond.code ({ cls := "FlowBoxes", name := "fromNothing", desc := "(II)I" } : MethodName) prog_1_method_14_code (4 : Nat) (Option.some FieldType.int)) ∈ gwl := gw_of (i := 1223) (by decide +kernel) rfl
theorem wd_1226 : (Cond.instanceMethod ({ cls := "FlowBoxes$Layout", name := "forgetAll", desc := "(LFlowBoxes$Node;)V" } : MethodName)) ∈ gwl := gw_of (i := 1226) (by decide +kernel) rfl
theorem wd_1227 : (Cond.code ({ cls := "FlowBoxes$Layout", name := "forgetAll", desc := "(LFlowBoxes$Node;)V" } : MethodName) prog_6_method_3_code (3 : Nat) (Option.none : Option FieldType)) ∈ gwl := gw_of (i := 1227) (by decide +kernel) rfl
theorem wd_1228 : (Cond.methodLink "FlowBoxesLaw" (74 : Nat) ({ cls := "FlowBoxes", name := "line", desc := "(III)I" } : MethodName)) ∈ gwl := gw_of (i := 1228) (by decide +kernel) rfl
theorem wd_1229 : (Cond.instanceMethod ({ cls := "FlowBoxes", name := "line", desc := "(III)I" } : MethodName)) ∈ gwl := gw_of (i := 1229) (by decide +kernel) rfl
theorem wd_1230 : (Cond.selects "FlowBoxes" ({ cls := "FlowBoxes", name := "line", desc := "(III)I" } : MethodName) ({ cls := "FlowBoxes", name := "line", desc := "(III)I" } : MethodName)) ∈ gwl := gw_of (i := 1230) (by decide +kernel) rfl
theorem wd_1231 : (Cond.code ({ cls := "FlowBoxes", name := "line", desc := "(III)I" } : MethodName) prog_1_method_19_code (7 : Nat) (Option.some FieldType.int)) ∈ gwl := gw_of (i := 1231) (by decide +kernel) rfl
theorem wd_1234 : (Cond.instanceMethod ({ cls := "FlowBoxes$Node", name := "holdsLines", desc := "()Z" } : MethodName)) ∈ gwl := gw_of (i := 1234) (by decide +kernel) rfl
theorem wd_1235 : (Cond.code ({ cls := "FlowBoxes$Node", name := "holdsLines", desc := "()Z" } : MethodName) prog_9_method_4_code (1 : Nat) (Option.some FieldType.boolean)) ∈ gwl := gw_of (i := 1235) (by decide +kernel) rfl
theorem wd_1236 : (Cond.methodLink "FlowBoxes" (203 : Nat) ({ cls := "FlowBoxes", name := "lineAt", desc := "(LFlowBoxes$Node;I)LFlowBoxes$Line;" } : MethodName)) ∈ gwl := gw_of (i := 1236) (by decide +kernel) rfl
theorem wd_1237 : (Cond.static ({ cls := "FlowBoxes", name := "lineAt", desc := "(LFlowBoxes$Node;I)LFlowBoxes$Line;" } : MethodName)) ∈ gwl := gw_of (i := 1237) (by decide +kernel) rfl
theorem wd_1238 : (Cond.code ({ cls := "FlowBoxes", name := "lineAt", desc := "(LFlowBoxes$Node;I)LFlowBoxes$Line;" } : MethodName) prog_1_method_31_code (4 : Nat) (Option.some (FieldType.object "FlowBoxes$Line"))) ∈ gwl := gw_of (i := 1238) (by decide +kernel) rfl
theorem wd_1239 : (Cond.methodLink "FlowBoxesLaw" (78 : Nat) ({ cls := "FlowBoxes", name := "lines", desc := "(I)I" } : MethodName)) ∈ gwl := gw_of (i := 1239) (by decide +kernel) rfl
theorem wd_1240 : (Cond.instanceMethod ({ cls := "FlowBoxes", name := "lines", desc := "(I)I" } : MethodName)) ∈ gwl := gw_of (i := 1240) (by decide +kernel) rfl
theorem wd_1241 : (Cond.selects "FlowBoxes" ({ cls := "FlowBoxes", name := "lines", desc := "(I)I" } : MethodName) ({ cls := "FlowBoxes", name := "lines", desc := "(I)I" } : MethodName)) ∈ gwl := gw_of (i := 1241) (by decide +kernel) rfl
theorem wd_1242 : (Cond.code ({ cls := "FlowBoxes", name := "lines", desc := "(I)I" } : MethodName) prog_1_method_18_code (5 : Nat) (Option.some FieldType.int)) ∈ gwl := gw_of (i := 1242) (by decide +kernel) rfl
theorem wd_1243 : (Cond.methodLink "FlowBoxesLaw" (104 : Nat) ({ cls := "FlowBoxesLaw", name := "makes", desc := "(LFlowBoxes;I[I[I[I[I)Z" } : MethodName)) ∈ gwl := gw_of (i := 1243) (by decide +kernel) rfl
theorem wd_1244 : (Cond.static ({ cls := "FlowBoxesLaw", name := "makes", desc := "(LFlowBoxes;I[I[I[I[I)Z" } : MethodName)) ∈ gwl := gw_of (i := 1244) (by decide +kernel) rfl
theorem wd_1245 : (Cond.code ({ cls := "FlowBoxesLaw", name := "makes", desc := "(LFlowBoxes;I[I[I[I[I)Z" } : MethodName) method_15_code (11 : Nat) (Option.some FieldType.boolean)) ∈ gwl := gw_of (i := 1245) (by decide +kernel) rfl
theorem wd_1246 : (Cond.methodLink "FlowBoxesLaw" (84 : Nat) ({ cls := "FlowBoxes", name := "children", desc := "(I)I" } : MethodName)) ∈ gwl := gw_of (i := 1246) (by decide +kernel) rfl
theorem wd_1247 : (Cond.instanceMethod ({ cls := "FlowBoxes", name := "children", desc := "(I)I" } : MethodName)) ∈ gwl := gw_of (i := 1247) (by decide +kernel) rfl
theorem wd_1248 : (Cond.selects "FlowBoxes" ({ cls := "FlowBoxes", name := "children", desc := "(I)I" } : MethodName) ({ cls := "FlowBoxes", name := "children", desc := "(I)I" } : MethodName)) ∈ gwl := gw_of (i := 1248) (by decide +kernel) rfl
theorem wd_1249 : (Cond.code ({ cls := "FlowBoxes", name := "children", desc := "(I)I" } : MethodName) prog_1_method_7_code (3 : Nat) (Option.some FieldType.int)) ∈ gwl := gw_of (i := 1249) (by decide +kernel) rfl
theorem wd_1252 : (Cond.instanceMethod ({ cls := "FlowBoxes$Node", name := "countChildren", desc := "()I" } : MethodName)) ∈ gwl := gw_of (i := 1252) (by decide +kernel) rfl
theorem wd_1253 : (Cond.code ({ cls := "FlowBoxes$Node", name := "countChildren", desc := "()I" } : MethodName) prog_9_method_9_code (3 : Nat) (Option.some FieldType.int)) ∈ gwl := gw_of (i := 1253) (by decide +kernel) rfl
theorem wd_1254 : (Cond.methodLink "FlowBoxesLaw" (87 : Nat) ({ cls := "FlowBoxes", name := "text", desc := "(III)I" } : MethodName)) ∈ gwl := gw_of (i := 1254) (by decide +kernel) rfl
theorem wd_1255 : (Cond.instanceMethod ({ cls := "FlowBoxes", name := "text", desc := "(III)I" } : MethodName)) ∈ gwl := gw_of (i := 1255) (by decide +kernel) rfl
theorem wd_1256 : (Cond.selects "FlowBoxes" ({ cls := "FlowBoxes", name := "text", desc := "(III)I" } : MethodName) ({ cls := "FlowBoxes", name := "text", desc := "(III)I" } : MethodName)) ∈ gwl := gw_of (i := 1256) (by decide +kernel) rfl
theorem wd_1257 : (Cond.code ({ cls := "FlowBoxes", name := "text", desc := "(III)I" } : MethodName) prog_1_method_3_code (6 : Nat) (Option.some FieldType.int)) ∈ gwl := gw_of (i := 1257) (by decide +kernel) rfl
theorem wd_1258 : (Cond.methodLink "FlowBoxes" (79 : Nat) ({ cls := "FlowBoxes", name := "hasRoom", desc := "(LFlowBoxes$Node;)Z" } : MethodName)) ∈ gwl := gw_of (i := 1258) (by decide +kernel) rfl
theorem wd_1260 : (Cond.instanceMethod ({ cls := "FlowBoxes", name := "hasRoom", desc := "(LFlowBoxes$Node;)Z" } : MethodName)) ∈ gwl := gw_of (i := 1260) (by decide +kernel) rfl
theorem wd_1261 : (Cond.code ({ cls := "FlowBoxes", name := "hasRoom", desc := "(LFlowBoxes$Node;)Z" } : MethodName) prog_1_method_32_code (2 : Nat) (Option.some FieldType.boolean)) ∈ gwl := gw_of (i := 1261) (by decide +kernel) rfl
theorem wd_1262 : (Cond.methodLink "FlowBoxes" (86 : Nat) ({ cls := "FlowBoxes", name := "insertNode", desc := "(LFlowBoxes$Node;II)I" } : MethodName)) ∈ gwl := gw_of (i := 1262) (by decide +kernel) rfl
theorem wd_1264 : (Cond.instanceMethod ({ cls := "FlowBoxes", name := "insertNode", desc := "(LFlowBoxes$Node;II)I" } : MethodName)) ∈ gwl := gw_of (i := 1264) (by decide +kernel) rfl
theorem wd_1265 : (Cond.code ({ cls := "FlowBoxes", name := "insertNode", desc := "(LFlowBoxes$Node;II)I" } : MethodName) prog_1_method_33_code (6 : Nat) (Option.some FieldType.int)) ∈ gwl := gw_of (i := 1265) (by decide +kernel) rfl
theorem wd_1268 : (Cond.instanceMethod ({ cls := "FlowBoxes$Node", name := "putIn", desc := "(LFlowBoxes$Node;I)V" } : MethodName)) ∈ gwl := gw_of (i := 1268) (by decide +kernel) rfl
theorem wd_1269 : (Cond.code ({ cls := "FlowBoxes$Node", name := "putIn", desc := "(LFlowBoxes$Node;I)V" } : MethodName) prog_9_method_10_code (6 : Nat) (Option.none : Option FieldType)) ∈ gwl := gw_of (i := 1269) (by decide +kernel) rfl
theorem wd_1270 : (Cond.methodLink "FlowBoxes" (108 : Nat) ({ cls := "FlowBoxes", name := "noteChange", desc := "(LFlowBoxes$Node;)V" } : MethodName)) ∈ gwl := gw_of (i := 1270) (by decide +kernel) rfl
theorem wd_1272 : (Cond.instanceMethod ({ cls := "FlowBoxes", name := "noteChange", desc := "(LFlowBoxes$Node;)V" } : MethodName)) ∈ gwl := gw_of (i := 1272) (by decide +kernel) rfl
theorem wd_1273 : (Cond.code ({ cls := "FlowBoxes", name := "noteChange", desc := "(LFlowBoxes$Node;)V" } : MethodName) prog_1_method_37_code (3 : Nat) (Option.none : Option FieldType)) ∈ gwl := gw_of (i := 1273) (by decide +kernel) rfl
theorem wd_1274 : (Cond.methodLink "FlowBoxesLaw" (90 : Nat) ({ cls := "FlowBoxes", name := "box", desc := "(II)I" } : MethodName)) ∈ gwl := gw_of (i := 1274) (by decide +kernel) rfl
theorem wd_1275 : (Cond.instanceMethod ({ cls := "FlowBoxes", name := "box", desc := "(II)I" } : MethodName)) ∈ gwl := gw_of (i := 1275) (by decide +kernel) rfl
theorem wd_1276 : (Cond.selects "FlowBoxes" ({ cls := "FlowBoxes", name := "box", desc := "(II)I" } : MethodName) ({ cls := "FlowBoxes", name := "box", desc := "(II)I" } : MethodName)) ∈ gwl := gw_of (i := 1276) (by decide +kernel) rfl
theorem wd_1277 : (Cond.code ({ cls := "FlowBoxes", name := "box", desc := "(II)I" } : MethodName) prog_1_method_2_code (5 : Nat) (Option.some FieldType.int)) ∈ gwl := gw_of (i := 1277) (by decide +kernel) rfl
theorem wd_1278 : (Cond.methodLink "FlowBoxesLaw" (93 : Nat) ({ cls := "FlowBoxes", name := "word", desc := "(III)I" } : MethodName)) ∈ gwl := gw_of (i := 1278) (by decide +kernel) rfl
theorem wd_1279 : (Cond.instanceMethod ({ cls := "FlowBoxes", name := "word", desc := "(III)I" } : MethodName)) ∈ gwl := gw_of (i := 1279) (by decide +kernel) rfl
theorem wd_1280 : (Cond.selects "FlowBoxes" ({ cls := "FlowBoxes", name := "word", desc := "(III)I" } : MethodName) ({ cls := "FlowBoxes", name := "word", desc := "(III)I" } : MethodName)) ∈ gwl := gw_of (i := 1280) (by decide +kernel) rfl
theorem wd_1281 : (Cond.code ({ cls := "FlowBoxes", name := "word", desc := "(III)I" } : MethodName) prog_1_method_4_code (5 : Nat) (Option.some FieldType.int)) ∈ gwl := gw_of (i := 1281) (by decide +kernel) rfl
theorem wd_1282 : (Cond.methodLink "FlowBoxes" (95 : Nat) ({ cls := "FlowBoxes", name := "textAt", desc := "(I)LFlowBoxes$Node;" } : MethodName)) ∈ gwl := gw_of (i := 1282) (by decide +kernel) rfl
theorem wd_1284 : (Cond.instanceMethod ({ cls := "FlowBoxes", name := "textAt", desc := "(I)LFlowBoxes$Node;" } : MethodName)) ∈ gwl := gw_of (i := 1284) (by decide +kernel) rfl
theorem wd_1285 : (Cond.code ({ cls := "FlowBoxes", name := "textAt", desc := "(I)LFlowBoxes$Node;" } : MethodName) prog_1_method_28_code (3 : Nat) (Option.some (FieldType.object "FlowBoxes$Node"))) ∈ gwl := gw_of (i := 1285) (by decide +kernel) rfl
theorem wd_1286 : (Cond.methodLink "FlowBoxesLaw" (111 : Nat) ({ cls := "FlowBoxesLaw", name := "styles", desc := "(LFlowBoxes;I[I[I[I[I[I)Z" } : MethodName)) ∈ gwl := gw_of (i := 1286) (by decide +kernel) rfl
theorem wd_1287 : (Cond.static ({ cls := "FlowBoxesLaw", name := "styles", desc := "(LFlowBoxes;I[I[I[I[I[I)Z" } : MethodName)) ∈ gwl := gw_of (i := 1287) (by decide +kernel) rfl
theorem wd_1288 : (Cond.code ({ cls := "FlowBoxesLaw", name := "styles", desc := "(LFlowBoxes;I[I[I[I[I[I)Z" } : MethodName) method_16_code (11 : Nat) (Option.some FieldType.boolean)) ∈ gwl := gw_of (i := 1288) (by decide +kernel) rfl
theorem wd_1289 : (Cond.methodLink "FlowBoxesLaw" (96 : Nat) ({ cls := "FlowBoxes", name := "style", desc := "(III)I" } : MethodName)) ∈ gwl := gw_of (i := 1289) (by decide +kernel) rfl
theorem wd_1290 : (Cond.instanceMethod ({ cls := "FlowBoxes", name := "style", desc := "(III)I" } : MethodName)) ∈ gwl := gw_of (i := 1290) (by decide +kernel) rfl
theorem wd_1291 : (Cond.selects "FlowBoxes" ({ cls := "FlowBoxes", name := "style", desc := "(III)I" } : MethodName) ({ cls := "FlowBoxes", name := "style", desc := "(III)I" } : MethodName)) ∈ gwl := gw_of (i := 1291) (by decide +kernel) rfl
theorem wd_1292 : (Cond.code ({ cls := "FlowBoxes", name := "style", desc := "(III)I" } : MethodName) prog_1_method_8_code (6 : Nat) (Option.some FieldType.int)) ∈ gwl := gw_of (i := 1292) (by decide +kernel) rfl
theorem wd_1293 : (Cond.methodLink "FlowBoxes" (127 : Nat) ({ cls := "FlowBoxes", name := "allows", desc := "(II)Z" } : MethodName)) ∈ gwl := gw_of (i := 1293) (by decide +kernel) rfl
theorem wd_1294 : (Cond.static ({ cls := "FlowBoxes", name := "allows", desc := "(II)Z" } : MethodName)) ∈ gwl := gw_of (i := 1294) (by decide +kernel) rfl
theorem wd_1295 : (Cond.code ({ cls := "FlowBoxes", name := "allows", desc := "(II)Z" } : MethodName) prog_1_method_34_code (2 : Nat) (Option.some FieldType.boolean)) ∈ gwl := gw_of (i := 1295) (by decide +kernel) rfl
theorem wd_1296 : (Cond.methodLink "FlowBoxes" (255 : Nat) ({ cls := "FlowBoxes", name := "isPercentage", desc := "(I)Z" } : MethodName)) ∈ gwl := gw_of (i := 1296) (by decide +kernel) rfl
theorem wd_1297 : (Cond.static ({ cls := "FlowBoxes", name := "isPercentage", desc := "(I)Z" } : MethodName)) ∈ gwl := gw_of (i := 1297) (by decide +kernel) rfl
theorem wd_1298 : (Cond.code ({ cls := "FlowBoxes", name := "isPercentage", desc := "(I)Z" } : MethodName) prog_1_method_35_code (1 : Nat) (Option.some FieldType.boolean)) ∈ gwl := gw_of (i := 1298) (by decide +kernel) rfl
theorem wd_1299 : (Cond.methodLink "FlowBoxes" (134 : Nat) ({ cls := "FlowBoxes", name := "reachesInside", desc := "(I)Z" } : MethodName)) ∈ gwl := gw_of (i := 1299) (by decide +kernel) rfl
theorem wd_1300 : (Cond.static ({ cls := "FlowBoxes", name := "reachesInside", desc := "(I)Z" } : MethodName)) ∈ gwl := gw_of (i := 1300) (by decide +kernel) rfl
theorem wd_1301 : (Cond.code ({ cls := "FlowBoxes", name := "reachesInside", desc := "(I)Z" } : MethodName) prog_1_method_36_code (1 : Nat) (Option.some FieldType.boolean)) ∈ gwl := gw_of (i := 1301) (by decide +kernel) rfl
theorem wd_1302 : (Cond.methodLink "FlowBoxes" (138 : Nat) ({ cls := "FlowBoxes", name := "noteChangeInside", desc := "(LFlowBoxes$Node;)V" } : MethodName)) ∈ gwl := gw_of (i := 1302) (by decide +kernel) rfl
theorem wd_1304 : (Cond.instanceMethod ({ cls := "FlowBoxes", name := "noteChangeInside", desc := "(LFlowBoxes$Node;)V" } : MethodName)) ∈ gwl := gw_of (i := 1304) (by decide +kernel) rfl
theorem wd_1305 : (Cond.code ({ cls := "FlowBoxes", name := "noteChangeInside", desc := "(LFlowBoxes$Node;)V" } : MethodName) prog_1_method_38_code (3 : Nat) (Option.none : Option FieldType)) ∈ gwl := gw_of (i := 1305) (by decide +kernel) rfl
theorem wd_1307 : (Cond.sameMethod "java/lang/Throwable" "java/lang/Throwable" "fillInStackTrace" "(I)Ljava/lang/Throwable;") ∈ gwl := gw_of (i := 1307) (by decide +kernel) rfl
theorem wd_1308 : (Cond.fieldLink "java/lang/Enum" (7 : Nat) "java/lang/Enum" "ordinal" "I") ∈ gwl := gw_of (i := 1308) (by decide +kernel) rfl
theorem cl_L_99 : zCl0 RL 99 yX12_init mX12_init 0 false := ⟨wd_26, wd_1, by decide, ⟨by decide, by decide, by decide +kernel⟩, Or.inl ⟨rfl, wd_24⟩⟩
theorem im_X12_init : Cond.instanceMethod yX12_init ∈ gwl := wd_25
theorem cl_X12_9 : zCl0 RX12 9 yX7_init mX7_init 3 true := ⟨wd_34, wd_2, by decide, ⟨by decide, by decide, by decide +kernel⟩, Or.inr ⟨rfl, gn_of (i := 32) (by decide +kernel) rfl⟩⟩
theorem im_X7_init : Cond.instanceMethod yX7_init ∈ gwl := wd_33
theorem cl_X7_32 : zCl0 RX7 32 yX7_firstValue mX7_firstValue 1 false := ⟨wd_38, wd_2, by decide, ⟨by decide, by decide, by decide +kernel⟩, Or.inl ⟨rfl, wd_36⟩⟩
theorem st_X7_firstValue : Cond.static yX7_firstValue ∈ gwl := wd_37
theorem cl_X7_44 : zCl0 RX7 44 yX9_init mX9_init 1 true := ⟨wd_43, wd_3, by decide, ⟨by decide, by decide, by decide +kernel⟩, Or.inr ⟨rfl, gn_of (i := 41) (by decide +kernel) rfl⟩⟩
theorem im_X9_init : Cond.instanceMethod yX9_init ∈ gwl := wd_42
theorem cl_X9_11 : zCl0 RX9 11 yX1_init mX1_init 0 true := ⟨wd_49, wd_4, by decide, ⟨by decide, by decide, by decide +kernel⟩, Or.inr ⟨rfl, gn_of (i := 47) (by decide +kernel) rfl⟩⟩
theorem im_X1_init : Cond.instanceMethod yX1_init ∈ gwl := wd_48
theorem fl_X1_13 : zFL RX1 13 1 100 (tyX1 0) false false false := ⟨0, 0, (RX1, TX1, 7), rfl, by decide, rfl, rfl, by decide, tyX1_ok 0 (by decide), rfl, by decide +kernel, rfl, Or.inl ⟨rfl, wd_51⟩⟩
theorem fl_X2_113 : zFL RX2 113 1 100 (tyX1 0) false false true := ⟨0, 0, (RX1, TX1, 7), rfl, by decide, rfl, rfl, by decide, tyX1_ok 0 (by decide), rfl, by decide +kernel, rfl, Or.inr ⟨rfl, gn_of (i := 52) (by decide +kernel) rfl⟩⟩
theorem fl_X4_375 : zFL RX4 375 1 100 (tyX1 0) false false true := ⟨0, 0, (RX1, TX1, 7), rfl, by decide, rfl, rfl, by decide, tyX1_ok 0 (by decide), rfl, by decide +kernel, rfl, Or.inr ⟨rfl, gn_of (i := 53) (by decide +kernel) rfl⟩⟩
theorem fl_X1_19 : zFL RX1 19 1 101 (tyX1 1) false false false := ⟨0, 1, (RX1, TX1, 7), rfl, by decide, rfl, rfl, by decide, tyX1_ok 1 (by decide), rfl, by decide +kernel, rfl, Or.inl ⟨rfl, wd_54⟩⟩
theorem fl_X2_125 : zFL RX2 125 1 101 (tyX1 1) false false true := ⟨0, 1, (RX1, TX1, 7), rfl, by decide, rfl, rfl, by decide, tyX1_ok 1 (by decide), rfl, by decide +kernel, rfl, Or.inr ⟨rfl, gn_of (i := 55) (by decide +kernel) rfl⟩⟩
theorem fl_X4_371 : zFL RX4 371 1 101 (tyX1 1) false false true := ⟨0, 1, (RX1, TX1, 7), rfl, by decide, rfl, rfl, by decide, tyX1_ok 1 (by decide), rfl, by decide +kernel, rfl, Or.inr ⟨rfl, gn_of (i := 56) (by decide +kernel) rfl⟩⟩
theorem fl_X1_7 : zFL RX1 7 1 102 (tyX1 2) false false false := ⟨0, 2, (RX1, TX1, 7), rfl, by decide, rfl, rfl, by decide, tyX1_ok 2 (by decide), rfl, by decide +kernel, rfl, Or.inl ⟨rfl, wd_57⟩⟩
theorem fl_X2_110 : zFL RX2 110 1 102 (tyX1 2) false false true := ⟨0, 2, (RX1, TX1, 7), rfl, by decide, rfl, rfl, by decide, tyX1_ok 2 (by decide), rfl, by decide +kernel, rfl, Or.inr ⟨rfl, gn_of (i := 58) (by decide +kernel) rfl⟩⟩
theorem fl_X4_376 : zFL RX4 376 1 102 (tyX1 2) false false true := ⟨0, 2, (RX1, TX1, 7), rfl, by decide, rfl, rfl, by decide, tyX1_ok 2 (by decide), rfl, by decide +kernel, rfl, Or.inr ⟨rfl, gn_of (i := 59) (by decide +kernel) rfl⟩⟩
theorem fl_X1_16 : zFL RX1 16 1 103 (tyX1 3) false false false := ⟨0, 3, (RX1, TX1, 7), rfl, by decide, rfl, rfl, by decide, tyX1_ok 3 (by decide), rfl, by decide +kernel, rfl, Or.inl ⟨rfl, wd_60⟩⟩
theorem fl_X2_85 : zFL RX2 85 1 103 (tyX1 3) false false true := ⟨0, 3, (RX1, TX1, 7), rfl, by decide, rfl, rfl, by decide, tyX1_ok 3 (by decide), rfl, by decide +kernel, rfl, Or.inr ⟨rfl, gn_of (i := 61) (by decide +kernel) rfl⟩⟩
theorem fl_X4_379 : zFL RX4 379 1 103 (tyX1 3) false false true := ⟨0, 3, (RX1, TX1, 7), rfl, by decide, rfl, rfl, by decide, tyX1_ok 3 (by decide), rfl, by decide +kernel, rfl, Or.inr ⟨rfl, gn_of (i := 62) (by decide +kernel) rfl⟩⟩
theorem fl_X2_80 : zFL RX2 80 1 104 (tyX1 4) false false true := ⟨0, 4, (RX1, TX1, 7), rfl, by decide, rfl, rfl, by decide, tyX1_ok 4 (by decide), rfl, by decide +kernel, rfl, Or.inr ⟨rfl, gn_of (i := 63) (by decide +kernel) rfl⟩⟩
theorem fl_X4_363 : zFL RX4 363 1 104 (tyX1 4) false false true := ⟨0, 4, (RX1, TX1, 7), rfl, by decide, rfl, rfl, by decide, tyX1_ok 4 (by decide), rfl, by decide +kernel, rfl, Or.inr ⟨rfl, gn_of (i := 64) (by decide +kernel) rfl⟩⟩
theorem fl_X2_88 : zFL RX2 88 1 105 (tyX1 5) false true true := ⟨0, 5, (RX1, TX1, 7), rfl, by decide, rfl, rfl, by decide, tyX1_ok 5 (by decide), rfl, by decide +kernel, rfl, Or.inr ⟨rfl, gn_of (i := 65) (by decide +kernel) rfl⟩⟩
theorem fl_X4_502 : zFL RX4 502 1 105 (tyX1 5) false true true := ⟨0, 5, (RX1, TX1, 7), rfl, by decide, rfl, rfl, by decide, tyX1_ok 5 (by decide), rfl, by decide +kernel, rfl, Or.inr ⟨rfl, gn_of (i := 66) (by decide +kernel) rfl⟩⟩
theorem fl_X2_130 : zFL RX2 130 1 106 (tyX1 6) false true true := ⟨0, 6, (RX1, TX1, 7), rfl, by decide, rfl, rfl, by decide, tyX1_ok 6 (by decide), rfl, by decide +kernel, rfl, Or.inr ⟨rfl, gn_of (i := 67) (by decide +kernel) rfl⟩⟩
theorem fl_X4_504 : zFL RX4 504 1 106 (tyX1 6) false true true := ⟨0, 6, (RX1, TX1, 7), rfl, by decide, rfl, rfl, by decide, tyX1_ok 6 (by decide), rfl, by decide +kernel, rfl, Or.inr ⟨rfl, gn_of (i := 68) (by decide +kernel) rfl⟩⟩
theorem cl_X9_24 : zCl0 RX9 24 yX11_init mX11_init 0 true := ⟨wd_90, wd_5, by decide, ⟨by decide, by decide, by decide +kernel⟩, Or.inr ⟨rfl, gn_of (i := 88) (by decide +kernel) rfl⟩⟩
theorem im_X11_init : Cond.instanceMethod yX11_init ∈ gwl := wd_89
theorem fl_X11_7 : zFL RX11 7 9 900 (tyX11 0) false true false := ⟨8, 0, (RX11, TX11, 5), rfl, by decide, rfl, rfl, by decide, tyX11_ok 0 (by decide), rfl, by decide +kernel, rfl, Or.inl ⟨rfl, wd_92⟩⟩
theorem fl_X4_437 : zFL RX4 437 9 900 (tyX11 0) false true true := ⟨8, 0, (RX11, TX11, 5), rfl, by decide, rfl, rfl, by decide, tyX11_ok 0 (by decide), rfl, by decide +kernel, rfl, Or.inr ⟨rfl, gn_of (i := 93) (by decide +kernel) rfl⟩⟩
theorem fl_X12_288 : zFL RX12 288 9 900 (tyX11 0) false true true := ⟨8, 0, (RX11, TX11, 5), rfl, by decide, rfl, rfl, by decide, tyX11_ok 0 (by decide), rfl, by decide +kernel, rfl, Or.inr ⟨rfl, gn_of (i := 94) (by decide +kernel) rfl⟩⟩
theorem fl_X11_19 : zFL RX11 19 9 901 (tyX11 1) false false false := ⟨8, 1, (RX11, TX11, 5), rfl, by decide, rfl, rfl, by decide, tyX11_ok 1 (by decide), rfl, by decide +kernel, rfl, Or.inl ⟨rfl, wd_95⟩⟩
theorem fl_X4_448 : zFL RX4 448 9 901 (tyX11 1) false false true := ⟨8, 1, (RX11, TX11, 5), rfl, by decide, rfl, rfl, by decide, tyX11_ok 1 (by decide), rfl, by decide +kernel, rfl, Or.inr ⟨rfl, gn_of (i := 96) (by decide +kernel) rfl⟩⟩
theorem fl_X4_428 : zFL RX4 428 9 902 (tyX11 2) false false true := ⟨8, 2, (RX11, TX11, 5), rfl, by decide, rfl, rfl, by decide, tyX11_ok 2 (by decide), rfl, by decide +kernel, rfl, Or.inr ⟨rfl, gn_of (i := 97) (by decide +kernel) rfl⟩⟩
theorem fl_X12_299 : zFL RX12 299 9 902 (tyX11 2) false false true := ⟨8, 2, (RX11, TX11, 5), rfl, by decide, rfl, rfl, by decide, tyX11_ok 2 (by decide), rfl, by decide +kernel, rfl, Or.inr ⟨rfl, gn_of (i := 98) (by decide +kernel) rfl⟩⟩
theorem fl_X11_28 : zFL RX11 28 9 903 (tyX11 3) false false false := ⟨8, 3, (RX11, TX11, 5), rfl, by decide, rfl, rfl, by decide, tyX11_ok 3 (by decide), rfl, by decide +kernel, rfl, Or.inl ⟨rfl, wd_99⟩⟩
theorem fl_X4_431 : zFL RX4 431 9 903 (tyX11 3) false false true := ⟨8, 3, (RX11, TX11, 5), rfl, by decide, rfl, rfl, by decide, tyX11_ok 3 (by decide), rfl, by decide +kernel, rfl, Or.inr ⟨rfl, gn_of (i := 100) (by decide +kernel) rfl⟩⟩
theorem fl_X4_434 : zFL RX4 434 9 904 (tyX11 4) false false true := ⟨8, 4, (RX11, TX11, 5), rfl, by decide, rfl, rfl, by decide, tyX11_ok 4 (by decide), rfl, by decide +kernel, rfl, Or.inr ⟨rfl, gn_of (i := 101) (by decide +kernel) rfl⟩⟩
theorem fl_X4_142 : zFL RX4 142 7 700 (tyX9 0) false false true := ⟨6, 0, (RX9, TX9, 20), rfl, by decide, rfl, rfl, by decide, tyX9_ok 0 (by decide), rfl, by decide +kernel, rfl, Or.inr ⟨rfl, gn_of (i := 113) (by decide +kernel) rfl⟩⟩
theorem fl_X2_68 : zFL RX2 68 7 701 (tyX9 1) false false true := ⟨6, 1, (RX9, TX9, 20), rfl, by decide, rfl, rfl, by decide, tyX9_ok 1 (by decide), rfl, by decide +kernel, rfl, Or.inr ⟨rfl, gn_of (i := 114) (by decide +kernel) rfl⟩⟩
theorem fl_X4_148 : zFL RX4 148 7 701 (tyX9 1) false false true := ⟨6, 1, (RX9, TX9, 20), rfl, by decide, rfl, rfl, by decide, tyX9_ok 1 (by decide), rfl, by decide +kernel, rfl, Or.inr ⟨rfl, gn_of (i := 115) (by decide +kernel) rfl⟩⟩
theorem fl_X4_87 : zFL RX4 87 7 702 (tyX9 2) false false true := ⟨6, 2, (RX9, TX9, 20), rfl, by decide, rfl, rfl, by decide, tyX9_ok 2 (by decide), rfl, by decide +kernel, rfl, Or.inr ⟨rfl, gn_of (i := 116) (by decide +kernel) rfl⟩⟩
theorem fl_X12_274 : zFL RX12 274 7 702 (tyX9 2) false false true := ⟨6, 2, (RX9, TX9, 20), rfl, by decide, rfl, rfl, by decide, tyX9_ok 2 (by decide), rfl, by decide +kernel, rfl, Or.inr ⟨rfl, gn_of (i := 117) (by decide +kernel) rfl⟩⟩
theorem fl_X4_200 : zFL RX4 200 7 703 (tyX9 3) false false true := ⟨6, 3, (RX9, TX9, 20), rfl, by decide, rfl, rfl, by decide, tyX9_ok 3 (by decide), rfl, by decide +kernel, rfl, Or.inr ⟨rfl, gn_of (i := 118) (by decide +kernel) rfl⟩⟩
theorem fl_X12_280 : zFL RX12 280 7 703 (tyX9 3) false false true := ⟨6, 3, (RX9, TX9, 20), rfl, by decide, rfl, rfl, by decide, tyX9_ok 3 (by decide), rfl, by decide +kernel, rfl, Or.inr ⟨rfl, gn_of (i := 119) (by decide +kernel) rfl⟩⟩
theorem fl_X9_25 : zFL RX9 25 7 704 (tyX9 4) false false false := ⟨6, 4, (RX9, TX9, 20), rfl, by decide, rfl, rfl, by decide, tyX9_ok 4 (by decide), rfl, by decide +kernel, rfl, Or.inl ⟨rfl, wd_120⟩⟩
theorem fl_X4_98 : zFL RX4 98 7 704 (tyX9 4) false false true := ⟨6, 4, (RX9, TX9, 20), rfl, by decide, rfl, rfl, by decide, tyX9_ok 4 (by decide), rfl, by decide +kernel, rfl, Or.inr ⟨rfl, gn_of (i := 121) (by decide +kernel) rfl⟩⟩
theorem fl_X4_105 : zFL RX4 105 7 705 (tyX9 5) false false true := ⟨6, 5, (RX9, TX9, 20), rfl, by decide, rfl, rfl, by decide, tyX9_ok 5 (by decide), rfl, by decide +kernel, rfl, Or.inr ⟨rfl, gn_of (i := 122) (by decide +kernel) rfl⟩⟩
theorem fl_X12_268 : zFL RX12 268 7 705 (tyX9 5) false false true := ⟨6, 5, (RX9, TX9, 20), rfl, by decide, rfl, rfl, by decide, tyX9_ok 5 (by decide), rfl, by decide +kernel, rfl, Or.inr ⟨rfl, gn_of (i := 123) (by decide +kernel) rfl⟩⟩
theorem fl_X4_108 : zFL RX4 108 7 706 (tyX9 6) false false true := ⟨6, 6, (RX9, TX9, 20), rfl, by decide, rfl, rfl, by decide, tyX9_ok 6 (by decide), rfl, by decide +kernel, rfl, Or.inr ⟨rfl, gn_of (i := 124) (by decide +kernel) rfl⟩⟩
theorem fl_X12_271 : zFL RX12 271 7 706 (tyX9 6) false false true := ⟨6, 6, (RX9, TX9, 20), rfl, by decide, rfl, rfl, by decide, tyX9_ok 6 (by decide), rfl, by decide +kernel, rfl, Or.inr ⟨rfl, gn_of (i := 125) (by decide +kernel) rfl⟩⟩
theorem fl_X4_111 : zFL RX4 111 7 707 (tyX9 7) false false true := ⟨6, 7, (RX9, TX9, 20), rfl, by decide, rfl, rfl, by decide, tyX9_ok 7 (by decide), rfl, by decide +kernel, rfl, Or.inr ⟨rfl, gn_of (i := 126) (by decide +kernel) rfl⟩⟩
theorem fl_X12_207 : zFL RX12 207 7 707 (tyX9 7) false false true := ⟨6, 7, (RX9, TX9, 20), rfl, by decide, rfl, rfl, by decide, tyX9_ok 7 (by decide), rfl, by decide +kernel, rfl, Or.inr ⟨rfl, gn_of (i := 127) (by decide +kernel) rfl⟩⟩
theorem fl_X4_114 : zFL RX4 114 7 708 (tyX9 8) false false true := ⟨6, 8, (RX9, TX9, 20), rfl, by decide, rfl, rfl, by decide, tyX9_ok 8 (by decide), rfl, by decide +kernel, rfl, Or.inr ⟨rfl, gn_of (i := 128) (by decide +kernel) rfl⟩⟩
theorem fl_X12_213 : zFL RX12 213 7 708 (tyX9 8) false false true := ⟨6, 8, (RX9, TX9, 20), rfl, by decide, rfl, rfl, by decide, tyX9_ok 8 (by decide), rfl, by decide +kernel, rfl, Or.inr ⟨rfl, gn_of (i := 129) (by decide +kernel) rfl⟩⟩
theorem fl_X2_73 : zFL RX2 73 7 709 (tyX9 9) false false true := ⟨6, 9, (RX9, TX9, 20), rfl, by decide, rfl, rfl, by decide, tyX9_ok 9 (by decide), rfl, by decide +kernel, rfl, Or.inr ⟨rfl, gn_of (i := 130) (by decide +kernel) rfl⟩⟩
theorem fl_X4_313 : zFL RX4 313 7 709 (tyX9 9) false false true := ⟨6, 9, (RX9, TX9, 20), rfl, by decide, rfl, rfl, by decide, tyX9_ok 9 (by decide), rfl, by decide +kernel, rfl, Or.inr ⟨rfl, gn_of (i := 131) (by decide +kernel) rfl⟩⟩
theorem fl_X2_77 : zFL RX2 77 7 710 (tyX9 10) false true true := ⟨6, 10, (RX9, TX9, 20), rfl, by decide, rfl, rfl, by decide, tyX9_ok 10 (by decide), rfl, by decide +kernel, rfl, Or.inr ⟨rfl, gn_of (i := 132) (by decide +kernel) rfl⟩⟩
theorem fl_X4_319 : zFL RX4 319 7 710 (tyX9 10) false true true := ⟨6, 10, (RX9, TX9, 20), rfl, by decide, rfl, rfl, by decide, tyX9_ok 10 (by decide), rfl, by decide +kernel, rfl, Or.inr ⟨rfl, gn_of (i := 133) (by decide +kernel) rfl⟩⟩
theorem fl_X12_194 : zFL RX12 194 7 711 (tyX9 11) false true true := ⟨6, 11, (RX9, TX9, 20), rfl, by decide, rfl, rfl, by decide, tyX9_ok 11 (by decide), rfl, by decide +kernel, rfl, Or.inr ⟨rfl, gn_of (i := 134) (by decide +kernel) rfl⟩⟩
theorem fl_X4_519 : zFL RX4 519 7 711 (tyX9 11) false true true := ⟨6, 11, (RX9, TX9, 20), rfl, by decide, rfl, rfl, by decide, tyX9_ok 11 (by decide), rfl, by decide +kernel, rfl, Or.inr ⟨rfl, gn_of (i := 135) (by decide +kernel) rfl⟩⟩
theorem fl_X4_516 : zFL RX4 516 7 712 (tyX9 12) false true true := ⟨6, 12, (RX9, TX9, 20), rfl, by decide, rfl, rfl, by decide, tyX9_ok 12 (by decide), rfl, by decide +kernel, rfl, Or.inr ⟨rfl, gn_of (i := 136) (by decide +kernel) rfl⟩⟩
theorem fl_X9_12 : zFL RX9 12 7 713 (tyX9 13) true true false := ⟨6, 13, (RX9, TX9, 20), rfl, by decide, rfl, rfl, by decide, tyX9_ok 13 (by decide), rfl, by decide +kernel, rfl, Or.inl ⟨rfl, wd_137⟩⟩
theorem fl_X4_359 : zFL RX4 359 7 713 (tyX9 13) true true true := ⟨6, 13, (RX9, TX9, 20), rfl, by decide, rfl, rfl, by decide, tyX9_ok 13 (by decide), rfl, by decide +kernel, rfl, Or.inr ⟨rfl, gn_of (i := 138) (by decide +kernel) rfl⟩⟩
theorem fl_X9_20 : zFL RX9 20 7 714 (tyX9 14) true true false := ⟨6, 14, (RX9, TX9, 20), rfl, by decide, rfl, rfl, by decide, tyX9_ok 14 (by decide), rfl, by decide +kernel, rfl, Or.inl ⟨rfl, wd_139⟩⟩
theorem fl_X9_29 : zFL RX9 29 7 715 (tyX9 15) false false false := ⟨6, 15, (RX9, TX9, 20), rfl, by decide, rfl, rfl, by decide, tyX9_ok 15 (by decide), rfl, by decide +kernel, rfl, Or.inl ⟨rfl, wd_140⟩⟩
theorem fl_X4_39 : zFL RX4 39 7 715 (tyX9 15) false false true := ⟨6, 15, (RX9, TX9, 20), rfl, by decide, rfl, rfl, by decide, tyX9_ok 15 (by decide), rfl, by decide +kernel, rfl, Or.inr ⟨rfl, gn_of (i := 141) (by decide +kernel) rfl⟩⟩
theorem fl_X4_206 : zFL RX4 206 7 716 (tyX9 16) false false true := ⟨6, 16, (RX9, TX9, 20), rfl, by decide, rfl, rfl, by decide, tyX9_ok 16 (by decide), rfl, by decide +kernel, rfl, Or.inr ⟨rfl, gn_of (i := 142) (by decide +kernel) rfl⟩⟩
theorem fl_X4_209 : zFL RX4 209 7 717 (tyX9 17) false false true := ⟨6, 17, (RX9, TX9, 20), rfl, by decide, rfl, rfl, by decide, tyX9_ok 17 (by decide), rfl, by decide +kernel, rfl, Or.inr ⟨rfl, gn_of (i := 143) (by decide +kernel) rfl⟩⟩
theorem fl_X4_218 : zFL RX4 218 7 718 (tyX9 18) false false true := ⟨6, 18, (RX9, TX9, 20), rfl, by decide, rfl, rfl, by decide, tyX9_ok 18 (by decide), rfl, by decide +kernel, rfl, Or.inr ⟨rfl, gn_of (i := 144) (by decide +kernel) rfl⟩⟩
theorem fl_X12_185 : zFL RX12 185 7 719 (tyX9 19) false false true := ⟨6, 19, (RX9, TX9, 20), rfl, by decide, rfl, rfl, by decide, tyX9_ok 19 (by decide), rfl, by decide +kernel, rfl, Or.inr ⟨rfl, gn_of (i := 145) (by decide +kernel) rfl⟩⟩
theorem fl_X4_250 : zFL RX4 250 7 719 (tyX9 19) false false true := ⟨6, 19, (RX9, TX9, 20), rfl, by decide, rfl, rfl, by decide, tyX9_ok 19 (by decide), rfl, by decide +kernel, rfl, Or.inr ⟨rfl, gn_of (i := 146) (by decide +kernel) rfl⟩⟩
theorem fl_X7_9 : zFL RX7 9 5 500 (tyX7 0) true false false := ⟨4, 0, (RX7, TX7, 20), rfl, by decide, rfl, rfl, by decide, tyX7_ok 0 (by decide), rfl, by decide +kernel, rfl, Or.inl ⟨rfl, wd_192⟩⟩
theorem fl_X7_15 : zFL RX7 15 5 501 (tyX7 1) true true false := ⟨4, 1, (RX7, TX7, 20), rfl, by decide, rfl, rfl, by decide, tyX7_ok 1 (by decide), rfl, by decide +kernel, rfl, Or.inl ⟨rfl, wd_193⟩⟩
theorem fl_X4_75 : zFL RX4 75 5 501 (tyX7 1) true true true := ⟨4, 1, (RX7, TX7, 20), rfl, by decide, rfl, rfl, by decide, tyX7_ok 1 (by decide), rfl, by decide +kernel, rfl, Or.inr ⟨rfl, gn_of (i := 194) (by decide +kernel) rfl⟩⟩
theorem fl_X12_114 : zFL RX12 114 5 501 (tyX7 1) true true true := ⟨4, 1, (RX7, TX7, 20), rfl, by decide, rfl, rfl, by decide, tyX7_ok 1 (by decide), rfl, by decide +kernel, rfl, Or.inr ⟨rfl, gn_of (i := 195) (by decide +kernel) rfl⟩⟩
theorem fl_X7_19 : zFL RX7 19 5 502 (tyX7 2) true false false := ⟨4, 2, (RX7, TX7, 20), rfl, by decide, rfl, rfl, by decide, tyX7_ok 2 (by decide), rfl, by decide +kernel, rfl, Or.inl ⟨rfl, wd_196⟩⟩
theorem fl_X4_227 : zFL RX4 227 5 502 (tyX7 2) true false true := ⟨4, 2, (RX7, TX7, 20), rfl, by decide, rfl, rfl, by decide, tyX7_ok 2 (by decide), rfl, by decide +kernel, rfl, Or.inr ⟨rfl, gn_of (i := 197) (by decide +kernel) rfl⟩⟩
theorem fl_X12_248 : zFL RX12 248 5 502 (tyX7 2) true false true := ⟨4, 2, (RX7, TX7, 20), rfl, by decide, rfl, rfl, by decide, tyX7_ok 2 (by decide), rfl, by decide +kernel, rfl, Or.inr ⟨rfl, gn_of (i := 198) (by decide +kernel) rfl⟩⟩
theorem fl_X7_22 : zFL RX7 22 5 503 (tyX7 3) true false false := ⟨4, 3, (RX7, TX7, 20), rfl, by decide, rfl, rfl, by decide, tyX7_ok 3 (by decide), rfl, by decide +kernel, rfl, Or.inl ⟨rfl, wd_199⟩⟩
theorem fl_X4_419 : zFL RX4 419 5 503 (tyX7 3) true false true := ⟨4, 3, (RX7, TX7, 20), rfl, by decide, rfl, rfl, by decide, tyX7_ok 3 (by decide), rfl, by decide +kernel, rfl, Or.inr ⟨rfl, gn_of (i := 200) (by decide +kernel) rfl⟩⟩
theorem fl_X12_261 : zFL RX12 261 5 503 (tyX7 3) true false true := ⟨4, 3, (RX7, TX7, 20), rfl, by decide, rfl, rfl, by decide, tyX7_ok 3 (by decide), rfl, by decide +kernel, rfl, Or.inr ⟨rfl, gn_of (i := 201) (by decide +kernel) rfl⟩⟩
theorem fl_X7_25 : zFL RX7 25 5 504 (tyX7 4) true true false := ⟨4, 4, (RX7, TX7, 20), rfl, by decide, rfl, rfl, by decide, tyX7_ok 4 (by decide), rfl, by decide +kernel, rfl, Or.inl ⟨rfl, wd_202⟩⟩
theorem fl_X12_131 : zFL RX12 131 5 504 (tyX7 4) true true true := ⟨4, 4, (RX7, TX7, 20), rfl, by decide, rfl, rfl, by decide, tyX7_ok 4 (by decide), rfl, by decide +kernel, rfl, Or.inr ⟨rfl, gn_of (i := 203) (by decide +kernel) rfl⟩⟩
theorem fl_X7_29 : zFL RX7 29 5 505 (tyX7 5) true true false := ⟨4, 5, (RX7, TX7, 20), rfl, by decide, rfl, rfl, by decide, tyX7_ok 5 (by decide), rfl, by decide +kernel, rfl, Or.inl ⟨rfl, wd_204⟩⟩
theorem fl_X6_41 : zFL RX6 41 5 505 (tyX7 5) true true true := ⟨4, 5, (RX7, TX7, 20), rfl, by decide, rfl, rfl, by decide, tyX7_ok 5 (by decide), rfl, by decide +kernel, rfl, Or.inr ⟨rfl, gn_of (i := 205) (by decide +kernel) rfl⟩⟩
theorem fl_X8_43 : zFL RX8 43 5 505 (tyX7 5) true true true := ⟨4, 5, (RX7, TX7, 20), rfl, by decide, rfl, rfl, by decide, tyX7_ok 5 (by decide), rfl, by decide +kernel, rfl, Or.inr ⟨rfl, gn_of (i := 206) (by decide +kernel) rfl⟩⟩
theorem fl_X4_127 : zFL RX4 127 5 505 (tyX7 5) true true true := ⟨4, 5, (RX7, TX7, 20), rfl, by decide, rfl, rfl, by decide, tyX7_ok 5 (by decide), rfl, by decide +kernel, rfl, Or.inr ⟨rfl, gn_of (i := 207) (by decide +kernel) rfl⟩⟩
theorem fl_X7_36 : zFL RX7 36 5 506 (tyX7 6) true true false := ⟨4, 6, (RX7, TX7, 20), rfl, by decide, rfl, rfl, by decide, tyX7_ok 6 (by decide), rfl, by decide +kernel, rfl, Or.inl ⟨rfl, wd_208⟩⟩
theorem fl_X12_101 : zFL RX12 101 5 506 (tyX7 6) true true true := ⟨4, 6, (RX7, TX7, 20), rfl, by decide, rfl, rfl, by decide, tyX7_ok 6 (by decide), rfl, by decide +kernel, rfl, Or.inr ⟨rfl, gn_of (i := 209) (by decide +kernel) rfl⟩⟩
theorem fl_X6_93 : zFL RX6 93 5 506 (tyX7 6) true true true := ⟨4, 6, (RX7, TX7, 20), rfl, by decide, rfl, rfl, by decide, tyX7_ok 6 (by decide), rfl, by decide +kernel, rfl, Or.inr ⟨rfl, gn_of (i := 210) (by decide +kernel) rfl⟩⟩
theorem fl_X4_425 : zFL RX4 425 5 506 (tyX7 6) true true true := ⟨4, 6, (RX7, TX7, 20), rfl, by decide, rfl, rfl, by decide, tyX7_ok 6 (by decide), rfl, by decide +kernel, rfl, Or.inr ⟨rfl, gn_of (i := 211) (by decide +kernel) rfl⟩⟩
theorem fl_X7_39 : zFL RX7 39 5 507 (tyX7 7) true true false := ⟨4, 7, (RX7, TX7, 20), rfl, by decide, rfl, rfl, by decide, tyX7_ok 7 (by decide), rfl, by decide +kernel, rfl, Or.inl ⟨rfl, wd_212⟩⟩
theorem fl_X12_105 : zFL RX12 105 5 507 (tyX7 7) true true true := ⟨4, 7, (RX7, TX7, 20), rfl, by decide, rfl, rfl, by decide, tyX7_ok 7 (by decide), rfl, by decide +kernel, rfl, Or.inr ⟨rfl, gn_of (i := 213) (by decide +kernel) rfl⟩⟩
theorem fl_X6_96 : zFL RX6 96 5 507 (tyX7 7) true true true := ⟨4, 7, (RX7, TX7, 20), rfl, by decide, rfl, rfl, by decide, tyX7_ok 7 (by decide), rfl, by decide +kernel, rfl, Or.inr ⟨rfl, gn_of (i := 214) (by decide +kernel) rfl⟩⟩
theorem fl_X4_441 : zFL RX4 441 5 507 (tyX7 7) true true true := ⟨4, 7, (RX7, TX7, 20), rfl, by decide, rfl, rfl, by decide, tyX7_ok 7 (by decide), rfl, by decide +kernel, rfl, Or.inr ⟨rfl, gn_of (i := 215) (by decide +kernel) rfl⟩⟩
theorem fl_X7_47 : zFL RX7 47 5 508 (tyX7 8) true true false := ⟨4, 8, (RX7, TX7, 20), rfl, by decide, rfl, rfl, by decide, tyX7_ok 8 (by decide), rfl, by decide +kernel, rfl, Or.inl ⟨rfl, wd_216⟩⟩
theorem fl_X4_32 : zFL RX4 32 5 508 (tyX7 8) true true true := ⟨4, 8, (RX7, TX7, 20), rfl, by decide, rfl, rfl, by decide, tyX7_ok 8 (by decide), rfl, by decide +kernel, rfl, Or.inr ⟨rfl, gn_of (i := 217) (by decide +kernel) rfl⟩⟩
theorem fl_X12_182 : zFL RX12 182 5 508 (tyX7 8) true true true := ⟨4, 8, (RX7, TX7, 20), rfl, by decide, rfl, rfl, by decide, tyX7_ok 8 (by decide), rfl, by decide +kernel, rfl, Or.inr ⟨rfl, gn_of (i := 218) (by decide +kernel) rfl⟩⟩
theorem fl_X7_51 : zFL RX7 51 5 509 (tyX7 9) true true false := ⟨4, 9, (RX7, TX7, 20), rfl, by decide, rfl, rfl, by decide, tyX7_ok 9 (by decide), rfl, by decide +kernel, rfl, Or.inl ⟨rfl, wd_219⟩⟩
theorem fl_X4_26 : zFL RX4 26 5 509 (tyX7 9) true true true := ⟨4, 9, (RX7, TX7, 20), rfl, by decide, rfl, rfl, by decide, tyX7_ok 9 (by decide), rfl, by decide +kernel, rfl, Or.inr ⟨rfl, gn_of (i := 220) (by decide +kernel) rfl⟩⟩
theorem fl_X8_35 : zFL RX8 35 5 510 (tyX7 10) false true true := ⟨4, 10, (RX7, TX7, 20), rfl, by decide, rfl, rfl, by decide, tyX7_ok 10 (by decide), rfl, by decide +kernel, rfl, Or.inr ⟨rfl, gn_of (i := 221) (by decide +kernel) rfl⟩⟩
theorem fl_X6_61 : zFL RX6 61 5 510 (tyX7 10) false true true := ⟨4, 10, (RX7, TX7, 20), rfl, by decide, rfl, rfl, by decide, tyX7_ok 10 (by decide), rfl, by decide +kernel, rfl, Or.inr ⟨rfl, gn_of (i := 222) (by decide +kernel) rfl⟩⟩
theorem fl_X7_80 : zFL RX7 80 5 510 (tyX7 10) false true false := ⟨4, 10, (RX7, TX7, 20), rfl, by decide, rfl, rfl, by decide, tyX7_ok 10 (by decide), rfl, by decide +kernel, rfl, Or.inl ⟨rfl, wd_223⟩⟩
theorem fl_X4_257 : zFL RX4 257 5 510 (tyX7 10) false true true := ⟨4, 10, (RX7, TX7, 20), rfl, by decide, rfl, rfl, by decide, tyX7_ok 10 (by decide), rfl, by decide +kernel, rfl, Or.inr ⟨rfl, gn_of (i := 224) (by decide +kernel) rfl⟩⟩
theorem fl_X7_83 : zFL RX7 83 5 511 (tyX7 11) false true false := ⟨4, 11, (RX7, TX7, 20), rfl, by decide, rfl, rfl, by decide, tyX7_ok 11 (by decide), rfl, by decide +kernel, rfl, Or.inl ⟨rfl, wd_225⟩⟩
theorem fl_X6_114 : zFL RX6 114 5 511 (tyX7 11) false true true := ⟨4, 11, (RX7, TX7, 20), rfl, by decide, rfl, rfl, by decide, tyX7_ok 11 (by decide), rfl, by decide +kernel, rfl, Or.inr ⟨rfl, gn_of (i := 226) (by decide +kernel) rfl⟩⟩
theorem fl_X4_290 : zFL RX4 290 5 511 (tyX7 11) false true true := ⟨4, 11, (RX7, TX7, 20), rfl, by decide, rfl, rfl, by decide, tyX7_ok 11 (by decide), rfl, by decide +kernel, rfl, Or.inr ⟨rfl, gn_of (i := 227) (by decide +kernel) rfl⟩⟩
theorem fl_X12_98 : zFL RX12 98 5 512 (tyX7 12) false false true := ⟨4, 12, (RX7, TX7, 20), rfl, by decide, rfl, rfl, by decide, tyX7_ok 12 (by decide), rfl, by decide +kernel, rfl, Or.inr ⟨rfl, gn_of (i := 228) (by decide +kernel) rfl⟩⟩
theorem fl_X6_90 : zFL RX6 90 5 512 (tyX7 12) false false true := ⟨4, 12, (RX7, TX7, 20), rfl, by decide, rfl, rfl, by decide, tyX7_ok 12 (by decide), rfl, by decide +kernel, rfl, Or.inr ⟨rfl, gn_of (i := 229) (by decide +kernel) rfl⟩⟩
theorem fl_X4_386 : zFL RX4 386 5 512 (tyX7 12) false false true := ⟨4, 12, (RX7, TX7, 20), rfl, by decide, rfl, rfl, by decide, tyX7_ok 12 (by decide), rfl, by decide +kernel, rfl, Or.inr ⟨rfl, gn_of (i := 230) (by decide +kernel) rfl⟩⟩
theorem fl_X4_203 : zFL RX4 203 5 513 (tyX7 13) false false true := ⟨4, 13, (RX7, TX7, 20), rfl, by decide, rfl, rfl, by decide, tyX7_ok 13 (by decide), rfl, by decide +kernel, rfl, Or.inr ⟨rfl, gn_of (i := 231) (by decide +kernel) rfl⟩⟩
theorem fl_X12_258 : zFL RX12 258 5 513 (tyX7 13) false false true := ⟨4, 13, (RX7, TX7, 20), rfl, by decide, rfl, rfl, by decide, tyX7_ok 13 (by decide), rfl, by decide +kernel, rfl, Or.inr ⟨rfl, gn_of (i := 232) (by decide +kernel) rfl⟩⟩
theorem fl_X7_63 : zFL RX7 63 5 514 (tyX7 14) false true false := ⟨4, 14, (RX7, TX7, 20), rfl, by decide, rfl, rfl, by decide, tyX7_ok 14 (by decide), rfl, by decide +kernel, rfl, Or.inl ⟨rfl, wd_233⟩⟩
theorem fl_X4_59 : zFL RX4 59 5 514 (tyX7 14) false true true := ⟨4, 14, (RX7, TX7, 20), rfl, by decide, rfl, rfl, by decide, tyX7_ok 14 (by decide), rfl, by decide +kernel, rfl, Or.inr ⟨rfl, gn_of (i := 234) (by decide +kernel) rfl⟩⟩
theorem fl_X6_65 : zFL RX6 65 5 514 (tyX7 14) false true true := ⟨4, 14, (RX7, TX7, 20), rfl, by decide, rfl, rfl, by decide, tyX7_ok 14 (by decide), rfl, by decide +kernel, rfl, Or.inr ⟨rfl, gn_of (i := 235) (by decide +kernel) rfl⟩⟩
theorem fl_X8_51 : zFL RX8 51 5 514 (tyX7 14) false true true := ⟨4, 14, (RX7, TX7, 20), rfl, by decide, rfl, rfl, by decide, tyX7_ok 14 (by decide), rfl, by decide +kernel, rfl, Or.inr ⟨rfl, gn_of (i := 236) (by decide +kernel) rfl⟩⟩
theorem fl_X12_166 : zFL RX12 166 5 514 (tyX7 14) false true true := ⟨4, 14, (RX7, TX7, 20), rfl, by decide, rfl, rfl, by decide, tyX7_ok 14 (by decide), rfl, by decide +kernel, rfl, Or.inr ⟨rfl, gn_of (i := 237) (by decide +kernel) rfl⟩⟩
theorem fl_X6_15 : zFL RX6 15 5 515 (tyX7 15) false false true := ⟨4, 15, (RX7, TX7, 20), rfl, by decide, rfl, rfl, by decide, tyX7_ok 15 (by decide), rfl, by decide +kernel, rfl, Or.inr ⟨rfl, gn_of (i := 238) (by decide +kernel) rfl⟩⟩
theorem fl_X7_70 : zFL RX7 70 5 515 (tyX7 15) false false false := ⟨4, 15, (RX7, TX7, 20), rfl, by decide, rfl, rfl, by decide, tyX7_ok 15 (by decide), rfl, by decide +kernel, rfl, Or.inl ⟨rfl, wd_239⟩⟩
theorem fl_X4_182 : zFL RX4 182 5 515 (tyX7 15) false false true := ⟨4, 15, (RX7, TX7, 20), rfl, by decide, rfl, rfl, by decide, tyX7_ok 15 (by decide), rfl, by decide +kernel, rfl, Or.inr ⟨rfl, gn_of (i := 240) (by decide +kernel) rfl⟩⟩
theorem fl_X4_151 : zFL RX4 151 5 516 (tyX7 16) false false true := ⟨4, 16, (RX7, TX7, 20), rfl, by decide, rfl, rfl, by decide, tyX7_ok 16 (by decide), rfl, by decide +kernel, rfl, Or.inr ⟨rfl, gn_of (i := 241) (by decide +kernel) rfl⟩⟩
theorem fl_X7_135 : zFL RX7 135 5 516 (tyX7 16) false false false := ⟨4, 16, (RX7, TX7, 20), rfl, by decide, rfl, rfl, by decide, tyX7_ok 16 (by decide), rfl, by decide +kernel, rfl, Or.inl ⟨rfl, wd_242⟩⟩
theorem fl_X12_178 : zFL RX12 178 5 517 (tyX7 17) false false true := ⟨4, 17, (RX7, TX7, 20), rfl, by decide, rfl, rfl, by decide, tyX7_ok 17 (by decide), rfl, by decide +kernel, rfl, Or.inr ⟨rfl, gn_of (i := 243) (by decide +kernel) rfl⟩⟩
theorem fl_X4_212 : zFL RX4 212 5 517 (tyX7 17) false false true := ⟨4, 17, (RX7, TX7, 20), rfl, by decide, rfl, rfl, by decide, tyX7_ok 17 (by decide), rfl, by decide +kernel, rfl, Or.inr ⟨rfl, gn_of (i := 244) (by decide +kernel) rfl⟩⟩
theorem fl_X7_126 : zFL RX7 126 5 517 (tyX7 17) false false false := ⟨4, 17, (RX7, TX7, 20), rfl, by decide, rfl, rfl, by decide, tyX7_ok 17 (by decide), rfl, by decide +kernel, rfl, Or.inl ⟨rfl, wd_245⟩⟩
theorem fl_X6_9 : zFL RX6 9 5 518 (tyX7 18) false false true := ⟨4, 18, (RX7, TX7, 20), rfl, by decide, rfl, rfl, by decide, tyX7_ok 18 (by decide), rfl, by decide +kernel, rfl, Or.inr ⟨rfl, gn_of (i := 246) (by decide +kernel) rfl⟩⟩
theorem fl_X7_98 : zFL RX7 98 5 518 (tyX7 18) false false false := ⟨4, 18, (RX7, TX7, 20), rfl, by decide, rfl, rfl, by decide, tyX7_ok 18 (by decide), rfl, by decide +kernel, rfl, Or.inl ⟨rfl, wd_247⟩⟩
theorem fl_X6_32 : zFL RX6 32 5 519 (tyX7 19) false false true := ⟨4, 19, (RX7, TX7, 20), rfl, by decide, rfl, rfl, by decide, tyX7_ok 19 (by decide), rfl, by decide +kernel, rfl, Or.inr ⟨rfl, gn_of (i := 248) (by decide +kernel) rfl⟩⟩
theorem fl_X7_101 : zFL RX7 101 5 519 (tyX7 19) false false false := ⟨4, 19, (RX7, TX7, 20), rfl, by decide, rfl, rfl, by decide, tyX7_ok 19 (by decide), rfl, by decide +kernel, rfl, Or.inl ⟨rfl, wd_249⟩⟩
theorem cl_X12_14 : zCl0 RX12 14 yX10_init mX10_init 0 true := ⟨wd_295, wd_8, by decide, ⟨by decide, by decide, by decide +kernel⟩, Or.inr ⟨rfl, gn_of (i := 293) (by decide +kernel) rfl⟩⟩
theorem im_X10_init : Cond.instanceMethod yX10_init ∈ gwl := wd_294
theorem fl_X10_11 : zFL RX10 11 8 800 (tyX10 0) true true false := ⟨7, 0, (RX10, TX10, 7), rfl, by decide, rfl, rfl, by decide, tyX10_ok 0 (by decide), rfl, by decide +kernel, rfl, Or.inl ⟨rfl, wd_297⟩⟩
theorem fl_X10_15 : zFL RX10 15 8 801 (tyX10 1) true true false := ⟨7, 1, (RX10, TX10, 7), rfl, by decide, rfl, rfl, by decide, tyX10_ok 1 (by decide), rfl, by decide +kernel, rfl, Or.inl ⟨rfl, wd_298⟩⟩
theorem fl_X10_24 : zFL RX10 24 8 802 (tyX10 2) false false false := ⟨7, 2, (RX10, TX10, 7), rfl, by decide, rfl, rfl, by decide, tyX10_ok 2 (by decide), rfl, by decide +kernel, rfl, Or.inl ⟨rfl, wd_299⟩⟩
theorem fl_X4_575 : zFL RX4 575 8 802 (tyX10 2) false false true := ⟨7, 2, (RX10, TX10, 7), rfl, by decide, rfl, rfl, by decide, tyX10_ok 2 (by decide), rfl, by decide +kernel, rfl, Or.inr ⟨rfl, gn_of (i := 300) (by decide +kernel) rfl⟩⟩
theorem fl_X10_18 : zFL RX10 18 8 803 (tyX10 3) true true false := ⟨7, 3, (RX10, TX10, 7), rfl, by decide, rfl, rfl, by decide, tyX10_ok 3 (by decide), rfl, by decide +kernel, rfl, Or.inl ⟨rfl, wd_301⟩⟩
theorem fl_X10_28 : zFL RX10 28 8 804 (tyX10 4) false false false := ⟨7, 4, (RX10, TX10, 7), rfl, by decide, rfl, rfl, by decide, tyX10_ok 4 (by decide), rfl, by decide +kernel, rfl, Or.inl ⟨rfl, wd_302⟩⟩
theorem fl_X10_21 : zFL RX10 21 8 805 (tyX10 5) true true false := ⟨7, 5, (RX10, TX10, 7), rfl, by decide, rfl, rfl, by decide, tyX10_ok 5 (by decide), rfl, by decide +kernel, rfl, Or.inl ⟨rfl, wd_303⟩⟩
theorem fl_X10_44 : zFL RX10 44 8 806 (tyX10 6) false false false := ⟨7, 6, (RX10, TX10, 7), rfl, by decide, rfl, rfl, by decide, tyX10_ok 6 (by decide), rfl, by decide +kernel, rfl, Or.inl ⟨rfl, wd_304⟩⟩
theorem cl_X12_15 : zCl0 RX12 15 yX7_assignRoles mX7_assignRoles 1 true := ⟨wd_322, wd_2, by decide, ⟨by decide, by decide, by decide +kernel⟩, Or.inr ⟨rfl, gn_of (i := 320) (by decide +kernel) rfl⟩⟩
theorem st_X7_assignRoles : Cond.static yX7_assignRoles ∈ gwl := wd_321
theorem cl_X7_104 : zCl0 RX7 104 yX7_assignRole mX7_assignRole 0 false := ⟨wd_326, wd_2, by decide, ⟨by decide, by decide, by decide +kernel⟩, Or.inl ⟨rfl, wd_323⟩⟩
theorem im_X7_assignRole : Cond.instanceMethod yX7_assignRole ∈ gwl := wd_325
theorem cl_X7_111 : zCl0 RX7 111 yX7_findKind mX7_findKind 0 false := ⟨wd_330, wd_2, by decide, ⟨by decide, by decide, by decide +kernel⟩, Or.inl ⟨rfl, wd_327⟩⟩
theorem im_X7_findKind : Cond.instanceMethod yX7_findKind ∈ gwl := wd_329
theorem cl_X7_66 : zCl0 RX7 66 yX7_isText mX7_isText 0 false := ⟨wd_336, wd_2, by decide, ⟨by decide, by decide, by decide +kernel⟩, Or.inl ⟨rfl, wd_333⟩⟩
theorem im_X7_isText : Cond.instanceMethod yX7_isText ∈ gwl := wd_335
theorem cl_X7_115 : zCl0 RX7 115 yX7_countsFor mX7_countsFor 1 false := ⟨wd_352, wd_2, by decide, ⟨by decide, by decide, by decide +kernel⟩, Or.inl ⟨rfl, wd_349⟩⟩
theorem im_X7_countsFor : Cond.instanceMethod yX7_countsFor ∈ gwl := wd_351
theorem im_Jx29ce0_ordinal_8abf5 : Cond.instanceMethod yJx29ce0_ordinal_8abf5 ∈ gwl := wd_359
theorem cl_X7_119 : zCl0 RX7 119 yX7_isInColumns mX7_isInColumns 0 false := ⟨wd_364, wd_2, by decide, ⟨by decide, by decide, by decide +kernel⟩, Or.inl ⟨rfl, wd_361⟩⟩
theorem im_X7_isInColumns : Cond.instanceMethod yX7_isInColumns ∈ gwl := wd_363
theorem cl_X7_122 : zCl0 RX7 122 yX7_countScrollsAround mX7_countScrollsAround 0 false := ⟨wd_368, wd_2, by decide, ⟨by decide, by decide, by decide +kernel⟩, Or.inl ⟨rfl, wd_365⟩⟩
theorem im_X7_countScrollsAround : Cond.instanceMethod yX7_countScrollsAround ∈ gwl := wd_367
theorem cl_X7_107 : zCl0 RX7 107 yX7_onward mX7_onward 3 false := ⟨wd_371, wd_2, by decide, ⟨by decide, by decide, by decide +kernel⟩, Or.inl ⟨rfl, wd_369⟩⟩
theorem st_X7_onward : Cond.static yX7_onward ∈ gwl := wd_370
theorem cl_X12_38 : zCl0 RX12 38 yX4_init mX4_init 2 true := ⟨wd_377, wd_10, by decide, ⟨by decide, by decide, by decide +kernel⟩, Or.inr ⟨rfl, gn_of (i := 375) (by decide +kernel) rfl⟩⟩
theorem im_X4_init : Cond.instanceMethod yX4_init ∈ gwl := wd_376
theorem cl_X4_25 : zCl0 RX4 25 yX2_init mX2_init 0 true := ⟨wd_384, wd_11, by decide, ⟨by decide, by decide, by decide +kernel⟩, Or.inr ⟨rfl, gn_of (i := 382) (by decide +kernel) rfl⟩⟩
theorem im_X2_init : Cond.instanceMethod yX2_init ∈ gwl := wd_383
theorem fl_X2_9 : zFL RX2 9 2 200 (tyX2 0) false false false := ⟨1, 0, (RX2, TX2, 20), rfl, by decide, rfl, rfl, by decide, tyX2_ok 0 (by decide), rfl, by decide +kernel, rfl, Or.inl ⟨rfl, wd_386⟩⟩
theorem fl_X4_322 : zFL RX4 322 2 200 (tyX2 0) false false true := ⟨1, 0, (RX2, TX2, 20), rfl, by decide, rfl, rfl, by decide, tyX2_ok 0 (by decide), rfl, by decide +kernel, rfl, Or.inr ⟨rfl, gn_of (i := 387) (by decide +kernel) rfl⟩⟩
theorem fl_X2_15 : zFL RX2 15 2 201 (tyX2 1) false false false := ⟨1, 1, (RX2, TX2, 20), rfl, by decide, rfl, rfl, by decide, tyX2_ok 1 (by decide), rfl, by decide +kernel, rfl, Or.inl ⟨rfl, wd_388⟩⟩
theorem fl_X2_18 : zFL RX2 18 2 202 (tyX2 2) false false false := ⟨1, 2, (RX2, TX2, 20), rfl, by decide, rfl, rfl, by decide, tyX2_ok 2 (by decide), rfl, by decide +kernel, rfl, Or.inl ⟨rfl, wd_389⟩⟩
theorem fl_X2_21 : zFL RX2 21 2 203 (tyX2 3) false true false := ⟨1, 3, (RX2, TX2, 20), rfl, by decide, rfl, rfl, by decide, tyX2_ok 3 (by decide), rfl, by decide +kernel, rfl, Or.inl ⟨rfl, wd_390⟩⟩
theorem fl_X4_316 : zFL RX4 316 2 203 (tyX2 3) false true true := ⟨1, 3, (RX2, TX2, 20), rfl, by decide, rfl, rfl, by decide, tyX2_ok 3 (by decide), rfl, by decide +kernel, rfl, Or.inr ⟨rfl, gn_of (i := 391) (by decide +kernel) rfl⟩⟩
theorem fl_X2_25 : zFL RX2 25 2 204 (tyX2 4) false true false := ⟨1, 4, (RX2, TX2, 20), rfl, by decide, rfl, rfl, by decide, tyX2_ok 4 (by decide), rfl, by decide +kernel, rfl, Or.inl ⟨rfl, wd_392⟩⟩
theorem fl_X2_29 : zFL RX2 29 2 205 (tyX2 5) false true false := ⟨1, 5, (RX2, TX2, 20), rfl, by decide, rfl, rfl, by decide, tyX2_ok 5 (by decide), rfl, by decide +kernel, rfl, Or.inl ⟨rfl, wd_393⟩⟩
theorem fl_X2_33 : zFL RX2 33 2 206 (tyX2 6) false false false := ⟨1, 6, (RX2, TX2, 20), rfl, by decide, rfl, rfl, by decide, tyX2_ok 6 (by decide), rfl, by decide +kernel, rfl, Or.inl ⟨rfl, wd_394⟩⟩
theorem fl_X4_247 : zFL RX4 247 2 206 (tyX2 6) false false true := ⟨1, 6, (RX2, TX2, 20), rfl, by decide, rfl, rfl, by decide, tyX2_ok 6 (by decide), rfl, by decide +kernel, rfl, Or.inr ⟨rfl, gn_of (i := 395) (by decide +kernel) rfl⟩⟩
theorem fl_X2_91 : zFL RX2 91 2 207 (tyX2 7) false false false := ⟨1, 7, (RX2, TX2, 20), rfl, by decide, rfl, rfl, by decide, tyX2_ok 7 (by decide), rfl, by decide +kernel, rfl, Or.inl ⟨rfl, wd_396⟩⟩
theorem fl_X4_260 : zFL RX4 260 2 207 (tyX2 7) false false true := ⟨1, 7, (RX2, TX2, 20), rfl, by decide, rfl, rfl, by decide, tyX2_ok 7 (by decide), rfl, by decide +kernel, rfl, Or.inr ⟨rfl, gn_of (i := 397) (by decide +kernel) rfl⟩⟩
theorem fl_X2_97 : zFL RX2 97 2 208 (tyX2 8) false false false := ⟨1, 8, (RX2, TX2, 20), rfl, by decide, rfl, rfl, by decide, tyX2_ok 8 (by decide), rfl, by decide +kernel, rfl, Or.inl ⟨rfl, wd_398⟩⟩
theorem fl_X4_261 : zFL RX4 261 2 208 (tyX2 8) false false true := ⟨1, 8, (RX2, TX2, 20), rfl, by decide, rfl, rfl, by decide, tyX2_ok 8 (by decide), rfl, by decide +kernel, rfl, Or.inr ⟨rfl, gn_of (i := 399) (by decide +kernel) rfl⟩⟩
theorem fl_X2_94 : zFL RX2 94 2 209 (tyX2 9) false false false := ⟨1, 9, (RX2, TX2, 20), rfl, by decide, rfl, rfl, by decide, tyX2_ok 9 (by decide), rfl, by decide +kernel, rfl, Or.inl ⟨rfl, wd_400⟩⟩
theorem fl_X4_347 : zFL RX4 347 2 209 (tyX2 9) false false true := ⟨1, 9, (RX2, TX2, 20), rfl, by decide, rfl, rfl, by decide, tyX2_ok 9 (by decide), rfl, by decide +kernel, rfl, Or.inr ⟨rfl, gn_of (i := 401) (by decide +kernel) rfl⟩⟩
theorem fl_X2_100 : zFL RX2 100 2 210 (tyX2 10) false false false := ⟨1, 10, (RX2, TX2, 20), rfl, by decide, rfl, rfl, by decide, tyX2_ok 10 (by decide), rfl, by decide +kernel, rfl, Or.inl ⟨rfl, wd_402⟩⟩
theorem fl_X4_372 : zFL RX4 372 2 210 (tyX2 10) false false true := ⟨1, 10, (RX2, TX2, 20), rfl, by decide, rfl, rfl, by decide, tyX2_ok 10 (by decide), rfl, by decide +kernel, rfl, Or.inr ⟨rfl, gn_of (i := 403) (by decide +kernel) rfl⟩⟩
theorem fl_X2_103 : zFL RX2 103 2 211 (tyX2 11) false false false := ⟨1, 11, (RX2, TX2, 20), rfl, by decide, rfl, rfl, by decide, tyX2_ok 11 (by decide), rfl, by decide +kernel, rfl, Or.inl ⟨rfl, wd_404⟩⟩
theorem fl_X4_469 : zFL RX4 469 2 211 (tyX2 11) false false true := ⟨1, 11, (RX2, TX2, 20), rfl, by decide, rfl, rfl, by decide, tyX2_ok 11 (by decide), rfl, by decide +kernel, rfl, Or.inr ⟨rfl, gn_of (i := 405) (by decide +kernel) rfl⟩⟩
theorem fl_X2_36 : zFL RX2 36 2 212 (tyX2 12) false true false := ⟨1, 12, (RX2, TX2, 20), rfl, by decide, rfl, rfl, by decide, tyX2_ok 12 (by decide), rfl, by decide +kernel, rfl, Or.inl ⟨rfl, wd_406⟩⟩
theorem fl_X4_479 : zFL RX4 479 2 212 (tyX2 12) false true true := ⟨1, 12, (RX2, TX2, 20), rfl, by decide, rfl, rfl, by decide, tyX2_ok 12 (by decide), rfl, by decide +kernel, rfl, Or.inr ⟨rfl, gn_of (i := 407) (by decide +kernel) rfl⟩⟩
theorem fl_X2_40 : zFL RX2 40 2 213 (tyX2 13) false false false := ⟨1, 13, (RX2, TX2, 20), rfl, by decide, rfl, rfl, by decide, tyX2_ok 13 (by decide), rfl, by decide +kernel, rfl, Or.inl ⟨rfl, wd_408⟩⟩
theorem fl_X4_454 : zFL RX4 454 2 213 (tyX2 13) false false true := ⟨1, 13, (RX2, TX2, 20), rfl, by decide, rfl, rfl, by decide, tyX2_ok 13 (by decide), rfl, by decide +kernel, rfl, Or.inr ⟨rfl, gn_of (i := 409) (by decide +kernel) rfl⟩⟩
theorem fl_X2_43 : zFL RX2 43 2 214 (tyX2 14) false false false := ⟨1, 14, (RX2, TX2, 20), rfl, by decide, rfl, rfl, by decide, tyX2_ok 14 (by decide), rfl, by decide +kernel, rfl, Or.inl ⟨rfl, wd_410⟩⟩
theorem fl_X4_486 : zFL RX4 486 2 214 (tyX2 14) false false true := ⟨1, 14, (RX2, TX2, 20), rfl, by decide, rfl, rfl, by decide, tyX2_ok 14 (by decide), rfl, by decide +kernel, rfl, Or.inr ⟨rfl, gn_of (i := 411) (by decide +kernel) rfl⟩⟩
theorem fl_X4_480 : zFL RX4 480 2 215 (tyX2 15) false false true := ⟨1, 15, (RX2, TX2, 20), rfl, by decide, rfl, rfl, by decide, tyX2_ok 15 (by decide), rfl, by decide +kernel, rfl, Or.inr ⟨rfl, gn_of (i := 412) (by decide +kernel) rfl⟩⟩
theorem fl_X4_481 : zFL RX4 481 2 216 (tyX2 16) false false true := ⟨1, 16, (RX2, TX2, 20), rfl, by decide, rfl, rfl, by decide, tyX2_ok 16 (by decide), rfl, by decide +kernel, rfl, Or.inr ⟨rfl, gn_of (i := 413) (by decide +kernel) rfl⟩⟩
theorem fl_X4_451 : zFL RX4 451 2 217 (tyX2 17) false false true := ⟨1, 17, (RX2, TX2, 20), rfl, by decide, rfl, rfl, by decide, tyX2_ok 17 (by decide), rfl, by decide +kernel, rfl, Or.inr ⟨rfl, gn_of (i := 414) (by decide +kernel) rfl⟩⟩
theorem fl_X2_46 : zFL RX2 46 2 218 (tyX2 18) false true false := ⟨1, 18, (RX2, TX2, 20), rfl, by decide, rfl, rfl, by decide, tyX2_ok 18 (by decide), rfl, by decide +kernel, rfl, Or.inl ⟨rfl, wd_415⟩⟩
theorem fl_X4_496 : zFL RX4 496 2 218 (tyX2 18) false true true := ⟨1, 18, (RX2, TX2, 20), rfl, by decide, rfl, rfl, by decide, tyX2_ok 18 (by decide), rfl, by decide +kernel, rfl, Or.inr ⟨rfl, gn_of (i := 416) (by decide +kernel) rfl⟩⟩
theorem fl_X2_49 : zFL RX2 49 2 219 (tyX2 19) false true false := ⟨1, 19, (RX2, TX2, 20), rfl, by decide, rfl, rfl, by decide, tyX2_ok 19 (by decide), rfl, by decide +kernel, rfl, Or.inl ⟨rfl, wd_417⟩⟩
theorem fl_X4_499 : zFL RX4 499 2 219 (tyX2 19) false true true := ⟨1, 19, (RX2, TX2, 20), rfl, by decide, rfl, rfl, by decide, tyX2_ok 19 (by decide), rfl, by decide +kernel, rfl, Or.inr ⟨rfl, gn_of (i := 418) (by decide +kernel) rfl⟩⟩
theorem fl_X4_9 : zFL RX4 9 3 300 (tyX4 0) true false false := ⟨2, 0, (RX4, TX4, 6), rfl, by decide, rfl, rfl, by decide, tyX4_ok 0 (by decide), rfl, by decide +kernel, rfl, Or.inl ⟨rfl, wd_460⟩⟩
theorem fl_X4_15 : zFL RX4 15 3 301 (tyX4 1) true true false := ⟨2, 1, (RX4, TX4, 6), rfl, by decide, rfl, rfl, by decide, tyX4_ok 1 (by decide), rfl, by decide +kernel, rfl, Or.inl ⟨rfl, wd_461⟩⟩
theorem fl_X4_21 : zFL RX4 21 3 302 (tyX4 2) true true false := ⟨2, 2, (RX4, TX4, 6), rfl, by decide, rfl, rfl, by decide, tyX4_ok 2 (by decide), rfl, by decide +kernel, rfl, Or.inl ⟨rfl, wd_462⟩⟩
theorem fl_X4_510 : zFL RX4 510 3 303 (tyX4 3) false true false := ⟨2, 3, (RX4, TX4, 6), rfl, by decide, rfl, rfl, by decide, tyX4_ok 3 (by decide), rfl, by decide +kernel, rfl, Or.inl ⟨rfl, wd_463⟩⟩
theorem fl_X4_49 : zFL RX4 49 3 304 (tyX4 4) false false false := ⟨2, 4, (RX4, TX4, 6), rfl, by decide, rfl, rfl, by decide, tyX4_ok 4 (by decide), rfl, by decide +kernel, rfl, Or.inl ⟨rfl, wd_464⟩⟩
theorem fl_X4_52 : zFL RX4 52 3 305 (tyX4 5) false false false := ⟨2, 5, (RX4, TX4, 6), rfl, by decide, rfl, rfl, by decide, tyX4_ok 5 (by decide), rfl, by decide +kernel, rfl, Or.inl ⟨rfl, wd_465⟩⟩
theorem cl_X12_50 : zCl0 RX12 50 yX8_init mX8_init 0 true := ⟨wd_483, wd_12, by decide, ⟨by decide, by decide, by decide +kernel⟩, Or.inr ⟨rfl, gn_of (i := 481) (by decide +kernel) rfl⟩⟩
theorem im_X8_init : Cond.instanceMethod yX8_init ∈ gwl := wd_482
theorem fl_X8_11 : zFL RX8 11 6 600 (tyX8 0) true true false := ⟨5, 0, (RX8, TX8, 2), rfl, by decide, rfl, rfl, by decide, tyX8_ok 0 (by decide), rfl, by decide +kernel, rfl, Or.inl ⟨rfl, wd_486⟩⟩
theorem fl_X8_17 : zFL RX8 17 6 601 (tyX8 1) false false false := ⟨5, 1, (RX8, TX8, 2), rfl, by decide, rfl, rfl, by decide, tyX8_ok 1 (by decide), rfl, by decide +kernel, rfl, Or.inl ⟨rfl, wd_487⟩⟩
theorem fl_X12_232 : zFL RX12 232 6 601 (tyX8 1) false false true := ⟨5, 1, (RX8, TX8, 2), rfl, by decide, rfl, rfl, by decide, tyX8_ok 1 (by decide), rfl, by decide +kernel, rfl, Or.inr ⟨rfl, gn_of (i := 488) (by decide +kernel) rfl⟩⟩
theorem cl_X12_55 : zCl0 RX12 55 yX4_layAll mX4_layAll 3 true := ⟨wd_497, wd_10, by decide, ⟨by decide, by decide, by decide +kernel⟩, Or.inr ⟨rfl, gn_of (i := 494) (by decide +kernel) rfl⟩⟩
theorem im_X4_layAll : Cond.instanceMethod yX4_layAll ∈ gwl := wd_496
theorem cl_X4_55 : zCl0 RX4 55 yX4_layOut mX4_layOut 3 false := ⟨wd_501, wd_10, by decide, ⟨by decide, by decide, by decide +kernel⟩, Or.inl ⟨rfl, wd_498⟩⟩
theorem im_X4_layOut : Cond.instanceMethod yX4_layOut ∈ gwl := wd_500
theorem cl_X4_35 : zCl0 RX4 35 yX4_placeOf mX4_placeOf 1 false := ⟨wd_505, wd_10, by decide, ⟨by decide, by decide, by decide +kernel⟩, Or.inl ⟨rfl, wd_502⟩⟩
theorem im_X4_placeOf : Cond.instanceMethod yX4_placeOf ∈ gwl := wd_504
theorem cl_X4_197 : zCl0 RX4 197 yX4_layTable mX4_layTable 2 false := ⟨wd_509, wd_10, by decide, ⟨by decide, by decide, by decide +kernel⟩, Or.inl ⟨rfl, wd_506⟩⟩
theorem im_X4_layTable : Cond.instanceMethod yX4_layTable ∈ gwl := wd_508
theorem cl_X4_522 : zCl0 RX4 522 yX6_countColumns mX6_countColumns 1 true := ⟨wd_512, wd_13, by decide, ⟨by decide, by decide, by decide +kernel⟩, Or.inr ⟨rfl, gn_of (i := 510) (by decide +kernel) rfl⟩⟩
theorem st_X6_countColumns : Cond.static yX6_countColumns ∈ gwl := wd_511
theorem cl_X4_525 : zCl0 RX4 525 yX4_placeEvenly mX4_placeEvenly 3 false := ⟨wd_521, wd_10, by decide, ⟨by decide, by decide, by decide +kernel⟩, Or.inl ⟨rfl, wd_518⟩⟩
theorem im_X4_placeEvenly : Cond.instanceMethod yX4_placeEvenly ∈ gwl := wd_520
theorem cl_X4_540 : zCl0 RX4 540 yX4_placeColumn mX4_placeColumn 4 false := ⟨wd_525, wd_10, by decide, ⟨by decide, by decide, by decide +kernel⟩, Or.inl ⟨rfl, wd_522⟩⟩
theorem im_X4_placeColumn : Cond.instanceMethod yX4_placeColumn ∈ gwl := wd_524
theorem cl_X4_553 : zCl0 RX4 553 yX6_cellAt mX6_cellAt 2 true := ⟨wd_528, wd_13, by decide, ⟨by decide, by decide, by decide +kernel⟩, Or.inr ⟨rfl, gn_of (i := 526) (by decide +kernel) rfl⟩⟩
theorem st_X6_cellAt : Cond.static yX6_cellAt ∈ gwl := wd_527
theorem cl_X4_325 : zCl0 RX4 325 yX7_flatEdges mX7_flatEdges 0 true := ⟨wd_532, wd_2, by decide, ⟨by decide, by decide, by decide +kernel⟩, Or.inr ⟨rfl, gn_of (i := 529) (by decide +kernel) rfl⟩⟩
theorem im_X7_flatEdges : Cond.instanceMethod yX7_flatEdges ∈ gwl := wd_531
theorem cl_X4_528 : zCl0 RX4 528 yX4_placeByContent mX4_placeByContent 3 false := ⟨wd_536, wd_10, by decide, ⟨by decide, by decide, by decide +kernel⟩, Or.inl ⟨rfl, wd_533⟩⟩
theorem im_X4_placeByContent : Cond.instanceMethod yX4_placeByContent ∈ gwl := wd_535
theorem cl_X4_544 : zCl0 RX4 544 yX6_leastOfColumn mX6_leastOfColumn 2 true := ⟨wd_539, wd_13, by decide, ⟨by decide, by decide, by decide +kernel⟩, Or.inr ⟨rfl, gn_of (i := 537) (by decide +kernel) rfl⟩⟩
theorem st_X6_leastOfColumn : Cond.static yX6_leastOfColumn ∈ gwl := wd_538
theorem cl_X6_124 : zCl0 RX6 124 yX6_cellAt mX6_cellAt 2 false := ⟨wd_528, wd_13, by decide, ⟨by decide, by decide, by decide +kernel⟩, Or.inl ⟨rfl, wd_540⟩⟩
theorem cl_X6_83 : zCl0 RX6 83 yX6_outerLeast mX6_outerLeast 1 false := ⟨wd_543, wd_13, by decide, ⟨by decide, by decide, by decide +kernel⟩, Or.inl ⟨rfl, wd_541⟩⟩
theorem st_X6_outerLeast : Cond.static yX6_outerLeast ∈ gwl := wd_542
theorem cl_X6_45 : zCl0 RX6 45 yX6_mostOf mX6_mostOf 1 false := ⟨wd_546, wd_13, by decide, ⟨by decide, by decide, by decide +kernel⟩, Or.inl ⟨rfl, wd_544⟩⟩
theorem st_X6_mostOf : Cond.static yX6_mostOf ∈ gwl := wd_545
theorem cl_X6_35 : zCl0 RX6 35 yX6_mostOfTable mX6_mostOfTable 1 false := ⟨wd_549, wd_13, by decide, ⟨by decide, by decide, by decide +kernel⟩, Or.inl ⟨rfl, wd_547⟩⟩
theorem st_X6_mostOfTable : Cond.static yX6_mostOfTable ∈ gwl := wd_548
theorem cl_X6_128 : zCl0 RX6 128 yX6_countColumns mX6_countColumns 1 false := ⟨wd_512, wd_13, by decide, ⟨by decide, by decide, by decide +kernel⟩, Or.inl ⟨rfl, wd_550⟩⟩
theorem cl_X6_138 : zCl0 RX6 138 yX6_mostOfColumn mX6_mostOfColumn 2 false := ⟨wd_553, wd_13, by decide, ⟨by decide, by decide, by decide +kernel⟩, Or.inl ⟨rfl, wd_551⟩⟩
theorem st_X6_mostOfColumn : Cond.static yX6_mostOfColumn ∈ gwl := wd_552
theorem cl_X6_111 : zCl0 RX6 111 yX6_outerMost mX6_outerMost 1 false := ⟨wd_556, wd_13, by decide, ⟨by decide, by decide, by decide +kernel⟩, Or.inl ⟨rfl, wd_554⟩⟩
theorem st_X6_outerMost : Cond.static yX6_outerMost ∈ gwl := wd_555
theorem cl_X6_48 : zCl0 RX6 48 yX6_leastOf mX6_leastOf 1 false := ⟨wd_559, wd_13, by decide, ⟨by decide, by decide, by decide +kernel⟩, Or.inl ⟨rfl, wd_557⟩⟩
theorem st_X6_leastOf : Cond.static yX6_leastOf ∈ gwl := wd_558
theorem cl_X6_19 : zCl0 RX6 19 yX6_leastOfTable mX6_leastOfTable 1 false := ⟨wd_562, wd_13, by decide, ⟨by decide, by decide, by decide +kernel⟩, Or.inl ⟨rfl, wd_560⟩⟩
theorem st_X6_leastOfTable : Cond.static yX6_leastOfTable ∈ gwl := wd_561
theorem cl_X6_131 : zCl0 RX6 131 yX6_leastOfColumn mX6_leastOfColumn 2 false := ⟨wd_539, wd_13, by decide, ⟨by decide, by decide, by decide +kernel⟩, Or.inl ⟨rfl, wd_563⟩⟩
theorem cl_X6_134 : zCl0 RX6 134 yX6_besideEachOther mX6_besideEachOther 4 false := ⟨wd_566, wd_13, by decide, ⟨by decide, by decide, by decide +kernel⟩, Or.inl ⟨rfl, wd_564⟩⟩
theorem st_X6_besideEachOther : Cond.static yX6_besideEachOther ∈ gwl := wd_565
theorem cl_X6_25 : zCl0 RX6 25 yX6_leastInside mX6_leastInside 1 false := ⟨wd_569, wd_13, by decide, ⟨by decide, by decide, by decide +kernel⟩, Or.inl ⟨rfl, wd_567⟩⟩
theorem st_X6_leastInside : Cond.static yX6_leastInside ∈ gwl := wd_568
theorem cl_X6_74 : zCl0 RX6 74 yX6_leastOfWords mX6_leastOfWords 1 false := ⟨wd_573, wd_13, by decide, ⟨by decide, by decide, by decide +kernel⟩, Or.inl ⟨rfl, wd_571⟩⟩
theorem st_X6_leastOfWords : Cond.static yX6_leastOfWords ∈ gwl := wd_572
theorem cl_X6_86 : zCl0 RX6 86 yX7_onward mX7_onward 3 true := ⟨wd_371, wd_2, by decide, ⟨by decide, by decide, by decide +kernel⟩, Or.inr ⟨rfl, gn_of (i := 576) (by decide +kernel) rfl⟩⟩
theorem cl_X6_28 : zCl0 RX6 28 yX6_inColumns mX6_inColumns 2 false := ⟨wd_579, wd_13, by decide, ⟨by decide, by decide, by decide +kernel⟩, Or.inl ⟨rfl, wd_577⟩⟩
theorem st_X6_inColumns : Cond.static yX6_inColumns ∈ gwl := wd_578
theorem cl_X6_51 : zCl0 RX6 51 yX7_flatRim mX7_flatRim 0 true := ⟨wd_583, wd_2, by decide, ⟨by decide, by decide, by decide +kernel⟩, Or.inr ⟨rfl, gn_of (i := 580) (by decide +kernel) rfl⟩⟩
theorem im_X7_flatRim : Cond.instanceMethod yX7_flatRim ∈ gwl := wd_582
theorem cl_X6_38 : zCl0 RX6 38 yX6_mostInside mX6_mostInside 1 false := ⟨wd_586, wd_13, by decide, ⟨by decide, by decide, by decide +kernel⟩, Or.inl ⟨rfl, wd_584⟩⟩
theorem st_X6_mostInside : Cond.static yX6_mostInside ∈ gwl := wd_585
theorem cl_X6_99 : zCl0 RX6 99 yX3_isInLines mX3_isInLines 0 true := ⟨wd_591, wd_7, by decide, ⟨by decide, by decide, by decide +kernel⟩, Or.inr ⟨rfl, gn_of (i := 587) (by decide +kernel) rfl⟩⟩
theorem im_X3_isInLines : Cond.instanceMethod yX3_isInLines ∈ gwl := wd_589
theorem cl_X6_103 : zCl0 RX6 103 yX7_endOfRun mX7_endOfRun 1 true := ⟨wd_597, wd_2, by decide, ⟨by decide, by decide, by decide +kernel⟩, Or.inr ⟨rfl, gn_of (i := 595) (by decide +kernel) rfl⟩⟩
theorem st_X7_endOfRun : Cond.static yX7_endOfRun ∈ gwl := wd_596
theorem cl_X7_86 : zCl0 RX7 86 yX7_mayStandInRun mX7_mayStandInRun 0 false := ⟨wd_601, wd_2, by decide, ⟨by decide, by decide, by decide +kernel⟩, Or.inl ⟨rfl, wd_598⟩⟩
theorem im_X7_mayStandInRun : Cond.instanceMethod yX7_mayStandInRun ∈ gwl := wd_600
theorem cl_X7_89 : zCl0 RX7 89 yX3_isInLines mX3_isInLines 0 true := ⟨wd_591, wd_7, by decide, ⟨by decide, by decide, by decide +kernel⟩, Or.inr ⟨rfl, gn_of (i := 602) (by decide +kernel) rfl⟩⟩
theorem cl_X6_107 : zCl0 RX6 107 yX6_mostOfRun mX6_mostOfRun 2 false := ⟨wd_605, wd_13, by decide, ⟨by decide, by decide, by decide +kernel⟩, Or.inl ⟨rfl, wd_603⟩⟩
theorem st_X6_mostOfRun : Cond.static yX6_mostOfRun ∈ gwl := wd_604
theorem cl_X6_117 : zCl0 RX6 117 yX7_onwardInRun mX7_onwardInRun 2 true := ⟨wd_608, wd_2, by decide, ⟨by decide, by decide, by decide +kernel⟩, Or.inr ⟨rfl, gn_of (i := 606) (by decide +kernel) rfl⟩⟩
theorem st_X7_onwardInRun : Cond.static yX7_onwardInRun ∈ gwl := wd_607
theorem cl_X4_547 : zCl0 RX4 547 yX4_lackOf mX4_lackOf 2 false := ⟨wd_611, wd_10, by decide, ⟨by decide, by decide, by decide +kernel⟩, Or.inl ⟨rfl, wd_609⟩⟩
theorem st_X4_lackOf : Cond.static yX4_lackOf ∈ gwl := wd_610
theorem cl_X4_550 : zCl0 RX4 550 yX6_mostOfColumn mX6_mostOfColumn 2 true := ⟨wd_553, wd_13, by decide, ⟨by decide, by decide, by decide +kernel⟩, Or.inr ⟨rfl, gn_of (i := 612) (by decide +kernel) rfl⟩⟩
theorem cl_X4_166 : zCl0 RX4 166 yX4_partOf mX4_partOf 3 false := ⟨wd_618, wd_10, by decide, ⟨by decide, by decide, by decide +kernel⟩, Or.inl ⟨rfl, wd_616⟩⟩
theorem st_X4_partOf : Cond.static yX4_partOf ∈ gwl := wd_617
theorem cl_X4_534 : zCl0 RX4 534 yX4_layRow mX4_layRow 2 false := ⟨wd_623, wd_10, by decide, ⟨by decide, by decide, by decide +kernel⟩, Or.inl ⟨rfl, wd_620⟩⟩
theorem im_X4_layRow : Cond.instanceMethod yX4_layRow ∈ gwl := wd_622
theorem cl_X4_101 : zCl0 RX4 101 yX4_heightIn mX4_heightIn 2 false := ⟨wd_627, wd_10, by decide, ⟨by decide, by decide, by decide +kernel⟩, Or.inl ⟨rfl, wd_625⟩⟩
theorem st_X4_heightIn : Cond.static yX4_heightIn ∈ gwl := wd_626
theorem cl_X4_353 : zCl0 RX4 353 yX7_uprightEdges mX7_uprightEdges 0 true := ⟨wd_631, wd_2, by decide, ⟨by decide, by decide, by decide +kernel⟩, Or.inr ⟨rfl, gn_of (i := 628) (by decide +kernel) rfl⟩⟩
theorem im_X7_uprightEdges : Cond.instanceMethod yX7_uprightEdges ∈ gwl := wd_630
theorem cl_X4_215 : zCl0 RX4 215 yX4_layWithBars mX4_layWithBars 2 false := ⟨wd_635, wd_10, by decide, ⟨by decide, by decide, by decide +kernel⟩, Or.inl ⟨rfl, wd_632⟩⟩
theorem im_X4_layWithBars : Cond.instanceMethod yX4_layWithBars ∈ gwl := wd_634
theorem cl_X4_224 : zCl0 RX4 224 yX4_flowContext mX4_flowContext 2 false := ⟨wd_639, wd_10, by decide, ⟨by decide, by decide, by decide +kernel⟩, Or.inl ⟨rfl, wd_636⟩⟩
theorem im_X4_flowContext : Cond.instanceMethod yX4_flowContext ∈ gwl := wd_638
theorem cl_X4_230 : zCl0 RX4 230 yX4_flowOf mX4_flowOf 1 false := ⟨wd_643, wd_10, by decide, ⟨by decide, by decide, by decide +kernel⟩, Or.inl ⟨rfl, wd_640⟩⟩
theorem im_X4_flowOf : Cond.instanceMethod yX4_flowOf ∈ gwl := wd_642
theorem cl_X4_234 : zCl0 RX4 234 yX2_begin mX2_begin 0 true := ⟨wd_647, wd_11, by decide, ⟨by decide, by decide, by decide +kernel⟩, Or.inr ⟨rfl, gn_of (i := 644) (by decide +kernel) rfl⟩⟩
theorem im_X2_begin : Cond.instanceMethod yX2_begin ∈ gwl := wd_646
theorem cl_X4_237 : zCl0 RX4 237 yX4_flowContainer mX4_flowContainer 4 false := ⟨wd_652, wd_10, by decide, ⟨by decide, by decide, by decide +kernel⟩, Or.inl ⟨rfl, wd_649⟩⟩
theorem im_X4_flowContainer : Cond.instanceMethod yX4_flowContainer ∈ gwl := wd_651
theorem cl_X4_253 : zCl0 RX4 253 yX4_freeLines mX4_freeLines 1 false := ⟨wd_656, wd_10, by decide, ⟨by decide, by decide, by decide +kernel⟩, Or.inl ⟨rfl, wd_653⟩⟩
theorem im_X4_freeLines : Cond.instanceMethod yX4_freeLines ∈ gwl := wd_655
theorem cl_X4_262 : zCl0 RX4 262 yX3_isInLines mX3_isInLines 0 true := ⟨wd_591, wd_7, by decide, ⟨by decide, by decide, by decide +kernel⟩, Or.inr ⟨rfl, gn_of (i := 657) (by decide +kernel) rfl⟩⟩
theorem cl_X4_265 : zCl0 RX4 265 yX7_endOfRun mX7_endOfRun 1 true := ⟨wd_597, wd_2, by decide, ⟨by decide, by decide, by decide +kernel⟩, Or.inr ⟨rfl, gn_of (i := 658) (by decide +kernel) rfl⟩⟩
theorem cl_X4_268 : zCl0 RX4 268 yX4_hasThings mX4_hasThings 2 false := ⟨wd_661, wd_10, by decide, ⟨by decide, by decide, by decide +kernel⟩, Or.inl ⟨rfl, wd_659⟩⟩
theorem st_X4_hasThings : Cond.static yX4_hasThings ∈ gwl := wd_660
theorem cl_X4_389 : zCl0 RX4 389 yX7_onwardInRun mX7_onwardInRun 2 true := ⟨wd_608, wd_2, by decide, ⟨by decide, by decide, by decide +kernel⟩, Or.inr ⟨rfl, gn_of (i := 663) (by decide +kernel) rfl⟩⟩
theorem cl_X4_272 : zCl0 RX4 272 yX4_flowLines mX4_flowLines 4 false := ⟨wd_667, wd_10, by decide, ⟨by decide, by decide, by decide +kernel⟩, Or.inl ⟨rfl, wd_664⟩⟩
theorem im_X4_flowLines : Cond.instanceMethod yX4_flowLines ∈ gwl := wd_666
theorem cl_X4_241 : zCl0 RX4 241 yX2_endMargins mX2_endMargins 0 true := ⟨wd_671, wd_11, by decide, ⟨by decide, by decide, by decide +kernel⟩, Or.inr ⟨rfl, gn_of (i := 668) (by decide +kernel) rfl⟩⟩
theorem im_X2_endMargins : Cond.instanceMethod yX2_endMargins ∈ gwl := wd_670
theorem cl_X2_61 : zCl0 RX2 61 yX2_pendingY mX2_pendingY 0 false := ⟨wd_675, wd_11, by decide, ⟨by decide, by decide, by decide +kernel⟩, Or.inl ⟨rfl, wd_672⟩⟩
theorem im_X2_pendingY : Cond.instanceMethod yX2_pendingY ∈ gwl := wd_674
theorem cl_X2_65 : zCl0 RX2 65 yX2_dropMargins mX2_dropMargins 0 false := ⟨wd_679, wd_11, by decide, ⟨by decide, by decide, by decide +kernel⟩, Or.inl ⟨rfl, wd_676⟩⟩
theorem im_X2_dropMargins : Cond.instanceMethod yX2_dropMargins ∈ gwl := wd_678
theorem cl_X4_401 : zCl0 RX4 401 yX4_addWords mX4_addWords 3 false := ⟨wd_685, wd_10, by decide, ⟨by decide, by decide, by decide +kernel⟩, Or.inl ⟨rfl, wd_682⟩⟩
theorem im_X4_addWords : Cond.instanceMethod yX4_addWords ∈ gwl := wd_684
theorem cl_X4_422 : zCl0 RX4 422 yX4_shiftOf mX4_shiftOf 1 false := ⟨wd_688, wd_10, by decide, ⟨by decide, by decide, by decide +kernel⟩, Or.inl ⟨rfl, wd_686⟩⟩
theorem st_X4_shiftOf : Cond.static yX4_shiftOf ∈ gwl := wd_687
theorem cl_X4_121 : zCl0 RX4 121 yX7_isText mX7_isText 0 true := ⟨wd_336, wd_2, by decide, ⟨by decide, by decide, by decide +kernel⟩, Or.inr ⟨rfl, gn_of (i := 689) (by decide +kernel) rfl⟩⟩
theorem cl_X4_154 : zCl0 RX4 154 yX9_pieceAt mX9_pieceAt 1 true := ⟨wd_694, wd_3, by decide, ⟨by decide, by decide, by decide +kernel⟩, Or.inr ⟨rfl, gn_of (i := 691) (by decide +kernel) rfl⟩⟩
theorem im_X9_pieceAt : Cond.instanceMethod yX9_pieceAt ∈ gwl := wd_693
theorem cl_X4_444 : zCl0 RX4 444 yX4_addThing mX4_addThing 5 false := ⟨wd_698, wd_10, by decide, ⟨by decide, by decide, by decide +kernel⟩, Or.inl ⟨rfl, wd_695⟩⟩
theorem im_X4_addThing : Cond.instanceMethod yX4_addThing ∈ gwl := wd_697
theorem cl_X4_457 : zCl0 RX4 457 yX2_look mX2_look 2 true := ⟨wd_702, wd_11, by decide, ⟨by decide, by decide, by decide +kernel⟩, Or.inr ⟨rfl, gn_of (i := 699) (by decide +kernel) rfl⟩⟩
theorem im_X2_look : Cond.instanceMethod yX2_look ∈ gwl := wd_701
theorem cl_X2_106 : zCl0 RX2 106 yX1_reachesInto mX1_reachesInto 4 true := ⟨wd_707, wd_4, by decide, ⟨by decide, by decide, by decide +kernel⟩, Or.inr ⟨rfl, gn_of (i := 704) (by decide +kernel) rfl⟩⟩
theorem im_X1_reachesInto : Cond.instanceMethod yX1_reachesInto ∈ gwl := wd_706
theorem cl_X4_461 : zCl0 RX4 461 yX2_fits mX2_fits 1 true := ⟨wd_712, wd_11, by decide, ⟨by decide, by decide, by decide +kernel⟩, Or.inr ⟨rfl, gn_of (i := 709) (by decide +kernel) rfl⟩⟩
theorem im_X2_fits : Cond.instanceMethod yX2_fits ∈ gwl := wd_711
theorem cl_X2_133 : zCl0 RX2 133 yX2_nextOffset mX2_nextOffset 0 false := ⟨wd_716, wd_11, by decide, ⟨by decide, by decide, by decide +kernel⟩, Or.inl ⟨rfl, wd_713⟩⟩
theorem im_X2_nextOffset : Cond.instanceMethod yX2_nextOffset ∈ gwl := wd_715
theorem cl_X2_118 : zCl0 RX2 118 yX2_band mX2_band 0 false := ⟨wd_720, wd_11, by decide, ⟨by decide, by decide, by decide +kernel⟩, Or.inl ⟨rfl, wd_717⟩⟩
theorem im_X2_band : Cond.instanceMethod yX2_band ∈ gwl := wd_719
theorem cl_X4_465 : zCl0 RX4 465 yX4_putThing mX4_putThing 3 false := ⟨wd_724, wd_10, by decide, ⟨by decide, by decide, by decide +kernel⟩, Or.inl ⟨rfl, wd_721⟩⟩
theorem im_X4_putThing : Cond.instanceMethod yX4_putThing ∈ gwl := wd_723
theorem cl_X4_475 : zCl0 RX4 475 yX4_addLine mX4_addLine 1 false := ⟨wd_728, wd_10, by decide, ⟨by decide, by decide, by decide +kernel⟩, Or.inl ⟨rfl, wd_725⟩⟩
theorem im_X4_addLine : Cond.instanceMethod yX4_addLine ∈ gwl := wd_727
theorem cl_X4_513 : zCl0 RX4 513 yX5_init mX5_init 0 true := ⟨wd_733, wd_15, by decide, ⟨by decide, by decide, by decide +kernel⟩, Or.inr ⟨rfl, gn_of (i := 731) (by decide +kernel) rfl⟩⟩
theorem im_X5_init : Cond.instanceMethod yX5_init ∈ gwl := wd_732
theorem fl_X11_13 : zFL RX11 13 4 400 (tyX5 0) false false true := ⟨3, 0, (RX5, TX5, 6), rfl, by decide, rfl, rfl, by decide, tyX5_ok 0 (by decide), rfl, by decide +kernel, rfl, Or.inr ⟨rfl, gn_of (i := 735) (by decide +kernel) rfl⟩⟩
theorem fl_X12_210 : zFL RX12 210 4 400 (tyX5 0) false false true := ⟨3, 0, (RX5, TX5, 6), rfl, by decide, rfl, rfl, by decide, tyX5_ok 0 (by decide), rfl, by decide +kernel, rfl, Or.inr ⟨rfl, gn_of (i := 736) (by decide +kernel) rfl⟩⟩
theorem fl_X4_489 : zFL RX4 489 4 400 (tyX5 0) false false true := ⟨3, 0, (RX5, TX5, 6), rfl, by decide, rfl, rfl, by decide, tyX5_ok 0 (by decide), rfl, by decide +kernel, rfl, Or.inr ⟨rfl, gn_of (i := 737) (by decide +kernel) rfl⟩⟩
theorem fl_X11_22 : zFL RX11 22 4 401 (tyX5 1) false false true := ⟨3, 1, (RX5, TX5, 6), rfl, by decide, rfl, rfl, by decide, tyX5_ok 1 (by decide), rfl, by decide +kernel, rfl, Or.inr ⟨rfl, gn_of (i := 738) (by decide +kernel) rfl⟩⟩
theorem fl_X12_216 : zFL RX12 216 4 401 (tyX5 1) false false true := ⟨3, 1, (RX5, TX5, 6), rfl, by decide, rfl, rfl, by decide, tyX5_ok 1 (by decide), rfl, by decide +kernel, rfl, Or.inr ⟨rfl, gn_of (i := 739) (by decide +kernel) rfl⟩⟩
theorem fl_X4_492 : zFL RX4 492 4 401 (tyX5 1) false false true := ⟨3, 1, (RX5, TX5, 6), rfl, by decide, rfl, rfl, by decide, tyX5_ok 1 (by decide), rfl, by decide +kernel, rfl, Or.inr ⟨rfl, gn_of (i := 740) (by decide +kernel) rfl⟩⟩
theorem fl_X12_219 : zFL RX12 219 4 402 (tyX5 2) false false true := ⟨3, 2, (RX5, TX5, 6), rfl, by decide, rfl, rfl, by decide, tyX5_ok 2 (by decide), rfl, by decide +kernel, rfl, Or.inr ⟨rfl, gn_of (i := 741) (by decide +kernel) rfl⟩⟩
theorem fl_X4_493 : zFL RX4 493 4 402 (tyX5 2) false false true := ⟨3, 2, (RX5, TX5, 6), rfl, by decide, rfl, rfl, by decide, tyX5_ok 2 (by decide), rfl, by decide +kernel, rfl, Or.inr ⟨rfl, gn_of (i := 742) (by decide +kernel) rfl⟩⟩
theorem fl_X12_222 : zFL RX12 222 4 403 (tyX5 3) false false true := ⟨3, 3, (RX5, TX5, 6), rfl, by decide, rfl, rfl, by decide, tyX5_ok 3 (by decide), rfl, by decide +kernel, rfl, Or.inr ⟨rfl, gn_of (i := 743) (by decide +kernel) rfl⟩⟩
theorem fl_X4_495 : zFL RX4 495 4 403 (tyX5 3) false false true := ⟨3, 3, (RX5, TX5, 6), rfl, by decide, rfl, rfl, by decide, tyX5_ok 3 (by decide), rfl, by decide +kernel, rfl, Or.inr ⟨rfl, gn_of (i := 744) (by decide +kernel) rfl⟩⟩
theorem fl_X11_25 : zFL RX11 25 4 404 (tyX5 4) false false true := ⟨3, 4, (RX5, TX5, 6), rfl, by decide, rfl, rfl, by decide, tyX5_ok 4 (by decide), rfl, by decide +kernel, rfl, Or.inr ⟨rfl, gn_of (i := 745) (by decide +kernel) rfl⟩⟩
theorem fl_X12_225 : zFL RX12 225 4 404 (tyX5 4) false false true := ⟨3, 4, (RX5, TX5, 6), rfl, by decide, rfl, rfl, by decide, tyX5_ok 4 (by decide), rfl, by decide +kernel, rfl, Or.inr ⟨rfl, gn_of (i := 746) (by decide +kernel) rfl⟩⟩
theorem fl_X4_494 : zFL RX4 494 4 404 (tyX5 4) false false true := ⟨3, 4, (RX5, TX5, 6), rfl, by decide, rfl, rfl, by decide, tyX5_ok 4 (by decide), rfl, by decide +kernel, rfl, Or.inr ⟨rfl, gn_of (i := 747) (by decide +kernel) rfl⟩⟩
theorem fl_X12_198 : zFL RX12 198 4 405 (tyX5 5) false true true := ⟨3, 5, (RX5, TX5, 6), rfl, by decide, rfl, rfl, by decide, tyX5_ok 5 (by decide), rfl, by decide +kernel, rfl, Or.inr ⟨rfl, gn_of (i := 748) (by decide +kernel) rfl⟩⟩
theorem fl_X4_514 : zFL RX4 514 4 405 (tyX5 5) false true true := ⟨3, 5, (RX5, TX5, 6), rfl, by decide, rfl, rfl, by decide, tyX5_ok 5 (by decide), rfl, by decide +kernel, rfl, Or.inr ⟨rfl, gn_of (i := 749) (by decide +kernel) rfl⟩⟩
theorem cl_X4_483 : zCl0 RX4 483 yX2_nextOffset mX2_nextOffset 0 true := ⟨wd_716, wd_11, by decide, ⟨by decide, by decide, by decide +kernel⟩, Or.inr ⟨rfl, gn_of (i := 764) (by decide +kernel) rfl⟩⟩
theorem cl_X4_415 : zCl0 RX4 415 yX4_endLine mX4_endLine 1 false := ⟨wd_768, wd_10, by decide, ⟨by decide, by decide, by decide +kernel⟩, Or.inl ⟨rfl, wd_765⟩⟩
theorem im_X4_endLine : Cond.instanceMethod yX4_endLine ∈ gwl := wd_767
theorem cl_X4_328 : zCl0 RX4 328 yX2_reachTo mX2_reachTo 1 true := ⟨wd_772, wd_11, by decide, ⟨by decide, by decide, by decide +kernel⟩, Or.inr ⟨rfl, gn_of (i := 769) (by decide +kernel) rfl⟩⟩
theorem im_X2_reachTo : Cond.instanceMethod yX2_reachTo ∈ gwl := wd_771
theorem cl_X4_299 : zCl0 RX4 299 yX4_putFloat mX4_putFloat 3 false := ⟨wd_776, wd_10, by decide, ⟨by decide, by decide, by decide +kernel⟩, Or.inl ⟨rfl, wd_773⟩⟩
theorem im_X4_putFloat : Cond.instanceMethod yX4_putFloat ∈ gwl := wd_775
theorem cl_X4_90 : zCl0 RX4 90 yX7_flatRim mX7_flatRim 0 true := ⟨wd_583, wd_2, by decide, ⟨by decide, by decide, by decide +kernel⟩, Or.inr ⟨rfl, gn_of (i := 777) (by decide +kernel) rfl⟩⟩
theorem cl_X4_94 : zCl0 RX4 94 yX4_widthIn mX4_widthIn 3 false := ⟨wd_780, wd_10, by decide, ⟨by decide, by decide, by decide +kernel⟩, Or.inl ⟨rfl, wd_778⟩⟩
theorem st_X4_widthIn : Cond.static yX4_widthIn ∈ gwl := wd_779
theorem cl_X4_170 : zCl0 RX4 170 yX6_leastOf mX6_leastOf 1 true := ⟨wd_559, wd_13, by decide, ⟨by decide, by decide, by decide +kernel⟩, Or.inr ⟨rfl, gn_of (i := 781) (by decide +kernel) rfl⟩⟩
theorem cl_X4_176 : zCl0 RX4 176 yX6_mostOf mX6_mostOf 1 true := ⟨wd_546, wd_13, by decide, ⟨by decide, by decide, by decide +kernel⟩, Or.inr ⟨rfl, gn_of (i := 782) (by decide +kernel) rfl⟩⟩
theorem cl_X4_310 : zCl0 RX4 310 yX4_knownHeight mX4_knownHeight 1 false := ⟨wd_787, wd_10, by decide, ⟨by decide, by decide, by decide +kernel⟩, Or.inl ⟨rfl, wd_784⟩⟩
theorem im_X4_knownHeight : Cond.instanceMethod yX4_knownHeight ∈ gwl := wd_786
theorem cl_X4_356 : zCl0 RX4 356 yX7_uprightRim mX7_uprightRim 0 true := ⟨wd_791, wd_2, by decide, ⟨by decide, by decide, by decide +kernel⟩, Or.inr ⟨rfl, gn_of (i := 788) (by decide +kernel) rfl⟩⟩
theorem im_X7_uprightRim : Cond.instanceMethod yX7_uprightRim ∈ gwl := wd_790
theorem cl_X4_368 : zCl0 RX4 368 yX2_floatTop mX2_floatTop 1 true := ⟨wd_795, wd_11, by decide, ⟨by decide, by decide, by decide +kernel⟩, Or.inr ⟨rfl, gn_of (i := 792) (by decide +kernel) rfl⟩⟩
theorem im_X2_floatTop : Cond.instanceMethod yX2_floatTop ∈ gwl := wd_794
theorem cl_X4_344 : zCl0 RX4 344 yX2_findHeight mX2_findHeight 3 true := ⟨wd_799, wd_11, by decide, ⟨by decide, by decide, by decide +kernel⟩, Or.inr ⟨rfl, gn_of (i := 796) (by decide +kernel) rfl⟩⟩
theorem im_X2_findHeight : Cond.instanceMethod yX2_findHeight ∈ gwl := wd_798
theorem cl_X2_114 : zCl0 RX2 114 yX2_look mX2_look 2 false := ⟨wd_702, wd_11, by decide, ⟨by decide, by decide, by decide +kernel⟩, Or.inl ⟨rfl, wd_800⟩⟩
theorem cl_X2_121 : zCl0 RX2 121 yX2_nextLow mX2_nextLow 1 false := ⟨wd_804, wd_11, by decide, ⟨by decide, by decide, by decide +kernel⟩, Or.inl ⟨rfl, wd_801⟩⟩
theorem im_X2_nextLow : Cond.instanceMethod yX2_nextLow ∈ gwl := wd_803
theorem cl_X4_382 : zCl0 RX4 382 yX2_addFloat mX2_addFloat 1 true := ⟨wd_808, wd_11, by decide, ⟨by decide, by decide, by decide +kernel⟩, Or.inr ⟨rfl, gn_of (i := 805) (by decide +kernel) rfl⟩⟩
theorem im_X2_addFloat : Cond.instanceMethod yX2_addFloat ∈ gwl := wd_807
theorem cl_X2_126 : zCl0 RX2 126 yX2_reachTo mX2_reachTo 1 false := ⟨wd_772, wd_11, by decide, ⟨by decide, by decide, by decide +kernel⟩, Or.inl ⟨rfl, wd_809⟩⟩
theorem cl_X4_472 : zCl0 RX4 472 yX2_nextLow mX2_nextLow 1 true := ⟨wd_804, wd_11, by decide, ⟨by decide, by decide, by decide +kernel⟩, Or.inr ⟨rfl, gn_of (i := 810) (by decide +kernel) rfl⟩⟩
theorem cl_X4_405 : zCl0 RX4 405 yX4_addInlineBlock mX4_addInlineBlock 3 false := ⟨wd_814, wd_10, by decide, ⟨by decide, by decide, by decide +kernel⟩, Or.inl ⟨rfl, wd_811⟩⟩
theorem im_X4_addInlineBlock : Cond.instanceMethod yX4_addInlineBlock ∈ gwl := wd_813
theorem cl_X4_408 : zCl0 RX4 408 yX4_meetFloat mX4_meetFloat 2 false := ⟨wd_818, wd_10, by decide, ⟨by decide, by decide, by decide +kernel⟩, Or.inl ⟨rfl, wd_815⟩⟩
theorem im_X4_meetFloat : Cond.instanceMethod yX4_meetFloat ∈ gwl := wd_817
theorem cl_X4_350 : zCl0 RX4 350 yX2_band mX2_band 0 true := ⟨wd_720, wd_11, by decide, ⟨by decide, by decide, by decide +kernel⟩, Or.inr ⟨rfl, gn_of (i := 819) (by decide +kernel) rfl⟩⟩
theorem cl_X4_506 : zCl0 RX4 506 yX2_addLate mX2_addLate 2 true := ⟨wd_823, wd_11, by decide, ⟨by decide, by decide, by decide +kernel⟩, Or.inr ⟨rfl, gn_of (i := 820) (by decide +kernel) rfl⟩⟩
theorem im_X2_addLate : Cond.instanceMethod yX2_addLate ∈ gwl := wd_822
theorem cl_X4_412 : zCl0 RX4 412 yX4_meetAbsolute mX4_meetAbsolute 2 false := ⟨wd_827, wd_10, by decide, ⟨by decide, by decide, by decide +kernel⟩, Or.inl ⟨rfl, wd_824⟩⟩
theorem im_X4_meetAbsolute : Cond.instanceMethod yX4_meetAbsolute ∈ gwl := wd_826
theorem cl_X4_276 : zCl0 RX4 276 yX4_flowWithoutLines mX4_flowWithoutLines 3 false := ⟨wd_831, wd_10, by decide, ⟨by decide, by decide, by decide +kernel⟩, Or.inl ⟨rfl, wd_828⟩⟩
theorem im_X4_flowWithoutLines : Cond.instanceMethod yX4_flowWithoutLines ∈ gwl := wd_830
theorem cl_X4_280 : zCl0 RX4 280 yX4_flowOutside mX4_flowOutside 2 false := ⟨wd_835, wd_10, by decide, ⟨by decide, by decide, by decide +kernel⟩, Or.inl ⟨rfl, wd_832⟩⟩
theorem im_X4_flowOutside : Cond.instanceMethod yX4_flowOutside ∈ gwl := wd_834
theorem cl_X4_296 : zCl0 RX4 296 yX2_pendingY mX2_pendingY 0 true := ⟨wd_675, wd_11, by decide, ⟨by decide, by decide, by decide +kernel⟩, Or.inr ⟨rfl, gn_of (i := 837) (by decide +kernel) rfl⟩⟩
theorem cl_X4_284 : zCl0 RX4 284 yX4_flowContextBlock mX4_flowContextBlock 2 false := ⟨wd_842, wd_10, by decide, ⟨by decide, by decide, by decide +kernel⟩, Or.inl ⟨rfl, wd_839⟩⟩
theorem im_X4_flowContextBlock : Cond.instanceMethod yX4_flowContextBlock ∈ gwl := wd_841
theorem cl_X4_303 : zCl0 RX4 303 yX2_pend mX2_pend 1 true := ⟨wd_846, wd_11, by decide, ⟨by decide, by decide, by decide +kernel⟩, Or.inr ⟨rfl, gn_of (i := 843) (by decide +kernel) rfl⟩⟩
theorem im_X2_pend : Cond.instanceMethod yX2_pend ∈ gwl := wd_845
theorem cl_X4_307 : zCl0 RX4 307 yX2_clearFloats mX2_clearFloats 1 true := ⟨wd_850, wd_11, by decide, ⟨by decide, by decide, by decide +kernel⟩, Or.inr ⟨rfl, gn_of (i := 847) (by decide +kernel) rfl⟩⟩
theorem im_X2_clearFloats : Cond.instanceMethod yX2_clearFloats ∈ gwl := wd_849
theorem cl_X4_341 : zCl0 RX4 341 yX6_outerLeast mX6_outerLeast 1 true := ⟨wd_543, wd_13, by decide, ⟨by decide, by decide, by decide +kernel⟩, Or.inr ⟨rfl, gn_of (i := 851) (by decide +kernel) rfl⟩⟩
theorem cl_X4_287 : zCl0 RX4 287 yX4_flowPlainBlock mX4_flowPlainBlock 2 false := ⟨wd_855, wd_10, by decide, ⟨by decide, by decide, by decide +kernel⟩, Or.inl ⟨rfl, wd_852⟩⟩
theorem im_X4_flowPlainBlock : Cond.instanceMethod yX4_flowPlainBlock ∈ gwl := wd_854
theorem cl_X4_331 : zCl0 RX4 331 yX4_endHeldBlock mX4_endHeldBlock 3 false := ⟨wd_858, wd_10, by decide, ⟨by decide, by decide, by decide +kernel⟩, Or.inl ⟨rfl, wd_856⟩⟩
theorem st_X4_endHeldBlock : Cond.static yX4_endHeldBlock ∈ gwl := wd_857
theorem cl_X4_338 : zCl0 RX4 338 yX2_dropMargins mX2_dropMargins 0 true := ⟨wd_679, wd_11, by decide, ⟨by decide, by decide, by decide +kernel⟩, Or.inr ⟨rfl, gn_of (i := 859) (by decide +kernel) rfl⟩⟩
theorem cl_X4_335 : zCl0 RX4 335 yX4_endWaitingBlock mX4_endWaitingBlock 3 false := ⟨wd_862, wd_10, by decide, ⟨by decide, by decide, by decide +kernel⟩, Or.inl ⟨rfl, wd_860⟩⟩
theorem st_X4_endWaitingBlock : Cond.static yX4_endWaitingBlock ∈ gwl := wd_861
theorem cl_X4_244 : zCl0 RX4 244 yX2_contentHeight mX2_contentHeight 0 true := ⟨wd_866, wd_11, by decide, ⟨by decide, by decide, by decide +kernel⟩, Or.inr ⟨rfl, gn_of (i := 863) (by decide +kernel) rfl⟩⟩
theorem im_X2_contentHeight : Cond.instanceMethod yX2_contentHeight ∈ gwl := wd_865
theorem cl_X4_221 : zCl0 RX4 221 yX4_layInColumns mX4_layInColumns 2 false := ⟨wd_870, wd_10, by decide, ⟨by decide, by decide, by decide +kernel⟩, Or.inl ⟨rfl, wd_867⟩⟩
theorem im_X4_layInColumns : Cond.instanceMethod yX4_layInColumns ∈ gwl := wd_869
theorem cl_X4_557 : zCl0 RX4 557 yX4_gatherItems mX4_gatherItems 1 false := ⟨wd_874, wd_10, by decide, ⟨by decide, by decide, by decide +kernel⟩, Or.inl ⟨rfl, wd_871⟩⟩
theorem im_X4_gatherItems : Cond.instanceMethod yX4_gatherItems ∈ gwl := wd_873
theorem cl_X4_578 : zCl0 RX4 578 yX4_gatherLines mX4_gatherLines 1 false := ⟨wd_878, wd_10, by decide, ⟨by decide, by decide, by decide +kernel⟩, Or.inl ⟨rfl, wd_875⟩⟩
theorem im_X4_gatherLines : Cond.instanceMethod yX4_gatherLines ∈ gwl := wd_877
theorem cl_X4_581 : zCl0 RX4 581 yX10_add mX10_add 2 true := ⟨wd_882, wd_8, by decide, ⟨by decide, by decide, by decide +kernel⟩, Or.inr ⟨rfl, gn_of (i := 879) (by decide +kernel) rfl⟩⟩
theorem im_X10_add : Cond.instanceMethod yX10_add ∈ gwl := wd_881
theorem cl_X4_145 : zCl0 RX4 145 yX4_inlineTop mX4_inlineTop 2 false := ⟨wd_885, wd_10, by decide, ⟨by decide, by decide, by decide +kernel⟩, Or.inl ⟨rfl, wd_883⟩⟩
theorem st_X4_inlineTop : Cond.static yX4_inlineTop ∈ gwl := wd_884
theorem cl_X4_163 : zCl0 RX4 163 yX11_topSide mX11_topSide 0 true := ⟨wd_889, wd_5, by decide, ⟨by decide, by decide, by decide +kernel⟩, Or.inr ⟨rfl, gn_of (i := 886) (by decide +kernel) rfl⟩⟩
theorem im_X11_topSide : Cond.instanceMethod yX11_topSide ∈ gwl := wd_888
theorem cl_X4_584 : zCl0 RX4 584 yX4_isFlownThrough mX4_isFlownThrough 1 false := ⟨wd_892, wd_10, by decide, ⟨by decide, by decide, by decide +kernel⟩, Or.inl ⟨rfl, wd_890⟩⟩
theorem st_X4_isFlownThrough : Cond.static yX4_isFlownThrough ∈ gwl := wd_891
theorem cl_X4_45 : zCl0 RX4 45 yX7_onward mX7_onward 3 true := ⟨wd_371, wd_2, by decide, ⟨by decide, by decide, by decide +kernel⟩, Or.inr ⟨rfl, gn_of (i := 893) (by decide +kernel) rfl⟩⟩
theorem cl_X4_560 : zCl0 RX4 560 yX10_findBreaks mX10_findBreaks 1 true := ⟨wd_897, wd_8, by decide, ⟨by decide, by decide, by decide +kernel⟩, Or.inr ⟨rfl, gn_of (i := 894) (by decide +kernel) rfl⟩⟩
theorem im_X10_findBreaks : Cond.instanceMethod yX10_findBreaks ∈ gwl := wd_896
theorem cl_X10_31 : zCl0 RX10 31 yX10_addPlace mX10_addPlace 2 false := ⟨wd_901, wd_8, by decide, ⟨by decide, by decide, by decide +kernel⟩, Or.inl ⟨rfl, wd_898⟩⟩
theorem im_X10_addPlace : Cond.instanceMethod yX10_addPlace ∈ gwl := wd_900
theorem cl_X10_35 : zCl0 RX10 35 yX10_keepWholeItems mX10_keepWholeItems 0 false := ⟨wd_905, wd_8, by decide, ⟨by decide, by decide, by decide +kernel⟩, Or.inl ⟨rfl, wd_902⟩⟩
theorem im_X10_keepWholeItems : Cond.instanceMethod yX10_keepWholeItems ∈ gwl := wd_904
theorem cl_X4_565 : zCl0 RX4 565 yX10_leastHeight mX10_leastHeight 1 true := ⟨wd_910, wd_8, by decide, ⟨by decide, by decide, by decide +kernel⟩, Or.inr ⟨rfl, gn_of (i := 907) (by decide +kernel) rfl⟩⟩
theorem im_X10_leastHeight : Cond.instanceMethod yX10_leastHeight ∈ gwl := wd_909
theorem cl_X10_50 : zCl0 RX10 50 yX10_split mX10_split 1 false := ⟨wd_915, wd_8, by decide, ⟨by decide, by decide, by decide +kernel⟩, Or.inl ⟨rfl, wd_912⟩⟩
theorem im_X10_split : Cond.instanceMethod yX10_split ∈ gwl := wd_914
theorem cl_X4_568 : zCl0 RX4 568 yX10_split mX10_split 1 true := ⟨wd_915, wd_8, by decide, ⟨by decide, by decide, by decide +kernel⟩, Or.inr ⟨rfl, gn_of (i := 916) (by decide +kernel) rfl⟩⟩
theorem cl_X4_571 : zCl0 RX4 571 yX4_moveToColumns mX4_moveToColumns 2 false := ⟨wd_920, wd_10, by decide, ⟨by decide, by decide, by decide +kernel⟩, Or.inl ⟨rfl, wd_917⟩⟩
theorem im_X4_moveToColumns : Cond.instanceMethod yX4_moveToColumns ∈ gwl := wd_919
theorem cl_X4_588 : zCl0 RX4 588 yX4_moveLines mX4_moveLines 2 false := ⟨wd_924, wd_10, by decide, ⟨by decide, by decide, by decide +kernel⟩, Or.inl ⟨rfl, wd_921⟩⟩
theorem im_X4_moveLines : Cond.instanceMethod yX4_moveLines ∈ gwl := wd_923
theorem cl_X4_592 : zCl0 RX4 592 yX10_columnAt mX10_columnAt 1 true := ⟨wd_928, wd_8, by decide, ⟨by decide, by decide, by decide +kernel⟩, Or.inr ⟨rfl, gn_of (i := 925) (by decide +kernel) rfl⟩⟩
theorem im_X10_columnAt : Cond.instanceMethod yX10_columnAt ∈ gwl := wd_927
theorem cl_X4_595 : zCl0 RX4 595 yX10_beginOf mX10_beginOf 1 true := ⟨wd_932, wd_8, by decide, ⟨by decide, by decide, by decide +kernel⟩, Or.inr ⟨rfl, gn_of (i := 929) (by decide +kernel) rfl⟩⟩
theorem im_X10_beginOf : Cond.instanceMethod yX10_beginOf ∈ gwl := wd_931
theorem cl_X4_68 : zCl0 RX4 68 yX4_layAbsolute mX4_layAbsolute 1 false := ⟨wd_936, wd_10, by decide, ⟨by decide, by decide, by decide +kernel⟩, Or.inl ⟨rfl, wd_933⟩⟩
theorem im_X4_layAbsolute : Cond.instanceMethod yX4_layAbsolute ∈ gwl := wd_935
theorem cl_X4_83 : zCl0 RX4 83 yX4_stackAround mX4_stackAround 1 false := ⟨wd_939, wd_10, by decide, ⟨by decide, by decide, by decide +kernel⟩, Or.inl ⟨rfl, wd_937⟩⟩
theorem st_X4_stackAround : Cond.static yX4_stackAround ∈ gwl := wd_938
theorem cl_X4_79 : zCl0 RX4 79 yX7_isStack mX7_isStack 0 true := ⟨wd_943, wd_2, by decide, ⟨by decide, by decide, by decide +kernel⟩, Or.inr ⟨rfl, gn_of (i := 940) (by decide +kernel) rfl⟩⟩
theorem im_X7_isStack : Cond.instanceMethod yX7_isStack ∈ gwl := wd_942
theorem cl_X4_72 : zCl0 RX4 72 yX4_settle mX4_settle 1 false := ⟨wd_947, wd_10, by decide, ⟨by decide, by decide, by decide +kernel⟩, Or.inl ⟨rfl, wd_944⟩⟩
theorem im_X4_settle : Cond.instanceMethod yX4_settle ∈ gwl := wd_946
theorem cl_X4_117 : zCl0 RX4 117 yX4_settleAbsolute mX4_settleAbsolute 3 false := ⟨wd_951, wd_10, by decide, ⟨by decide, by decide, by decide +kernel⟩, Or.inl ⟨rfl, wd_948⟩⟩
theorem im_X4_settleAbsolute : Cond.instanceMethod yX4_settleAbsolute ∈ gwl := wd_950
theorem cl_X4_124 : zCl0 RX4 124 yX4_settleInFlow mX4_settleInFlow 3 false := ⟨wd_955, wd_10, by decide, ⟨by decide, by decide, by decide +kernel⟩, Or.inl ⟨rfl, wd_952⟩⟩
theorem im_X4_settleInFlow : Cond.instanceMethod yX4_settleInFlow ∈ gwl := wd_954
theorem cl_X4_131 : zCl0 RX4 131 yX4_offsetOf mX4_offsetOf 1 false := ⟨wd_958, wd_10, by decide, ⟨by decide, by decide, by decide +kernel⟩, Or.inl ⟨rfl, wd_956⟩⟩
theorem st_X4_offsetOf : Cond.static yX4_offsetOf ∈ gwl := wd_957
theorem cl_X4_138 : zCl0 RX4 138 yX4_inlineLeft mX4_inlineLeft 2 false := ⟨wd_961, wd_10, by decide, ⟨by decide, by decide, by decide +kernel⟩, Or.inl ⟨rfl, wd_959⟩⟩
theorem st_X4_inlineLeft : Cond.static yX4_inlineLeft ∈ gwl := wd_960
theorem cl_X4_158 : zCl0 RX4 158 yX11_leftSide mX11_leftSide 0 true := ⟨wd_965, wd_5, by decide, ⟨by decide, by decide, by decide +kernel⟩, Or.inr ⟨rfl, gn_of (i := 962) (by decide +kernel) rfl⟩⟩
theorem im_X11_leftSide : Cond.instanceMethod yX11_leftSide ∈ gwl := wd_964
theorem cl_X12_65 : zCl0 RX12 65 yX8_arrange mX8_arrange 1 true := ⟨wd_969, wd_12, by decide, ⟨by decide, by decide, by decide +kernel⟩, Or.inr ⟨rfl, gn_of (i := 966) (by decide +kernel) rfl⟩⟩
theorem im_X8_arrange : Cond.instanceMethod yX8_arrange ∈ gwl := wd_968
theorem cl_X8_21 : zCl0 RX8 21 yX8_paintStack mX8_paintStack 1 false := ⟨wd_973, wd_12, by decide, ⟨by decide, by decide, by decide +kernel⟩, Or.inl ⟨rfl, wd_970⟩⟩
theorem im_X8_paintStack : Cond.instanceMethod yX8_paintStack ∈ gwl := wd_972
theorem cl_X8_25 : zCl0 RX8 25 yX8_add mX8_add 1 false := ⟨wd_977, wd_12, by decide, ⟨by decide, by decide, by decide +kernel⟩, Or.inl ⟨rfl, wd_974⟩⟩
theorem im_X8_add : Cond.instanceMethod yX8_add ∈ gwl := wd_976
theorem cl_X8_28 : zCl0 RX8 28 yX8_paintStacksIn mX8_paintStacksIn 2 false := ⟨wd_981, wd_12, by decide, ⟨by decide, by decide, by decide +kernel⟩, Or.inl ⟨rfl, wd_978⟩⟩
theorem im_X8_paintStacksIn : Cond.instanceMethod yX8_paintStacksIn ∈ gwl := wd_980
theorem cl_X8_39 : zCl0 RX8 39 yX7_isStack mX7_isStack 0 true := ⟨wd_943, wd_2, by decide, ⟨by decide, by decide, by decide +kernel⟩, Or.inr ⟨rfl, gn_of (i := 982) (by decide +kernel) rfl⟩⟩
theorem cl_X8_47 : zCl0 RX8 47 yX7_onward mX7_onward 3 true := ⟨wd_371, wd_2, by decide, ⟨by decide, by decide, by decide +kernel⟩, Or.inr ⟨rfl, gn_of (i := 983) (by decide +kernel) rfl⟩⟩
theorem cl_X8_32 : zCl0 RX8 32 yX8_paintInside mX8_paintInside 1 false := ⟨wd_987, wd_12, by decide, ⟨by decide, by decide, by decide +kernel⟩, Or.inl ⟨rfl, wd_984⟩⟩
theorem im_X8_paintInside : Cond.instanceMethod yX8_paintInside ∈ gwl := wd_986
theorem cl_X8_63 : zCl0 RX8 63 yX8_stepOf mX8_stepOf 1 false := ⟨wd_992, wd_12, by decide, ⟨by decide, by decide, by decide +kernel⟩, Or.inl ⟨rfl, wd_990⟩⟩
theorem st_X8_stepOf : Cond.static yX8_stepOf ∈ gwl := wd_991
theorem fl_X12_21 : zFL RX12 21 10 1000 (tyX12 0) true true false := ⟨9, 0, (RX12, TX12, 10), rfl, by decide, rfl, rfl, by decide, tyX12_ok 0 (by decide), rfl, by decide +kernel, rfl, Or.inl ⟨rfl, wd_995⟩⟩
theorem fl_X12_25 : zFL RX12 25 10 1001 (tyX12 1) true true false := ⟨9, 1, (RX12, TX12, 10), rfl, by decide, rfl, rfl, by decide, tyX12_ok 1 (by decide), rfl, by decide +kernel, rfl, Or.inl ⟨rfl, wd_996⟩⟩
theorem fl_X12_41 : zFL RX12 41 10 1002 (tyX12 2) true true false := ⟨9, 2, (RX12, TX12, 10), rfl, by decide, rfl, rfl, by decide, tyX12_ok 2 (by decide), rfl, by decide +kernel, rfl, Or.inl ⟨rfl, wd_997⟩⟩
theorem fl_X12_45 : zFL RX12 45 10 1003 (tyX12 3) true true false := ⟨9, 3, (RX12, TX12, 10), rfl, by decide, rfl, rfl, by decide, tyX12_ok 3 (by decide), rfl, by decide +kernel, rfl, Or.inl ⟨rfl, wd_998⟩⟩
theorem fl_X12_51 : zFL RX12 51 10 1004 (tyX12 4) true true false := ⟨9, 4, (RX12, TX12, 10), rfl, by decide, rfl, rfl, by decide, tyX12_ok 4 (by decide), rfl, by decide +kernel, rfl, Or.inl ⟨rfl, wd_999⟩⟩
theorem fl_X12_29 : zFL RX12 29 10 1005 (tyX12 5) false false false := ⟨9, 5, (RX12, TX12, 10), rfl, by decide, rfl, rfl, by decide, tyX12_ok 5 (by decide), rfl, by decide +kernel, rfl, Or.inl ⟨rfl, wd_1000⟩⟩
theorem fl_X12_33 : zFL RX12 33 10 1006 (tyX12 6) false false false := ⟨9, 6, (RX12, TX12, 10), rfl, by decide, rfl, rfl, by decide, tyX12_ok 6 (by decide), rfl, by decide +kernel, rfl, Or.inl ⟨rfl, wd_1001⟩⟩
theorem fl_X12_151 : zFL RX12 151 10 1007 (tyX12 7) false false false := ⟨9, 7, (RX12, TX12, 10), rfl, by decide, rfl, rfl, by decide, tyX12_ok 7 (by decide), rfl, by decide +kernel, rfl, Or.inl ⟨rfl, wd_1002⟩⟩
theorem fl_X12_62 : zFL RX12 62 10 1008 (tyX12 8) false false false := ⟨9, 8, (RX12, TX12, 10), rfl, by decide, rfl, rfl, by decide, tyX12_ok 8 (by decide), rfl, by decide +kernel, rfl, Or.inl ⟨rfl, wd_1003⟩⟩
theorem fl_X12_59 : zFL RX12 59 10 1009 (tyX12 9) false false false := ⟨9, 9, (RX12, TX12, 10), rfl, by decide, rfl, rfl, by decide, tyX12_ok 9 (by decide), rfl, by decide +kernel, rfl, Or.inl ⟨rfl, wd_1004⟩⟩
theorem cl_L_108 : zCl0 RL 108 yX12_page mX12_page 1 false := ⟨wd_1029, wd_1, by decide, ⟨by decide, by decide, by decide +kernel⟩, Or.inl ⟨rfl, wd_1026⟩⟩
theorem im_X12_page : Cond.instanceMethod yX12_page ∈ gwl := wd_1027
theorem se_X12_page : Cond.selects yX12_page.cls yX12_page yX12_page ∈ gwl := wd_1028
theorem cl_X12_89 : zCl0 RX12 89 yX12_layAgain mX12_layAgain 0 false := ⟨wd_1096, wd_1, by decide, ⟨by decide, by decide, by decide +kernel⟩, Or.inl ⟨rfl, wd_1093⟩⟩
theorem im_X12_layAgain : Cond.instanceMethod yX12_layAgain ∈ gwl := wd_1095
theorem cl_L_100 : zCl0 RL 100 yL_cell mL_cell 2 false := ⟨wd_1099, wd_0, by decide, ⟨by decide, by decide, by decide +kernel⟩, Or.inl ⟨rfl, wd_1097⟩⟩
theorem st_L_cell : Cond.static yL_cell ∈ gwl := wd_1098
theorem cl_L_81 : zCl0 RL 81 yL_low mL_low 2 false := ⟨wd_1104, wd_0, by decide, ⟨by decide, by decide, by decide +kernel⟩, Or.inl ⟨rfl, wd_1102⟩⟩
theorem st_L_low : Cond.static yL_low ∈ gwl := wd_1103
theorem cl_L_115 : zCl0 RL 115 yL_lays mL_lays 9 false := ⟨wd_1108, wd_0, by decide, ⟨by decide, by decide, by decide +kernel⟩, Or.inl ⟨rfl, wd_1106⟩⟩
theorem st_L_lays : Cond.static yL_lays ∈ gwl := wd_1107
theorem cl_L_28 : zCl0 RL 28 yL_next mL_next 4 false := ⟨wd_1111, wd_0, by decide, ⟨by decide, by decide, by decide +kernel⟩, Or.inl ⟨rfl, wd_1109⟩⟩
theorem st_L_next : Cond.static yL_next ∈ gwl := wd_1110
theorem cl_L_36 : zCl0 RL 36 yL_runs mL_runs 8 false := ⟨wd_1114, wd_0, by decide, ⟨by decide, by decide, by decide +kernel⟩, Or.inl ⟨rfl, wd_1112⟩⟩
theorem st_L_runs : Cond.static yL_runs ∈ gwl := wd_1113
theorem cl_L_16 : zCl0 RL 16 yL_ends mL_ends 2 false := ⟨wd_1117, wd_0, by decide, ⟨by decide, by decide, by decide +kernel⟩, Or.inl ⟨rfl, wd_1115⟩⟩
theorem st_L_ends : Cond.static yL_ends ∈ gwl := wd_1116
theorem cl_L_32 : zCl0 RL 32 yL_shuts mL_shuts 6 false := ⟨wd_1120, wd_0, by decide, ⟨by decide, by decide, by decide +kernel⟩, Or.inl ⟨rfl, wd_1118⟩⟩
theorem st_L_shuts : Cond.static yL_shuts ∈ gwl := wd_1119
theorem cl_L_24 : zCl0 RL 24 yL_inside mL_inside 3 false := ⟨wd_1123, wd_0, by decide, ⟨by decide, by decide, by decide +kernel⟩, Or.inl ⟨rfl, wd_1121⟩⟩
theorem st_L_inside : Cond.static yL_inside ∈ gwl := wd_1122
theorem cl_L_40 : zCl0 RL 40 yL_enters mL_enters 8 false := ⟨wd_1126, wd_0, by decide, ⟨by decide, by decide, by decide +kernel⟩, Or.inl ⟨rfl, wd_1124⟩⟩
theorem st_L_enters : Cond.static yL_enters ∈ gwl := wd_1125
theorem cl_L_10 : zCl0 RL 10 yL_pends mL_pends 2 false := ⟨wd_1129, wd_0, by decide, ⟨by decide, by decide, by decide +kernel⟩, Or.inl ⟨rfl, wd_1127⟩⟩
theorem st_L_pends : Cond.static yL_pends ∈ gwl := wd_1128
theorem cl_L_20 : zCl0 RL 20 yL_known mL_known 4 false := ⟨wd_1132, wd_0, by decide, ⟨by decide, by decide, by decide +kernel⟩, Or.inl ⟨rfl, wd_1130⟩⟩
theorem st_L_known : Cond.static yL_known ∈ gwl := wd_1131
theorem cl_L_44 : zCl0 RL 44 yL_leaves mL_leaves 6 false := ⟨wd_1135, wd_0, by decide, ⟨by decide, by decide, by decide +kernel⟩, Or.inl ⟨rfl, wd_1133⟩⟩
theorem st_L_leaves : Cond.static yL_leaves ∈ gwl := wd_1134
theorem cl_L_119 : zCl0 RL 119 yL_same mL_same 6 false := ⟨wd_1138, wd_0, by decide, ⟨by decide, by decide, by decide +kernel⟩, Or.inl ⟨rfl, wd_1136⟩⟩
theorem st_L_same : Cond.static yL_same ∈ gwl := wd_1137
theorem cl_L_48 : zCl0 RL 48 yX12_height mX12_height 1 false := ⟨wd_1142, wd_1, by decide, ⟨by decide, by decide, by decide +kernel⟩, Or.inl ⟨rfl, wd_1139⟩⟩
theorem im_X12_height : Cond.instanceMethod yX12_height ∈ gwl := wd_1140
theorem se_X12_height : Cond.selects yX12_height.cls yX12_height yX12_height ∈ gwl := wd_1141
theorem cl_X12_141 : zCl0 RX12 141 yX12_placedAt mX12_placedAt 1 false := ⟨wd_1146, wd_1, by decide, ⟨by decide, by decide, by decide +kernel⟩, Or.inl ⟨rfl, wd_1143⟩⟩
theorem im_X12_placedAt : Cond.instanceMethod yX12_placedAt ∈ gwl := wd_1145
theorem cl_X12_111 : zCl0 RX12 111 yX12_nodeAt mX12_nodeAt 1 false := ⟨wd_1150, wd_1, by decide, ⟨by decide, by decide, by decide +kernel⟩, Or.inl ⟨rfl, wd_1147⟩⟩
theorem im_X12_nodeAt : Cond.instanceMethod yX12_nodeAt ∈ gwl := wd_1149
theorem cl_X12_242 : zCl0 RX12 242 yX7_isText mX7_isText 0 true := ⟨wd_336, wd_2, by decide, ⟨by decide, by decide, by decide +kernel⟩, Or.inr ⟨rfl, gn_of (i := 1166) (by decide +kernel) rfl⟩⟩
theorem cl_X12_144 : zCl0 RX12 144 yX12_sideOf mX12_sideOf 3 false := ⟨wd_1186, wd_1, by decide, ⟨by decide, by decide, by decide +kernel⟩, Or.inl ⟨rfl, wd_1184⟩⟩
theorem st_X12_sideOf : Cond.static yX12_sideOf ∈ gwl := wd_1185
theorem cl_X12_228 : zCl0 RX12 228 yX12_pieceSide mX12_pieceSide 4 false := ⟨wd_1189, wd_1, by decide, ⟨by decide, by decide, by decide +kernel⟩, Or.inl ⟨rfl, wd_1187⟩⟩
theorem st_X12_pieceSide : Cond.static yX12_pieceSide ∈ gwl := wd_1188
theorem cl_X12_264 : zCl0 RX12 264 yX4_placeOf mX4_placeOf 1 true := ⟨wd_505, wd_10, by decide, ⟨by decide, by decide, by decide +kernel⟩, Or.inr ⟨rfl, gn_of (i := 1190) (by decide +kernel) rfl⟩⟩
theorem cl_X12_284 : zCl0 RX12 284 yX9_pieceAt mX9_pieceAt 1 true := ⟨wd_694, wd_3, by decide, ⟨by decide, by decide, by decide +kernel⟩, Or.inr ⟨rfl, gn_of (i := 1191) (by decide +kernel) rfl⟩⟩
theorem cl_X12_293 : zCl0 RX12 293 yX11_leftSide mX11_leftSide 0 true := ⟨wd_965, wd_5, by decide, ⟨by decide, by decide, by decide +kernel⟩, Or.inr ⟨rfl, gn_of (i := 1192) (by decide +kernel) rfl⟩⟩
theorem cl_X12_296 : zCl0 RX12 296 yX11_topSide mX11_topSide 0 true := ⟨wd_889, wd_5, by decide, ⟨by decide, by decide, by decide +kernel⟩, Or.inr ⟨rfl, gn_of (i := 1193) (by decide +kernel) rfl⟩⟩
theorem cl_X12_277 : zCl0 RX12 277 yX7_flatEdges mX7_flatEdges 0 true := ⟨wd_532, wd_2, by decide, ⟨by decide, by decide, by decide +kernel⟩, Or.inr ⟨rfl, gn_of (i := 1194) (by decide +kernel) rfl⟩⟩
theorem cl_X12_281 : zCl0 RX12 281 yX7_uprightEdges mX7_uprightEdges 0 true := ⟨wd_631, wd_2, by decide, ⟨by decide, by decide, by decide +kernel⟩, Or.inr ⟨rfl, gn_of (i := 1195) (by decide +kernel) rfl⟩⟩
theorem cl_L_54 : zCl0 RL 54 yX12_width mX12_width 1 false := ⟨wd_1199, wd_1, by decide, ⟨by decide, by decide, by decide +kernel⟩, Or.inl ⟨rfl, wd_1196⟩⟩
theorem im_X12_width : Cond.instanceMethod yX12_width ∈ gwl := wd_1197
theorem se_X12_width : Cond.selects yX12_width.cls yX12_width yX12_width ∈ gwl := wd_1198
theorem cl_L_57 : zCl0 RL 57 yX12_painted mX12_painted 0 false := ⟨wd_1203, wd_1, by decide, ⟨by decide, by decide, by decide +kernel⟩, Or.inl ⟨rfl, wd_1200⟩⟩
theorem im_X12_painted : Cond.instanceMethod yX12_painted ∈ gwl := wd_1201
theorem se_X12_painted : Cond.selects yX12_painted.cls yX12_painted yX12_painted ∈ gwl := wd_1202
theorem cl_L_61 : zCl0 RL 61 yX12_x mX12_x 1 false := ⟨wd_1207, wd_1, by decide, ⟨by decide, by decide, by decide +kernel⟩, Or.inl ⟨rfl, wd_1204⟩⟩
theorem im_X12_x : Cond.instanceMethod yX12_x ∈ gwl := wd_1205
theorem se_X12_x : Cond.selects yX12_x.cls yX12_x yX12_x ∈ gwl := wd_1206
theorem cl_L_64 : zCl0 RL 64 yX12_y mX12_y 1 false := ⟨wd_1211, wd_1, by decide, ⟨by decide, by decide, by decide +kernel⟩, Or.inl ⟨rfl, wd_1208⟩⟩
theorem im_X12_y : Cond.instanceMethod yX12_y ∈ gwl := wd_1209
theorem se_X12_y : Cond.selects yX12_y.cls yX12_y yX12_y ∈ gwl := wd_1210
theorem cl_L_67 : zCl0 RL 67 yX12_bars mX12_bars 1 false := ⟨wd_1215, wd_1, by decide, ⟨by decide, by decide, by decide +kernel⟩, Or.inl ⟨rfl, wd_1212⟩⟩
theorem im_X12_bars : Cond.instanceMethod yX12_bars ∈ gwl := wd_1213
theorem se_X12_bars : Cond.selects yX12_bars.cls yX12_bars yX12_bars ∈ gwl := wd_1214
theorem cl_X12_68 : zCl0 RX12 68 yX12_boxAt mX12_boxAt 1 false := ⟨wd_1219, wd_1, by decide, ⟨by decide, by decide, by decide +kernel⟩, Or.inl ⟨rfl, wd_1216⟩⟩
theorem im_X12_boxAt : Cond.instanceMethod yX12_boxAt ∈ gwl := wd_1218
theorem cl_L_70 : zCl0 RL 70 yX12_fromNothing mX12_fromNothing 2 false := ⟨wd_1223, wd_1, by decide, ⟨by decide, by decide, by decide +kernel⟩, Or.inl ⟨rfl, wd_1220⟩⟩
theorem im_X12_fromNothing : Cond.instanceMethod yX12_fromNothing ∈ gwl := wd_1221
theorem se_X12_fromNothing : Cond.selects yX12_fromNothing.cls yX12_fromNothing yX12_fromNothing ∈ gwl := wd_1222
theorem cl_X12_148 : zCl0 RX12 148 yX4_forgetAll mX4_forgetAll 1 true := ⟨wd_1227, wd_10, by decide, ⟨by decide, by decide, by decide +kernel⟩, Or.inr ⟨rfl, gn_of (i := 1224) (by decide +kernel) rfl⟩⟩
theorem im_X4_forgetAll : Cond.instanceMethod yX4_forgetAll ∈ gwl := wd_1226
theorem cl_L_74 : zCl0 RL 74 yX12_line mX12_line 3 false := ⟨wd_1231, wd_1, by decide, ⟨by decide, by decide, by decide +kernel⟩, Or.inl ⟨rfl, wd_1228⟩⟩
theorem im_X12_line : Cond.instanceMethod yX12_line ∈ gwl := wd_1229
theorem se_X12_line : Cond.selects yX12_line.cls yX12_line yX12_line ∈ gwl := wd_1230
theorem cl_X12_190 : zCl0 RX12 190 yX7_holdsLines mX7_holdsLines 0 true := ⟨wd_1235, wd_2, by decide, ⟨by decide, by decide, by decide +kernel⟩, Or.inr ⟨rfl, gn_of (i := 1232) (by decide +kernel) rfl⟩⟩
theorem im_X7_holdsLines : Cond.instanceMethod yX7_holdsLines ∈ gwl := wd_1234
theorem cl_X12_203 : zCl0 RX12 203 yX12_lineAt mX12_lineAt 2 false := ⟨wd_1238, wd_1, by decide, ⟨by decide, by decide, by decide +kernel⟩, Or.inl ⟨rfl, wd_1236⟩⟩
theorem st_X12_lineAt : Cond.static yX12_lineAt ∈ gwl := wd_1237
theorem cl_L_78 : zCl0 RL 78 yX12_lines mX12_lines 1 false := ⟨wd_1242, wd_1, by decide, ⟨by decide, by decide, by decide +kernel⟩, Or.inl ⟨rfl, wd_1239⟩⟩
theorem im_X12_lines : Cond.instanceMethod yX12_lines ∈ gwl := wd_1240
theorem se_X12_lines : Cond.selects yX12_lines.cls yX12_lines yX12_lines ∈ gwl := wd_1241
theorem cl_L_104 : zCl0 RL 104 yL_makes mL_makes 6 false := ⟨wd_1245, wd_0, by decide, ⟨by decide, by decide, by decide +kernel⟩, Or.inl ⟨rfl, wd_1243⟩⟩
theorem st_L_makes : Cond.static yL_makes ∈ gwl := wd_1244
theorem cl_L_84 : zCl0 RL 84 yX12_children mX12_children 1 false := ⟨wd_1249, wd_1, by decide, ⟨by decide, by decide, by decide +kernel⟩, Or.inl ⟨rfl, wd_1246⟩⟩
theorem im_X12_children : Cond.instanceMethod yX12_children ∈ gwl := wd_1247
theorem se_X12_children : Cond.selects yX12_children.cls yX12_children yX12_children ∈ gwl := wd_1248
theorem cl_X12_72 : zCl0 RX12 72 yX7_countChildren mX7_countChildren 0 true := ⟨wd_1253, wd_2, by decide, ⟨by decide, by decide, by decide +kernel⟩, Or.inr ⟨rfl, gn_of (i := 1250) (by decide +kernel) rfl⟩⟩
theorem im_X7_countChildren : Cond.instanceMethod yX7_countChildren ∈ gwl := wd_1252
theorem cl_L_87 : zCl0 RL 87 yX12_text mX12_text 3 false := ⟨wd_1257, wd_1, by decide, ⟨by decide, by decide, by decide +kernel⟩, Or.inl ⟨rfl, wd_1254⟩⟩
theorem im_X12_text : Cond.instanceMethod yX12_text ∈ gwl := wd_1255
theorem se_X12_text : Cond.selects yX12_text.cls yX12_text yX12_text ∈ gwl := wd_1256
theorem cl_X12_79 : zCl0 RX12 79 yX12_hasRoom mX12_hasRoom 1 false := ⟨wd_1261, wd_1, by decide, ⟨by decide, by decide, by decide +kernel⟩, Or.inl ⟨rfl, wd_1258⟩⟩
theorem im_X12_hasRoom : Cond.instanceMethod yX12_hasRoom ∈ gwl := wd_1260
theorem cl_X12_86 : zCl0 RX12 86 yX12_insertNode mX12_insertNode 3 false := ⟨wd_1265, wd_1, by decide, ⟨by decide, by decide, by decide +kernel⟩, Or.inl ⟨rfl, wd_1262⟩⟩
theorem im_X12_insertNode : Cond.instanceMethod yX12_insertNode ∈ gwl := wd_1264
theorem cl_X12_251 : zCl0 RX12 251 yX7_putIn mX7_putIn 2 true := ⟨wd_1269, wd_2, by decide, ⟨by decide, by decide, by decide +kernel⟩, Or.inr ⟨rfl, gn_of (i := 1266) (by decide +kernel) rfl⟩⟩
theorem im_X7_putIn : Cond.instanceMethod yX7_putIn ∈ gwl := wd_1268
theorem cl_X12_108 : zCl0 RX12 108 yX12_noteChange mX12_noteChange 1 false := ⟨wd_1273, wd_1, by decide, ⟨by decide, by decide, by decide +kernel⟩, Or.inl ⟨rfl, wd_1270⟩⟩
theorem im_X12_noteChange : Cond.instanceMethod yX12_noteChange ∈ gwl := wd_1272
theorem cl_L_90 : zCl0 RL 90 yX12_box mX12_box 2 false := ⟨wd_1277, wd_1, by decide, ⟨by decide, by decide, by decide +kernel⟩, Or.inl ⟨rfl, wd_1274⟩⟩
theorem im_X12_box : Cond.instanceMethod yX12_box ∈ gwl := wd_1275
theorem se_X12_box : Cond.selects yX12_box.cls yX12_box yX12_box ∈ gwl := wd_1276
theorem cl_L_93 : zCl0 RL 93 yX12_word mX12_word 3 false := ⟨wd_1281, wd_1, by decide, ⟨by decide, by decide, by decide +kernel⟩, Or.inl ⟨rfl, wd_1278⟩⟩
theorem im_X12_word : Cond.instanceMethod yX12_word ∈ gwl := wd_1279
theorem se_X12_word : Cond.selects yX12_word.cls yX12_word yX12_word ∈ gwl := wd_1280
theorem cl_X12_95 : zCl0 RX12 95 yX12_textAt mX12_textAt 1 false := ⟨wd_1285, wd_1, by decide, ⟨by decide, by decide, by decide +kernel⟩, Or.inl ⟨rfl, wd_1282⟩⟩
theorem im_X12_textAt : Cond.instanceMethod yX12_textAt ∈ gwl := wd_1284
theorem cl_L_111 : zCl0 RL 111 yL_styles mL_styles 7 false := ⟨wd_1288, wd_0, by decide, ⟨by decide, by decide, by decide +kernel⟩, Or.inl ⟨rfl, wd_1286⟩⟩
theorem st_L_styles : Cond.static yL_styles ∈ gwl := wd_1287
theorem cl_L_96 : zCl0 RL 96 yX12_style mX12_style 3 false := ⟨wd_1292, wd_1, by decide, ⟨by decide, by decide, by decide +kernel⟩, Or.inl ⟨rfl, wd_1289⟩⟩
theorem im_X12_style : Cond.instanceMethod yX12_style ∈ gwl := wd_1290
theorem se_X12_style : Cond.selects yX12_style.cls yX12_style yX12_style ∈ gwl := wd_1291
theorem cl_X12_127 : zCl0 RX12 127 yX12_allows mX12_allows 2 false := ⟨wd_1295, wd_1, by decide, ⟨by decide, by decide, by decide +kernel⟩, Or.inl ⟨rfl, wd_1293⟩⟩
theorem st_X12_allows : Cond.static yX12_allows ∈ gwl := wd_1294
theorem cl_X12_255 : zCl0 RX12 255 yX12_isPercentage mX12_isPercentage 1 false := ⟨wd_1298, wd_1, by decide, ⟨by decide, by decide, by decide +kernel⟩, Or.inl ⟨rfl, wd_1296⟩⟩
theorem st_X12_isPercentage : Cond.static yX12_isPercentage ∈ gwl := wd_1297
theorem cl_X12_134 : zCl0 RX12 134 yX12_reachesInside mX12_reachesInside 1 false := ⟨wd_1301, wd_1, by decide, ⟨by decide, by decide, by decide +kernel⟩, Or.inl ⟨rfl, wd_1299⟩⟩
theorem st_X12_reachesInside : Cond.static yX12_reachesInside ∈ gwl := wd_1300
theorem cl_X12_138 : zCl0 RX12 138 yX12_noteChangeInside mX12_noteChangeInside 1 false := ⟨wd_1305, wd_1, by decide, ⟨by decide, by decide, by decide +kernel⟩, Or.inl ⟨rfl, wd_1302⟩⟩
theorem im_X12_noteChangeInside : Cond.instanceMethod yX12_noteChangeInside ∈ gwl := wd_1304
theorem cl_X12_120 : zCl0 RX12 120 yX7_onward mX7_onward 3 true := ⟨wd_371, wd_2, by decide, ⟨by decide, by decide, by decide +kernel⟩, Or.inr ⟨rfl, gn_of (i := 1306) (by decide +kernel) rfl⟩⟩
theorem se_X7_assignRole : Cond.selects yX7_assignRole.cls yX7_assignRole yX7_assignRole ∈ gwl := gs_of (q := (yX7_assignRole, 20)) (List.mem_of_getElem? (i := 0) (by decide +kernel))
theorem se_X7_findKind : Cond.selects yX7_findKind.cls yX7_findKind yX7_findKind ∈ gwl := gs_of (q := (yX7_findKind, 20)) (List.mem_of_getElem? (i := 1) (by decide +kernel))
theorem se_X7_isText : Cond.selects yX7_isText.cls yX7_isText yX7_isText ∈ gwl := gs_of (q := (yX7_isText, 20)) (List.mem_of_getElem? (i := 2) (by decide +kernel))
theorem se_X7_countsFor : Cond.selects yX7_countsFor.cls yX7_countsFor yX7_countsFor ∈ gwl := gs_of (q := (yX7_countsFor, 20)) (List.mem_of_getElem? (i := 3) (by decide +kernel))
theorem se_X7_isInColumns : Cond.selects yX7_isInColumns.cls yX7_isInColumns yX7_isInColumns ∈ gwl := gs_of (q := (yX7_isInColumns, 20)) (List.mem_of_getElem? (i := 4) (by decide +kernel))
theorem se_X7_countScrollsAround : Cond.selects yX7_countScrollsAround.cls yX7_countScrollsAround yX7_countScrollsAround ∈ gwl := gs_of (q := (yX7_countScrollsAround, 20)) (List.mem_of_getElem? (i := 5) (by decide +kernel))
theorem se_X4_layAll : Cond.selects yX4_layAll.cls yX4_layAll yX4_layAll ∈ gwl := gs_of (q := (yX4_layAll, 6)) (List.mem_of_getElem? (i := 6) (by decide +kernel))
theorem se_X4_layOut : Cond.selects yX4_layOut.cls yX4_layOut yX4_layOut ∈ gwl := gs_of (q := (yX4_layOut, 6)) (List.mem_of_getElem? (i := 7) (by decide +kernel))
theorem se_X4_placeOf : Cond.selects yX4_placeOf.cls yX4_placeOf yX4_placeOf ∈ gwl := gs_of (q := (yX4_placeOf, 6)) (List.mem_of_getElem? (i := 8) (by decide +kernel))
theorem se_X4_layTable : Cond.selects yX4_layTable.cls yX4_layTable yX4_layTable ∈ gwl := gs_of (q := (yX4_layTable, 6)) (List.mem_of_getElem? (i := 9) (by decide +kernel))
theorem se_X4_placeEvenly : Cond.selects yX4_placeEvenly.cls yX4_placeEvenly yX4_placeEvenly ∈ gwl := gs_of (q := (yX4_placeEvenly, 6)) (List.mem_of_getElem? (i := 10) (by decide +kernel))
theorem se_X4_placeColumn : Cond.selects yX4_placeColumn.cls yX4_placeColumn yX4_placeColumn ∈ gwl := gs_of (q := (yX4_placeColumn, 6)) (List.mem_of_getElem? (i := 11) (by decide +kernel))
theorem se_X7_flatEdges : Cond.selects yX7_flatEdges.cls yX7_flatEdges yX7_flatEdges ∈ gwl := gs_of (q := (yX7_flatEdges, 20)) (List.mem_of_getElem? (i := 12) (by decide +kernel))
theorem se_X4_placeByContent : Cond.selects yX4_placeByContent.cls yX4_placeByContent yX4_placeByContent ∈ gwl := gs_of (q := (yX4_placeByContent, 6)) (List.mem_of_getElem? (i := 13) (by decide +kernel))
theorem se_X7_flatRim : Cond.selects yX7_flatRim.cls yX7_flatRim yX7_flatRim ∈ gwl := gs_of (q := (yX7_flatRim, 20)) (List.mem_of_getElem? (i := 14) (by decide +kernel))
theorem se_X3_isInLines : Cond.selects yX3_isInLines.cls yX3_isInLines yX3_isInLines ∈ gwl := gs_of (q := (yX3_isInLines, 3)) (List.mem_of_getElem? (i := 15) (by decide +kernel))
theorem se_X7_mayStandInRun : Cond.selects yX7_mayStandInRun.cls yX7_mayStandInRun yX7_mayStandInRun ∈ gwl := gs_of (q := (yX7_mayStandInRun, 20)) (List.mem_of_getElem? (i := 16) (by decide +kernel))
theorem se_X4_layRow : Cond.selects yX4_layRow.cls yX4_layRow yX4_layRow ∈ gwl := gs_of (q := (yX4_layRow, 6)) (List.mem_of_getElem? (i := 17) (by decide +kernel))
theorem se_X7_uprightEdges : Cond.selects yX7_uprightEdges.cls yX7_uprightEdges yX7_uprightEdges ∈ gwl := gs_of (q := (yX7_uprightEdges, 20)) (List.mem_of_getElem? (i := 18) (by decide +kernel))
theorem se_X4_layWithBars : Cond.selects yX4_layWithBars.cls yX4_layWithBars yX4_layWithBars ∈ gwl := gs_of (q := (yX4_layWithBars, 6)) (List.mem_of_getElem? (i := 19) (by decide +kernel))
theorem se_X4_flowContext : Cond.selects yX4_flowContext.cls yX4_flowContext yX4_flowContext ∈ gwl := gs_of (q := (yX4_flowContext, 6)) (List.mem_of_getElem? (i := 20) (by decide +kernel))
theorem se_X4_flowOf : Cond.selects yX4_flowOf.cls yX4_flowOf yX4_flowOf ∈ gwl := gs_of (q := (yX4_flowOf, 6)) (List.mem_of_getElem? (i := 21) (by decide +kernel))
theorem se_X2_begin : Cond.selects yX2_begin.cls yX2_begin yX2_begin ∈ gwl := gs_of (q := (yX2_begin, 20)) (List.mem_of_getElem? (i := 22) (by decide +kernel))
theorem se_X4_flowContainer : Cond.selects yX4_flowContainer.cls yX4_flowContainer yX4_flowContainer ∈ gwl := gs_of (q := (yX4_flowContainer, 6)) (List.mem_of_getElem? (i := 23) (by decide +kernel))
theorem se_X4_freeLines : Cond.selects yX4_freeLines.cls yX4_freeLines yX4_freeLines ∈ gwl := gs_of (q := (yX4_freeLines, 6)) (List.mem_of_getElem? (i := 24) (by decide +kernel))
theorem se_X4_flowLines : Cond.selects yX4_flowLines.cls yX4_flowLines yX4_flowLines ∈ gwl := gs_of (q := (yX4_flowLines, 6)) (List.mem_of_getElem? (i := 25) (by decide +kernel))
theorem se_X2_endMargins : Cond.selects yX2_endMargins.cls yX2_endMargins yX2_endMargins ∈ gwl := gs_of (q := (yX2_endMargins, 20)) (List.mem_of_getElem? (i := 26) (by decide +kernel))
theorem se_X2_pendingY : Cond.selects yX2_pendingY.cls yX2_pendingY yX2_pendingY ∈ gwl := gs_of (q := (yX2_pendingY, 20)) (List.mem_of_getElem? (i := 27) (by decide +kernel))
theorem se_X2_dropMargins : Cond.selects yX2_dropMargins.cls yX2_dropMargins yX2_dropMargins ∈ gwl := gs_of (q := (yX2_dropMargins, 20)) (List.mem_of_getElem? (i := 28) (by decide +kernel))
theorem se_X4_addWords : Cond.selects yX4_addWords.cls yX4_addWords yX4_addWords ∈ gwl := gs_of (q := (yX4_addWords, 6)) (List.mem_of_getElem? (i := 29) (by decide +kernel))
theorem se_X9_pieceAt : Cond.selects yX9_pieceAt.cls yX9_pieceAt yX9_pieceAt ∈ gwl := gs_of (q := (yX9_pieceAt, 20)) (List.mem_of_getElem? (i := 30) (by decide +kernel))
theorem se_X4_addThing : Cond.selects yX4_addThing.cls yX4_addThing yX4_addThing ∈ gwl := gs_of (q := (yX4_addThing, 6)) (List.mem_of_getElem? (i := 31) (by decide +kernel))
theorem se_X2_look : Cond.selects yX2_look.cls yX2_look yX2_look ∈ gwl := gs_of (q := (yX2_look, 20)) (List.mem_of_getElem? (i := 32) (by decide +kernel))
theorem se_X1_reachesInto : Cond.selects yX1_reachesInto.cls yX1_reachesInto yX1_reachesInto ∈ gwl := gs_of (q := (yX1_reachesInto, 7)) (List.mem_of_getElem? (i := 33) (by decide +kernel))
theorem se_X2_fits : Cond.selects yX2_fits.cls yX2_fits yX2_fits ∈ gwl := gs_of (q := (yX2_fits, 20)) (List.mem_of_getElem? (i := 34) (by decide +kernel))
theorem se_X2_nextOffset : Cond.selects yX2_nextOffset.cls yX2_nextOffset yX2_nextOffset ∈ gwl := gs_of (q := (yX2_nextOffset, 20)) (List.mem_of_getElem? (i := 35) (by decide +kernel))
theorem se_X2_band : Cond.selects yX2_band.cls yX2_band yX2_band ∈ gwl := gs_of (q := (yX2_band, 20)) (List.mem_of_getElem? (i := 36) (by decide +kernel))
theorem se_X4_putThing : Cond.selects yX4_putThing.cls yX4_putThing yX4_putThing ∈ gwl := gs_of (q := (yX4_putThing, 6)) (List.mem_of_getElem? (i := 37) (by decide +kernel))
theorem se_X4_addLine : Cond.selects yX4_addLine.cls yX4_addLine yX4_addLine ∈ gwl := gs_of (q := (yX4_addLine, 6)) (List.mem_of_getElem? (i := 38) (by decide +kernel))
theorem se_X4_endLine : Cond.selects yX4_endLine.cls yX4_endLine yX4_endLine ∈ gwl := gs_of (q := (yX4_endLine, 6)) (List.mem_of_getElem? (i := 39) (by decide +kernel))
theorem se_X2_reachTo : Cond.selects yX2_reachTo.cls yX2_reachTo yX2_reachTo ∈ gwl := gs_of (q := (yX2_reachTo, 20)) (List.mem_of_getElem? (i := 40) (by decide +kernel))
theorem se_X4_putFloat : Cond.selects yX4_putFloat.cls yX4_putFloat yX4_putFloat ∈ gwl := gs_of (q := (yX4_putFloat, 6)) (List.mem_of_getElem? (i := 41) (by decide +kernel))
theorem se_X4_knownHeight : Cond.selects yX4_knownHeight.cls yX4_knownHeight yX4_knownHeight ∈ gwl := gs_of (q := (yX4_knownHeight, 6)) (List.mem_of_getElem? (i := 42) (by decide +kernel))
theorem se_X7_uprightRim : Cond.selects yX7_uprightRim.cls yX7_uprightRim yX7_uprightRim ∈ gwl := gs_of (q := (yX7_uprightRim, 20)) (List.mem_of_getElem? (i := 43) (by decide +kernel))
theorem se_X2_floatTop : Cond.selects yX2_floatTop.cls yX2_floatTop yX2_floatTop ∈ gwl := gs_of (q := (yX2_floatTop, 20)) (List.mem_of_getElem? (i := 44) (by decide +kernel))
theorem se_X2_findHeight : Cond.selects yX2_findHeight.cls yX2_findHeight yX2_findHeight ∈ gwl := gs_of (q := (yX2_findHeight, 20)) (List.mem_of_getElem? (i := 45) (by decide +kernel))
theorem se_X2_nextLow : Cond.selects yX2_nextLow.cls yX2_nextLow yX2_nextLow ∈ gwl := gs_of (q := (yX2_nextLow, 20)) (List.mem_of_getElem? (i := 46) (by decide +kernel))
theorem se_X2_addFloat : Cond.selects yX2_addFloat.cls yX2_addFloat yX2_addFloat ∈ gwl := gs_of (q := (yX2_addFloat, 20)) (List.mem_of_getElem? (i := 47) (by decide +kernel))
theorem se_X4_addInlineBlock : Cond.selects yX4_addInlineBlock.cls yX4_addInlineBlock yX4_addInlineBlock ∈ gwl := gs_of (q := (yX4_addInlineBlock, 6)) (List.mem_of_getElem? (i := 48) (by decide +kernel))
theorem se_X4_meetFloat : Cond.selects yX4_meetFloat.cls yX4_meetFloat yX4_meetFloat ∈ gwl := gs_of (q := (yX4_meetFloat, 6)) (List.mem_of_getElem? (i := 49) (by decide +kernel))
theorem se_X2_addLate : Cond.selects yX2_addLate.cls yX2_addLate yX2_addLate ∈ gwl := gs_of (q := (yX2_addLate, 20)) (List.mem_of_getElem? (i := 50) (by decide +kernel))
theorem se_X4_meetAbsolute : Cond.selects yX4_meetAbsolute.cls yX4_meetAbsolute yX4_meetAbsolute ∈ gwl := gs_of (q := (yX4_meetAbsolute, 6)) (List.mem_of_getElem? (i := 51) (by decide +kernel))
theorem se_X4_flowWithoutLines : Cond.selects yX4_flowWithoutLines.cls yX4_flowWithoutLines yX4_flowWithoutLines ∈ gwl := gs_of (q := (yX4_flowWithoutLines, 6)) (List.mem_of_getElem? (i := 52) (by decide +kernel))
theorem se_X4_flowOutside : Cond.selects yX4_flowOutside.cls yX4_flowOutside yX4_flowOutside ∈ gwl := gs_of (q := (yX4_flowOutside, 6)) (List.mem_of_getElem? (i := 53) (by decide +kernel))
theorem se_X4_flowContextBlock : Cond.selects yX4_flowContextBlock.cls yX4_flowContextBlock yX4_flowContextBlock ∈ gwl := gs_of (q := (yX4_flowContextBlock, 6)) (List.mem_of_getElem? (i := 54) (by decide +kernel))
theorem se_X2_pend : Cond.selects yX2_pend.cls yX2_pend yX2_pend ∈ gwl := gs_of (q := (yX2_pend, 20)) (List.mem_of_getElem? (i := 55) (by decide +kernel))
theorem se_X2_clearFloats : Cond.selects yX2_clearFloats.cls yX2_clearFloats yX2_clearFloats ∈ gwl := gs_of (q := (yX2_clearFloats, 20)) (List.mem_of_getElem? (i := 56) (by decide +kernel))
theorem se_X4_flowPlainBlock : Cond.selects yX4_flowPlainBlock.cls yX4_flowPlainBlock yX4_flowPlainBlock ∈ gwl := gs_of (q := (yX4_flowPlainBlock, 6)) (List.mem_of_getElem? (i := 57) (by decide +kernel))
theorem se_X2_contentHeight : Cond.selects yX2_contentHeight.cls yX2_contentHeight yX2_contentHeight ∈ gwl := gs_of (q := (yX2_contentHeight, 20)) (List.mem_of_getElem? (i := 58) (by decide +kernel))
theorem se_X4_layInColumns : Cond.selects yX4_layInColumns.cls yX4_layInColumns yX4_layInColumns ∈ gwl := gs_of (q := (yX4_layInColumns, 6)) (List.mem_of_getElem? (i := 59) (by decide +kernel))
theorem se_X4_gatherItems : Cond.selects yX4_gatherItems.cls yX4_gatherItems yX4_gatherItems ∈ gwl := gs_of (q := (yX4_gatherItems, 6)) (List.mem_of_getElem? (i := 60) (by decide +kernel))
theorem se_X4_gatherLines : Cond.selects yX4_gatherLines.cls yX4_gatherLines yX4_gatherLines ∈ gwl := gs_of (q := (yX4_gatherLines, 6)) (List.mem_of_getElem? (i := 61) (by decide +kernel))
theorem se_X10_add : Cond.selects yX10_add.cls yX10_add yX10_add ∈ gwl := gs_of (q := (yX10_add, 7)) (List.mem_of_getElem? (i := 62) (by decide +kernel))
theorem se_X11_topSide : Cond.selects yX11_topSide.cls yX11_topSide yX11_topSide ∈ gwl := gs_of (q := (yX11_topSide, 5)) (List.mem_of_getElem? (i := 63) (by decide +kernel))
theorem se_X10_findBreaks : Cond.selects yX10_findBreaks.cls yX10_findBreaks yX10_findBreaks ∈ gwl := gs_of (q := (yX10_findBreaks, 7)) (List.mem_of_getElem? (i := 64) (by decide +kernel))
theorem se_X10_addPlace : Cond.selects yX10_addPlace.cls yX10_addPlace yX10_addPlace ∈ gwl := gs_of (q := (yX10_addPlace, 7)) (List.mem_of_getElem? (i := 65) (by decide +kernel))
theorem se_X10_keepWholeItems : Cond.selects yX10_keepWholeItems.cls yX10_keepWholeItems yX10_keepWholeItems ∈ gwl := gs_of (q := (yX10_keepWholeItems, 7)) (List.mem_of_getElem? (i := 66) (by decide +kernel))
theorem se_X10_leastHeight : Cond.selects yX10_leastHeight.cls yX10_leastHeight yX10_leastHeight ∈ gwl := gs_of (q := (yX10_leastHeight, 7)) (List.mem_of_getElem? (i := 67) (by decide +kernel))
theorem se_X10_split : Cond.selects yX10_split.cls yX10_split yX10_split ∈ gwl := gs_of (q := (yX10_split, 7)) (List.mem_of_getElem? (i := 68) (by decide +kernel))
theorem se_X4_moveToColumns : Cond.selects yX4_moveToColumns.cls yX4_moveToColumns yX4_moveToColumns ∈ gwl := gs_of (q := (yX4_moveToColumns, 6)) (List.mem_of_getElem? (i := 69) (by decide +kernel))
theorem se_X4_moveLines : Cond.selects yX4_moveLines.cls yX4_moveLines yX4_moveLines ∈ gwl := gs_of (q := (yX4_moveLines, 6)) (List.mem_of_getElem? (i := 70) (by decide +kernel))
theorem se_X10_columnAt : Cond.selects yX10_columnAt.cls yX10_columnAt yX10_columnAt ∈ gwl := gs_of (q := (yX10_columnAt, 7)) (List.mem_of_getElem? (i := 71) (by decide +kernel))
theorem se_X10_beginOf : Cond.selects yX10_beginOf.cls yX10_beginOf yX10_beginOf ∈ gwl := gs_of (q := (yX10_beginOf, 7)) (List.mem_of_getElem? (i := 72) (by decide +kernel))
theorem se_X4_layAbsolute : Cond.selects yX4_layAbsolute.cls yX4_layAbsolute yX4_layAbsolute ∈ gwl := gs_of (q := (yX4_layAbsolute, 6)) (List.mem_of_getElem? (i := 73) (by decide +kernel))
theorem se_X7_isStack : Cond.selects yX7_isStack.cls yX7_isStack yX7_isStack ∈ gwl := gs_of (q := (yX7_isStack, 20)) (List.mem_of_getElem? (i := 74) (by decide +kernel))
theorem se_X4_settle : Cond.selects yX4_settle.cls yX4_settle yX4_settle ∈ gwl := gs_of (q := (yX4_settle, 6)) (List.mem_of_getElem? (i := 75) (by decide +kernel))
theorem se_X4_settleAbsolute : Cond.selects yX4_settleAbsolute.cls yX4_settleAbsolute yX4_settleAbsolute ∈ gwl := gs_of (q := (yX4_settleAbsolute, 6)) (List.mem_of_getElem? (i := 76) (by decide +kernel))
theorem se_X4_settleInFlow : Cond.selects yX4_settleInFlow.cls yX4_settleInFlow yX4_settleInFlow ∈ gwl := gs_of (q := (yX4_settleInFlow, 6)) (List.mem_of_getElem? (i := 77) (by decide +kernel))
theorem se_X11_leftSide : Cond.selects yX11_leftSide.cls yX11_leftSide yX11_leftSide ∈ gwl := gs_of (q := (yX11_leftSide, 5)) (List.mem_of_getElem? (i := 78) (by decide +kernel))
theorem se_X8_arrange : Cond.selects yX8_arrange.cls yX8_arrange yX8_arrange ∈ gwl := gs_of (q := (yX8_arrange, 2)) (List.mem_of_getElem? (i := 79) (by decide +kernel))
theorem se_X8_paintStack : Cond.selects yX8_paintStack.cls yX8_paintStack yX8_paintStack ∈ gwl := gs_of (q := (yX8_paintStack, 2)) (List.mem_of_getElem? (i := 80) (by decide +kernel))
theorem se_X8_add : Cond.selects yX8_add.cls yX8_add yX8_add ∈ gwl := gs_of (q := (yX8_add, 2)) (List.mem_of_getElem? (i := 81) (by decide +kernel))
theorem se_X8_paintStacksIn : Cond.selects yX8_paintStacksIn.cls yX8_paintStacksIn yX8_paintStacksIn ∈ gwl := gs_of (q := (yX8_paintStacksIn, 2)) (List.mem_of_getElem? (i := 82) (by decide +kernel))
theorem se_X8_paintInside : Cond.selects yX8_paintInside.cls yX8_paintInside yX8_paintInside ∈ gwl := gs_of (q := (yX8_paintInside, 2)) (List.mem_of_getElem? (i := 83) (by decide +kernel))
theorem se_X12_layAgain : Cond.selects yX12_layAgain.cls yX12_layAgain yX12_layAgain ∈ gwl := gs_of (q := (yX12_layAgain, 10)) (List.mem_of_getElem? (i := 85) (by decide +kernel))
theorem se_X12_placedAt : Cond.selects yX12_placedAt.cls yX12_placedAt yX12_placedAt ∈ gwl := gs_of (q := (yX12_placedAt, 10)) (List.mem_of_getElem? (i := 86) (by decide +kernel))
theorem se_X12_nodeAt : Cond.selects yX12_nodeAt.cls yX12_nodeAt yX12_nodeAt ∈ gwl := gs_of (q := (yX12_nodeAt, 10)) (List.mem_of_getElem? (i := 87) (by decide +kernel))
theorem se_X12_boxAt : Cond.selects yX12_boxAt.cls yX12_boxAt yX12_boxAt ∈ gwl := gs_of (q := (yX12_boxAt, 10)) (List.mem_of_getElem? (i := 88) (by decide +kernel))
theorem se_X4_forgetAll : Cond.selects yX4_forgetAll.cls yX4_forgetAll yX4_forgetAll ∈ gwl := gs_of (q := (yX4_forgetAll, 6)) (List.mem_of_getElem? (i := 89) (by decide +kernel))
theorem se_X7_holdsLines : Cond.selects yX7_holdsLines.cls yX7_holdsLines yX7_holdsLines ∈ gwl := gs_of (q := (yX7_holdsLines, 20)) (List.mem_of_getElem? (i := 90) (by decide +kernel))
theorem se_X7_countChildren : Cond.selects yX7_countChildren.cls yX7_countChildren yX7_countChildren ∈ gwl := gs_of (q := (yX7_countChildren, 20)) (List.mem_of_getElem? (i := 91) (by decide +kernel))
theorem se_X12_hasRoom : Cond.selects yX12_hasRoom.cls yX12_hasRoom yX12_hasRoom ∈ gwl := gs_of (q := (yX12_hasRoom, 10)) (List.mem_of_getElem? (i := 92) (by decide +kernel))
theorem se_X12_insertNode : Cond.selects yX12_insertNode.cls yX12_insertNode yX12_insertNode ∈ gwl := gs_of (q := (yX12_insertNode, 10)) (List.mem_of_getElem? (i := 93) (by decide +kernel))
theorem se_X7_putIn : Cond.selects yX7_putIn.cls yX7_putIn yX7_putIn ∈ gwl := gs_of (q := (yX7_putIn, 20)) (List.mem_of_getElem? (i := 94) (by decide +kernel))
theorem se_X12_noteChange : Cond.selects yX12_noteChange.cls yX12_noteChange yX12_noteChange ∈ gwl := gs_of (q := (yX12_noteChange, 10)) (List.mem_of_getElem? (i := 95) (by decide +kernel))
theorem se_X12_textAt : Cond.selects yX12_textAt.cls yX12_textAt yX12_textAt ∈ gwl := gs_of (q := (yX12_textAt, 10)) (List.mem_of_getElem? (i := 96) (by decide +kernel))
theorem se_X12_noteChangeInside : Cond.selects yX12_noteChangeInside.cls yX12_noteChangeInside yX12_noteChangeInside ∈ gwl := gs_of (q := (yX12_noteChangeInside, 10)) (List.mem_of_getElem? (i := 97) (by decide +kernel))
end
section
theorem dX1_init_0 : decode cX1_init 0 = .ok (.aload_n 0, 1) := by decide +kernel
theorem dX1_init_1 : decode cX1_init 1 = .ok (.invokespecial 1, 3) := by decide +kernel
theorem dX1_init_4 : decode cX1_init 4 = .ok (.return_, 1) := by decide +kernel
theorem dX2_init_0 : decode cX2_init 0 = .ok (.aload_n 0, 1) := by decide +kernel
theorem dX2_init_1 : decode cX2_init 1 = .ok (.invokespecial 3, 3) := by decide +kernel
theorem dX2_init_4 : decode cX2_init 4 = .ok (.return_, 1) := by decide +kernel
theorem dX2_begin_0 : decode cX2_begin 0 = .ok (.aload_n 0, 1) := by decide +kernel
theorem dX2_begin_1 : decode cX2_begin 1 = .ok (.iconst 0, 1) := by decide +kernel
theorem dX2_begin_2 : decode cX2_begin 2 = .ok (.putfield 9, 3) := by decide +kernel
theorem dX2_begin_5 : decode cX2_begin 5 = .ok (.aload_n 0, 1) := by decide +kernel
theorem dX2_begin_6 : decode cX2_begin 6 = .ok (.iconst 0, 1) := by decide +kernel
theorem dX2_begin_7 : decode cX2_begin 7 = .ok (.putfield 15, 3) := by decide +kernel
theorem dX2_begin_10 : decode cX2_begin 10 = .ok (.aload_n 0, 1) := by decide +kernel
theorem dX2_begin_11 : decode cX2_begin 11 = .ok (.iconst 0, 1) := by decide +kernel
theorem dX2_begin_12 : decode cX2_begin 12 = .ok (.putfield 18, 3) := by decide +kernel
theorem dX2_begin_15 : decode cX2_begin 15 = .ok (.aload_n 0, 1) := by decide +kernel
theorem dX2_begin_16 : decode cX2_begin 16 = .ok (.aconst_null, 1) := by decide +kernel
theorem dX2_begin_17 : decode cX2_begin 17 = .ok (.putfield 21, 3) := by decide +kernel
theorem dX2_begin_20 : decode cX2_begin 20 = .ok (.aload_n 0, 1) := by decide +kernel
theorem dX2_begin_21 : decode cX2_begin 21 = .ok (.aconst_null, 1) := by decide +kernel
theorem dX2_begin_22 : decode cX2_begin 22 = .ok (.putfield 25, 3) := by decide +kernel
theorem dX2_begin_25 : decode cX2_begin 25 = .ok (.aload_n 0, 1) := by decide +kernel
theorem dX2_begin_26 : decode cX2_begin 26 = .ok (.aconst_null, 1) := by decide +kernel
theorem dX2_begin_27 : decode cX2_begin 27 = .ok (.putfield 29, 3) := by decide +kernel
theorem dX2_begin_30 : decode cX2_begin 30 = .ok (.aload_n 0, 1) := by decide +kernel
theorem dX2_begin_31 : decode cX2_begin 31 = .ok (.ldc 32, 2) := by decide +kernel
theorem dX2_begin_33 : decode cX2_begin 33 = .ok (.putfield 33, 3) := by decide +kernel
theorem dX2_begin_36 : decode cX2_begin 36 = .ok (.aload_n 0, 1) := by decide +kernel
theorem dX2_begin_37 : decode cX2_begin 37 = .ok (.aconst_null, 1) := by decide +kernel
theorem dX2_begin_38 : decode cX2_begin 38 = .ok (.putfield 36, 3) := by decide +kernel
theorem dX2_begin_41 : decode cX2_begin 41 = .ok (.aload_n 0, 1) := by decide +kernel
theorem dX2_begin_42 : decode cX2_begin 42 = .ok (.iconst 0, 1) := by decide +kernel
theorem dX2_begin_43 : decode cX2_begin 43 = .ok (.putfield 40, 3) := by decide +kernel
theorem dX2_begin_46 : decode cX2_begin 46 = .ok (.aload_n 0, 1) := by decide +kernel
theorem dX2_begin_47 : decode cX2_begin 47 = .ok (.iconst 0, 1) := by decide +kernel
theorem dX2_begin_48 : decode cX2_begin 48 = .ok (.putfield 43, 3) := by decide +kernel
theorem dX2_begin_51 : decode cX2_begin 51 = .ok (.aload_n 0, 1) := by decide +kernel
theorem dX2_begin_52 : decode cX2_begin 52 = .ok (.aconst_null, 1) := by decide +kernel
theorem dX2_begin_53 : decode cX2_begin 53 = .ok (.putfield 46, 3) := by decide +kernel
theorem dX2_begin_56 : decode cX2_begin 56 = .ok (.aload_n 0, 1) := by decide +kernel
theorem dX2_begin_57 : decode cX2_begin 57 = .ok (.aconst_null, 1) := by decide +kernel
theorem dX2_begin_58 : decode cX2_begin 58 = .ok (.putfield 49, 3) := by decide +kernel
theorem dX2_begin_61 : decode cX2_begin 61 = .ok (.return_, 1) := by decide +kernel
theorem dX2_pend_0 : decode cX2_pend 0 = .ok (.aload_n 0, 1) := by decide +kernel
theorem dX2_pend_1 : decode cX2_pend 1 = .ok (.aload_n 0, 1) := by decide +kernel
theorem dX2_pend_2 : decode cX2_pend 2 = .ok (.getfield 15, 3) := by decide +kernel
theorem dX2_pend_5 : decode cX2_pend 5 = .ok (.iload_n 1, 1) := by decide +kernel
theorem dX2_pend_6 : decode cX2_pend 6 = .ok (.invokestatic 52, 3) := by decide +kernel
theorem dX2_pend_9 : decode cX2_pend 9 = .ok (.putfield 15, 3) := by decide +kernel
theorem dX2_pend_12 : decode cX2_pend 12 = .ok (.aload_n 0, 1) := by decide +kernel
theorem dX2_pend_13 : decode cX2_pend 13 = .ok (.aload_n 0, 1) := by decide +kernel
theorem dX2_pend_14 : decode cX2_pend 14 = .ok (.getfield 18, 3) := by decide +kernel
theorem dX2_pend_17 : decode cX2_pend 17 = .ok (.iload_n 1, 1) := by decide +kernel
theorem dX2_pend_18 : decode cX2_pend 18 = .ok (.invokestatic 58, 3) := by decide +kernel
theorem dX2_pend_21 : decode cX2_pend 21 = .ok (.putfield 18, 3) := by decide +kernel
theorem dX2_pend_24 : decode cX2_pend 24 = .ok (.return_, 1) := by decide +kernel
theorem dX2_pendingY_0 : decode cX2_pendingY 0 = .ok (.aload_n 0, 1) := by decide +kernel
theorem dX2_pendingY_1 : decode cX2_pendingY 1 = .ok (.getfield 9, 3) := by decide +kernel
theorem dX2_pendingY_4 : decode cX2_pendingY 4 = .ok (.aload_n 0, 1) := by decide +kernel
theorem dX2_pendingY_5 : decode cX2_pendingY 5 = .ok (.getfield 15, 3) := by decide +kernel
theorem dX2_pendingY_8 : decode cX2_pendingY 8 = .ok (.iadd, 1) := by decide +kernel
theorem dX2_pendingY_9 : decode cX2_pendingY 9 = .ok (.aload_n 0, 1) := by decide +kernel
theorem dX2_pendingY_10 : decode cX2_pendingY 10 = .ok (.getfield 18, 3) := by decide +kernel
theorem dX2_pendingY_13 : decode cX2_pendingY 13 = .ok (.iadd, 1) := by decide +kernel
theorem dX2_pendingY_14 : decode cX2_pendingY 14 = .ok (.ireturn, 1) := by decide +kernel
theorem dX2_dropMargins_0 : decode cX2_dropMargins 0 = .ok (.aload_n 0, 1) := by decide +kernel
theorem dX2_dropMargins_1 : decode cX2_dropMargins 1 = .ok (.iconst 0, 1) := by decide +kernel
theorem dX2_dropMargins_2 : decode cX2_dropMargins 2 = .ok (.putfield 15, 3) := by decide +kernel
theorem dX2_dropMargins_5 : decode cX2_dropMargins 5 = .ok (.aload_n 0, 1) := by decide +kernel
theorem dX2_dropMargins_6 : decode cX2_dropMargins 6 = .ok (.iconst 0, 1) := by decide +kernel
theorem dX2_dropMargins_7 : decode cX2_dropMargins 7 = .ok (.putfield 18, 3) := by decide +kernel
theorem dX2_dropMargins_10 : decode cX2_dropMargins 10 = .ok (.return_, 1) := by decide +kernel
theorem dX2_endMargins_0 : decode cX2_endMargins 0 = .ok (.aload_n 0, 1) := by decide +kernel
theorem dX2_endMargins_1 : decode cX2_endMargins 1 = .ok (.aload_n 0, 1) := by decide +kernel
theorem dX2_endMargins_2 : decode cX2_endMargins 2 = .ok (.invokevirtual 61, 3) := by decide +kernel
theorem dX2_endMargins_5 : decode cX2_endMargins 5 = .ok (.putfield 9, 3) := by decide +kernel
theorem dX2_endMargins_8 : decode cX2_endMargins 8 = .ok (.aload_n 0, 1) := by decide +kernel
theorem dX2_endMargins_9 : decode cX2_endMargins 9 = .ok (.invokevirtual 65, 3) := by decide +kernel
theorem dX2_endMargins_12 : decode cX2_endMargins 12 = .ok (.aload_n 0, 1) := by decide +kernel
theorem dX2_endMargins_13 : decode cX2_endMargins 13 = .ok (.getfield 21, 3) := by decide +kernel
theorem dX2_endMargins_16 : decode cX2_endMargins 16 = .ok (.astore_n 1, 1) := by decide +kernel
theorem dX2_endMargins_17 : decode cX2_endMargins 17 = .ok (.aload_n 1, 1) := by decide +kernel
theorem dX2_endMargins_18 : decode cX2_endMargins 18 = .ok (.ifnull 24, 3) := by decide +kernel
theorem dX2_endMargins_21 : decode cX2_endMargins 21 = .ok (.aload_n 1, 1) := by decide +kernel
theorem dX2_endMargins_22 : decode cX2_endMargins 22 = .ok (.aload_n 0, 1) := by decide +kernel
theorem dX2_endMargins_23 : decode cX2_endMargins 23 = .ok (.getfield 9, 3) := by decide +kernel
theorem dX2_endMargins_26 : decode cX2_endMargins 26 = .ok (.putfield 68, 3) := by decide +kernel
theorem dX2_endMargins_29 : decode cX2_endMargins 29 = .ok (.aload_n 1, 1) := by decide +kernel
theorem dX2_endMargins_30 : decode cX2_endMargins 30 = .ok (.iconst 1, 1) := by decide +kernel
theorem dX2_endMargins_31 : decode cX2_endMargins 31 = .ok (.putfield 73, 3) := by decide +kernel
theorem dX2_endMargins_34 : decode cX2_endMargins 34 = .ok (.aload_n 1, 1) := by decide +kernel
theorem dX2_endMargins_35 : decode cX2_endMargins 35 = .ok (.getfield 77, 3) := by decide +kernel
theorem dX2_endMargins_38 : decode cX2_endMargins 38 = .ok (.astore_n 1, 1) := by decide +kernel
theorem dX2_endMargins_39 : decode cX2_endMargins 39 = .ok (.goto (-22), 3) := by decide +kernel
theorem dX2_endMargins_42 : decode cX2_endMargins 42 = .ok (.aload_n 0, 1) := by decide +kernel
theorem dX2_endMargins_43 : decode cX2_endMargins 43 = .ok (.aconst_null, 1) := by decide +kernel
theorem dX2_endMargins_44 : decode cX2_endMargins 44 = .ok (.putfield 21, 3) := by decide +kernel
theorem dX2_endMargins_47 : decode cX2_endMargins 47 = .ok (.return_, 1) := by decide +kernel
theorem dX2_clearFloats_0 : decode cX2_clearFloats 0 = .ok (.iload_n 1, 1) := by decide +kernel
theorem dX2_clearFloats_1 : decode cX2_clearFloats 1 = .ok (.ifCond .ne 4, 3) := by decide +kernel
theorem dX2_clearFloats_4 : decode cX2_clearFloats 4 = .ok (.return_, 1) := by decide +kernel
theorem dX2_clearFloats_5 : decode cX2_clearFloats 5 = .ok (.iconst 0, 1) := by decide +kernel
theorem dX2_clearFloats_6 : decode cX2_clearFloats 6 = .ok (.istore_n 2, 1) := by decide +kernel
theorem dX2_clearFloats_7 : decode cX2_clearFloats 7 = .ok (.iconst 0, 1) := by decide +kernel
theorem dX2_clearFloats_8 : decode cX2_clearFloats 8 = .ok (.istore_n 3, 1) := by decide +kernel
theorem dX2_clearFloats_9 : decode cX2_clearFloats 9 = .ok (.aload_n 0, 1) := by decide +kernel
theorem dX2_clearFloats_10 : decode cX2_clearFloats 10 = .ok (.getfield 25, 3) := by decide +kernel
theorem dX2_clearFloats_13 : decode cX2_clearFloats 13 = .ok (.astore 4, 2) := by decide +kernel
theorem dX2_clearFloats_15 : decode cX2_clearFloats 15 = .ok (.aload 4, 2) := by decide +kernel
theorem dX2_clearFloats_17 : decode cX2_clearFloats 17 = .ok (.ifnull 60, 3) := by decide +kernel
theorem dX2_clearFloats_20 : decode cX2_clearFloats 20 = .ok (.iload_n 1, 1) := by decide +kernel
theorem dX2_clearFloats_21 : decode cX2_clearFloats 21 = .ok (.iconst 3, 1) := by decide +kernel
theorem dX2_clearFloats_22 : decode cX2_clearFloats 22 = .ok (.if_icmp .eq 21, 3) := by decide +kernel
theorem dX2_clearFloats_25 : decode cX2_clearFloats 25 = .ok (.aload 4, 2) := by decide +kernel
theorem dX2_clearFloats_27 : decode cX2_clearFloats 27 = .ok (.getfield 80, 3) := by decide +kernel
theorem dX2_clearFloats_30 : decode cX2_clearFloats 30 = .ok (.iload_n 1, 1) := by decide +kernel
theorem dX2_clearFloats_31 : decode cX2_clearFloats 31 = .ok (.iconst 1, 1) := by decide +kernel
theorem dX2_clearFloats_32 : decode cX2_clearFloats 32 = .ok (.if_icmp .ne 7, 3) := by decide +kernel
theorem dX2_clearFloats_35 : decode cX2_clearFloats 35 = .ok (.iconst 1, 1) := by decide +kernel
theorem dX2_clearFloats_36 : decode cX2_clearFloats 36 = .ok (.goto 4, 3) := by decide +kernel
theorem dX2_clearFloats_39 : decode cX2_clearFloats 39 = .ok (.iconst 0, 1) := by decide +kernel
theorem dX2_clearFloats_40 : decode cX2_clearFloats 40 = .ok (.if_icmp .ne 27, 3) := by decide +kernel
theorem dX2_clearFloats_43 : decode cX2_clearFloats 43 = .ok (.iload_n 2, 1) := by decide +kernel
theorem dX2_clearFloats_44 : decode cX2_clearFloats 44 = .ok (.ifCond .eq 15, 3) := by decide +kernel
theorem dX2_clearFloats_47 : decode cX2_clearFloats 47 = .ok (.iload_n 3, 1) := by decide +kernel
theorem dX2_clearFloats_48 : decode cX2_clearFloats 48 = .ok (.aload 4, 2) := by decide +kernel
theorem dX2_clearFloats_50 : decode cX2_clearFloats 50 = .ok (.getfield 85, 3) := by decide +kernel
theorem dX2_clearFloats_53 : decode cX2_clearFloats 53 = .ok (.invokestatic 52, 3) := by decide +kernel
theorem dX2_clearFloats_56 : decode cX2_clearFloats 56 = .ok (.goto 8, 3) := by decide +kernel
theorem dX2_clearFloats_59 : decode cX2_clearFloats 59 = .ok (.aload 4, 2) := by decide +kernel
theorem dX2_clearFloats_61 : decode cX2_clearFloats 61 = .ok (.getfield 85, 3) := by decide +kernel
theorem dX2_clearFloats_64 : decode cX2_clearFloats 64 = .ok (.istore_n 3, 1) := by decide +kernel
theorem dX2_clearFloats_65 : decode cX2_clearFloats 65 = .ok (.iconst 1, 1) := by decide +kernel
theorem dX2_clearFloats_66 : decode cX2_clearFloats 66 = .ok (.istore_n 2, 1) := by decide +kernel
theorem dX2_clearFloats_67 : decode cX2_clearFloats 67 = .ok (.aload 4, 2) := by decide +kernel
theorem dX2_clearFloats_69 : decode cX2_clearFloats 69 = .ok (.getfield 88, 3) := by decide +kernel
theorem dX2_clearFloats_72 : decode cX2_clearFloats 72 = .ok (.astore 4, 2) := by decide +kernel
theorem dX2_clearFloats_74 : decode cX2_clearFloats 74 = .ok (.goto (-59), 3) := by decide +kernel
theorem dX2_clearFloats_77 : decode cX2_clearFloats 77 = .ok (.iload_n 3, 1) := by decide +kernel
theorem dX2_clearFloats_78 : decode cX2_clearFloats 78 = .ok (.aload_n 0, 1) := by decide +kernel
theorem dX2_clearFloats_79 : decode cX2_clearFloats 79 = .ok (.invokevirtual 61, 3) := by decide +kernel
theorem dX2_clearFloats_82 : decode cX2_clearFloats 82 = .ok (.if_icmp .le 12, 3) := by decide +kernel
theorem dX2_clearFloats_85 : decode cX2_clearFloats 85 = .ok (.aload_n 0, 1) := by decide +kernel
theorem dX2_clearFloats_86 : decode cX2_clearFloats 86 = .ok (.iload_n 3, 1) := by decide +kernel
theorem dX2_clearFloats_87 : decode cX2_clearFloats 87 = .ok (.putfield 9, 3) := by decide +kernel
theorem dX2_clearFloats_90 : decode cX2_clearFloats 90 = .ok (.aload_n 0, 1) := by decide +kernel
theorem dX2_clearFloats_91 : decode cX2_clearFloats 91 = .ok (.invokevirtual 65, 3) := by decide +kernel
theorem dX2_clearFloats_94 : decode cX2_clearFloats 94 = .ok (.return_, 1) := by decide +kernel
theorem dX2_reachTo_0 : decode cX2_reachTo 0 = .ok (.aload_n 0, 1) := by decide +kernel
theorem dX2_reachTo_1 : decode cX2_reachTo 1 = .ok (.aload_n 0, 1) := by decide +kernel
theorem dX2_reachTo_2 : decode cX2_reachTo 2 = .ok (.getfield 33, 3) := by decide +kernel
theorem dX2_reachTo_5 : decode cX2_reachTo 5 = .ok (.iload_n 1, 1) := by decide +kernel
theorem dX2_reachTo_6 : decode cX2_reachTo 6 = .ok (.invokestatic 52, 3) := by decide +kernel
theorem dX2_reachTo_9 : decode cX2_reachTo 9 = .ok (.putfield 33, 3) := by decide +kernel
theorem dX2_reachTo_12 : decode cX2_reachTo 12 = .ok (.return_, 1) := by decide +kernel
theorem dX2_look_0 : decode cX2_look 0 = .ok (.iload_n 2, 1) := by decide +kernel
theorem dX2_look_1 : decode cX2_look 1 = .ok (.iload_n 1, 1) := by decide +kernel
theorem dX2_look_2 : decode cX2_look 2 = .ok (.iconst 1, 1) := by decide +kernel
theorem dX2_look_3 : decode cX2_look 3 = .ok (.iadd, 1) := by decide +kernel
theorem dX2_look_4 : decode cX2_look 4 = .ok (.invokestatic 52, 3) := by decide +kernel
theorem dX2_look_7 : decode cX2_look 7 = .ok (.istore_n 3, 1) := by decide +kernel
theorem dX2_look_8 : decode cX2_look 8 = .ok (.aload_n 0, 1) := by decide +kernel
theorem dX2_look_9 : decode cX2_look 9 = .ok (.aload_n 0, 1) := by decide +kernel
theorem dX2_look_10 : decode cX2_look 10 = .ok (.getfield 91, 3) := by decide +kernel
theorem dX2_look_13 : decode cX2_look 13 = .ok (.putfield 94, 3) := by decide +kernel
theorem dX2_look_16 : decode cX2_look 16 = .ok (.aload_n 0, 1) := by decide +kernel
theorem dX2_look_17 : decode cX2_look 17 = .ok (.aload_n 0, 1) := by decide +kernel
theorem dX2_look_18 : decode cX2_look 18 = .ok (.getfield 91, 3) := by decide +kernel
theorem dX2_look_21 : decode cX2_look 21 = .ok (.aload_n 0, 1) := by decide +kernel
theorem dX2_look_22 : decode cX2_look 22 = .ok (.getfield 97, 3) := by decide +kernel
theorem dX2_look_25 : decode cX2_look 25 = .ok (.iadd, 1) := by decide +kernel
theorem dX2_look_26 : decode cX2_look 26 = .ok (.putfield 100, 3) := by decide +kernel
theorem dX2_look_29 : decode cX2_look 29 = .ok (.aload_n 0, 1) := by decide +kernel
theorem dX2_look_30 : decode cX2_look 30 = .ok (.iconst 0, 1) := by decide +kernel
theorem dX2_look_31 : decode cX2_look 31 = .ok (.putfield 103, 3) := by decide +kernel
theorem dX2_look_34 : decode cX2_look 34 = .ok (.aload_n 0, 1) := by decide +kernel
theorem dX2_look_35 : decode cX2_look 35 = .ok (.getfield 25, 3) := by decide +kernel
theorem dX2_look_38 : decode cX2_look 38 = .ok (.astore 4, 2) := by decide +kernel
theorem dX2_look_40 : decode cX2_look 40 = .ok (.aload 4, 2) := by decide +kernel
theorem dX2_look_42 : decode cX2_look 42 = .ok (.ifnull 79, 3) := by decide +kernel
theorem dX2_look_45 : decode cX2_look 45 = .ok (.aload 4, 2) := by decide +kernel
theorem dX2_look_47 : decode cX2_look 47 = .ok (.aload_n 0, 1) := by decide +kernel
theorem dX2_look_48 : decode cX2_look 48 = .ok (.getfield 91, 3) := by decide +kernel
theorem dX2_look_51 : decode cX2_look 51 = .ok (.aload_n 0, 1) := by decide +kernel
theorem dX2_look_52 : decode cX2_look 52 = .ok (.getfield 97, 3) := by decide +kernel
theorem dX2_look_55 : decode cX2_look 55 = .ok (.iload_n 1, 1) := by decide +kernel
theorem dX2_look_56 : decode cX2_look 56 = .ok (.iload_n 3, 1) := by decide +kernel
theorem dX2_look_57 : decode cX2_look 57 = .ok (.invokevirtual 106, 3) := by decide +kernel
theorem dX2_look_60 : decode cX2_look 60 = .ok (.ifCond .eq 51, 3) := by decide +kernel
theorem dX2_look_63 : decode cX2_look 63 = .ok (.aload_n 0, 1) := by decide +kernel
theorem dX2_look_64 : decode cX2_look 64 = .ok (.iconst 1, 1) := by decide +kernel
theorem dX2_look_65 : decode cX2_look 65 = .ok (.putfield 103, 3) := by decide +kernel
theorem dX2_look_68 : decode cX2_look 68 = .ok (.aload 4, 2) := by decide +kernel
theorem dX2_look_70 : decode cX2_look 70 = .ok (.getfield 80, 3) := by decide +kernel
theorem dX2_look_73 : decode cX2_look 73 = .ok (.ifCond .eq 22, 3) := by decide +kernel
theorem dX2_look_76 : decode cX2_look 76 = .ok (.aload_n 0, 1) := by decide +kernel
theorem dX2_look_77 : decode cX2_look 77 = .ok (.aload_n 0, 1) := by decide +kernel
theorem dX2_look_78 : decode cX2_look 78 = .ok (.getfield 94, 3) := by decide +kernel
theorem dX2_look_81 : decode cX2_look 81 = .ok (.aload 4, 2) := by decide +kernel
theorem dX2_look_83 : decode cX2_look 83 = .ok (.getfield 110, 3) := by decide +kernel
theorem dX2_look_86 : decode cX2_look 86 = .ok (.invokestatic 52, 3) := by decide +kernel
theorem dX2_look_89 : decode cX2_look 89 = .ok (.putfield 94, 3) := by decide +kernel
theorem dX2_look_92 : decode cX2_look 92 = .ok (.goto 19, 3) := by decide +kernel
theorem dX2_look_95 : decode cX2_look 95 = .ok (.aload_n 0, 1) := by decide +kernel
theorem dX2_look_96 : decode cX2_look 96 = .ok (.aload_n 0, 1) := by decide +kernel
theorem dX2_look_97 : decode cX2_look 97 = .ok (.getfield 100, 3) := by decide +kernel
theorem dX2_look_100 : decode cX2_look 100 = .ok (.aload 4, 2) := by decide +kernel
theorem dX2_look_102 : decode cX2_look 102 = .ok (.getfield 113, 3) := by decide +kernel
theorem dX2_look_105 : decode cX2_look 105 = .ok (.invokestatic 58, 3) := by decide +kernel
theorem dX2_look_108 : decode cX2_look 108 = .ok (.putfield 100, 3) := by decide +kernel
theorem dX2_look_111 : decode cX2_look 111 = .ok (.aload 4, 2) := by decide +kernel
theorem dX2_look_113 : decode cX2_look 113 = .ok (.getfield 88, 3) := by decide +kernel
theorem dX2_look_116 : decode cX2_look 116 = .ok (.astore 4, 2) := by decide +kernel
theorem dX2_look_118 : decode cX2_look 118 = .ok (.goto (-78), 3) := by decide +kernel
theorem dX2_look_121 : decode cX2_look 121 = .ok (.return_, 1) := by decide +kernel
theorem dX2_band_0 : decode cX2_band 0 = .ok (.aload_n 0, 1) := by decide +kernel
theorem dX2_band_1 : decode cX2_band 1 = .ok (.getfield 100, 3) := by decide +kernel
theorem dX2_band_4 : decode cX2_band 4 = .ok (.aload_n 0, 1) := by decide +kernel
theorem dX2_band_5 : decode cX2_band 5 = .ok (.getfield 94, 3) := by decide +kernel
theorem dX2_band_8 : decode cX2_band 8 = .ok (.isub, 1) := by decide +kernel
theorem dX2_band_9 : decode cX2_band 9 = .ok (.ireturn, 1) := by decide +kernel
theorem dX2_nextOffset_0 : decode cX2_nextOffset 0 = .ok (.aload_n 0, 1) := by decide +kernel
theorem dX2_nextOffset_1 : decode cX2_nextOffset 1 = .ok (.getfield 40, 3) := by decide +kernel
theorem dX2_nextOffset_4 : decode cX2_nextOffset 4 = .ok (.ifCond .ne 7, 3) := by decide +kernel
theorem dX2_nextOffset_7 : decode cX2_nextOffset 7 = .ok (.iconst 0, 1) := by decide +kernel
theorem dX2_nextOffset_8 : decode cX2_nextOffset 8 = .ok (.goto 9, 3) := by decide +kernel
theorem dX2_nextOffset_11 : decode cX2_nextOffset 11 = .ok (.aload_n 0, 1) := by decide +kernel
theorem dX2_nextOffset_12 : decode cX2_nextOffset 12 = .ok (.getfield 43, 3) := by decide +kernel
theorem dX2_nextOffset_15 : decode cX2_nextOffset 15 = .ok (.iconst 1, 1) := by decide +kernel
theorem dX2_nextOffset_16 : decode cX2_nextOffset 16 = .ok (.iadd, 1) := by decide +kernel
theorem dX2_nextOffset_17 : decode cX2_nextOffset 17 = .ok (.ireturn, 1) := by decide +kernel
theorem dX2_fits_0 : decode cX2_fits 0 = .ok (.aload_n 0, 1) := by decide +kernel
theorem dX2_fits_1 : decode cX2_fits 1 = .ok (.invokevirtual 133, 3) := by decide +kernel
theorem dX2_fits_4 : decode cX2_fits 4 = .ok (.iload_n 1, 1) := by decide +kernel
theorem dX2_fits_5 : decode cX2_fits 5 = .ok (.iadd, 1) := by decide +kernel
theorem dX2_fits_6 : decode cX2_fits 6 = .ok (.aload_n 0, 1) := by decide +kernel
theorem dX2_fits_7 : decode cX2_fits 7 = .ok (.invokevirtual 118, 3) := by decide +kernel
theorem dX2_fits_10 : decode cX2_fits 10 = .ok (.if_icmp .gt 7, 3) := by decide +kernel
theorem dX2_fits_13 : decode cX2_fits 13 = .ok (.iconst 1, 1) := by decide +kernel
theorem dX2_fits_14 : decode cX2_fits 14 = .ok (.goto 4, 3) := by decide +kernel
theorem dX2_fits_17 : decode cX2_fits 17 = .ok (.iconst 0, 1) := by decide +kernel
theorem dX2_fits_18 : decode cX2_fits 18 = .ok (.ireturn, 1) := by decide +kernel
theorem dX2_contentHeight_0 : decode cX2_contentHeight 0 = .ok (.iconst 0, 1) := by decide +kernel
theorem dX2_contentHeight_1 : decode cX2_contentHeight 1 = .ok (.aload_n 0, 1) := by decide +kernel
theorem dX2_contentHeight_2 : decode cX2_contentHeight 2 = .ok (.getfield 9, 3) := by decide +kernel
theorem dX2_contentHeight_5 : decode cX2_contentHeight 5 = .ok (.invokestatic 52, 3) := by decide +kernel
theorem dX2_contentHeight_8 : decode cX2_contentHeight 8 = .ok (.istore_n 1, 1) := by decide +kernel
theorem dX2_contentHeight_9 : decode cX2_contentHeight 9 = .ok (.aload_n 0, 1) := by decide +kernel
theorem dX2_contentHeight_10 : decode cX2_contentHeight 10 = .ok (.getfield 25, 3) := by decide +kernel
theorem dX2_contentHeight_13 : decode cX2_contentHeight 13 = .ok (.astore_n 2, 1) := by decide +kernel
theorem dX2_contentHeight_14 : decode cX2_contentHeight 14 = .ok (.aload_n 2, 1) := by decide +kernel
theorem dX2_contentHeight_15 : decode cX2_contentHeight 15 = .ok (.ifnull 20, 3) := by decide +kernel
theorem dX2_contentHeight_18 : decode cX2_contentHeight 18 = .ok (.iload_n 1, 1) := by decide +kernel
theorem dX2_contentHeight_19 : decode cX2_contentHeight 19 = .ok (.aload_n 2, 1) := by decide +kernel
theorem dX2_contentHeight_20 : decode cX2_contentHeight 20 = .ok (.getfield 85, 3) := by decide +kernel
theorem dX2_contentHeight_23 : decode cX2_contentHeight 23 = .ok (.invokestatic 52, 3) := by decide +kernel
theorem dX2_contentHeight_26 : decode cX2_contentHeight 26 = .ok (.istore_n 1, 1) := by decide +kernel
theorem dX2_contentHeight_27 : decode cX2_contentHeight 27 = .ok (.aload_n 2, 1) := by decide +kernel
theorem dX2_contentHeight_28 : decode cX2_contentHeight 28 = .ok (.getfield 88, 3) := by decide +kernel
theorem dX2_contentHeight_31 : decode cX2_contentHeight 31 = .ok (.astore_n 2, 1) := by decide +kernel
theorem dX2_contentHeight_32 : decode cX2_contentHeight 32 = .ok (.goto (-18), 3) := by decide +kernel
theorem dX2_contentHeight_35 : decode cX2_contentHeight 35 = .ok (.iload_n 1, 1) := by decide +kernel
theorem dX2_contentHeight_36 : decode cX2_contentHeight 36 = .ok (.ireturn, 1) := by decide +kernel
theorem dX3_isInLines_0 : decode cX3_isInLines 0 = .ok (.aload_n 0, 1) := by decide +kernel
theorem dX3_isInLines_1 : decode cX3_isInLines 1 = .ok (.getstatic 25, 3) := by decide +kernel
theorem dX3_isInLines_4 : decode cX3_isInLines 4 = .ok (.if_acmp .eq 17, 3) := by decide +kernel
theorem dX3_isInLines_7 : decode cX3_isInLines 7 = .ok (.aload_n 0, 1) := by decide +kernel
theorem dX3_isInLines_8 : decode cX3_isInLines 8 = .ok (.getstatic 7, 3) := by decide +kernel
theorem dX3_isInLines_11 : decode cX3_isInLines 11 = .ok (.if_acmp .eq 10, 3) := by decide +kernel
theorem dX3_isInLines_14 : decode cX3_isInLines 14 = .ok (.aload_n 0, 1) := by decide +kernel
theorem dX3_isInLines_15 : decode cX3_isInLines 15 = .ok (.getstatic 10, 3) := by decide +kernel
theorem dX3_isInLines_18 : decode cX3_isInLines 18 = .ok (.if_acmp .ne 7, 3) := by decide +kernel
theorem dX3_isInLines_21 : decode cX3_isInLines 21 = .ok (.iconst 1, 1) := by decide +kernel
theorem dX3_isInLines_22 : decode cX3_isInLines 22 = .ok (.goto 4, 3) := by decide +kernel
theorem dX3_isInLines_25 : decode cX3_isInLines 25 = .ok (.iconst 0, 1) := by decide +kernel
theorem dX3_isInLines_26 : decode cX3_isInLines 26 = .ok (.ireturn, 1) := by decide +kernel
theorem dX4_init_0 : decode cX4_init 0 = .ok (.aload_n 0, 1) := by decide +kernel
theorem dX4_init_1 : decode cX4_init 1 = .ok (.invokespecial 3, 3) := by decide +kernel
theorem dX4_init_4 : decode cX4_init 4 = .ok (.aload_n 0, 1) := by decide +kernel
theorem dX4_init_5 : decode cX4_init 5 = .ok (.iload_n 1, 1) := by decide +kernel
theorem dX4_init_6 : decode cX4_init 6 = .ok (.putfield 9, 3) := by decide +kernel
theorem dX4_init_9 : decode cX4_init 9 = .ok (.aload_n 0, 1) := by decide +kernel
theorem dX4_init_10 : decode cX4_init 10 = .ok (.aload_n 2, 1) := by decide +kernel
theorem dX4_init_11 : decode cX4_init 11 = .ok (.putfield 15, 3) := by decide +kernel
theorem dX4_init_14 : decode cX4_init 14 = .ok (.aload_n 0, 1) := by decide +kernel
theorem dX4_init_15 : decode cX4_init 15 = .ok (.bipush 21, 2) := by decide +kernel
theorem dX4_init_17 : decode cX4_init 17 = .ok (.anewarray 19, 3) := by decide +kernel
theorem dX4_init_20 : decode cX4_init 20 = .ok (.putfield 21, 3) := by decide +kernel
theorem dX4_init_23 : decode cX4_init 23 = .ok (.iconst 0, 1) := by decide +kernel
theorem dX4_init_24 : decode cX4_init 24 = .ok (.istore_n 3, 1) := by decide +kernel
theorem dX4_init_25 : decode cX4_init 25 = .ok (.iload_n 3, 1) := by decide +kernel
theorem dX4_init_26 : decode cX4_init 26 = .ok (.bipush 20, 2) := by decide +kernel
theorem dX4_init_28 : decode cX4_init 28 = .ok (.if_icmp .gt 22, 3) := by decide +kernel
theorem dX4_init_31 : decode cX4_init 31 = .ok (.aload_n 0, 1) := by decide +kernel
theorem dX4_init_32 : decode cX4_init 32 = .ok (.getfield 21, 3) := by decide +kernel
theorem dX4_init_35 : decode cX4_init 35 = .ok (.iload_n 3, 1) := by decide +kernel
theorem dX4_init_36 : decode cX4_init 36 = .ok (.new 19, 3) := by decide +kernel
theorem dX4_init_39 : decode cX4_init 39 = .ok (.dup, 1) := by decide +kernel
theorem dX4_init_40 : decode cX4_init 40 = .ok (.invokespecial 25, 3) := by decide +kernel
theorem dX4_init_43 : decode cX4_init 43 = .ok (.aastore, 1) := by decide +kernel
theorem dX4_init_44 : decode cX4_init 44 = .ok (.iinc 3 1, 3) := by decide +kernel
theorem dX4_init_47 : decode cX4_init 47 = .ok (.goto (-22), 3) := by decide +kernel
theorem dX4_init_50 : decode cX4_init 50 = .ok (.return_, 1) := by decide +kernel
theorem dX4_placeOf_0 : decode cX4_placeOf 0 = .ok (.aload_n 0, 1) := by decide +kernel
theorem dX4_placeOf_1 : decode cX4_placeOf 1 = .ok (.getfield 9, 3) := by decide +kernel
theorem dX4_placeOf_4 : decode cX4_placeOf 4 = .ok (.ifCond .eq 10, 3) := by decide +kernel
theorem dX4_placeOf_7 : decode cX4_placeOf 7 = .ok (.aload_n 1, 1) := by decide +kernel
theorem dX4_placeOf_8 : decode cX4_placeOf 8 = .ok (.getfield 26, 3) := by decide +kernel
theorem dX4_placeOf_11 : decode cX4_placeOf 11 = .ok (.goto 7, 3) := by decide +kernel
theorem dX4_placeOf_14 : decode cX4_placeOf 14 = .ok (.aload_n 1, 1) := by decide +kernel
theorem dX4_placeOf_15 : decode cX4_placeOf 15 = .ok (.getfield 32, 3) := by decide +kernel
theorem dX4_placeOf_18 : decode cX4_placeOf 18 = .ok (.areturn, 1) := by decide +kernel
theorem dX4_forgetAll_0 : decode cX4_forgetAll 0 = .ok (.aload_n 1, 1) := by decide +kernel
theorem dX4_forgetAll_1 : decode cX4_forgetAll 1 = .ok (.astore_n 2, 1) := by decide +kernel
theorem dX4_forgetAll_2 : decode cX4_forgetAll 2 = .ok (.aload_n 2, 1) := by decide +kernel
theorem dX4_forgetAll_3 : decode cX4_forgetAll 3 = .ok (.ifnull 22, 3) := by decide +kernel
theorem dX4_forgetAll_6 : decode cX4_forgetAll 6 = .ok (.aload_n 0, 1) := by decide +kernel
theorem dX4_forgetAll_7 : decode cX4_forgetAll 7 = .ok (.aload_n 2, 1) := by decide +kernel
theorem dX4_forgetAll_8 : decode cX4_forgetAll 8 = .ok (.invokevirtual 35, 3) := by decide +kernel
theorem dX4_forgetAll_11 : decode cX4_forgetAll 11 = .ok (.iconst (-1), 1) := by decide +kernel
theorem dX4_forgetAll_12 : decode cX4_forgetAll 12 = .ok (.putfield 39, 3) := by decide +kernel
theorem dX4_forgetAll_15 : decode cX4_forgetAll 15 = .ok (.aload_n 2, 1) := by decide +kernel
theorem dX4_forgetAll_16 : decode cX4_forgetAll 16 = .ok (.aload_n 1, 1) := by decide +kernel
theorem dX4_forgetAll_17 : decode cX4_forgetAll 17 = .ok (.iconst 1, 1) := by decide +kernel
theorem dX4_forgetAll_18 : decode cX4_forgetAll 18 = .ok (.invokestatic 45, 3) := by decide +kernel
theorem dX4_forgetAll_21 : decode cX4_forgetAll 21 = .ok (.astore_n 2, 1) := by decide +kernel
theorem dX4_forgetAll_22 : decode cX4_forgetAll 22 = .ok (.goto (-20), 3) := by decide +kernel
theorem dX4_forgetAll_25 : decode cX4_forgetAll 25 = .ok (.return_, 1) := by decide +kernel
theorem dX4_layAll_0 : decode cX4_layAll 0 = .ok (.aload_n 0, 1) := by decide +kernel
theorem dX4_layAll_1 : decode cX4_layAll 1 = .ok (.iload_n 3, 1) := by decide +kernel
theorem dX4_layAll_2 : decode cX4_layAll 2 = .ok (.putfield 49, 3) := by decide +kernel
theorem dX4_layAll_5 : decode cX4_layAll 5 = .ok (.aload_n 0, 1) := by decide +kernel
theorem dX4_layAll_6 : decode cX4_layAll 6 = .ok (.iconst 0, 1) := by decide +kernel
theorem dX4_layAll_7 : decode cX4_layAll 7 = .ok (.putfield 52, 3) := by decide +kernel
theorem dX4_layAll_10 : decode cX4_layAll 10 = .ok (.aload_n 0, 1) := by decide +kernel
theorem dX4_layAll_11 : decode cX4_layAll 11 = .ok (.aload_n 1, 1) := by decide +kernel
theorem dX4_layAll_12 : decode cX4_layAll 12 = .ok (.iload_n 2, 1) := by decide +kernel
theorem dX4_layAll_13 : decode cX4_layAll 13 = .ok (.iconst (-1), 1) := by decide +kernel
theorem dX4_layAll_14 : decode cX4_layAll 14 = .ok (.invokevirtual 55, 3) := by decide +kernel
theorem dX4_layAll_17 : decode cX4_layAll 17 = .ok (.aload_n 1, 1) := by decide +kernel
theorem dX4_layAll_18 : decode cX4_layAll 18 = .ok (.astore 4, 2) := by decide +kernel
theorem dX4_layAll_20 : decode cX4_layAll 20 = .ok (.aload 4, 2) := by decide +kernel
theorem dX4_layAll_22 : decode cX4_layAll 22 = .ok (.ifnull 32, 3) := by decide +kernel
theorem dX4_layAll_25 : decode cX4_layAll 25 = .ok (.aload 4, 2) := by decide +kernel
theorem dX4_layAll_27 : decode cX4_layAll 27 = .ok (.getfield 59, 3) := by decide +kernel
theorem dX4_layAll_30 : decode cX4_layAll 30 = .ok (.getstatic 63, 3) := by decide +kernel
theorem dX4_layAll_33 : decode cX4_layAll 33 = .ok (.if_acmp .ne 9, 3) := by decide +kernel
theorem dX4_layAll_36 : decode cX4_layAll 36 = .ok (.aload_n 0, 1) := by decide +kernel
theorem dX4_layAll_37 : decode cX4_layAll 37 = .ok (.aload 4, 2) := by decide +kernel
theorem dX4_layAll_39 : decode cX4_layAll 39 = .ok (.invokevirtual 68, 3) := by decide +kernel
theorem dX4_layAll_42 : decode cX4_layAll 42 = .ok (.aload 4, 2) := by decide +kernel
theorem dX4_layAll_44 : decode cX4_layAll 44 = .ok (.aload_n 1, 1) := by decide +kernel
theorem dX4_layAll_45 : decode cX4_layAll 45 = .ok (.iconst 1, 1) := by decide +kernel
theorem dX4_layAll_46 : decode cX4_layAll 46 = .ok (.invokestatic 45, 3) := by decide +kernel
theorem dX4_layAll_49 : decode cX4_layAll 49 = .ok (.astore 4, 2) := by decide +kernel
theorem dX4_layAll_51 : decode cX4_layAll 51 = .ok (.goto (-31), 3) := by decide +kernel
theorem dX4_layAll_54 : decode cX4_layAll 54 = .ok (.aload_n 1, 1) := by decide +kernel
theorem dX4_layAll_55 : decode cX4_layAll 55 = .ok (.astore 4, 2) := by decide +kernel
theorem dX4_layAll_57 : decode cX4_layAll 57 = .ok (.aload 4, 2) := by decide +kernel
theorem dX4_layAll_59 : decode cX4_layAll 59 = .ok (.ifnull 21, 3) := by decide +kernel
theorem dX4_layAll_62 : decode cX4_layAll 62 = .ok (.aload_n 0, 1) := by decide +kernel
theorem dX4_layAll_63 : decode cX4_layAll 63 = .ok (.aload 4, 2) := by decide +kernel
theorem dX4_layAll_65 : decode cX4_layAll 65 = .ok (.invokevirtual 72, 3) := by decide +kernel
theorem dX4_layAll_68 : decode cX4_layAll 68 = .ok (.aload 4, 2) := by decide +kernel
theorem dX4_layAll_70 : decode cX4_layAll 70 = .ok (.aload_n 1, 1) := by decide +kernel
theorem dX4_layAll_71 : decode cX4_layAll 71 = .ok (.iconst 1, 1) := by decide +kernel
theorem dX4_layAll_72 : decode cX4_layAll 72 = .ok (.invokestatic 45, 3) := by decide +kernel
theorem dX4_layAll_75 : decode cX4_layAll 75 = .ok (.astore 4, 2) := by decide +kernel
theorem dX4_layAll_77 : decode cX4_layAll 77 = .ok (.goto (-20), 3) := by decide +kernel
theorem dX4_layAll_80 : decode cX4_layAll 80 = .ok (.aload_n 0, 1) := by decide +kernel
theorem dX4_layAll_81 : decode cX4_layAll 81 = .ok (.getfield 52, 3) := by decide +kernel
theorem dX4_layAll_84 : decode cX4_layAll 84 = .ok (.ireturn, 1) := by decide +kernel
theorem dX4_settle_0 : decode cX4_settle 0 = .ok (.aload_n 0, 1) := by decide +kernel
theorem dX4_settle_1 : decode cX4_settle 1 = .ok (.aload_n 1, 1) := by decide +kernel
theorem dX4_settle_2 : decode cX4_settle 2 = .ok (.invokevirtual 35, 3) := by decide +kernel
theorem dX4_settle_5 : decode cX4_settle 5 = .ok (.astore_n 2, 1) := by decide +kernel
theorem dX4_settle_6 : decode cX4_settle 6 = .ok (.aload_n 1, 1) := by decide +kernel
theorem dX4_settle_7 : decode cX4_settle 7 = .ok (.getfield 75, 3) := by decide +kernel
theorem dX4_settle_10 : decode cX4_settle 10 = .ok (.astore_n 3, 1) := by decide +kernel
theorem dX4_settle_11 : decode cX4_settle 11 = .ok (.aload_n 3, 1) := by decide +kernel
theorem dX4_settle_12 : decode cX4_settle 12 = .ok (.ifnonnull 26, 3) := by decide +kernel
theorem dX4_settle_15 : decode cX4_settle 15 = .ok (.aload_n 2, 1) := by decide +kernel
theorem dX4_settle_16 : decode cX4_settle 16 = .ok (.iconst 0, 1) := by decide +kernel
theorem dX4_settle_17 : decode cX4_settle 17 = .ok (.putfield 105, 3) := by decide +kernel
theorem dX4_settle_20 : decode cX4_settle 20 = .ok (.aload_n 2, 1) := by decide +kernel
theorem dX4_settle_21 : decode cX4_settle 21 = .ok (.iconst 0, 1) := by decide +kernel
theorem dX4_settle_22 : decode cX4_settle 22 = .ok (.putfield 108, 3) := by decide +kernel
theorem dX4_settle_25 : decode cX4_settle 25 = .ok (.aload_n 2, 1) := by decide +kernel
theorem dX4_settle_26 : decode cX4_settle 26 = .ok (.iconst 0, 1) := by decide +kernel
theorem dX4_settle_27 : decode cX4_settle 27 = .ok (.putfield 111, 3) := by decide +kernel
theorem dX4_settle_30 : decode cX4_settle 30 = .ok (.aload_n 2, 1) := by decide +kernel
theorem dX4_settle_31 : decode cX4_settle 31 = .ok (.iconst 0, 1) := by decide +kernel
theorem dX4_settle_32 : decode cX4_settle 32 = .ok (.putfield 114, 3) := by decide +kernel
theorem dX4_settle_35 : decode cX4_settle 35 = .ok (.goto 45, 3) := by decide +kernel
theorem dX4_settle_38 : decode cX4_settle 38 = .ok (.aload_n 1, 1) := by decide +kernel
theorem dX4_settle_39 : decode cX4_settle 39 = .ok (.getfield 59, 3) := by decide +kernel
theorem dX4_settle_42 : decode cX4_settle 42 = .ok (.getstatic 63, 3) := by decide +kernel
theorem dX4_settle_45 : decode cX4_settle 45 = .ok (.if_acmp .ne 17, 3) := by decide +kernel
theorem dX4_settle_48 : decode cX4_settle 48 = .ok (.aload_n 0, 1) := by decide +kernel
theorem dX4_settle_49 : decode cX4_settle 49 = .ok (.aload_n 1, 1) := by decide +kernel
theorem dX4_settle_50 : decode cX4_settle 50 = .ok (.aload_n 2, 1) := by decide +kernel
theorem dX4_settle_51 : decode cX4_settle 51 = .ok (.aload_n 0, 1) := by decide +kernel
theorem dX4_settle_52 : decode cX4_settle 52 = .ok (.aload_n 3, 1) := by decide +kernel
theorem dX4_settle_53 : decode cX4_settle 53 = .ok (.invokevirtual 35, 3) := by decide +kernel
theorem dX4_settle_56 : decode cX4_settle 56 = .ok (.invokevirtual 117, 3) := by decide +kernel
theorem dX4_settle_59 : decode cX4_settle 59 = .ok (.goto 21, 3) := by decide +kernel
theorem dX4_settle_62 : decode cX4_settle 62 = .ok (.aload_n 1, 1) := by decide +kernel
theorem dX4_settle_63 : decode cX4_settle 63 = .ok (.invokevirtual 121, 3) := by decide +kernel
theorem dX4_settle_66 : decode cX4_settle 66 = .ok (.ifCond .ne 14, 3) := by decide +kernel
theorem dX4_settle_69 : decode cX4_settle 69 = .ok (.aload_n 0, 1) := by decide +kernel
theorem dX4_settle_70 : decode cX4_settle 70 = .ok (.aload_n 1, 1) := by decide +kernel
theorem dX4_settle_71 : decode cX4_settle 71 = .ok (.aload_n 2, 1) := by decide +kernel
theorem dX4_settle_72 : decode cX4_settle 72 = .ok (.aload_n 0, 1) := by decide +kernel
theorem dX4_settle_73 : decode cX4_settle 73 = .ok (.aload_n 3, 1) := by decide +kernel
theorem dX4_settle_74 : decode cX4_settle 74 = .ok (.invokevirtual 35, 3) := by decide +kernel
theorem dX4_settle_77 : decode cX4_settle 77 = .ok (.invokevirtual 124, 3) := by decide +kernel
theorem dX4_settle_80 : decode cX4_settle 80 = .ok (.return_, 1) := by decide +kernel
theorem dX4_settleInFlow_0 : decode cX4_settleInFlow 0 = .ok (.aload_n 1, 1) := by decide +kernel
theorem dX4_settleInFlow_1 : decode cX4_settleInFlow 1 = .ok (.getfield 127, 3) := by decide +kernel
theorem dX4_settleInFlow_4 : decode cX4_settleInFlow 4 = .ok (.iconst 3, 1) := by decide +kernel
theorem dX4_settleInFlow_5 : decode cX4_settleInFlow 5 = .ok (.iaload, 1) := by decide +kernel
theorem dX4_settleInFlow_6 : decode cX4_settleInFlow 6 = .ok (.iconst 1, 1) := by decide +kernel
theorem dX4_settleInFlow_7 : decode cX4_settleInFlow 7 = .ok (.if_icmp .ne 7, 3) := by decide +kernel
theorem dX4_settleInFlow_10 : decode cX4_settleInFlow 10 = .ok (.iconst 1, 1) := by decide +kernel
theorem dX4_settleInFlow_11 : decode cX4_settleInFlow 11 = .ok (.goto 4, 3) := by decide +kernel
theorem dX4_settleInFlow_14 : decode cX4_settleInFlow 14 = .ok (.iconst 0, 1) := by decide +kernel
theorem dX4_settleInFlow_15 : decode cX4_settleInFlow 15 = .ok (.istore 4, 2) := by decide +kernel
theorem dX4_settleInFlow_17 : decode cX4_settleInFlow 17 = .ok (.aload_n 3, 1) := by decide +kernel
theorem dX4_settleInFlow_18 : decode cX4_settleInFlow 18 = .ok (.getfield 111, 3) := by decide +kernel
theorem dX4_settleInFlow_21 : decode cX4_settleInFlow 21 = .ok (.iload 4, 2) := by decide +kernel
theorem dX4_settleInFlow_23 : decode cX4_settleInFlow 23 = .ok (.ifCond .eq 16, 3) := by decide +kernel
theorem dX4_settleInFlow_26 : decode cX4_settleInFlow 26 = .ok (.aload_n 1, 1) := by decide +kernel
theorem dX4_settleInFlow_27 : decode cX4_settleInFlow 27 = .ok (.getfield 127, 3) := by decide +kernel
theorem dX4_settleInFlow_30 : decode cX4_settleInFlow 30 = .ok (.bipush 18, 2) := by decide +kernel
theorem dX4_settleInFlow_32 : decode cX4_settleInFlow 32 = .ok (.iaload, 1) := by decide +kernel
theorem dX4_settleInFlow_33 : decode cX4_settleInFlow 33 = .ok (.invokestatic 131, 3) := by decide +kernel
theorem dX4_settleInFlow_36 : decode cX4_settleInFlow 36 = .ok (.goto 4, 3) := by decide +kernel
theorem dX4_settleInFlow_39 : decode cX4_settleInFlow 39 = .ok (.iconst 0, 1) := by decide +kernel
theorem dX4_settleInFlow_40 : decode cX4_settleInFlow 40 = .ok (.iadd, 1) := by decide +kernel
theorem dX4_settleInFlow_41 : decode cX4_settleInFlow 41 = .ok (.istore 5, 2) := by decide +kernel
theorem dX4_settleInFlow_43 : decode cX4_settleInFlow 43 = .ok (.aload_n 3, 1) := by decide +kernel
theorem dX4_settleInFlow_44 : decode cX4_settleInFlow 44 = .ok (.getfield 114, 3) := by decide +kernel
theorem dX4_settleInFlow_47 : decode cX4_settleInFlow 47 = .ok (.iload 4, 2) := by decide +kernel
theorem dX4_settleInFlow_49 : decode cX4_settleInFlow 49 = .ok (.ifCond .eq 16, 3) := by decide +kernel
theorem dX4_settleInFlow_52 : decode cX4_settleInFlow 52 = .ok (.aload_n 1, 1) := by decide +kernel
theorem dX4_settleInFlow_53 : decode cX4_settleInFlow 53 = .ok (.getfield 127, 3) := by decide +kernel
theorem dX4_settleInFlow_56 : decode cX4_settleInFlow 56 = .ok (.bipush 19, 2) := by decide +kernel
theorem dX4_settleInFlow_58 : decode cX4_settleInFlow 58 = .ok (.iaload, 1) := by decide +kernel
theorem dX4_settleInFlow_59 : decode cX4_settleInFlow 59 = .ok (.invokestatic 131, 3) := by decide +kernel
theorem dX4_settleInFlow_62 : decode cX4_settleInFlow 62 = .ok (.goto 4, 3) := by decide +kernel
theorem dX4_settleInFlow_65 : decode cX4_settleInFlow 65 = .ok (.iconst 0, 1) := by decide +kernel
theorem dX4_settleInFlow_66 : decode cX4_settleInFlow 66 = .ok (.iadd, 1) := by decide +kernel
theorem dX4_settleInFlow_67 : decode cX4_settleInFlow 67 = .ok (.istore 6, 2) := by decide +kernel
theorem dX4_settleInFlow_69 : decode cX4_settleInFlow 69 = .ok (.aload_n 1, 1) := by decide +kernel
theorem dX4_settleInFlow_70 : decode cX4_settleInFlow 70 = .ok (.getfield 59, 3) := by decide +kernel
theorem dX4_settleInFlow_73 : decode cX4_settleInFlow 73 = .ok (.getstatic 135, 3) := by decide +kernel
theorem dX4_settleInFlow_76 : decode cX4_settleInFlow 76 = .ok (.if_acmp .ne 21, 3) := by decide +kernel
theorem dX4_settleInFlow_79 : decode cX4_settleInFlow 79 = .ok (.aload_n 2, 1) := by decide +kernel
theorem dX4_settleInFlow_80 : decode cX4_settleInFlow 80 = .ok (.aload_n 1, 1) := by decide +kernel
theorem dX4_settleInFlow_81 : decode cX4_settleInFlow 81 = .ok (.aload_n 2, 1) := by decide +kernel
theorem dX4_settleInFlow_82 : decode cX4_settleInFlow 82 = .ok (.invokestatic 138, 3) := by decide +kernel
theorem dX4_settleInFlow_85 : decode cX4_settleInFlow 85 = .ok (.putfield 142, 3) := by decide +kernel
theorem dX4_settleInFlow_88 : decode cX4_settleInFlow 88 = .ok (.aload_n 2, 1) := by decide +kernel
theorem dX4_settleInFlow_89 : decode cX4_settleInFlow 89 = .ok (.aload_n 1, 1) := by decide +kernel
theorem dX4_settleInFlow_90 : decode cX4_settleInFlow 90 = .ok (.aload_n 2, 1) := by decide +kernel
theorem dX4_settleInFlow_91 : decode cX4_settleInFlow 91 = .ok (.invokestatic 145, 3) := by decide +kernel
theorem dX4_settleInFlow_94 : decode cX4_settleInFlow 94 = .ok (.putfield 148, 3) := by decide +kernel
theorem dX4_settleInFlow_97 : decode cX4_settleInFlow 97 = .ok (.aload_n 2, 1) := by decide +kernel
theorem dX4_settleInFlow_98 : decode cX4_settleInFlow 98 = .ok (.iload 5, 2) := by decide +kernel
theorem dX4_settleInFlow_100 : decode cX4_settleInFlow 100 = .ok (.aload_n 2, 1) := by decide +kernel
theorem dX4_settleInFlow_101 : decode cX4_settleInFlow 101 = .ok (.getfield 142, 3) := by decide +kernel
theorem dX4_settleInFlow_104 : decode cX4_settleInFlow 104 = .ok (.iadd, 1) := by decide +kernel
theorem dX4_settleInFlow_105 : decode cX4_settleInFlow 105 = .ok (.putfield 105, 3) := by decide +kernel
theorem dX4_settleInFlow_108 : decode cX4_settleInFlow 108 = .ok (.aload_n 2, 1) := by decide +kernel
theorem dX4_settleInFlow_109 : decode cX4_settleInFlow 109 = .ok (.iload 6, 2) := by decide +kernel
theorem dX4_settleInFlow_111 : decode cX4_settleInFlow 111 = .ok (.aload_n 2, 1) := by decide +kernel
theorem dX4_settleInFlow_112 : decode cX4_settleInFlow 112 = .ok (.getfield 148, 3) := by decide +kernel
theorem dX4_settleInFlow_115 : decode cX4_settleInFlow 115 = .ok (.iadd, 1) := by decide +kernel
theorem dX4_settleInFlow_116 : decode cX4_settleInFlow 116 = .ok (.putfield 108, 3) := by decide +kernel
theorem dX4_settleInFlow_119 : decode cX4_settleInFlow 119 = .ok (.aload_n 2, 1) := by decide +kernel
theorem dX4_settleInFlow_120 : decode cX4_settleInFlow 120 = .ok (.aload_n 1, 1) := by decide +kernel
theorem dX4_settleInFlow_121 : decode cX4_settleInFlow 121 = .ok (.getfield 151, 3) := by decide +kernel
theorem dX4_settleInFlow_124 : decode cX4_settleInFlow 124 = .ok (.ifCond .eq 18, 3) := by decide +kernel
theorem dX4_settleInFlow_127 : decode cX4_settleInFlow 127 = .ok (.aload_n 2, 1) := by decide +kernel
theorem dX4_settleInFlow_128 : decode cX4_settleInFlow 128 = .ok (.getfield 105, 3) := by decide +kernel
theorem dX4_settleInFlow_131 : decode cX4_settleInFlow 131 = .ok (.aload_n 1, 1) := by decide +kernel
theorem dX4_settleInFlow_132 : decode cX4_settleInFlow 132 = .ok (.getfield 127, 3) := by decide +kernel
theorem dX4_settleInFlow_135 : decode cX4_settleInFlow 135 = .ok (.bipush 13, 2) := by decide +kernel
theorem dX4_settleInFlow_137 : decode cX4_settleInFlow 137 = .ok (.iaload, 1) := by decide +kernel
theorem dX4_settleInFlow_138 : decode cX4_settleInFlow 138 = .ok (.iadd, 1) := by decide +kernel
theorem dX4_settleInFlow_139 : decode cX4_settleInFlow 139 = .ok (.goto 5, 3) := by decide +kernel
theorem dX4_settleInFlow_142 : decode cX4_settleInFlow 142 = .ok (.iload 5, 2) := by decide +kernel
theorem dX4_settleInFlow_144 : decode cX4_settleInFlow 144 = .ok (.putfield 111, 3) := by decide +kernel
theorem dX4_settleInFlow_147 : decode cX4_settleInFlow 147 = .ok (.aload_n 2, 1) := by decide +kernel
theorem dX4_settleInFlow_148 : decode cX4_settleInFlow 148 = .ok (.aload_n 1, 1) := by decide +kernel
theorem dX4_settleInFlow_149 : decode cX4_settleInFlow 149 = .ok (.getfield 151, 3) := by decide +kernel
theorem dX4_settleInFlow_152 : decode cX4_settleInFlow 152 = .ok (.ifCond .eq 18, 3) := by decide +kernel
theorem dX4_settleInFlow_155 : decode cX4_settleInFlow 155 = .ok (.aload_n 2, 1) := by decide +kernel
theorem dX4_settleInFlow_156 : decode cX4_settleInFlow 156 = .ok (.getfield 108, 3) := by decide +kernel
theorem dX4_settleInFlow_159 : decode cX4_settleInFlow 159 = .ok (.aload_n 1, 1) := by decide +kernel
theorem dX4_settleInFlow_160 : decode cX4_settleInFlow 160 = .ok (.getfield 127, 3) := by decide +kernel
theorem dX4_settleInFlow_163 : decode cX4_settleInFlow 163 = .ok (.bipush 10, 2) := by decide +kernel
theorem dX4_settleInFlow_165 : decode cX4_settleInFlow 165 = .ok (.iaload, 1) := by decide +kernel
theorem dX4_settleInFlow_166 : decode cX4_settleInFlow 166 = .ok (.iadd, 1) := by decide +kernel
theorem dX4_settleInFlow_167 : decode cX4_settleInFlow 167 = .ok (.goto 5, 3) := by decide +kernel
theorem dX4_settleInFlow_170 : decode cX4_settleInFlow 170 = .ok (.iload 6, 2) := by decide +kernel
theorem dX4_settleInFlow_172 : decode cX4_settleInFlow 172 = .ok (.putfield 114, 3) := by decide +kernel
theorem dX4_settleInFlow_175 : decode cX4_settleInFlow 175 = .ok (.return_, 1) := by decide +kernel
theorem dX4_offsetOf_0 : decode cX4_offsetOf 0 = .ok (.iload_n 0, 1) := by decide +kernel
theorem dX4_offsetOf_1 : decode cX4_offsetOf 1 = .ok (.sipush (-1000), 3) := by decide +kernel
theorem dX4_offsetOf_4 : decode cX4_offsetOf 4 = .ok (.if_icmp .ne 7, 3) := by decide +kernel
theorem dX4_offsetOf_7 : decode cX4_offsetOf 7 = .ok (.iconst 0, 1) := by decide +kernel
theorem dX4_offsetOf_8 : decode cX4_offsetOf 8 = .ok (.goto 4, 3) := by decide +kernel
theorem dX4_offsetOf_11 : decode cX4_offsetOf 11 = .ok (.iload_n 0, 1) := by decide +kernel
theorem dX4_offsetOf_12 : decode cX4_offsetOf 12 = .ok (.ireturn, 1) := by decide +kernel
theorem dX4_widthIn_0 : decode cX4_widthIn 0 = .ok (.aload_n 0, 1) := by decide +kernel
theorem dX4_widthIn_1 : decode cX4_widthIn 1 = .ok (.getfield 127, 3) := by decide +kernel
theorem dX4_widthIn_4 : decode cX4_widthIn 4 = .ok (.iconst 4, 1) := by decide +kernel
theorem dX4_widthIn_5 : decode cX4_widthIn 5 = .ok (.iaload, 1) := by decide +kernel
theorem dX4_widthIn_6 : decode cX4_widthIn 6 = .ok (.istore_n 3, 1) := by decide +kernel
theorem dX4_widthIn_7 : decode cX4_widthIn 7 = .ok (.iload_n 3, 1) := by decide +kernel
theorem dX4_widthIn_8 : decode cX4_widthIn 8 = .ok (.sipush 1000, 3) := by decide +kernel
theorem dX4_widthIn_11 : decode cX4_widthIn 11 = .ok (.if_icmp .lt 15, 3) := by decide +kernel
theorem dX4_widthIn_14 : decode cX4_widthIn 14 = .ok (.iload_n 1, 1) := by decide +kernel
theorem dX4_widthIn_15 : decode cX4_widthIn 15 = .ok (.iload_n 3, 1) := by decide +kernel
theorem dX4_widthIn_16 : decode cX4_widthIn 16 = .ok (.sipush 1000, 3) := by decide +kernel
theorem dX4_widthIn_19 : decode cX4_widthIn 19 = .ok (.isub, 1) := by decide +kernel
theorem dX4_widthIn_20 : decode cX4_widthIn 20 = .ok (.bipush 100, 2) := by decide +kernel
theorem dX4_widthIn_22 : decode cX4_widthIn 22 = .ok (.invokestatic 166, 3) := by decide +kernel
theorem dX4_widthIn_25 : decode cX4_widthIn 25 = .ok (.ireturn, 1) := by decide +kernel
theorem dX4_widthIn_26 : decode cX4_widthIn 26 = .ok (.iload_n 3, 1) := by decide +kernel
theorem dX4_widthIn_27 : decode cX4_widthIn 27 = .ok (.ifCond .lt 5, 3) := by decide +kernel
theorem dX4_widthIn_30 : decode cX4_widthIn 30 = .ok (.iload_n 3, 1) := by decide +kernel
theorem dX4_widthIn_31 : decode cX4_widthIn 31 = .ok (.ireturn, 1) := by decide +kernel
theorem dX4_widthIn_32 : decode cX4_widthIn 32 = .ok (.iload_n 3, 1) := by decide +kernel
theorem dX4_widthIn_33 : decode cX4_widthIn 33 = .ok (.bipush (-2), 2) := by decide +kernel
theorem dX4_widthIn_35 : decode cX4_widthIn 35 = .ok (.if_icmp .ne 8, 3) := by decide +kernel
theorem dX4_widthIn_38 : decode cX4_widthIn 38 = .ok (.aload_n 0, 1) := by decide +kernel
theorem dX4_widthIn_39 : decode cX4_widthIn 39 = .ok (.invokestatic 170, 3) := by decide +kernel
theorem dX4_widthIn_42 : decode cX4_widthIn 42 = .ok (.ireturn, 1) := by decide +kernel
theorem dX4_widthIn_43 : decode cX4_widthIn 43 = .ok (.iload_n 3, 1) := by decide +kernel
theorem dX4_widthIn_44 : decode cX4_widthIn 44 = .ok (.bipush (-3), 2) := by decide +kernel
theorem dX4_widthIn_46 : decode cX4_widthIn 46 = .ok (.if_icmp .ne 8, 3) := by decide +kernel
theorem dX4_widthIn_49 : decode cX4_widthIn 49 = .ok (.aload_n 0, 1) := by decide +kernel
theorem dX4_widthIn_50 : decode cX4_widthIn 50 = .ok (.invokestatic 176, 3) := by decide +kernel
theorem dX4_widthIn_53 : decode cX4_widthIn 53 = .ok (.ireturn, 1) := by decide +kernel
theorem dX4_widthIn_54 : decode cX4_widthIn 54 = .ok (.iload_n 3, 1) := by decide +kernel
theorem dX4_widthIn_55 : decode cX4_widthIn 55 = .ok (.iconst (-1), 1) := by decide +kernel
theorem dX4_widthIn_56 : decode cX4_widthIn 56 = .ok (.if_icmp .ne 26, 3) := by decide +kernel
theorem dX4_widthIn_59 : decode cX4_widthIn 59 = .ok (.aload_n 0, 1) := by decide +kernel
theorem dX4_widthIn_60 : decode cX4_widthIn 60 = .ok (.getfield 59, 3) := by decide +kernel
theorem dX4_widthIn_63 : decode cX4_widthIn 63 = .ok (.getstatic 179, 3) := by decide +kernel
theorem dX4_widthIn_66 : decode cX4_widthIn 66 = .ok (.if_acmp .ne 16, 3) := by decide +kernel
theorem dX4_widthIn_69 : decode cX4_widthIn 69 = .ok (.aload_n 0, 1) := by decide +kernel
theorem dX4_widthIn_70 : decode cX4_widthIn 70 = .ok (.getfield 182, 3) := by decide +kernel
theorem dX4_widthIn_73 : decode cX4_widthIn 73 = .ok (.ifCond .ne 9, 3) := by decide +kernel
theorem dX4_widthIn_76 : decode cX4_widthIn 76 = .ok (.iconst 0, 1) := by decide +kernel
theorem dX4_widthIn_77 : decode cX4_widthIn 77 = .ok (.iload_n 2, 1) := by decide +kernel
theorem dX4_widthIn_78 : decode cX4_widthIn 78 = .ok (.invokestatic 185, 3) := by decide +kernel
theorem dX4_widthIn_81 : decode cX4_widthIn 81 = .ok (.ireturn, 1) := by decide +kernel
theorem dX4_widthIn_82 : decode cX4_widthIn 82 = .ok (.aload_n 0, 1) := by decide +kernel
theorem dX4_widthIn_83 : decode cX4_widthIn 83 = .ok (.invokestatic 170, 3) := by decide +kernel
theorem dX4_widthIn_86 : decode cX4_widthIn 86 = .ok (.aload_n 0, 1) := by decide +kernel
theorem dX4_widthIn_87 : decode cX4_widthIn 87 = .ok (.invokestatic 176, 3) := by decide +kernel
theorem dX4_widthIn_90 : decode cX4_widthIn 90 = .ok (.iload_n 2, 1) := by decide +kernel
theorem dX4_widthIn_91 : decode cX4_widthIn 91 = .ok (.invokestatic 191, 3) := by decide +kernel
theorem dX4_widthIn_94 : decode cX4_widthIn 94 = .ok (.invokestatic 185, 3) := by decide +kernel
theorem dX4_widthIn_97 : decode cX4_widthIn 97 = .ok (.ireturn, 1) := by decide +kernel
theorem dX4_heightIn_0 : decode cX4_heightIn 0 = .ok (.aload_n 0, 1) := by decide +kernel
theorem dX4_heightIn_1 : decode cX4_heightIn 1 = .ok (.getfield 127, 3) := by decide +kernel
theorem dX4_heightIn_4 : decode cX4_heightIn 4 = .ok (.iconst 5, 1) := by decide +kernel
theorem dX4_heightIn_5 : decode cX4_heightIn 5 = .ok (.iaload, 1) := by decide +kernel
theorem dX4_heightIn_6 : decode cX4_heightIn 6 = .ok (.istore_n 2, 1) := by decide +kernel
theorem dX4_heightIn_7 : decode cX4_heightIn 7 = .ok (.iload_n 2, 1) := by decide +kernel
theorem dX4_heightIn_8 : decode cX4_heightIn 8 = .ok (.sipush 1000, 3) := by decide +kernel
theorem dX4_heightIn_11 : decode cX4_heightIn 11 = .ok (.if_icmp .lt 23, 3) := by decide +kernel
theorem dX4_heightIn_14 : decode cX4_heightIn 14 = .ok (.iload_n 1, 1) := by decide +kernel
theorem dX4_heightIn_15 : decode cX4_heightIn 15 = .ok (.ifCond .ge 7, 3) := by decide +kernel
theorem dX4_heightIn_18 : decode cX4_heightIn 18 = .ok (.iconst (-1), 1) := by decide +kernel
theorem dX4_heightIn_19 : decode cX4_heightIn 19 = .ok (.goto 14, 3) := by decide +kernel
theorem dX4_heightIn_22 : decode cX4_heightIn 22 = .ok (.iload_n 1, 1) := by decide +kernel
theorem dX4_heightIn_23 : decode cX4_heightIn 23 = .ok (.iload_n 2, 1) := by decide +kernel
theorem dX4_heightIn_24 : decode cX4_heightIn 24 = .ok (.sipush 1000, 3) := by decide +kernel
theorem dX4_heightIn_27 : decode cX4_heightIn 27 = .ok (.isub, 1) := by decide +kernel
theorem dX4_heightIn_28 : decode cX4_heightIn 28 = .ok (.bipush 100, 2) := by decide +kernel
theorem dX4_heightIn_30 : decode cX4_heightIn 30 = .ok (.invokestatic 166, 3) := by decide +kernel
theorem dX4_heightIn_33 : decode cX4_heightIn 33 = .ok (.ireturn, 1) := by decide +kernel
theorem dX4_heightIn_34 : decode cX4_heightIn 34 = .ok (.iload_n 2, 1) := by decide +kernel
theorem dX4_heightIn_35 : decode cX4_heightIn 35 = .ok (.ifCond .lt 7, 3) := by decide +kernel
theorem dX4_heightIn_38 : decode cX4_heightIn 38 = .ok (.iload_n 2, 1) := by decide +kernel
theorem dX4_heightIn_39 : decode cX4_heightIn 39 = .ok (.goto 4, 3) := by decide +kernel
theorem dX4_heightIn_42 : decode cX4_heightIn 42 = .ok (.iconst (-1), 1) := by decide +kernel
theorem dX4_heightIn_43 : decode cX4_heightIn 43 = .ok (.ireturn, 1) := by decide +kernel
theorem dX4_partOf_0 : decode cX4_partOf 0 = .ok (.iload_n 2, 1) := by decide +kernel
theorem dX4_partOf_1 : decode cX4_partOf 1 = .ok (.ifCond .gt 7, 3) := by decide +kernel
theorem dX4_partOf_4 : decode cX4_partOf 4 = .ok (.iconst 0, 1) := by decide +kernel
theorem dX4_partOf_5 : decode cX4_partOf 5 = .ok (.goto 12, 3) := by decide +kernel
theorem dX4_partOf_8 : decode cX4_partOf 8 = .ok (.iload_n 0, 1) := by decide +kernel
theorem dX4_partOf_9 : decode cX4_partOf 9 = .ok (.i2l, 1) := by decide +kernel
theorem dX4_partOf_10 : decode cX4_partOf 10 = .ok (.iload_n 1, 1) := by decide +kernel
theorem dX4_partOf_11 : decode cX4_partOf 11 = .ok (.i2l, 1) := by decide +kernel
theorem dX4_partOf_12 : decode cX4_partOf 12 = .ok (.lmul, 1) := by decide +kernel
theorem dX4_partOf_13 : decode cX4_partOf 13 = .ok (.iload_n 2, 1) := by decide +kernel
theorem dX4_partOf_14 : decode cX4_partOf 14 = .ok (.i2l, 1) := by decide +kernel
theorem dX4_partOf_15 : decode cX4_partOf 15 = .ok (.ldiv, 1) := by decide +kernel
theorem dX4_partOf_16 : decode cX4_partOf 16 = .ok (.l2i, 1) := by decide +kernel
theorem dX4_partOf_17 : decode cX4_partOf 17 = .ok (.ireturn, 1) := by decide +kernel
theorem dX4_knownHeight_0 : decode cX4_knownHeight 0 = .ok (.aload_n 1, 1) := by decide +kernel
theorem dX4_knownHeight_1 : decode cX4_knownHeight 1 = .ok (.getfield 75, 3) := by decide +kernel
theorem dX4_knownHeight_4 : decode cX4_knownHeight 4 = .ok (.astore_n 2, 1) := by decide +kernel
theorem dX4_knownHeight_5 : decode cX4_knownHeight 5 = .ok (.aload_n 2, 1) := by decide +kernel
theorem dX4_knownHeight_6 : decode cX4_knownHeight 6 = .ok (.ifnull 21, 3) := by decide +kernel
theorem dX4_knownHeight_9 : decode cX4_knownHeight 9 = .ok (.aload_n 2, 1) := by decide +kernel
theorem dX4_knownHeight_10 : decode cX4_knownHeight 10 = .ok (.getfield 59, 3) := by decide +kernel
theorem dX4_knownHeight_13 : decode cX4_knownHeight 13 = .ok (.getstatic 194, 3) := by decide +kernel
theorem dX4_knownHeight_16 : decode cX4_knownHeight 16 = .ok (.if_acmp .ne 11, 3) := by decide +kernel
theorem dX4_knownHeight_19 : decode cX4_knownHeight 19 = .ok (.aload_n 2, 1) := by decide +kernel
theorem dX4_knownHeight_20 : decode cX4_knownHeight 20 = .ok (.getfield 75, 3) := by decide +kernel
theorem dX4_knownHeight_23 : decode cX4_knownHeight 23 = .ok (.astore_n 2, 1) := by decide +kernel
theorem dX4_knownHeight_24 : decode cX4_knownHeight 24 = .ok (.goto (-19), 3) := by decide +kernel
theorem dX4_knownHeight_27 : decode cX4_knownHeight 27 = .ok (.aload_n 1, 1) := by decide +kernel
theorem dX4_knownHeight_28 : decode cX4_knownHeight 28 = .ok (.aload_n 2, 1) := by decide +kernel
theorem dX4_knownHeight_29 : decode cX4_knownHeight 29 = .ok (.ifnonnull 7, 3) := by decide +kernel
theorem dX4_knownHeight_32 : decode cX4_knownHeight 32 = .ok (.iconst (-1), 1) := by decide +kernel
theorem dX4_knownHeight_33 : decode cX4_knownHeight 33 = .ok (.goto 11, 3) := by decide +kernel
theorem dX4_knownHeight_36 : decode cX4_knownHeight 36 = .ok (.aload_n 0, 1) := by decide +kernel
theorem dX4_knownHeight_37 : decode cX4_knownHeight 37 = .ok (.aload_n 2, 1) := by decide +kernel
theorem dX4_knownHeight_38 : decode cX4_knownHeight 38 = .ok (.invokevirtual 35, 3) := by decide +kernel
theorem dX4_knownHeight_41 : decode cX4_knownHeight 41 = .ok (.getfield 98, 3) := by decide +kernel
theorem dX4_knownHeight_44 : decode cX4_knownHeight 44 = .ok (.invokestatic 101, 3) := by decide +kernel
theorem dX4_knownHeight_47 : decode cX4_knownHeight 47 = .ok (.ireturn, 1) := by decide +kernel
theorem dX4_layOut_0 : decode cX4_layOut 0 = .ok (.aload_n 0, 1) := by decide +kernel
theorem dX4_layOut_1 : decode cX4_layOut 1 = .ok (.aload_n 1, 1) := by decide +kernel
theorem dX4_layOut_2 : decode cX4_layOut 2 = .ok (.invokevirtual 35, 3) := by decide +kernel
theorem dX4_layOut_5 : decode cX4_layOut 5 = .ok (.astore 4, 2) := by decide +kernel
theorem dX4_layOut_7 : decode cX4_layOut 7 = .ok (.aload 4, 2) := by decide +kernel
theorem dX4_layOut_9 : decode cX4_layOut 9 = .ok (.iload_n 2, 1) := by decide +kernel
theorem dX4_layOut_10 : decode cX4_layOut 10 = .ok (.putfield 87, 3) := by decide +kernel
theorem dX4_layOut_13 : decode cX4_layOut 13 = .ok (.aload 4, 2) := by decide +kernel
theorem dX4_layOut_15 : decode cX4_layOut 15 = .ok (.iload_n 3, 1) := by decide +kernel
theorem dX4_layOut_16 : decode cX4_layOut 16 = .ok (.putfield 98, 3) := by decide +kernel
theorem dX4_layOut_19 : decode cX4_layOut 19 = .ok (.aload_n 1, 1) := by decide +kernel
theorem dX4_layOut_20 : decode cX4_layOut 20 = .ok (.getfield 182, 3) := by decide +kernel
theorem dX4_layOut_23 : decode cX4_layOut 23 = .ok (.ifCond .eq 20, 3) := by decide +kernel
theorem dX4_layOut_26 : decode cX4_layOut 26 = .ok (.aload 4, 2) := by decide +kernel
theorem dX4_layOut_28 : decode cX4_layOut 28 = .ok (.aload_n 0, 1) := by decide +kernel
theorem dX4_layOut_29 : decode cX4_layOut 29 = .ok (.aload_n 1, 1) := by decide +kernel
theorem dX4_layOut_30 : decode cX4_layOut 30 = .ok (.aload 4, 2) := by decide +kernel
theorem dX4_layOut_32 : decode cX4_layOut 32 = .ok (.invokevirtual 197, 3) := by decide +kernel
theorem dX4_layOut_35 : decode cX4_layOut 35 = .ok (.iload_n 3, 1) := by decide +kernel
theorem dX4_layOut_36 : decode cX4_layOut 36 = .ok (.invokestatic 185, 3) := by decide +kernel
theorem dX4_layOut_39 : decode cX4_layOut 39 = .ok (.putfield 200, 3) := by decide +kernel
theorem dX4_layOut_42 : decode cX4_layOut 42 = .ok (.return_, 1) := by decide +kernel
theorem dX4_layOut_43 : decode cX4_layOut 43 = .ok (.aload 4, 2) := by decide +kernel
theorem dX4_layOut_45 : decode cX4_layOut 45 = .ok (.getfield 39, 3) := by decide +kernel
theorem dX4_layOut_48 : decode cX4_layOut 48 = .ok (.aload_n 1, 1) := by decide +kernel
theorem dX4_layOut_49 : decode cX4_layOut 49 = .ok (.getfield 203, 3) := by decide +kernel
theorem dX4_layOut_52 : decode cX4_layOut 52 = .ok (.if_icmp .lt 21, 3) := by decide +kernel
theorem dX4_layOut_55 : decode cX4_layOut 55 = .ok (.aload 4, 2) := by decide +kernel
theorem dX4_layOut_57 : decode cX4_layOut 57 = .ok (.getfield 206, 3) := by decide +kernel
theorem dX4_layOut_60 : decode cX4_layOut 60 = .ok (.iload_n 2, 1) := by decide +kernel
theorem dX4_layOut_61 : decode cX4_layOut 61 = .ok (.if_icmp .ne 12, 3) := by decide +kernel
theorem dX4_layOut_64 : decode cX4_layOut 64 = .ok (.aload 4, 2) := by decide +kernel
theorem dX4_layOut_66 : decode cX4_layOut 66 = .ok (.getfield 209, 3) := by decide +kernel
theorem dX4_layOut_69 : decode cX4_layOut 69 = .ok (.iload_n 3, 1) := by decide +kernel
theorem dX4_layOut_70 : decode cX4_layOut 70 = .ok (.if_icmp .eq 95, 3) := by decide +kernel
theorem dX4_layOut_73 : decode cX4_layOut 73 = .ok (.aload_n 1, 1) := by decide +kernel
theorem dX4_layOut_74 : decode cX4_layOut 74 = .ok (.getfield 212, 3) := by decide +kernel
theorem dX4_layOut_77 : decode cX4_layOut 77 = .ok (.ifCond .eq 18, 3) := by decide +kernel
theorem dX4_layOut_80 : decode cX4_layOut 80 = .ok (.aload 4, 2) := by decide +kernel
theorem dX4_layOut_82 : decode cX4_layOut 82 = .ok (.aload_n 0, 1) := by decide +kernel
theorem dX4_layOut_83 : decode cX4_layOut 83 = .ok (.aload_n 1, 1) := by decide +kernel
theorem dX4_layOut_84 : decode cX4_layOut 84 = .ok (.aload 4, 2) := by decide +kernel
theorem dX4_layOut_86 : decode cX4_layOut 86 = .ok (.invokevirtual 215, 3) := by decide +kernel
theorem dX4_layOut_89 : decode cX4_layOut 89 = .ok (.putfield 218, 3) := by decide +kernel
theorem dX4_layOut_92 : decode cX4_layOut 92 = .ok (.goto 52, 3) := by decide +kernel
theorem dX4_layOut_95 : decode cX4_layOut 95 = .ok (.aload_n 1, 1) := by decide +kernel
theorem dX4_layOut_96 : decode cX4_layOut 96 = .ok (.getfield 127, 3) := by decide +kernel
theorem dX4_layOut_99 : decode cX4_layOut 99 = .ok (.bipush 17, 2) := by decide +kernel
theorem dX4_layOut_101 : decode cX4_layOut 101 = .ok (.iaload, 1) := by decide +kernel
theorem dX4_layOut_102 : decode cX4_layOut 102 = .ok (.iconst 1, 1) := by decide +kernel
theorem dX4_layOut_103 : decode cX4_layOut 103 = .ok (.if_icmp .le 18, 3) := by decide +kernel
theorem dX4_layOut_106 : decode cX4_layOut 106 = .ok (.aload 4, 2) := by decide +kernel
theorem dX4_layOut_108 : decode cX4_layOut 108 = .ok (.aload_n 0, 1) := by decide +kernel
theorem dX4_layOut_109 : decode cX4_layOut 109 = .ok (.aload_n 1, 1) := by decide +kernel
theorem dX4_layOut_110 : decode cX4_layOut 110 = .ok (.aload 4, 2) := by decide +kernel
theorem dX4_layOut_112 : decode cX4_layOut 112 = .ok (.invokevirtual 221, 3) := by decide +kernel
theorem dX4_layOut_115 : decode cX4_layOut 115 = .ok (.putfield 218, 3) := by decide +kernel
theorem dX4_layOut_118 : decode cX4_layOut 118 = .ok (.goto 26, 3) := by decide +kernel
theorem dX4_layOut_121 : decode cX4_layOut 121 = .ok (.aload_n 0, 1) := by decide +kernel
theorem dX4_layOut_122 : decode cX4_layOut 122 = .ok (.aload_n 1, 1) := by decide +kernel
theorem dX4_layOut_123 : decode cX4_layOut 123 = .ok (.iload_n 2, 1) := by decide +kernel
theorem dX4_layOut_124 : decode cX4_layOut 124 = .ok (.invokevirtual 224, 3) := by decide +kernel
theorem dX4_layOut_127 : decode cX4_layOut 127 = .ok (.istore 5, 2) := by decide +kernel
theorem dX4_layOut_129 : decode cX4_layOut 129 = .ok (.aload 4, 2) := by decide +kernel
theorem dX4_layOut_131 : decode cX4_layOut 131 = .ok (.iload_n 3, 1) := by decide +kernel
theorem dX4_layOut_132 : decode cX4_layOut 132 = .ok (.ifCond .lt 7, 3) := by decide +kernel
theorem dX4_layOut_135 : decode cX4_layOut 135 = .ok (.iload_n 3, 1) := by decide +kernel
theorem dX4_layOut_136 : decode cX4_layOut 136 = .ok (.goto 5, 3) := by decide +kernel
theorem dX4_layOut_139 : decode cX4_layOut 139 = .ok (.iload 5, 2) := by decide +kernel
theorem dX4_layOut_141 : decode cX4_layOut 141 = .ok (.putfield 218, 3) := by decide +kernel
theorem dX4_layOut_144 : decode cX4_layOut 144 = .ok (.aload 4, 2) := by decide +kernel
theorem dX4_layOut_146 : decode cX4_layOut 146 = .ok (.aload_n 0, 1) := by decide +kernel
theorem dX4_layOut_147 : decode cX4_layOut 147 = .ok (.getfield 49, 3) := by decide +kernel
theorem dX4_layOut_150 : decode cX4_layOut 150 = .ok (.putfield 39, 3) := by decide +kernel
theorem dX4_layOut_153 : decode cX4_layOut 153 = .ok (.aload 4, 2) := by decide +kernel
theorem dX4_layOut_155 : decode cX4_layOut 155 = .ok (.iload_n 2, 1) := by decide +kernel
theorem dX4_layOut_156 : decode cX4_layOut 156 = .ok (.putfield 206, 3) := by decide +kernel
theorem dX4_layOut_159 : decode cX4_layOut 159 = .ok (.aload 4, 2) := by decide +kernel
theorem dX4_layOut_161 : decode cX4_layOut 161 = .ok (.iload_n 3, 1) := by decide +kernel
theorem dX4_layOut_162 : decode cX4_layOut 162 = .ok (.putfield 209, 3) := by decide +kernel
theorem dX4_layOut_165 : decode cX4_layOut 165 = .ok (.aload 4, 2) := by decide +kernel
theorem dX4_layOut_167 : decode cX4_layOut 167 = .ok (.aload 4, 2) := by decide +kernel
theorem dX4_layOut_169 : decode cX4_layOut 169 = .ok (.getfield 218, 3) := by decide +kernel
theorem dX4_layOut_172 : decode cX4_layOut 172 = .ok (.putfield 200, 3) := by decide +kernel
theorem dX4_layOut_175 : decode cX4_layOut 175 = .ok (.return_, 1) := by decide +kernel
theorem dX4_flowOf_0 : decode cX4_flowOf 0 = .ok (.aload_n 0, 1) := by decide +kernel
theorem dX4_flowOf_1 : decode cX4_flowOf 1 = .ok (.getfield 21, 3) := by decide +kernel
theorem dX4_flowOf_4 : decode cX4_flowOf 4 = .ok (.iconst 0, 1) := by decide +kernel
theorem dX4_flowOf_5 : decode cX4_flowOf 5 = .ok (.aload_n 1, 1) := by decide +kernel
theorem dX4_flowOf_6 : decode cX4_flowOf 6 = .ok (.getfield 227, 3) := by decide +kernel
theorem dX4_flowOf_9 : decode cX4_flowOf 9 = .ok (.bipush 20, 2) := by decide +kernel
theorem dX4_flowOf_11 : decode cX4_flowOf 11 = .ok (.invokestatic 191, 3) := by decide +kernel
theorem dX4_flowOf_14 : decode cX4_flowOf 14 = .ok (.invokestatic 185, 3) := by decide +kernel
theorem dX4_flowOf_17 : decode cX4_flowOf 17 = .ok (.aaload, 1) := by decide +kernel
theorem dX4_flowOf_18 : decode cX4_flowOf 18 = .ok (.areturn, 1) := by decide +kernel
theorem dX4_flowContext_0 : decode cX4_flowContext 0 = .ok (.aload_n 0, 1) := by decide +kernel
theorem dX4_flowContext_1 : decode cX4_flowContext 1 = .ok (.dup, 1) := by decide +kernel
theorem dX4_flowContext_2 : decode cX4_flowContext 2 = .ok (.getfield 52, 3) := by decide +kernel
theorem dX4_flowContext_5 : decode cX4_flowContext 5 = .ok (.iconst 1, 1) := by decide +kernel
theorem dX4_flowContext_6 : decode cX4_flowContext 6 = .ok (.iadd, 1) := by decide +kernel
theorem dX4_flowContext_7 : decode cX4_flowContext 7 = .ok (.putfield 52, 3) := by decide +kernel
theorem dX4_flowContext_10 : decode cX4_flowContext 10 = .ok (.aload_n 0, 1) := by decide +kernel
theorem dX4_flowContext_11 : decode cX4_flowContext 11 = .ok (.aload_n 1, 1) := by decide +kernel
theorem dX4_flowContext_12 : decode cX4_flowContext 12 = .ok (.invokevirtual 230, 3) := by decide +kernel
theorem dX4_flowContext_15 : decode cX4_flowContext 15 = .ok (.astore_n 3, 1) := by decide +kernel
theorem dX4_flowContext_16 : decode cX4_flowContext 16 = .ok (.aload_n 3, 1) := by decide +kernel
theorem dX4_flowContext_17 : decode cX4_flowContext 17 = .ok (.invokevirtual 234, 3) := by decide +kernel
theorem dX4_flowContext_20 : decode cX4_flowContext 20 = .ok (.aload_n 0, 1) := by decide +kernel
theorem dX4_flowContext_21 : decode cX4_flowContext 21 = .ok (.aload_n 1, 1) := by decide +kernel
theorem dX4_flowContext_22 : decode cX4_flowContext 22 = .ok (.aload_n 3, 1) := by decide +kernel
theorem dX4_flowContext_23 : decode cX4_flowContext 23 = .ok (.iconst 0, 1) := by decide +kernel
theorem dX4_flowContext_24 : decode cX4_flowContext 24 = .ok (.iload_n 2, 1) := by decide +kernel
theorem dX4_flowContext_25 : decode cX4_flowContext 25 = .ok (.invokevirtual 237, 3) := by decide +kernel
theorem dX4_flowContext_28 : decode cX4_flowContext 28 = .ok (.aload_n 3, 1) := by decide +kernel
theorem dX4_flowContext_29 : decode cX4_flowContext 29 = .ok (.invokevirtual 241, 3) := by decide +kernel
theorem dX4_flowContext_32 : decode cX4_flowContext 32 = .ok (.aload_n 3, 1) := by decide +kernel
theorem dX4_flowContext_33 : decode cX4_flowContext 33 = .ok (.invokevirtual 244, 3) := by decide +kernel
theorem dX4_flowContext_36 : decode cX4_flowContext 36 = .ok (.ireturn, 1) := by decide +kernel
theorem dX4_flowContainer_0 : decode cX4_flowContainer 0 = .ok (.aload_n 0, 1) := by decide +kernel
theorem dX4_flowContainer_1 : decode cX4_flowContainer 1 = .ok (.aload_n 0, 1) := by decide +kernel
theorem dX4_flowContainer_2 : decode cX4_flowContainer 2 = .ok (.aload_n 1, 1) := by decide +kernel
theorem dX4_flowContainer_3 : decode cX4_flowContainer 3 = .ok (.invokevirtual 35, 3) := by decide +kernel
theorem dX4_flowContainer_6 : decode cX4_flowContainer 6 = .ok (.invokevirtual 253, 3) := by decide +kernel
theorem dX4_flowContainer_9 : decode cX4_flowContainer 9 = .ok (.aload_n 1, 1) := by decide +kernel
theorem dX4_flowContainer_10 : decode cX4_flowContainer 10 = .ok (.getfield 257, 3) := by decide +kernel
theorem dX4_flowContainer_13 : decode cX4_flowContainer 13 = .ok (.astore 5, 2) := by decide +kernel
theorem dX4_flowContainer_15 : decode cX4_flowContainer 15 = .ok (.aload 5, 2) := by decide +kernel
theorem dX4_flowContainer_17 : decode cX4_flowContainer 17 = .ok (.ifnull 127, 3) := by decide +kernel
theorem dX4_flowContainer_20 : decode cX4_flowContainer 20 = .ok (.aload_n 2, 1) := by decide +kernel
theorem dX4_flowContainer_21 : decode cX4_flowContainer 21 = .ok (.iload_n 3, 1) := by decide +kernel
theorem dX4_flowContainer_22 : decode cX4_flowContainer 22 = .ok (.putfield 260, 3) := by decide +kernel
theorem dX4_flowContainer_25 : decode cX4_flowContainer 25 = .ok (.aload_n 2, 1) := by decide +kernel
theorem dX4_flowContainer_26 : decode cX4_flowContainer 26 = .ok (.iload 4, 2) := by decide +kernel
theorem dX4_flowContainer_28 : decode cX4_flowContainer 28 = .ok (.putfield 261, 3) := by decide +kernel
theorem dX4_flowContainer_31 : decode cX4_flowContainer 31 = .ok (.aload 5, 2) := by decide +kernel
theorem dX4_flowContainer_33 : decode cX4_flowContainer 33 = .ok (.getfield 59, 3) := by decide +kernel
theorem dX4_flowContainer_36 : decode cX4_flowContainer 36 = .ok (.invokevirtual 262, 3) := by decide +kernel
theorem dX4_flowContainer_39 : decode cX4_flowContainer 39 = .ok (.ifCond .eq 49, 3) := by decide +kernel
theorem dX4_flowContainer_42 : decode cX4_flowContainer 42 = .ok (.aload 5, 2) := by decide +kernel
theorem dX4_flowContainer_44 : decode cX4_flowContainer 44 = .ok (.invokestatic 265, 3) := by decide +kernel
theorem dX4_flowContainer_47 : decode cX4_flowContainer 47 = .ok (.astore 6, 2) := by decide +kernel
theorem dX4_flowContainer_49 : decode cX4_flowContainer 49 = .ok (.aload 5, 2) := by decide +kernel
theorem dX4_flowContainer_51 : decode cX4_flowContainer 51 = .ok (.aload 6, 2) := by decide +kernel
theorem dX4_flowContainer_53 : decode cX4_flowContainer 53 = .ok (.invokestatic 268, 3) := by decide +kernel
theorem dX4_flowContainer_56 : decode cX4_flowContainer 56 = .ok (.ifCond .eq 16, 3) := by decide +kernel
theorem dX4_flowContainer_59 : decode cX4_flowContainer 59 = .ok (.aload_n 0, 1) := by decide +kernel
theorem dX4_flowContainer_60 : decode cX4_flowContainer 60 = .ok (.aload_n 1, 1) := by decide +kernel
theorem dX4_flowContainer_61 : decode cX4_flowContainer 61 = .ok (.aload_n 2, 1) := by decide +kernel
theorem dX4_flowContainer_62 : decode cX4_flowContainer 62 = .ok (.aload 5, 2) := by decide +kernel
theorem dX4_flowContainer_64 : decode cX4_flowContainer 64 = .ok (.aload 6, 2) := by decide +kernel
theorem dX4_flowContainer_66 : decode cX4_flowContainer 66 = .ok (.invokevirtual 272, 3) := by decide +kernel
theorem dX4_flowContainer_69 : decode cX4_flowContainer 69 = .ok (.goto 12, 3) := by decide +kernel
theorem dX4_flowContainer_72 : decode cX4_flowContainer 72 = .ok (.aload_n 0, 1) := by decide +kernel
theorem dX4_flowContainer_73 : decode cX4_flowContainer 73 = .ok (.aload_n 2, 1) := by decide +kernel
theorem dX4_flowContainer_74 : decode cX4_flowContainer 74 = .ok (.aload 5, 2) := by decide +kernel
theorem dX4_flowContainer_76 : decode cX4_flowContainer 76 = .ok (.aload 6, 2) := by decide +kernel
theorem dX4_flowContainer_78 : decode cX4_flowContainer 78 = .ok (.invokevirtual 276, 3) := by decide +kernel
theorem dX4_flowContainer_81 : decode cX4_flowContainer 81 = .ok (.aload 6, 2) := by decide +kernel
theorem dX4_flowContainer_83 : decode cX4_flowContainer 83 = .ok (.astore 5, 2) := by decide +kernel
theorem dX4_flowContainer_85 : decode cX4_flowContainer 85 = .ok (.goto 49, 3) := by decide +kernel
theorem dX4_flowContainer_88 : decode cX4_flowContainer 88 = .ok (.aload 5, 2) := by decide +kernel
theorem dX4_flowContainer_90 : decode cX4_flowContainer 90 = .ok (.getfield 59, 3) := by decide +kernel
theorem dX4_flowContainer_93 : decode cX4_flowContainer 93 = .ok (.getstatic 179, 3) := by decide +kernel
theorem dX4_flowContainer_96 : decode cX4_flowContainer 96 = .ok (.if_acmp .eq 13, 3) := by decide +kernel
theorem dX4_flowContainer_99 : decode cX4_flowContainer 99 = .ok (.aload_n 0, 1) := by decide +kernel
theorem dX4_flowContainer_100 : decode cX4_flowContainer 100 = .ok (.aload 5, 2) := by decide +kernel
theorem dX4_flowContainer_102 : decode cX4_flowContainer 102 = .ok (.aload_n 2, 1) := by decide +kernel
theorem dX4_flowContainer_103 : decode cX4_flowContainer 103 = .ok (.invokevirtual 280, 3) := by decide +kernel
theorem dX4_flowContainer_106 : decode cX4_flowContainer 106 = .ok (.goto 28, 3) := by decide +kernel
theorem dX4_flowContainer_109 : decode cX4_flowContainer 109 = .ok (.aload 5, 2) := by decide +kernel
theorem dX4_flowContainer_111 : decode cX4_flowContainer 111 = .ok (.getfield 151, 3) := by decide +kernel
theorem dX4_flowContainer_114 : decode cX4_flowContainer 114 = .ok (.ifCond .eq 13, 3) := by decide +kernel
theorem dX4_flowContainer_117 : decode cX4_flowContainer 117 = .ok (.aload_n 0, 1) := by decide +kernel
theorem dX4_flowContainer_118 : decode cX4_flowContainer 118 = .ok (.aload 5, 2) := by decide +kernel
theorem dX4_flowContainer_120 : decode cX4_flowContainer 120 = .ok (.aload_n 2, 1) := by decide +kernel
theorem dX4_flowContainer_121 : decode cX4_flowContainer 121 = .ok (.invokevirtual 284, 3) := by decide +kernel
theorem dX4_flowContainer_124 : decode cX4_flowContainer 124 = .ok (.goto 10, 3) := by decide +kernel
theorem dX4_flowContainer_127 : decode cX4_flowContainer 127 = .ok (.aload_n 0, 1) := by decide +kernel
theorem dX4_flowContainer_128 : decode cX4_flowContainer 128 = .ok (.aload 5, 2) := by decide +kernel
theorem dX4_flowContainer_130 : decode cX4_flowContainer 130 = .ok (.aload_n 2, 1) := by decide +kernel
theorem dX4_flowContainer_131 : decode cX4_flowContainer 131 = .ok (.invokevirtual 287, 3) := by decide +kernel
theorem dX4_flowContainer_134 : decode cX4_flowContainer 134 = .ok (.aload 5, 2) := by decide +kernel
theorem dX4_flowContainer_136 : decode cX4_flowContainer 136 = .ok (.getfield 290, 3) := by decide +kernel
theorem dX4_flowContainer_139 : decode cX4_flowContainer 139 = .ok (.astore 5, 2) := by decide +kernel
theorem dX4_flowContainer_141 : decode cX4_flowContainer 141 = .ok (.goto (-126), 3) := by decide +kernel
theorem dX4_flowContainer_144 : decode cX4_flowContainer 144 = .ok (.return_, 1) := by decide +kernel
theorem dX4_flowOutside_0 : decode cX4_flowOutside 0 = .ok (.aload_n 1, 1) := by decide +kernel
theorem dX4_flowOutside_1 : decode cX4_flowOutside 1 = .ok (.getfield 59, 3) := by decide +kernel
theorem dX4_flowOutside_4 : decode cX4_flowOutside 4 = .ok (.getstatic 293, 3) := by decide +kernel
theorem dX4_flowOutside_7 : decode cX4_flowOutside 7 = .ok (.if_acmp .ne 16, 3) := by decide +kernel
theorem dX4_flowOutside_10 : decode cX4_flowOutside 10 = .ok (.aload_n 0, 1) := by decide +kernel
theorem dX4_flowOutside_11 : decode cX4_flowOutside 11 = .ok (.aload_n 1, 1) := by decide +kernel
theorem dX4_flowOutside_12 : decode cX4_flowOutside 12 = .ok (.aload_n 2, 1) := by decide +kernel
theorem dX4_flowOutside_13 : decode cX4_flowOutside 13 = .ok (.aload_n 2, 1) := by decide +kernel
theorem dX4_flowOutside_14 : decode cX4_flowOutside 14 = .ok (.invokevirtual 296, 3) := by decide +kernel
theorem dX4_flowOutside_17 : decode cX4_flowOutside 17 = .ok (.invokevirtual 299, 3) := by decide +kernel
theorem dX4_flowOutside_20 : decode cX4_flowOutside 20 = .ok (.goto 35, 3) := by decide +kernel
theorem dX4_flowOutside_23 : decode cX4_flowOutside 23 = .ok (.aload_n 1, 1) := by decide +kernel
theorem dX4_flowOutside_24 : decode cX4_flowOutside 24 = .ok (.getfield 59, 3) := by decide +kernel
theorem dX4_flowOutside_27 : decode cX4_flowOutside 27 = .ok (.getstatic 63, 3) := by decide +kernel
theorem dX4_flowOutside_30 : decode cX4_flowOutside 30 = .ok (.if_acmp .ne 25, 3) := by decide +kernel
theorem dX4_flowOutside_33 : decode cX4_flowOutside 33 = .ok (.aload_n 0, 1) := by decide +kernel
theorem dX4_flowOutside_34 : decode cX4_flowOutside 34 = .ok (.aload_n 1, 1) := by decide +kernel
theorem dX4_flowOutside_35 : decode cX4_flowOutside 35 = .ok (.invokevirtual 35, 3) := by decide +kernel
theorem dX4_flowOutside_38 : decode cX4_flowOutside 38 = .ok (.astore_n 3, 1) := by decide +kernel
theorem dX4_flowOutside_39 : decode cX4_flowOutside 39 = .ok (.aload_n 3, 1) := by decide +kernel
theorem dX4_flowOutside_40 : decode cX4_flowOutside 40 = .ok (.aload_n 2, 1) := by decide +kernel
theorem dX4_flowOutside_41 : decode cX4_flowOutside 41 = .ok (.getfield 260, 3) := by decide +kernel
theorem dX4_flowOutside_44 : decode cX4_flowOutside 44 = .ok (.putfield 142, 3) := by decide +kernel
theorem dX4_flowOutside_47 : decode cX4_flowOutside 47 = .ok (.aload_n 3, 1) := by decide +kernel
theorem dX4_flowOutside_48 : decode cX4_flowOutside 48 = .ok (.aload_n 2, 1) := by decide +kernel
theorem dX4_flowOutside_49 : decode cX4_flowOutside 49 = .ok (.invokevirtual 296, 3) := by decide +kernel
theorem dX4_flowOutside_52 : decode cX4_flowOutside 52 = .ok (.putfield 148, 3) := by decide +kernel
theorem dX4_flowOutside_55 : decode cX4_flowOutside 55 = .ok (.return_, 1) := by decide +kernel
theorem dX4_flowPlainBlock_0 : decode cX4_flowPlainBlock 0 = .ok (.aload_n 0, 1) := by decide +kernel
theorem dX4_flowPlainBlock_1 : decode cX4_flowPlainBlock 1 = .ok (.aload_n 1, 1) := by decide +kernel
theorem dX4_flowPlainBlock_2 : decode cX4_flowPlainBlock 2 = .ok (.invokevirtual 35, 3) := by decide +kernel
theorem dX4_flowPlainBlock_5 : decode cX4_flowPlainBlock 5 = .ok (.astore_n 3, 1) := by decide +kernel
theorem dX4_flowPlainBlock_6 : decode cX4_flowPlainBlock 6 = .ok (.aload_n 1, 1) := by decide +kernel
theorem dX4_flowPlainBlock_7 : decode cX4_flowPlainBlock 7 = .ok (.getfield 127, 3) := by decide +kernel
theorem dX4_flowPlainBlock_10 : decode cX4_flowPlainBlock 10 = .ok (.astore 4, 2) := by decide +kernel
theorem dX4_flowPlainBlock_12 : decode cX4_flowPlainBlock 12 = .ok (.aload_n 2, 1) := by decide +kernel
theorem dX4_flowPlainBlock_13 : decode cX4_flowPlainBlock 13 = .ok (.aload 4, 2) := by decide +kernel
theorem dX4_flowPlainBlock_15 : decode cX4_flowPlainBlock 15 = .ok (.bipush 6, 2) := by decide +kernel
theorem dX4_flowPlainBlock_17 : decode cX4_flowPlainBlock 17 = .ok (.iaload, 1) := by decide +kernel
theorem dX4_flowPlainBlock_18 : decode cX4_flowPlainBlock 18 = .ok (.invokevirtual 303, 3) := by decide +kernel
theorem dX4_flowPlainBlock_21 : decode cX4_flowPlainBlock 21 = .ok (.aload_n 2, 1) := by decide +kernel
theorem dX4_flowPlainBlock_22 : decode cX4_flowPlainBlock 22 = .ok (.aload 4, 2) := by decide +kernel
theorem dX4_flowPlainBlock_24 : decode cX4_flowPlainBlock 24 = .ok (.iconst 2, 1) := by decide +kernel
theorem dX4_flowPlainBlock_25 : decode cX4_flowPlainBlock 25 = .ok (.iaload, 1) := by decide +kernel
theorem dX4_flowPlainBlock_26 : decode cX4_flowPlainBlock 26 = .ok (.invokevirtual 307, 3) := by decide +kernel
theorem dX4_flowPlainBlock_29 : decode cX4_flowPlainBlock 29 = .ok (.aload_n 3, 1) := by decide +kernel
theorem dX4_flowPlainBlock_30 : decode cX4_flowPlainBlock 30 = .ok (.aload_n 0, 1) := by decide +kernel
theorem dX4_flowPlainBlock_31 : decode cX4_flowPlainBlock 31 = .ok (.aload_n 1, 1) := by decide +kernel
theorem dX4_flowPlainBlock_32 : decode cX4_flowPlainBlock 32 = .ok (.invokevirtual 310, 3) := by decide +kernel
theorem dX4_flowPlainBlock_35 : decode cX4_flowPlainBlock 35 = .ok (.putfield 98, 3) := by decide +kernel
theorem dX4_flowPlainBlock_38 : decode cX4_flowPlainBlock 38 = .ok (.aload_n 3, 1) := by decide +kernel
theorem dX4_flowPlainBlock_39 : decode cX4_flowPlainBlock 39 = .ok (.aload_n 1, 1) := by decide +kernel
theorem dX4_flowPlainBlock_40 : decode cX4_flowPlainBlock 40 = .ok (.aload_n 2, 1) := by decide +kernel
theorem dX4_flowPlainBlock_41 : decode cX4_flowPlainBlock 41 = .ok (.getfield 261, 3) := by decide +kernel
theorem dX4_flowPlainBlock_44 : decode cX4_flowPlainBlock 44 = .ok (.aload_n 2, 1) := by decide +kernel
theorem dX4_flowPlainBlock_45 : decode cX4_flowPlainBlock 45 = .ok (.getfield 261, 3) := by decide +kernel
theorem dX4_flowPlainBlock_48 : decode cX4_flowPlainBlock 48 = .ok (.aload_n 1, 1) := by decide +kernel
theorem dX4_flowPlainBlock_49 : decode cX4_flowPlainBlock 49 = .ok (.invokevirtual 90, 3) := by decide +kernel
theorem dX4_flowPlainBlock_52 : decode cX4_flowPlainBlock 52 = .ok (.isub, 1) := by decide +kernel
theorem dX4_flowPlainBlock_53 : decode cX4_flowPlainBlock 53 = .ok (.invokestatic 94, 3) := by decide +kernel
theorem dX4_flowPlainBlock_56 : decode cX4_flowPlainBlock 56 = .ok (.putfield 87, 3) := by decide +kernel
theorem dX4_flowPlainBlock_59 : decode cX4_flowPlainBlock 59 = .ok (.aload_n 3, 1) := by decide +kernel
theorem dX4_flowPlainBlock_60 : decode cX4_flowPlainBlock 60 = .ok (.aload_n 2, 1) := by decide +kernel
theorem dX4_flowPlainBlock_61 : decode cX4_flowPlainBlock 61 = .ok (.getfield 260, 3) := by decide +kernel
theorem dX4_flowPlainBlock_64 : decode cX4_flowPlainBlock 64 = .ok (.aload 4, 2) := by decide +kernel
theorem dX4_flowPlainBlock_66 : decode cX4_flowPlainBlock 66 = .ok (.bipush 9, 2) := by decide +kernel
theorem dX4_flowPlainBlock_68 : decode cX4_flowPlainBlock 68 = .ok (.iaload, 1) := by decide +kernel
theorem dX4_flowPlainBlock_69 : decode cX4_flowPlainBlock 69 = .ok (.iadd, 1) := by decide +kernel
theorem dX4_flowPlainBlock_70 : decode cX4_flowPlainBlock 70 = .ok (.putfield 142, 3) := by decide +kernel
theorem dX4_flowPlainBlock_73 : decode cX4_flowPlainBlock 73 = .ok (.aload_n 3, 1) := by decide +kernel
theorem dX4_flowPlainBlock_74 : decode cX4_flowPlainBlock 74 = .ok (.iconst 0, 1) := by decide +kernel
theorem dX4_flowPlainBlock_75 : decode cX4_flowPlainBlock 75 = .ok (.putfield 313, 3) := by decide +kernel
theorem dX4_flowPlainBlock_78 : decode cX4_flowPlainBlock 78 = .ok (.aload_n 3, 1) := by decide +kernel
theorem dX4_flowPlainBlock_79 : decode cX4_flowPlainBlock 79 = .ok (.aload_n 2, 1) := by decide +kernel
theorem dX4_flowPlainBlock_80 : decode cX4_flowPlainBlock 80 = .ok (.getfield 316, 3) := by decide +kernel
theorem dX4_flowPlainBlock_83 : decode cX4_flowPlainBlock 83 = .ok (.putfield 319, 3) := by decide +kernel
theorem dX4_flowPlainBlock_86 : decode cX4_flowPlainBlock 86 = .ok (.aload_n 2, 1) := by decide +kernel
theorem dX4_flowPlainBlock_87 : decode cX4_flowPlainBlock 87 = .ok (.aload_n 3, 1) := by decide +kernel
theorem dX4_flowPlainBlock_88 : decode cX4_flowPlainBlock 88 = .ok (.putfield 316, 3) := by decide +kernel
theorem dX4_flowPlainBlock_91 : decode cX4_flowPlainBlock 91 = .ok (.aload 4, 2) := by decide +kernel
theorem dX4_flowPlainBlock_93 : decode cX4_flowPlainBlock 93 = .ok (.bipush 10, 2) := by decide +kernel
theorem dX4_flowPlainBlock_95 : decode cX4_flowPlainBlock 95 = .ok (.iaload, 1) := by decide +kernel
theorem dX4_flowPlainBlock_96 : decode cX4_flowPlainBlock 96 = .ok (.ifCond .le 21, 3) := by decide +kernel
theorem dX4_flowPlainBlock_99 : decode cX4_flowPlainBlock 99 = .ok (.aload_n 2, 1) := by decide +kernel
theorem dX4_flowPlainBlock_100 : decode cX4_flowPlainBlock 100 = .ok (.invokevirtual 241, 3) := by decide +kernel
theorem dX4_flowPlainBlock_103 : decode cX4_flowPlainBlock 103 = .ok (.aload_n 2, 1) := by decide +kernel
theorem dX4_flowPlainBlock_104 : decode cX4_flowPlainBlock 104 = .ok (.dup, 1) := by decide +kernel
theorem dX4_flowPlainBlock_105 : decode cX4_flowPlainBlock 105 = .ok (.getfield 322, 3) := by decide +kernel
theorem dX4_flowPlainBlock_108 : decode cX4_flowPlainBlock 108 = .ok (.aload 4, 2) := by decide +kernel
theorem dX4_flowPlainBlock_110 : decode cX4_flowPlainBlock 110 = .ok (.bipush 10, 2) := by decide +kernel
theorem dX4_flowPlainBlock_112 : decode cX4_flowPlainBlock 112 = .ok (.iaload, 1) := by decide +kernel
theorem dX4_flowPlainBlock_113 : decode cX4_flowPlainBlock 113 = .ok (.iadd, 1) := by decide +kernel
theorem dX4_flowPlainBlock_114 : decode cX4_flowPlainBlock 114 = .ok (.putfield 322, 3) := by decide +kernel
theorem dX4_flowPlainBlock_117 : decode cX4_flowPlainBlock 117 = .ok (.aload_n 2, 1) := by decide +kernel
theorem dX4_flowPlainBlock_118 : decode cX4_flowPlainBlock 118 = .ok (.aload_n 3, 1) := by decide +kernel
theorem dX4_flowPlainBlock_119 : decode cX4_flowPlainBlock 119 = .ok (.getfield 142, 3) := by decide +kernel
theorem dX4_flowPlainBlock_122 : decode cX4_flowPlainBlock 122 = .ok (.aload_n 3, 1) := by decide +kernel
theorem dX4_flowPlainBlock_123 : decode cX4_flowPlainBlock 123 = .ok (.getfield 87, 3) := by decide +kernel
theorem dX4_flowPlainBlock_126 : decode cX4_flowPlainBlock 126 = .ok (.iadd, 1) := by decide +kernel
theorem dX4_flowPlainBlock_127 : decode cX4_flowPlainBlock 127 = .ok (.aload_n 1, 1) := by decide +kernel
theorem dX4_flowPlainBlock_128 : decode cX4_flowPlainBlock 128 = .ok (.invokevirtual 325, 3) := by decide +kernel
theorem dX4_flowPlainBlock_131 : decode cX4_flowPlainBlock 131 = .ok (.iadd, 1) := by decide +kernel
theorem dX4_flowPlainBlock_132 : decode cX4_flowPlainBlock 132 = .ok (.invokevirtual 328, 3) := by decide +kernel
theorem dX4_flowPlainBlock_135 : decode cX4_flowPlainBlock 135 = .ok (.aload_n 0, 1) := by decide +kernel
theorem dX4_flowPlainBlock_136 : decode cX4_flowPlainBlock 136 = .ok (.aload_n 1, 1) := by decide +kernel
theorem dX4_flowPlainBlock_137 : decode cX4_flowPlainBlock 137 = .ok (.aload_n 2, 1) := by decide +kernel
theorem dX4_flowPlainBlock_138 : decode cX4_flowPlainBlock 138 = .ok (.aload_n 3, 1) := by decide +kernel
theorem dX4_flowPlainBlock_139 : decode cX4_flowPlainBlock 139 = .ok (.getfield 142, 3) := by decide +kernel
theorem dX4_flowPlainBlock_142 : decode cX4_flowPlainBlock 142 = .ok (.aload 4, 2) := by decide +kernel
theorem dX4_flowPlainBlock_144 : decode cX4_flowPlainBlock 144 = .ok (.bipush 13, 2) := by decide +kernel
theorem dX4_flowPlainBlock_146 : decode cX4_flowPlainBlock 146 = .ok (.iaload, 1) := by decide +kernel
theorem dX4_flowPlainBlock_147 : decode cX4_flowPlainBlock 147 = .ok (.iadd, 1) := by decide +kernel
theorem dX4_flowPlainBlock_148 : decode cX4_flowPlainBlock 148 = .ok (.aload_n 3, 1) := by decide +kernel
theorem dX4_flowPlainBlock_149 : decode cX4_flowPlainBlock 149 = .ok (.getfield 87, 3) := by decide +kernel
theorem dX4_flowPlainBlock_152 : decode cX4_flowPlainBlock 152 = .ok (.invokevirtual 237, 3) := by decide +kernel
theorem dX4_flowPlainBlock_155 : decode cX4_flowPlainBlock 155 = .ok (.aload_n 3, 1) := by decide +kernel
theorem dX4_flowPlainBlock_156 : decode cX4_flowPlainBlock 156 = .ok (.getfield 313, 3) := by decide +kernel
theorem dX4_flowPlainBlock_159 : decode cX4_flowPlainBlock 159 = .ok (.ifCond .eq 13, 3) := by decide +kernel
theorem dX4_flowPlainBlock_162 : decode cX4_flowPlainBlock 162 = .ok (.aload 4, 2) := by decide +kernel
theorem dX4_flowPlainBlock_164 : decode cX4_flowPlainBlock 164 = .ok (.aload_n 3, 1) := by decide +kernel
theorem dX4_flowPlainBlock_165 : decode cX4_flowPlainBlock 165 = .ok (.aload_n 2, 1) := by decide +kernel
theorem dX4_flowPlainBlock_166 : decode cX4_flowPlainBlock 166 = .ok (.invokestatic 331, 3) := by decide +kernel
theorem dX4_flowPlainBlock_169 : decode cX4_flowPlainBlock 169 = .ok (.goto 10, 3) := by decide +kernel
theorem dX4_flowPlainBlock_172 : decode cX4_flowPlainBlock 172 = .ok (.aload 4, 2) := by decide +kernel
theorem dX4_flowPlainBlock_174 : decode cX4_flowPlainBlock 174 = .ok (.aload_n 3, 1) := by decide +kernel
theorem dX4_flowPlainBlock_175 : decode cX4_flowPlainBlock 175 = .ok (.aload_n 2, 1) := by decide +kernel
theorem dX4_flowPlainBlock_176 : decode cX4_flowPlainBlock 176 = .ok (.invokestatic 335, 3) := by decide +kernel
theorem dX4_flowPlainBlock_179 : decode cX4_flowPlainBlock 179 = .ok (.aload_n 2, 1) := by decide +kernel
theorem dX4_flowPlainBlock_180 : decode cX4_flowPlainBlock 180 = .ok (.aload 4, 2) := by decide +kernel
theorem dX4_flowPlainBlock_182 : decode cX4_flowPlainBlock 182 = .ok (.bipush 8, 2) := by decide +kernel
theorem dX4_flowPlainBlock_184 : decode cX4_flowPlainBlock 184 = .ok (.iaload, 1) := by decide +kernel
theorem dX4_flowPlainBlock_185 : decode cX4_flowPlainBlock 185 = .ok (.invokevirtual 303, 3) := by decide +kernel
theorem dX4_flowPlainBlock_188 : decode cX4_flowPlainBlock 188 = .ok (.return_, 1) := by decide +kernel
theorem dX4_endWaitingBlock_0 : decode cX4_endWaitingBlock 0 = .ok (.aload_n 1, 1) := by decide +kernel
theorem dX4_endWaitingBlock_1 : decode cX4_endWaitingBlock 1 = .ok (.iconst 0, 1) := by decide +kernel
theorem dX4_endWaitingBlock_2 : decode cX4_endWaitingBlock 2 = .ok (.aload_n 1, 1) := by decide +kernel
theorem dX4_endWaitingBlock_3 : decode cX4_endWaitingBlock 3 = .ok (.getfield 98, 3) := by decide +kernel
theorem dX4_endWaitingBlock_6 : decode cX4_endWaitingBlock 6 = .ok (.invokestatic 185, 3) := by decide +kernel
theorem dX4_endWaitingBlock_9 : decode cX4_endWaitingBlock 9 = .ok (.putfield 200, 3) := by decide +kernel
theorem dX4_endWaitingBlock_12 : decode cX4_endWaitingBlock 12 = .ok (.aload_n 1, 1) := by decide +kernel
theorem dX4_endWaitingBlock_13 : decode cX4_endWaitingBlock 13 = .ok (.getfield 200, 3) := by decide +kernel
theorem dX4_endWaitingBlock_16 : decode cX4_endWaitingBlock 16 = .ok (.ifCond .gt 10, 3) := by decide +kernel
theorem dX4_endWaitingBlock_19 : decode cX4_endWaitingBlock 19 = .ok (.aload_n 0, 1) := by decide +kernel
theorem dX4_endWaitingBlock_20 : decode cX4_endWaitingBlock 20 = .ok (.bipush 12, 2) := by decide +kernel
theorem dX4_endWaitingBlock_22 : decode cX4_endWaitingBlock 22 = .ok (.iaload, 1) := by decide +kernel
theorem dX4_endWaitingBlock_23 : decode cX4_endWaitingBlock 23 = .ok (.ifCond .le 28, 3) := by decide +kernel
theorem dX4_endWaitingBlock_26 : decode cX4_endWaitingBlock 26 = .ok (.aload_n 2, 1) := by decide +kernel
theorem dX4_endWaitingBlock_27 : decode cX4_endWaitingBlock 27 = .ok (.invokevirtual 241, 3) := by decide +kernel
theorem dX4_endWaitingBlock_30 : decode cX4_endWaitingBlock 30 = .ok (.aload_n 2, 1) := by decide +kernel
theorem dX4_endWaitingBlock_31 : decode cX4_endWaitingBlock 31 = .ok (.dup, 1) := by decide +kernel
theorem dX4_endWaitingBlock_32 : decode cX4_endWaitingBlock 32 = .ok (.getfield 322, 3) := by decide +kernel
theorem dX4_endWaitingBlock_35 : decode cX4_endWaitingBlock 35 = .ok (.aload_n 0, 1) := by decide +kernel
theorem dX4_endWaitingBlock_36 : decode cX4_endWaitingBlock 36 = .ok (.bipush 12, 2) := by decide +kernel
theorem dX4_endWaitingBlock_38 : decode cX4_endWaitingBlock 38 = .ok (.iaload, 1) := by decide +kernel
theorem dX4_endWaitingBlock_39 : decode cX4_endWaitingBlock 39 = .ok (.aload_n 1, 1) := by decide +kernel
theorem dX4_endWaitingBlock_40 : decode cX4_endWaitingBlock 40 = .ok (.getfield 200, 3) := by decide +kernel
theorem dX4_endWaitingBlock_43 : decode cX4_endWaitingBlock 43 = .ok (.iadd, 1) := by decide +kernel
theorem dX4_endWaitingBlock_44 : decode cX4_endWaitingBlock 44 = .ok (.iadd, 1) := by decide +kernel
theorem dX4_endWaitingBlock_45 : decode cX4_endWaitingBlock 45 = .ok (.putfield 322, 3) := by decide +kernel
theorem dX4_endWaitingBlock_48 : decode cX4_endWaitingBlock 48 = .ok (.goto 19, 3) := by decide +kernel
theorem dX4_endWaitingBlock_51 : decode cX4_endWaitingBlock 51 = .ok (.aload_n 2, 1) := by decide +kernel
theorem dX4_endWaitingBlock_52 : decode cX4_endWaitingBlock 52 = .ok (.aload_n 1, 1) := by decide +kernel
theorem dX4_endWaitingBlock_53 : decode cX4_endWaitingBlock 53 = .ok (.getfield 319, 3) := by decide +kernel
theorem dX4_endWaitingBlock_56 : decode cX4_endWaitingBlock 56 = .ok (.putfield 316, 3) := by decide +kernel
theorem dX4_endWaitingBlock_59 : decode cX4_endWaitingBlock 59 = .ok (.aload_n 1, 1) := by decide +kernel
theorem dX4_endWaitingBlock_60 : decode cX4_endWaitingBlock 60 = .ok (.aload_n 2, 1) := by decide +kernel
theorem dX4_endWaitingBlock_61 : decode cX4_endWaitingBlock 61 = .ok (.invokevirtual 296, 3) := by decide +kernel
theorem dX4_endWaitingBlock_64 : decode cX4_endWaitingBlock 64 = .ok (.putfield 148, 3) := by decide +kernel
theorem dX4_endWaitingBlock_67 : decode cX4_endWaitingBlock 67 = .ok (.return_, 1) := by decide +kernel
theorem dX4_endHeldBlock_0 : decode cX4_endHeldBlock 0 = .ok (.aload_n 1, 1) := by decide +kernel
theorem dX4_endHeldBlock_1 : decode cX4_endHeldBlock 1 = .ok (.getfield 148, 3) := by decide +kernel
theorem dX4_endHeldBlock_4 : decode cX4_endHeldBlock 4 = .ok (.aload_n 0, 1) := by decide +kernel
theorem dX4_endHeldBlock_5 : decode cX4_endHeldBlock 5 = .ok (.bipush 10, 2) := by decide +kernel
theorem dX4_endHeldBlock_7 : decode cX4_endHeldBlock 7 = .ok (.iaload, 1) := by decide +kernel
theorem dX4_endHeldBlock_8 : decode cX4_endHeldBlock 8 = .ok (.iadd, 1) := by decide +kernel
theorem dX4_endHeldBlock_9 : decode cX4_endHeldBlock 9 = .ok (.istore_n 3, 1) := by decide +kernel
theorem dX4_endHeldBlock_10 : decode cX4_endHeldBlock 10 = .ok (.aload_n 1, 1) := by decide +kernel
theorem dX4_endHeldBlock_11 : decode cX4_endHeldBlock 11 = .ok (.getfield 98, 3) := by decide +kernel
theorem dX4_endHeldBlock_14 : decode cX4_endHeldBlock 14 = .ok (.ifCond .lt 33, 3) := by decide +kernel
theorem dX4_endHeldBlock_17 : decode cX4_endHeldBlock 17 = .ok (.aload_n 2, 1) := by decide +kernel
theorem dX4_endHeldBlock_18 : decode cX4_endHeldBlock 18 = .ok (.invokevirtual 338, 3) := by decide +kernel
theorem dX4_endHeldBlock_21 : decode cX4_endHeldBlock 21 = .ok (.aload_n 1, 1) := by decide +kernel
theorem dX4_endHeldBlock_22 : decode cX4_endHeldBlock 22 = .ok (.aload_n 1, 1) := by decide +kernel
theorem dX4_endHeldBlock_23 : decode cX4_endHeldBlock 23 = .ok (.getfield 98, 3) := by decide +kernel
theorem dX4_endHeldBlock_26 : decode cX4_endHeldBlock 26 = .ok (.putfield 200, 3) := by decide +kernel
theorem dX4_endHeldBlock_29 : decode cX4_endHeldBlock 29 = .ok (.aload_n 2, 1) := by decide +kernel
theorem dX4_endHeldBlock_30 : decode cX4_endHeldBlock 30 = .ok (.iload_n 3, 1) := by decide +kernel
theorem dX4_endHeldBlock_31 : decode cX4_endHeldBlock 31 = .ok (.aload_n 1, 1) := by decide +kernel
theorem dX4_endHeldBlock_32 : decode cX4_endHeldBlock 32 = .ok (.getfield 200, 3) := by decide +kernel
theorem dX4_endHeldBlock_35 : decode cX4_endHeldBlock 35 = .ok (.iadd, 1) := by decide +kernel
theorem dX4_endHeldBlock_36 : decode cX4_endHeldBlock 36 = .ok (.aload_n 0, 1) := by decide +kernel
theorem dX4_endHeldBlock_37 : decode cX4_endHeldBlock 37 = .ok (.bipush 12, 2) := by decide +kernel
theorem dX4_endHeldBlock_39 : decode cX4_endHeldBlock 39 = .ok (.iaload, 1) := by decide +kernel
theorem dX4_endHeldBlock_40 : decode cX4_endHeldBlock 40 = .ok (.iadd, 1) := by decide +kernel
theorem dX4_endHeldBlock_41 : decode cX4_endHeldBlock 41 = .ok (.putfield 322, 3) := by decide +kernel
theorem dX4_endHeldBlock_44 : decode cX4_endHeldBlock 44 = .ok (.goto 60, 3) := by decide +kernel
theorem dX4_endHeldBlock_47 : decode cX4_endHeldBlock 47 = .ok (.aload_n 0, 1) := by decide +kernel
theorem dX4_endHeldBlock_48 : decode cX4_endHeldBlock 48 = .ok (.bipush 12, 2) := by decide +kernel
theorem dX4_endHeldBlock_50 : decode cX4_endHeldBlock 50 = .ok (.iaload, 1) := by decide +kernel
theorem dX4_endHeldBlock_51 : decode cX4_endHeldBlock 51 = .ok (.ifCond .le 39, 3) := by decide +kernel
theorem dX4_endHeldBlock_54 : decode cX4_endHeldBlock 54 = .ok (.aload_n 2, 1) := by decide +kernel
theorem dX4_endHeldBlock_55 : decode cX4_endHeldBlock 55 = .ok (.invokevirtual 241, 3) := by decide +kernel
theorem dX4_endHeldBlock_58 : decode cX4_endHeldBlock 58 = .ok (.aload_n 1, 1) := by decide +kernel
theorem dX4_endHeldBlock_59 : decode cX4_endHeldBlock 59 = .ok (.iconst 0, 1) := by decide +kernel
theorem dX4_endHeldBlock_60 : decode cX4_endHeldBlock 60 = .ok (.aload_n 2, 1) := by decide +kernel
theorem dX4_endHeldBlock_61 : decode cX4_endHeldBlock 61 = .ok (.getfield 322, 3) := by decide +kernel
theorem dX4_endHeldBlock_64 : decode cX4_endHeldBlock 64 = .ok (.iload_n 3, 1) := by decide +kernel
theorem dX4_endHeldBlock_65 : decode cX4_endHeldBlock 65 = .ok (.isub, 1) := by decide +kernel
theorem dX4_endHeldBlock_66 : decode cX4_endHeldBlock 66 = .ok (.invokestatic 185, 3) := by decide +kernel
theorem dX4_endHeldBlock_69 : decode cX4_endHeldBlock 69 = .ok (.putfield 200, 3) := by decide +kernel
theorem dX4_endHeldBlock_72 : decode cX4_endHeldBlock 72 = .ok (.aload_n 2, 1) := by decide +kernel
theorem dX4_endHeldBlock_73 : decode cX4_endHeldBlock 73 = .ok (.iload_n 3, 1) := by decide +kernel
theorem dX4_endHeldBlock_74 : decode cX4_endHeldBlock 74 = .ok (.aload_n 1, 1) := by decide +kernel
theorem dX4_endHeldBlock_75 : decode cX4_endHeldBlock 75 = .ok (.getfield 200, 3) := by decide +kernel
theorem dX4_endHeldBlock_78 : decode cX4_endHeldBlock 78 = .ok (.iadd, 1) := by decide +kernel
theorem dX4_endHeldBlock_79 : decode cX4_endHeldBlock 79 = .ok (.aload_n 0, 1) := by decide +kernel
theorem dX4_endHeldBlock_80 : decode cX4_endHeldBlock 80 = .ok (.bipush 12, 2) := by decide +kernel
theorem dX4_endHeldBlock_82 : decode cX4_endHeldBlock 82 = .ok (.iaload, 1) := by decide +kernel
theorem dX4_endHeldBlock_83 : decode cX4_endHeldBlock 83 = .ok (.iadd, 1) := by decide +kernel
theorem dX4_endHeldBlock_84 : decode cX4_endHeldBlock 84 = .ok (.putfield 322, 3) := by decide +kernel
theorem dX4_endHeldBlock_87 : decode cX4_endHeldBlock 87 = .ok (.goto 17, 3) := by decide +kernel
theorem dX4_endHeldBlock_90 : decode cX4_endHeldBlock 90 = .ok (.aload_n 1, 1) := by decide +kernel
theorem dX4_endHeldBlock_91 : decode cX4_endHeldBlock 91 = .ok (.iconst 0, 1) := by decide +kernel
theorem dX4_endHeldBlock_92 : decode cX4_endHeldBlock 92 = .ok (.aload_n 2, 1) := by decide +kernel
theorem dX4_endHeldBlock_93 : decode cX4_endHeldBlock 93 = .ok (.getfield 322, 3) := by decide +kernel
theorem dX4_endHeldBlock_96 : decode cX4_endHeldBlock 96 = .ok (.iload_n 3, 1) := by decide +kernel
theorem dX4_endHeldBlock_97 : decode cX4_endHeldBlock 97 = .ok (.isub, 1) := by decide +kernel
theorem dX4_endHeldBlock_98 : decode cX4_endHeldBlock 98 = .ok (.invokestatic 185, 3) := by decide +kernel
theorem dX4_endHeldBlock_101 : decode cX4_endHeldBlock 101 = .ok (.putfield 200, 3) := by decide +kernel
theorem dX4_endHeldBlock_104 : decode cX4_endHeldBlock 104 = .ok (.return_, 1) := by decide +kernel
theorem dX4_hasThings_0 : decode cX4_hasThings 0 = .ok (.aload_n 0, 1) := by decide +kernel
theorem dX4_hasThings_1 : decode cX4_hasThings 1 = .ok (.astore_n 2, 1) := by decide +kernel
theorem dX4_hasThings_2 : decode cX4_hasThings 2 = .ok (.aload_n 2, 1) := by decide +kernel
theorem dX4_hasThings_3 : decode cX4_hasThings 3 = .ok (.ifnull 31, 3) := by decide +kernel
theorem dX4_hasThings_6 : decode cX4_hasThings 6 = .ok (.aload_n 2, 1) := by decide +kernel
theorem dX4_hasThings_7 : decode cX4_hasThings 7 = .ok (.getfield 59, 3) := by decide +kernel
theorem dX4_hasThings_10 : decode cX4_hasThings 10 = .ok (.getstatic 135, 3) := by decide +kernel
theorem dX4_hasThings_13 : decode cX4_hasThings 13 = .ok (.if_acmp .eq 10, 3) := by decide +kernel
theorem dX4_hasThings_16 : decode cX4_hasThings 16 = .ok (.aload_n 2, 1) := by decide +kernel
theorem dX4_hasThings_17 : decode cX4_hasThings 17 = .ok (.getfield 386, 3) := by decide +kernel
theorem dX4_hasThings_20 : decode cX4_hasThings 20 = .ok (.ifCond .le 5, 3) := by decide +kernel
theorem dX4_hasThings_23 : decode cX4_hasThings 23 = .ok (.iconst 1, 1) := by decide +kernel
theorem dX4_hasThings_24 : decode cX4_hasThings 24 = .ok (.ireturn, 1) := by decide +kernel
theorem dX4_hasThings_25 : decode cX4_hasThings 25 = .ok (.aload_n 2, 1) := by decide +kernel
theorem dX4_hasThings_26 : decode cX4_hasThings 26 = .ok (.aload_n 1, 1) := by decide +kernel
theorem dX4_hasThings_27 : decode cX4_hasThings 27 = .ok (.invokestatic 389, 3) := by decide +kernel
theorem dX4_hasThings_30 : decode cX4_hasThings 30 = .ok (.astore_n 2, 1) := by decide +kernel
theorem dX4_hasThings_31 : decode cX4_hasThings 31 = .ok (.goto (-29), 3) := by decide +kernel
theorem dX4_hasThings_34 : decode cX4_hasThings 34 = .ok (.iconst 0, 1) := by decide +kernel
theorem dX4_hasThings_35 : decode cX4_hasThings 35 = .ok (.ireturn, 1) := by decide +kernel
theorem dX4_flowWithoutLines_0 : decode cX4_flowWithoutLines 0 = .ok (.aload_n 2, 1) := by decide +kernel
theorem dX4_flowWithoutLines_1 : decode cX4_flowWithoutLines 1 = .ok (.astore 4, 2) := by decide +kernel
theorem dX4_flowWithoutLines_3 : decode cX4_flowWithoutLines 3 = .ok (.aload 4, 2) := by decide +kernel
theorem dX4_flowWithoutLines_5 : decode cX4_flowWithoutLines 5 = .ok (.ifnull 21, 3) := by decide +kernel
theorem dX4_flowWithoutLines_8 : decode cX4_flowWithoutLines 8 = .ok (.aload_n 0, 1) := by decide +kernel
theorem dX4_flowWithoutLines_9 : decode cX4_flowWithoutLines 9 = .ok (.aload 4, 2) := by decide +kernel
theorem dX4_flowWithoutLines_11 : decode cX4_flowWithoutLines 11 = .ok (.aload_n 1, 1) := by decide +kernel
theorem dX4_flowWithoutLines_12 : decode cX4_flowWithoutLines 12 = .ok (.invokevirtual 280, 3) := by decide +kernel
theorem dX4_flowWithoutLines_15 : decode cX4_flowWithoutLines 15 = .ok (.aload 4, 2) := by decide +kernel
theorem dX4_flowWithoutLines_17 : decode cX4_flowWithoutLines 17 = .ok (.aload_n 3, 1) := by decide +kernel
theorem dX4_flowWithoutLines_18 : decode cX4_flowWithoutLines 18 = .ok (.invokestatic 389, 3) := by decide +kernel
theorem dX4_flowWithoutLines_21 : decode cX4_flowWithoutLines 21 = .ok (.astore 4, 2) := by decide +kernel
theorem dX4_flowWithoutLines_23 : decode cX4_flowWithoutLines 23 = .ok (.goto (-20), 3) := by decide +kernel
theorem dX4_flowWithoutLines_26 : decode cX4_flowWithoutLines 26 = .ok (.return_, 1) := by decide +kernel
theorem dX4_flowLines_0 : decode cX4_flowLines 0 = .ok (.aload_n 2, 1) := by decide +kernel
theorem dX4_flowLines_1 : decode cX4_flowLines 1 = .ok (.invokevirtual 241, 3) := by decide +kernel
theorem dX4_flowLines_4 : decode cX4_flowLines 4 = .ok (.aload_n 3, 1) := by decide +kernel
theorem dX4_flowLines_5 : decode cX4_flowLines 5 = .ok (.astore 5, 2) := by decide +kernel
theorem dX4_flowLines_7 : decode cX4_flowLines 7 = .ok (.aload 5, 2) := by decide +kernel
theorem dX4_flowLines_9 : decode cX4_flowLines 9 = .ok (.ifnull 101, 3) := by decide +kernel
theorem dX4_flowLines_12 : decode cX4_flowLines 12 = .ok (.getstatic 393, 3) := by decide +kernel
theorem dX4_flowLines_15 : decode cX4_flowLines 15 = .ok (.aload 5, 2) := by decide +kernel
theorem dX4_flowLines_17 : decode cX4_flowLines 17 = .ok (.getfield 59, 3) := by decide +kernel
theorem dX4_flowLines_20 : decode cX4_flowLines 20 = .ok (.invokevirtual 398, 3) := by decide +kernel
theorem dX4_flowLines_23 : decode cX4_flowLines 23 = .ok (.iaload, 1) := by decide +kernel
theorem dX4_flowLines_24 : decode cX4_flowLines 24 = .ok (.tableswitch 74 4 7 #[32, 43, 54, 64], 32) := by decide +kernel
theorem dX4_flowLines_56 : decode cX4_flowLines 56 = .ok (.aload_n 0, 1) := by decide +kernel
theorem dX4_flowLines_57 : decode cX4_flowLines 57 = .ok (.aload_n 1, 1) := by decide +kernel
theorem dX4_flowLines_58 : decode cX4_flowLines 58 = .ok (.aload_n 2, 1) := by decide +kernel
theorem dX4_flowLines_59 : decode cX4_flowLines 59 = .ok (.aload 5, 2) := by decide +kernel
theorem dX4_flowLines_61 : decode cX4_flowLines 61 = .ok (.invokevirtual 401, 3) := by decide +kernel
theorem dX4_flowLines_64 : decode cX4_flowLines 64 = .ok (.goto 34, 3) := by decide +kernel
theorem dX4_flowLines_67 : decode cX4_flowLines 67 = .ok (.aload_n 0, 1) := by decide +kernel
theorem dX4_flowLines_68 : decode cX4_flowLines 68 = .ok (.aload_n 1, 1) := by decide +kernel
theorem dX4_flowLines_69 : decode cX4_flowLines 69 = .ok (.aload_n 2, 1) := by decide +kernel
theorem dX4_flowLines_70 : decode cX4_flowLines 70 = .ok (.aload 5, 2) := by decide +kernel
theorem dX4_flowLines_72 : decode cX4_flowLines 72 = .ok (.invokevirtual 405, 3) := by decide +kernel
theorem dX4_flowLines_75 : decode cX4_flowLines 75 = .ok (.goto 23, 3) := by decide +kernel
theorem dX4_flowLines_78 : decode cX4_flowLines 78 = .ok (.aload_n 0, 1) := by decide +kernel
theorem dX4_flowLines_79 : decode cX4_flowLines 79 = .ok (.aload_n 2, 1) := by decide +kernel
theorem dX4_flowLines_80 : decode cX4_flowLines 80 = .ok (.aload 5, 2) := by decide +kernel
theorem dX4_flowLines_82 : decode cX4_flowLines 82 = .ok (.invokevirtual 408, 3) := by decide +kernel
theorem dX4_flowLines_85 : decode cX4_flowLines 85 = .ok (.goto 13, 3) := by decide +kernel
theorem dX4_flowLines_88 : decode cX4_flowLines 88 = .ok (.aload_n 0, 1) := by decide +kernel
theorem dX4_flowLines_89 : decode cX4_flowLines 89 = .ok (.aload_n 2, 1) := by decide +kernel
theorem dX4_flowLines_90 : decode cX4_flowLines 90 = .ok (.aload 5, 2) := by decide +kernel
theorem dX4_flowLines_92 : decode cX4_flowLines 92 = .ok (.invokevirtual 412, 3) := by decide +kernel
theorem dX4_flowLines_95 : decode cX4_flowLines 95 = .ok (.goto 3, 3) := by decide +kernel
theorem dX4_flowLines_98 : decode cX4_flowLines 98 = .ok (.aload 5, 2) := by decide +kernel
theorem dX4_flowLines_100 : decode cX4_flowLines 100 = .ok (.aload 4, 2) := by decide +kernel
theorem dX4_flowLines_102 : decode cX4_flowLines 102 = .ok (.invokestatic 389, 3) := by decide +kernel
theorem dX4_flowLines_105 : decode cX4_flowLines 105 = .ok (.astore 5, 2) := by decide +kernel
theorem dX4_flowLines_107 : decode cX4_flowLines 107 = .ok (.goto (-100), 3) := by decide +kernel
theorem dX4_flowLines_110 : decode cX4_flowLines 110 = .ok (.aload_n 0, 1) := by decide +kernel
theorem dX4_flowLines_111 : decode cX4_flowLines 111 = .ok (.aload_n 2, 1) := by decide +kernel
theorem dX4_flowLines_112 : decode cX4_flowLines 112 = .ok (.invokevirtual 415, 3) := by decide +kernel
theorem dX4_flowLines_115 : decode cX4_flowLines 115 = .ok (.return_, 1) := by decide +kernel
theorem dX4_shiftOf_0 : decode cX4_shiftOf 0 = .ok (.aload_n 0, 1) := by decide +kernel
theorem dX4_shiftOf_1 : decode cX4_shiftOf 1 = .ok (.invokevirtual 121, 3) := by decide +kernel
theorem dX4_shiftOf_4 : decode cX4_shiftOf 4 = .ok (.ifCond .eq 7, 3) := by decide +kernel
theorem dX4_shiftOf_7 : decode cX4_shiftOf 7 = .ok (.iconst 0, 1) := by decide +kernel
theorem dX4_shiftOf_8 : decode cX4_shiftOf 8 = .ok (.goto 10, 3) := by decide +kernel
theorem dX4_shiftOf_11 : decode cX4_shiftOf 11 = .ok (.aload_n 0, 1) := by decide +kernel
theorem dX4_shiftOf_12 : decode cX4_shiftOf 12 = .ok (.getfield 127, 3) := by decide +kernel
theorem dX4_shiftOf_15 : decode cX4_shiftOf 15 = .ok (.bipush 16, 2) := by decide +kernel
theorem dX4_shiftOf_17 : decode cX4_shiftOf 17 = .ok (.iaload, 1) := by decide +kernel
theorem dX4_shiftOf_18 : decode cX4_shiftOf 18 = .ok (.istore_n 1, 1) := by decide +kernel
theorem dX4_shiftOf_19 : decode cX4_shiftOf 19 = .ok (.aload_n 0, 1) := by decide +kernel
theorem dX4_shiftOf_20 : decode cX4_shiftOf 20 = .ok (.getfield 75, 3) := by decide +kernel
theorem dX4_shiftOf_23 : decode cX4_shiftOf 23 = .ok (.astore_n 2, 1) := by decide +kernel
theorem dX4_shiftOf_24 : decode cX4_shiftOf 24 = .ok (.aload_n 2, 1) := by decide +kernel
theorem dX4_shiftOf_25 : decode cX4_shiftOf 25 = .ok (.ifnull 31, 3) := by decide +kernel
theorem dX4_shiftOf_28 : decode cX4_shiftOf 28 = .ok (.aload_n 2, 1) := by decide +kernel
theorem dX4_shiftOf_29 : decode cX4_shiftOf 29 = .ok (.getfield 59, 3) := by decide +kernel
theorem dX4_shiftOf_32 : decode cX4_shiftOf 32 = .ok (.getstatic 194, 3) := by decide +kernel
theorem dX4_shiftOf_35 : decode cX4_shiftOf 35 = .ok (.if_acmp .ne 21, 3) := by decide +kernel
theorem dX4_shiftOf_38 : decode cX4_shiftOf 38 = .ok (.iload_n 1, 1) := by decide +kernel
theorem dX4_shiftOf_39 : decode cX4_shiftOf 39 = .ok (.aload_n 2, 1) := by decide +kernel
theorem dX4_shiftOf_40 : decode cX4_shiftOf 40 = .ok (.getfield 127, 3) := by decide +kernel
theorem dX4_shiftOf_43 : decode cX4_shiftOf 43 = .ok (.bipush 16, 2) := by decide +kernel
theorem dX4_shiftOf_45 : decode cX4_shiftOf 45 = .ok (.iaload, 1) := by decide +kernel
theorem dX4_shiftOf_46 : decode cX4_shiftOf 46 = .ok (.iadd, 1) := by decide +kernel
theorem dX4_shiftOf_47 : decode cX4_shiftOf 47 = .ok (.istore_n 1, 1) := by decide +kernel
theorem dX4_shiftOf_48 : decode cX4_shiftOf 48 = .ok (.aload_n 2, 1) := by decide +kernel
theorem dX4_shiftOf_49 : decode cX4_shiftOf 49 = .ok (.getfield 75, 3) := by decide +kernel
theorem dX4_shiftOf_52 : decode cX4_shiftOf 52 = .ok (.astore_n 2, 1) := by decide +kernel
theorem dX4_shiftOf_53 : decode cX4_shiftOf 53 = .ok (.goto (-29), 3) := by decide +kernel
theorem dX4_shiftOf_56 : decode cX4_shiftOf 56 = .ok (.iload_n 1, 1) := by decide +kernel
theorem dX4_shiftOf_57 : decode cX4_shiftOf 57 = .ok (.ireturn, 1) := by decide +kernel
theorem dX4_addWords_0 : decode cX4_addWords 0 = .ok (.aload_n 0, 1) := by decide +kernel
theorem dX4_addWords_1 : decode cX4_addWords 1 = .ok (.aload_n 3, 1) := by decide +kernel
theorem dX4_addWords_2 : decode cX4_addWords 2 = .ok (.invokevirtual 35, 3) := by decide +kernel
theorem dX4_addWords_5 : decode cX4_addWords 5 = .ok (.astore 4, 2) := by decide +kernel
theorem dX4_addWords_7 : decode cX4_addWords 7 = .ok (.aload_n 3, 1) := by decide +kernel
theorem dX4_addWords_8 : decode cX4_addWords 8 = .ok (.getfield 419, 3) := by decide +kernel
theorem dX4_addWords_11 : decode cX4_addWords 11 = .ok (.iconst 3, 1) := by decide +kernel
theorem dX4_addWords_12 : decode cX4_addWords 12 = .ok (.imul, 1) := by decide +kernel
theorem dX4_addWords_13 : decode cX4_addWords 13 = .ok (.iconst 4, 1) := by decide +kernel
theorem dX4_addWords_14 : decode cX4_addWords 14 = .ok (.idiv, 1) := by decide +kernel
theorem dX4_addWords_15 : decode cX4_addWords 15 = .ok (.istore 5, 2) := by decide +kernel
theorem dX4_addWords_17 : decode cX4_addWords 17 = .ok (.aload_n 3, 1) := by decide +kernel
theorem dX4_addWords_18 : decode cX4_addWords 18 = .ok (.invokestatic 422, 3) := by decide +kernel
theorem dX4_addWords_21 : decode cX4_addWords 21 = .ok (.istore 6, 2) := by decide +kernel
theorem dX4_addWords_23 : decode cX4_addWords 23 = .ok (.iconst 0, 1) := by decide +kernel
theorem dX4_addWords_24 : decode cX4_addWords 24 = .ok (.istore 7, 2) := by decide +kernel
theorem dX4_addWords_26 : decode cX4_addWords 26 = .ok (.iload 7, 2) := by decide +kernel
theorem dX4_addWords_28 : decode cX4_addWords 28 = .ok (.aload_n 3, 1) := by decide +kernel
theorem dX4_addWords_29 : decode cX4_addWords 29 = .ok (.getfield 386, 3) := by decide +kernel
theorem dX4_addWords_32 : decode cX4_addWords 32 = .ok (.if_icmp .ge 109, 3) := by decide +kernel
theorem dX4_addWords_35 : decode cX4_addWords 35 = .ok (.aload 4, 2) := by decide +kernel
theorem dX4_addWords_37 : decode cX4_addWords 37 = .ok (.iconst 2, 1) := by decide +kernel
theorem dX4_addWords_38 : decode cX4_addWords 38 = .ok (.iload 7, 2) := by decide +kernel
theorem dX4_addWords_40 : decode cX4_addWords 40 = .ok (.imul, 1) := by decide +kernel
theorem dX4_addWords_41 : decode cX4_addWords 41 = .ok (.invokevirtual 154, 3) := by decide +kernel
theorem dX4_addWords_44 : decode cX4_addWords 44 = .ok (.astore 8, 2) := by decide +kernel
theorem dX4_addWords_46 : decode cX4_addWords 46 = .ok (.aload 4, 2) := by decide +kernel
theorem dX4_addWords_48 : decode cX4_addWords 48 = .ok (.iconst 2, 1) := by decide +kernel
theorem dX4_addWords_49 : decode cX4_addWords 49 = .ok (.iload 7, 2) := by decide +kernel
theorem dX4_addWords_51 : decode cX4_addWords 51 = .ok (.imul, 1) := by decide +kernel
theorem dX4_addWords_52 : decode cX4_addWords 52 = .ok (.iconst 1, 1) := by decide +kernel
theorem dX4_addWords_53 : decode cX4_addWords 53 = .ok (.iadd, 1) := by decide +kernel
theorem dX4_addWords_54 : decode cX4_addWords 54 = .ok (.invokevirtual 154, 3) := by decide +kernel
theorem dX4_addWords_57 : decode cX4_addWords 57 = .ok (.astore 9, 2) := by decide +kernel
theorem dX4_addWords_59 : decode cX4_addWords 59 = .ok (.aload 8, 2) := by decide +kernel
theorem dX4_addWords_61 : decode cX4_addWords 61 = .ok (.ifnull 74, 3) := by decide +kernel
theorem dX4_addWords_64 : decode cX4_addWords 64 = .ok (.aload 9, 2) := by decide +kernel
theorem dX4_addWords_66 : decode cX4_addWords 66 = .ok (.ifnull 69, 3) := by decide +kernel
theorem dX4_addWords_69 : decode cX4_addWords 69 = .ok (.aload 8, 2) := by decide +kernel
theorem dX4_addWords_71 : decode cX4_addWords 71 = .ok (.aload_n 3, 1) := by decide +kernel
theorem dX4_addWords_72 : decode cX4_addWords 72 = .ok (.getfield 425, 3) := by decide +kernel
theorem dX4_addWords_75 : decode cX4_addWords 75 = .ok (.iload 7, 2) := by decide +kernel
theorem dX4_addWords_77 : decode cX4_addWords 77 = .ok (.iaload, 1) := by decide +kernel
theorem dX4_addWords_78 : decode cX4_addWords 78 = .ok (.putfield 428, 3) := by decide +kernel
theorem dX4_addWords_81 : decode cX4_addWords 81 = .ok (.aload 8, 2) := by decide +kernel
theorem dX4_addWords_83 : decode cX4_addWords 83 = .ok (.iload 5, 2) := by decide +kernel
theorem dX4_addWords_85 : decode cX4_addWords 85 = .ok (.iload 6, 2) := by decide +kernel
theorem dX4_addWords_87 : decode cX4_addWords 87 = .ok (.iadd, 1) := by decide +kernel
theorem dX4_addWords_88 : decode cX4_addWords 88 = .ok (.putfield 431, 3) := by decide +kernel
theorem dX4_addWords_91 : decode cX4_addWords 91 = .ok (.aload 8, 2) := by decide +kernel
theorem dX4_addWords_93 : decode cX4_addWords 93 = .ok (.aload_n 3, 1) := by decide +kernel
theorem dX4_addWords_94 : decode cX4_addWords 94 = .ok (.getfield 419, 3) := by decide +kernel
theorem dX4_addWords_97 : decode cX4_addWords 97 = .ok (.iload 5, 2) := by decide +kernel
theorem dX4_addWords_99 : decode cX4_addWords 99 = .ok (.isub, 1) := by decide +kernel
theorem dX4_addWords_100 : decode cX4_addWords 100 = .ok (.iload 6, 2) := by decide +kernel
theorem dX4_addWords_102 : decode cX4_addWords 102 = .ok (.isub, 1) := by decide +kernel
theorem dX4_addWords_103 : decode cX4_addWords 103 = .ok (.putfield 434, 3) := by decide +kernel
theorem dX4_addWords_106 : decode cX4_addWords 106 = .ok (.aload 9, 2) := by decide +kernel
theorem dX4_addWords_108 : decode cX4_addWords 108 = .ok (.iconst 0, 1) := by decide +kernel
theorem dX4_addWords_109 : decode cX4_addWords 109 = .ok (.putfield 428, 3) := by decide +kernel
theorem dX4_addWords_112 : decode cX4_addWords 112 = .ok (.aload 9, 2) := by decide +kernel
theorem dX4_addWords_114 : decode cX4_addWords 114 = .ok (.aconst_null, 1) := by decide +kernel
theorem dX4_addWords_115 : decode cX4_addWords 115 = .ok (.putfield 437, 3) := by decide +kernel
theorem dX4_addWords_118 : decode cX4_addWords 118 = .ok (.aload_n 0, 1) := by decide +kernel
theorem dX4_addWords_119 : decode cX4_addWords 119 = .ok (.aload_n 1, 1) := by decide +kernel
theorem dX4_addWords_120 : decode cX4_addWords 120 = .ok (.aload_n 2, 1) := by decide +kernel
theorem dX4_addWords_121 : decode cX4_addWords 121 = .ok (.aload 8, 2) := by decide +kernel
theorem dX4_addWords_123 : decode cX4_addWords 123 = .ok (.aload 9, 2) := by decide +kernel
theorem dX4_addWords_125 : decode cX4_addWords 125 = .ok (.aload_n 3, 1) := by decide +kernel
theorem dX4_addWords_126 : decode cX4_addWords 126 = .ok (.getfield 441, 3) := by decide +kernel
theorem dX4_addWords_129 : decode cX4_addWords 129 = .ok (.iload 7, 2) := by decide +kernel
theorem dX4_addWords_131 : decode cX4_addWords 131 = .ok (.iaload, 1) := by decide +kernel
theorem dX4_addWords_132 : decode cX4_addWords 132 = .ok (.invokevirtual 444, 3) := by decide +kernel
theorem dX4_addWords_135 : decode cX4_addWords 135 = .ok (.iinc 7 1, 3) := by decide +kernel
theorem dX4_addWords_138 : decode cX4_addWords 138 = .ok (.goto (-112), 3) := by decide +kernel
theorem dX4_addWords_141 : decode cX4_addWords 141 = .ok (.return_, 1) := by decide +kernel
theorem dX4_addThing_0 : decode cX4_addThing 0 = .ok (.aload_n 3, 1) := by decide +kernel
theorem dX4_addThing_1 : decode cX4_addThing 1 = .ok (.astore 6, 2) := by decide +kernel
theorem dX4_addThing_3 : decode cX4_addThing 3 = .ok (.iload 5, 2) := by decide +kernel
theorem dX4_addThing_5 : decode cX4_addThing 5 = .ok (.ifCond .le 7, 3) := by decide +kernel
theorem dX4_addThing_8 : decode cX4_addThing 8 = .ok (.iconst 1, 1) := by decide +kernel
theorem dX4_addThing_9 : decode cX4_addThing 9 = .ok (.goto 4, 3) := by decide +kernel
theorem dX4_addThing_12 : decode cX4_addThing 12 = .ok (.iconst 0, 1) := by decide +kernel
theorem dX4_addThing_13 : decode cX4_addThing 13 = .ok (.istore 7, 2) := by decide +kernel
theorem dX4_addThing_15 : decode cX4_addThing 15 = .ok (.iconst 0, 1) := by decide +kernel
theorem dX4_addThing_16 : decode cX4_addThing 16 = .ok (.istore 8, 2) := by decide +kernel
theorem dX4_addThing_18 : decode cX4_addThing 18 = .ok (.iload 8, 2) := by decide +kernel
theorem dX4_addThing_20 : decode cX4_addThing 20 = .ok (.sipush 1000, 3) := by decide +kernel
theorem dX4_addThing_23 : decode cX4_addThing 23 = .ok (.if_icmp .ge 171, 3) := by decide +kernel
theorem dX4_addThing_26 : decode cX4_addThing 26 = .ok (.aload_n 2, 1) := by decide +kernel
theorem dX4_addThing_27 : decode cX4_addThing 27 = .ok (.getfield 454, 3) := by decide +kernel
theorem dX4_addThing_30 : decode cX4_addThing 30 = .ok (.ifCond .ne 15, 3) := by decide +kernel
theorem dX4_addThing_33 : decode cX4_addThing 33 = .ok (.aload_n 2, 1) := by decide +kernel
theorem dX4_addThing_34 : decode cX4_addThing 34 = .ok (.aload_n 2, 1) := by decide +kernel
theorem dX4_addThing_35 : decode cX4_addThing 35 = .ok (.getfield 322, 3) := by decide +kernel
theorem dX4_addThing_38 : decode cX4_addThing 38 = .ok (.aload_n 2, 1) := by decide +kernel
theorem dX4_addThing_39 : decode cX4_addThing 39 = .ok (.getfield 322, 3) := by decide +kernel
theorem dX4_addThing_42 : decode cX4_addThing 42 = .ok (.invokevirtual 457, 3) := by decide +kernel
end
section
theorem dX4_addThing_45 : decode cX4_addThing 45 = .ok (.aload_n 2, 1) := by decide +kernel
theorem dX4_addThing_46 : decode cX4_addThing 46 = .ok (.aload 6, 2) := by decide +kernel
theorem dX4_addThing_48 : decode cX4_addThing 48 = .ok (.getfield 428, 3) := by decide +kernel
theorem dX4_addThing_51 : decode cX4_addThing 51 = .ok (.invokevirtual 461, 3) := by decide +kernel
theorem dX4_addThing_54 : decode cX4_addThing 54 = .ok (.ifCond .eq 12, 3) := by decide +kernel
theorem dX4_addThing_57 : decode cX4_addThing 57 = .ok (.aload_n 0, 1) := by decide +kernel
theorem dX4_addThing_58 : decode cX4_addThing 58 = .ok (.aload_n 1, 1) := by decide +kernel
theorem dX4_addThing_59 : decode cX4_addThing 59 = .ok (.aload_n 2, 1) := by decide +kernel
theorem dX4_addThing_60 : decode cX4_addThing 60 = .ok (.aload 6, 2) := by decide +kernel
theorem dX4_addThing_62 : decode cX4_addThing 62 = .ok (.invokevirtual 465, 3) := by decide +kernel
theorem dX4_addThing_65 : decode cX4_addThing 65 = .ok (.return_, 1) := by decide +kernel
theorem dX4_addThing_66 : decode cX4_addThing 66 = .ok (.iload 7, 2) := by decide +kernel
theorem dX4_addThing_68 : decode cX4_addThing 68 = .ok (.ifCond .eq 74, 3) := by decide +kernel
theorem dX4_addThing_71 : decode cX4_addThing 71 = .ok (.aload_n 2, 1) := by decide +kernel
theorem dX4_addThing_72 : decode cX4_addThing 72 = .ok (.iload 5, 2) := by decide +kernel
theorem dX4_addThing_74 : decode cX4_addThing 74 = .ok (.iconst 1, 1) := by decide +kernel
theorem dX4_addThing_75 : decode cX4_addThing 75 = .ok (.iadd, 1) := by decide +kernel
theorem dX4_addThing_76 : decode cX4_addThing 76 = .ok (.invokevirtual 461, 3) := by decide +kernel
theorem dX4_addThing_79 : decode cX4_addThing 79 = .ok (.ifCond .eq 63, 3) := by decide +kernel
theorem dX4_addThing_82 : decode cX4_addThing 82 = .ok (.aload 4, 2) := by decide +kernel
theorem dX4_addThing_84 : decode cX4_addThing 84 = .ok (.aload_n 3, 1) := by decide +kernel
theorem dX4_addThing_85 : decode cX4_addThing 85 = .ok (.getfield 428, 3) := by decide +kernel
theorem dX4_addThing_88 : decode cX4_addThing 88 = .ok (.iload 5, 2) := by decide +kernel
theorem dX4_addThing_90 : decode cX4_addThing 90 = .ok (.isub, 1) := by decide +kernel
theorem dX4_addThing_91 : decode cX4_addThing 91 = .ok (.putfield 428, 3) := by decide +kernel
theorem dX4_addThing_94 : decode cX4_addThing 94 = .ok (.aload 4, 2) := by decide +kernel
theorem dX4_addThing_96 : decode cX4_addThing 96 = .ok (.aload_n 3, 1) := by decide +kernel
theorem dX4_addThing_97 : decode cX4_addThing 97 = .ok (.getfield 431, 3) := by decide +kernel
theorem dX4_addThing_100 : decode cX4_addThing 100 = .ok (.putfield 431, 3) := by decide +kernel
theorem dX4_addThing_103 : decode cX4_addThing 103 = .ok (.aload 4, 2) := by decide +kernel
theorem dX4_addThing_105 : decode cX4_addThing 105 = .ok (.aload_n 3, 1) := by decide +kernel
theorem dX4_addThing_106 : decode cX4_addThing 106 = .ok (.getfield 434, 3) := by decide +kernel
theorem dX4_addThing_109 : decode cX4_addThing 109 = .ok (.putfield 434, 3) := by decide +kernel
theorem dX4_addThing_112 : decode cX4_addThing 112 = .ok (.aload_n 3, 1) := by decide +kernel
theorem dX4_addThing_113 : decode cX4_addThing 113 = .ok (.iload 5, 2) := by decide +kernel
theorem dX4_addThing_115 : decode cX4_addThing 115 = .ok (.iconst 1, 1) := by decide +kernel
theorem dX4_addThing_116 : decode cX4_addThing 116 = .ok (.iadd, 1) := by decide +kernel
theorem dX4_addThing_117 : decode cX4_addThing 117 = .ok (.putfield 428, 3) := by decide +kernel
theorem dX4_addThing_120 : decode cX4_addThing 120 = .ok (.aload_n 0, 1) := by decide +kernel
theorem dX4_addThing_121 : decode cX4_addThing 121 = .ok (.aload_n 1, 1) := by decide +kernel
theorem dX4_addThing_122 : decode cX4_addThing 122 = .ok (.aload_n 2, 1) := by decide +kernel
theorem dX4_addThing_123 : decode cX4_addThing 123 = .ok (.aload_n 3, 1) := by decide +kernel
theorem dX4_addThing_124 : decode cX4_addThing 124 = .ok (.invokevirtual 465, 3) := by decide +kernel
theorem dX4_addThing_127 : decode cX4_addThing 127 = .ok (.aload_n 0, 1) := by decide +kernel
theorem dX4_addThing_128 : decode cX4_addThing 128 = .ok (.aload_n 2, 1) := by decide +kernel
theorem dX4_addThing_129 : decode cX4_addThing 129 = .ok (.invokevirtual 415, 3) := by decide +kernel
theorem dX4_addThing_132 : decode cX4_addThing 132 = .ok (.aload 4, 2) := by decide +kernel
theorem dX4_addThing_134 : decode cX4_addThing 134 = .ok (.astore 6, 2) := by decide +kernel
theorem dX4_addThing_136 : decode cX4_addThing 136 = .ok (.iconst 0, 1) := by decide +kernel
theorem dX4_addThing_137 : decode cX4_addThing 137 = .ok (.istore 7, 2) := by decide +kernel
theorem dX4_addThing_139 : decode cX4_addThing 139 = .ok (.goto 49, 3) := by decide +kernel
theorem dX4_addThing_142 : decode cX4_addThing 142 = .ok (.aload_n 2, 1) := by decide +kernel
theorem dX4_addThing_143 : decode cX4_addThing 143 = .ok (.getfield 454, 3) := by decide +kernel
theorem dX4_addThing_146 : decode cX4_addThing 146 = .ok (.ifCond .le 11, 3) := by decide +kernel
theorem dX4_addThing_149 : decode cX4_addThing 149 = .ok (.aload_n 0, 1) := by decide +kernel
theorem dX4_addThing_150 : decode cX4_addThing 150 = .ok (.aload_n 2, 1) := by decide +kernel
theorem dX4_addThing_151 : decode cX4_addThing 151 = .ok (.invokevirtual 415, 3) := by decide +kernel
theorem dX4_addThing_154 : decode cX4_addThing 154 = .ok (.goto 34, 3) := by decide +kernel
theorem dX4_addThing_157 : decode cX4_addThing 157 = .ok (.aload_n 2, 1) := by decide +kernel
theorem dX4_addThing_158 : decode cX4_addThing 158 = .ok (.getfield 469, 3) := by decide +kernel
theorem dX4_addThing_161 : decode cX4_addThing 161 = .ok (.ifCond .eq 18, 3) := by decide +kernel
theorem dX4_addThing_164 : decode cX4_addThing 164 = .ok (.aload_n 2, 1) := by decide +kernel
theorem dX4_addThing_165 : decode cX4_addThing 165 = .ok (.aload_n 2, 1) := by decide +kernel
theorem dX4_addThing_166 : decode cX4_addThing 166 = .ok (.aload_n 2, 1) := by decide +kernel
theorem dX4_addThing_167 : decode cX4_addThing 167 = .ok (.getfield 322, 3) := by decide +kernel
theorem dX4_addThing_170 : decode cX4_addThing 170 = .ok (.invokevirtual 472, 3) := by decide +kernel
theorem dX4_addThing_173 : decode cX4_addThing 173 = .ok (.putfield 322, 3) := by decide +kernel
theorem dX4_addThing_176 : decode cX4_addThing 176 = .ok (.goto 12, 3) := by decide +kernel
theorem dX4_addThing_179 : decode cX4_addThing 179 = .ok (.aload_n 0, 1) := by decide +kernel
theorem dX4_addThing_180 : decode cX4_addThing 180 = .ok (.aload_n 1, 1) := by decide +kernel
theorem dX4_addThing_181 : decode cX4_addThing 181 = .ok (.aload_n 2, 1) := by decide +kernel
theorem dX4_addThing_182 : decode cX4_addThing 182 = .ok (.aload 6, 2) := by decide +kernel
theorem dX4_addThing_184 : decode cX4_addThing 184 = .ok (.invokevirtual 465, 3) := by decide +kernel
theorem dX4_addThing_187 : decode cX4_addThing 187 = .ok (.return_, 1) := by decide +kernel
theorem dX4_addThing_188 : decode cX4_addThing 188 = .ok (.iinc 8 1, 3) := by decide +kernel
theorem dX4_addThing_191 : decode cX4_addThing 191 = .ok (.goto (-173), 3) := by decide +kernel
theorem dX4_addThing_194 : decode cX4_addThing 194 = .ok (.return_, 1) := by decide +kernel
theorem dX4_putThing_0 : decode cX4_putThing 0 = .ok (.aload_n 2, 1) := by decide +kernel
theorem dX4_putThing_1 : decode cX4_putThing 1 = .ok (.getfield 454, 3) := by decide +kernel
theorem dX4_putThing_4 : decode cX4_putThing 4 = .ok (.ifCond .ne 39, 3) := by decide +kernel
theorem dX4_putThing_7 : decode cX4_putThing 7 = .ok (.aload_n 2, 1) := by decide +kernel
theorem dX4_putThing_8 : decode cX4_putThing 8 = .ok (.aload_n 0, 1) := by decide +kernel
theorem dX4_putThing_9 : decode cX4_putThing 9 = .ok (.aload_n 0, 1) := by decide +kernel
theorem dX4_putThing_10 : decode cX4_putThing 10 = .ok (.aload_n 1, 1) := by decide +kernel
theorem dX4_putThing_11 : decode cX4_putThing 11 = .ok (.invokevirtual 35, 3) := by decide +kernel
theorem dX4_putThing_14 : decode cX4_putThing 14 = .ok (.invokevirtual 475, 3) := by decide +kernel
theorem dX4_putThing_17 : decode cX4_putThing 17 = .ok (.putfield 479, 3) := by decide +kernel
theorem dX4_putThing_20 : decode cX4_putThing 20 = .ok (.aload_n 2, 1) := by decide +kernel
theorem dX4_putThing_21 : decode cX4_putThing 21 = .ok (.aload_n 3, 1) := by decide +kernel
theorem dX4_putThing_22 : decode cX4_putThing 22 = .ok (.getfield 431, 3) := by decide +kernel
theorem dX4_putThing_25 : decode cX4_putThing 25 = .ok (.putfield 480, 3) := by decide +kernel
theorem dX4_putThing_28 : decode cX4_putThing 28 = .ok (.aload_n 2, 1) := by decide +kernel
theorem dX4_putThing_29 : decode cX4_putThing 29 = .ok (.aload_n 3, 1) := by decide +kernel
theorem dX4_putThing_30 : decode cX4_putThing 30 = .ok (.getfield 434, 3) := by decide +kernel
theorem dX4_putThing_33 : decode cX4_putThing 33 = .ok (.putfield 481, 3) := by decide +kernel
theorem dX4_putThing_36 : decode cX4_putThing 36 = .ok (.aload_n 2, 1) := by decide +kernel
theorem dX4_putThing_37 : decode cX4_putThing 37 = .ok (.ldc_w 482, 3) := by decide +kernel
theorem dX4_putThing_40 : decode cX4_putThing 40 = .ok (.putfield 451, 3) := by decide +kernel
theorem dX4_putThing_43 : decode cX4_putThing 43 = .ok (.aload_n 3, 1) := by decide +kernel
theorem dX4_putThing_44 : decode cX4_putThing 44 = .ok (.aload_n 2, 1) := by decide +kernel
theorem dX4_putThing_45 : decode cX4_putThing 45 = .ok (.getfield 479, 3) := by decide +kernel
theorem dX4_putThing_48 : decode cX4_putThing 48 = .ok (.putfield 437, 3) := by decide +kernel
theorem dX4_putThing_51 : decode cX4_putThing 51 = .ok (.aload_n 3, 1) := by decide +kernel
theorem dX4_putThing_52 : decode cX4_putThing 52 = .ok (.aload_n 2, 1) := by decide +kernel
theorem dX4_putThing_53 : decode cX4_putThing 53 = .ok (.invokevirtual 483, 3) := by decide +kernel
theorem dX4_putThing_56 : decode cX4_putThing 56 = .ok (.putfield 448, 3) := by decide +kernel
theorem dX4_putThing_59 : decode cX4_putThing 59 = .ok (.aload_n 2, 1) := by decide +kernel
theorem dX4_putThing_60 : decode cX4_putThing 60 = .ok (.aload_n 3, 1) := by decide +kernel
theorem dX4_putThing_61 : decode cX4_putThing 61 = .ok (.getfield 448, 3) := by decide +kernel
theorem dX4_putThing_64 : decode cX4_putThing 64 = .ok (.aload_n 3, 1) := by decide +kernel
theorem dX4_putThing_65 : decode cX4_putThing 65 = .ok (.getfield 428, 3) := by decide +kernel
theorem dX4_putThing_68 : decode cX4_putThing 68 = .ok (.iadd, 1) := by decide +kernel
theorem dX4_putThing_69 : decode cX4_putThing 69 = .ok (.putfield 486, 3) := by decide +kernel
theorem dX4_putThing_72 : decode cX4_putThing 72 = .ok (.aload_n 2, 1) := by decide +kernel
theorem dX4_putThing_73 : decode cX4_putThing 73 = .ok (.aload_n 2, 1) := by decide +kernel
theorem dX4_putThing_74 : decode cX4_putThing 74 = .ok (.getfield 480, 3) := by decide +kernel
theorem dX4_putThing_77 : decode cX4_putThing 77 = .ok (.aload_n 3, 1) := by decide +kernel
theorem dX4_putThing_78 : decode cX4_putThing 78 = .ok (.getfield 431, 3) := by decide +kernel
theorem dX4_putThing_81 : decode cX4_putThing 81 = .ok (.invokestatic 185, 3) := by decide +kernel
theorem dX4_putThing_84 : decode cX4_putThing 84 = .ok (.putfield 480, 3) := by decide +kernel
theorem dX4_putThing_87 : decode cX4_putThing 87 = .ok (.aload_n 2, 1) := by decide +kernel
theorem dX4_putThing_88 : decode cX4_putThing 88 = .ok (.aload_n 2, 1) := by decide +kernel
theorem dX4_putThing_89 : decode cX4_putThing 89 = .ok (.getfield 481, 3) := by decide +kernel
theorem dX4_putThing_92 : decode cX4_putThing 92 = .ok (.aload_n 3, 1) := by decide +kernel
theorem dX4_putThing_93 : decode cX4_putThing 93 = .ok (.getfield 434, 3) := by decide +kernel
theorem dX4_putThing_96 : decode cX4_putThing 96 = .ok (.invokestatic 185, 3) := by decide +kernel
theorem dX4_putThing_99 : decode cX4_putThing 99 = .ok (.putfield 481, 3) := by decide +kernel
theorem dX4_putThing_102 : decode cX4_putThing 102 = .ok (.aload_n 2, 1) := by decide +kernel
theorem dX4_putThing_103 : decode cX4_putThing 103 = .ok (.dup, 1) := by decide +kernel
theorem dX4_putThing_104 : decode cX4_putThing 104 = .ok (.getfield 454, 3) := by decide +kernel
theorem dX4_putThing_107 : decode cX4_putThing 107 = .ok (.iconst 1, 1) := by decide +kernel
theorem dX4_putThing_108 : decode cX4_putThing 108 = .ok (.iadd, 1) := by decide +kernel
theorem dX4_putThing_109 : decode cX4_putThing 109 = .ok (.putfield 454, 3) := by decide +kernel
theorem dX4_putThing_112 : decode cX4_putThing 112 = .ok (.return_, 1) := by decide +kernel
theorem dX4_endLine_0 : decode cX4_endLine 0 = .ok (.aload_n 1, 1) := by decide +kernel
theorem dX4_endLine_1 : decode cX4_endLine 1 = .ok (.getfield 479, 3) := by decide +kernel
theorem dX4_endLine_4 : decode cX4_endLine 4 = .ok (.astore_n 2, 1) := by decide +kernel
theorem dX4_endLine_5 : decode cX4_endLine 5 = .ok (.aload_n 1, 1) := by decide +kernel
theorem dX4_endLine_6 : decode cX4_endLine 6 = .ok (.getfield 454, 3) := by decide +kernel
theorem dX4_endLine_9 : decode cX4_endLine 9 = .ok (.ifCond .eq 7, 3) := by decide +kernel
theorem dX4_endLine_12 : decode cX4_endLine 12 = .ok (.aload_n 2, 1) := by decide +kernel
theorem dX4_endLine_13 : decode cX4_endLine 13 = .ok (.ifnonnull 4, 3) := by decide +kernel
theorem dX4_endLine_16 : decode cX4_endLine 16 = .ok (.return_, 1) := by decide +kernel
theorem dX4_endLine_17 : decode cX4_endLine 17 = .ok (.aload_n 2, 1) := by decide +kernel
theorem dX4_endLine_18 : decode cX4_endLine 18 = .ok (.aload_n 1, 1) := by decide +kernel
theorem dX4_endLine_19 : decode cX4_endLine 19 = .ok (.getfield 347, 3) := by decide +kernel
theorem dX4_endLine_22 : decode cX4_endLine 22 = .ok (.putfield 489, 3) := by decide +kernel
theorem dX4_endLine_25 : decode cX4_endLine 25 = .ok (.aload_n 2, 1) := by decide +kernel
theorem dX4_endLine_26 : decode cX4_endLine 26 = .ok (.aload_n 1, 1) := by decide +kernel
theorem dX4_endLine_27 : decode cX4_endLine 27 = .ok (.getfield 322, 3) := by decide +kernel
theorem dX4_endLine_30 : decode cX4_endLine 30 = .ok (.putfield 492, 3) := by decide +kernel
theorem dX4_endLine_33 : decode cX4_endLine 33 = .ok (.aload_n 2, 1) := by decide +kernel
theorem dX4_endLine_34 : decode cX4_endLine 34 = .ok (.aload_n 1, 1) := by decide +kernel
theorem dX4_endLine_35 : decode cX4_endLine 35 = .ok (.getfield 486, 3) := by decide +kernel
theorem dX4_endLine_38 : decode cX4_endLine 38 = .ok (.putfield 493, 3) := by decide +kernel
theorem dX4_endLine_41 : decode cX4_endLine 41 = .ok (.aload_n 2, 1) := by decide +kernel
theorem dX4_endLine_42 : decode cX4_endLine 42 = .ok (.aload_n 1, 1) := by decide +kernel
theorem dX4_endLine_43 : decode cX4_endLine 43 = .ok (.getfield 480, 3) := by decide +kernel
theorem dX4_endLine_46 : decode cX4_endLine 46 = .ok (.putfield 494, 3) := by decide +kernel
theorem dX4_endLine_49 : decode cX4_endLine 49 = .ok (.aload_n 2, 1) := by decide +kernel
theorem dX4_endLine_50 : decode cX4_endLine 50 = .ok (.iconst 0, 1) := by decide +kernel
theorem dX4_endLine_51 : decode cX4_endLine 51 = .ok (.aload_n 1, 1) := by decide +kernel
theorem dX4_endLine_52 : decode cX4_endLine 52 = .ok (.getfield 480, 3) := by decide +kernel
theorem dX4_endLine_55 : decode cX4_endLine 55 = .ok (.aload_n 1, 1) := by decide +kernel
theorem dX4_endLine_56 : decode cX4_endLine 56 = .ok (.getfield 481, 3) := by decide +kernel
theorem dX4_endLine_59 : decode cX4_endLine 59 = .ok (.iadd, 1) := by decide +kernel
theorem dX4_endLine_60 : decode cX4_endLine 60 = .ok (.invokestatic 185, 3) := by decide +kernel
theorem dX4_endLine_63 : decode cX4_endLine 63 = .ok (.putfield 495, 3) := by decide +kernel
theorem dX4_endLine_66 : decode cX4_endLine 66 = .ok (.aload_n 1, 1) := by decide +kernel
theorem dX4_endLine_67 : decode cX4_endLine 67 = .ok (.aload_n 2, 1) := by decide +kernel
theorem dX4_endLine_68 : decode cX4_endLine 68 = .ok (.getfield 489, 3) := by decide +kernel
theorem dX4_endLine_71 : decode cX4_endLine 71 = .ok (.aload_n 2, 1) := by decide +kernel
theorem dX4_endLine_72 : decode cX4_endLine 72 = .ok (.getfield 493, 3) := by decide +kernel
theorem dX4_endLine_75 : decode cX4_endLine 75 = .ok (.iadd, 1) := by decide +kernel
theorem dX4_endLine_76 : decode cX4_endLine 76 = .ok (.invokevirtual 328, 3) := by decide +kernel
theorem dX4_endLine_79 : decode cX4_endLine 79 = .ok (.aload_n 1, 1) := by decide +kernel
theorem dX4_endLine_80 : decode cX4_endLine 80 = .ok (.aload_n 2, 1) := by decide +kernel
theorem dX4_endLine_81 : decode cX4_endLine 81 = .ok (.getfield 489, 3) := by decide +kernel
theorem dX4_endLine_84 : decode cX4_endLine 84 = .ok (.aload_n 1, 1) := by decide +kernel
theorem dX4_endLine_85 : decode cX4_endLine 85 = .ok (.getfield 451, 3) := by decide +kernel
theorem dX4_endLine_88 : decode cX4_endLine 88 = .ok (.iadd, 1) := by decide +kernel
theorem dX4_endLine_89 : decode cX4_endLine 89 = .ok (.invokevirtual 328, 3) := by decide +kernel
theorem dX4_endLine_92 : decode cX4_endLine 92 = .ok (.aload_n 1, 1) := by decide +kernel
theorem dX4_endLine_93 : decode cX4_endLine 93 = .ok (.dup, 1) := by decide +kernel
theorem dX4_endLine_94 : decode cX4_endLine 94 = .ok (.getfield 322, 3) := by decide +kernel
theorem dX4_endLine_97 : decode cX4_endLine 97 = .ok (.aload_n 2, 1) := by decide +kernel
theorem dX4_endLine_98 : decode cX4_endLine 98 = .ok (.getfield 495, 3) := by decide +kernel
theorem dX4_endLine_101 : decode cX4_endLine 101 = .ok (.iadd, 1) := by decide +kernel
theorem dX4_endLine_102 : decode cX4_endLine 102 = .ok (.putfield 322, 3) := by decide +kernel
theorem dX4_endLine_105 : decode cX4_endLine 105 = .ok (.aload_n 1, 1) := by decide +kernel
theorem dX4_endLine_106 : decode cX4_endLine 106 = .ok (.iconst 0, 1) := by decide +kernel
theorem dX4_endLine_107 : decode cX4_endLine 107 = .ok (.putfield 454, 3) := by decide +kernel
theorem dX4_endLine_110 : decode cX4_endLine 110 = .ok (.aload_n 1, 1) := by decide +kernel
theorem dX4_endLine_111 : decode cX4_endLine 111 = .ok (.iconst 0, 1) := by decide +kernel
theorem dX4_endLine_112 : decode cX4_endLine 112 = .ok (.putfield 486, 3) := by decide +kernel
theorem dX4_endLine_115 : decode cX4_endLine 115 = .ok (.aload_n 1, 1) := by decide +kernel
theorem dX4_endLine_116 : decode cX4_endLine 116 = .ok (.getfield 496, 3) := by decide +kernel
theorem dX4_endLine_119 : decode cX4_endLine 119 = .ok (.astore_n 3, 1) := by decide +kernel
theorem dX4_endLine_120 : decode cX4_endLine 120 = .ok (.aload_n 1, 1) := by decide +kernel
theorem dX4_endLine_121 : decode cX4_endLine 121 = .ok (.aconst_null, 1) := by decide +kernel
theorem dX4_endLine_122 : decode cX4_endLine 122 = .ok (.putfield 496, 3) := by decide +kernel
theorem dX4_endLine_125 : decode cX4_endLine 125 = .ok (.aload_n 1, 1) := by decide +kernel
theorem dX4_endLine_126 : decode cX4_endLine 126 = .ok (.aconst_null, 1) := by decide +kernel
theorem dX4_endLine_127 : decode cX4_endLine 127 = .ok (.putfield 499, 3) := by decide +kernel
theorem dX4_endLine_130 : decode cX4_endLine 130 = .ok (.aload_n 3, 1) := by decide +kernel
theorem dX4_endLine_131 : decode cX4_endLine 131 = .ok (.ifnull 37, 3) := by decide +kernel
theorem dX4_endLine_134 : decode cX4_endLine 134 = .ok (.aload_n 3, 1) := by decide +kernel
theorem dX4_endLine_135 : decode cX4_endLine 135 = .ok (.getfield 502, 3) := by decide +kernel
theorem dX4_endLine_138 : decode cX4_endLine 138 = .ok (.astore 4, 2) := by decide +kernel
theorem dX4_endLine_140 : decode cX4_endLine 140 = .ok (.aload_n 3, 1) := by decide +kernel
theorem dX4_endLine_141 : decode cX4_endLine 141 = .ok (.getfield 504, 3) := by decide +kernel
theorem dX4_endLine_144 : decode cX4_endLine 144 = .ok (.astore 5, 2) := by decide +kernel
theorem dX4_endLine_146 : decode cX4_endLine 146 = .ok (.aload 5, 2) := by decide +kernel
theorem dX4_endLine_148 : decode cX4_endLine 148 = .ok (.ifnull 14, 3) := by decide +kernel
theorem dX4_endLine_151 : decode cX4_endLine 151 = .ok (.aload_n 0, 1) := by decide +kernel
theorem dX4_endLine_152 : decode cX4_endLine 152 = .ok (.aload 5, 2) := by decide +kernel
theorem dX4_endLine_154 : decode cX4_endLine 154 = .ok (.aload_n 1, 1) := by decide +kernel
theorem dX4_endLine_155 : decode cX4_endLine 155 = .ok (.aload_n 1, 1) := by decide +kernel
theorem dX4_endLine_156 : decode cX4_endLine 156 = .ok (.getfield 322, 3) := by decide +kernel
theorem dX4_endLine_159 : decode cX4_endLine 159 = .ok (.invokevirtual 299, 3) := by decide +kernel
theorem dX4_endLine_162 : decode cX4_endLine 162 = .ok (.aload 4, 2) := by decide +kernel
theorem dX4_endLine_164 : decode cX4_endLine 164 = .ok (.astore_n 3, 1) := by decide +kernel
theorem dX4_endLine_165 : decode cX4_endLine 165 = .ok (.goto (-35), 3) := by decide +kernel
theorem dX4_endLine_168 : decode cX4_endLine 168 = .ok (.return_, 1) := by decide +kernel
theorem dX4_addLine_0 : decode cX4_addLine 0 = .ok (.aload_n 0, 1) := by decide +kernel
theorem dX4_addLine_1 : decode cX4_addLine 1 = .ok (.getfield 510, 3) := by decide +kernel
theorem dX4_addLine_4 : decode cX4_addLine 4 = .ok (.astore_n 2, 1) := by decide +kernel
theorem dX4_addLine_5 : decode cX4_addLine 5 = .ok (.aload_n 2, 1) := by decide +kernel
theorem dX4_addLine_6 : decode cX4_addLine 6 = .ok (.ifnonnull 14, 3) := by decide +kernel
theorem dX4_addLine_9 : decode cX4_addLine 9 = .ok (.new 490, 3) := by decide +kernel
theorem dX4_addLine_12 : decode cX4_addLine 12 = .ok (.dup, 1) := by decide +kernel
theorem dX4_addLine_13 : decode cX4_addLine 13 = .ok (.invokespecial 513, 3) := by decide +kernel
theorem dX4_addLine_16 : decode cX4_addLine 16 = .ok (.astore_n 2, 1) := by decide +kernel
theorem dX4_addLine_17 : decode cX4_addLine 17 = .ok (.goto 11, 3) := by decide +kernel
theorem dX4_addLine_20 : decode cX4_addLine 20 = .ok (.aload_n 0, 1) := by decide +kernel
theorem dX4_addLine_21 : decode cX4_addLine 21 = .ok (.aload_n 2, 1) := by decide +kernel
theorem dX4_addLine_22 : decode cX4_addLine 22 = .ok (.getfield 514, 3) := by decide +kernel
theorem dX4_addLine_25 : decode cX4_addLine 25 = .ok (.putfield 510, 3) := by decide +kernel
theorem dX4_addLine_28 : decode cX4_addLine 28 = .ok (.aload_n 2, 1) := by decide +kernel
theorem dX4_addLine_29 : decode cX4_addLine 29 = .ok (.aconst_null, 1) := by decide +kernel
theorem dX4_addLine_30 : decode cX4_addLine 30 = .ok (.putfield 514, 3) := by decide +kernel
theorem dX4_addLine_33 : decode cX4_addLine 33 = .ok (.aload_n 1, 1) := by decide +kernel
theorem dX4_addLine_34 : decode cX4_addLine 34 = .ok (.getfield 516, 3) := by decide +kernel
theorem dX4_addLine_37 : decode cX4_addLine 37 = .ok (.ifnonnull 11, 3) := by decide +kernel
theorem dX4_addLine_40 : decode cX4_addLine 40 = .ok (.aload_n 1, 1) := by decide +kernel
theorem dX4_addLine_41 : decode cX4_addLine 41 = .ok (.aload_n 2, 1) := by decide +kernel
theorem dX4_addLine_42 : decode cX4_addLine 42 = .ok (.putfield 519, 3) := by decide +kernel
theorem dX4_addLine_45 : decode cX4_addLine 45 = .ok (.goto 11, 3) := by decide +kernel
theorem dX4_addLine_48 : decode cX4_addLine 48 = .ok (.aload_n 1, 1) := by decide +kernel
theorem dX4_addLine_49 : decode cX4_addLine 49 = .ok (.getfield 516, 3) := by decide +kernel
theorem dX4_addLine_52 : decode cX4_addLine 52 = .ok (.aload_n 2, 1) := by decide +kernel
theorem dX4_addLine_53 : decode cX4_addLine 53 = .ok (.putfield 514, 3) := by decide +kernel
theorem dX4_addLine_56 : decode cX4_addLine 56 = .ok (.aload_n 1, 1) := by decide +kernel
theorem dX4_addLine_57 : decode cX4_addLine 57 = .ok (.aload_n 2, 1) := by decide +kernel
theorem dX4_addLine_58 : decode cX4_addLine 58 = .ok (.putfield 516, 3) := by decide +kernel
theorem dX4_addLine_61 : decode cX4_addLine 61 = .ok (.aload_n 2, 1) := by decide +kernel
theorem dX4_addLine_62 : decode cX4_addLine 62 = .ok (.areturn, 1) := by decide +kernel
theorem dX4_freeLines_0 : decode cX4_freeLines 0 = .ok (.aload_n 1, 1) := by decide +kernel
theorem dX4_freeLines_1 : decode cX4_freeLines 1 = .ok (.getfield 516, 3) := by decide +kernel
theorem dX4_freeLines_4 : decode cX4_freeLines 4 = .ok (.ifnull 22, 3) := by decide +kernel
theorem dX4_freeLines_7 : decode cX4_freeLines 7 = .ok (.aload_n 1, 1) := by decide +kernel
theorem dX4_freeLines_8 : decode cX4_freeLines 8 = .ok (.getfield 516, 3) := by decide +kernel
theorem dX4_freeLines_11 : decode cX4_freeLines 11 = .ok (.aload_n 0, 1) := by decide +kernel
theorem dX4_freeLines_12 : decode cX4_freeLines 12 = .ok (.getfield 510, 3) := by decide +kernel
theorem dX4_freeLines_15 : decode cX4_freeLines 15 = .ok (.putfield 514, 3) := by decide +kernel
theorem dX4_freeLines_18 : decode cX4_freeLines 18 = .ok (.aload_n 0, 1) := by decide +kernel
theorem dX4_freeLines_19 : decode cX4_freeLines 19 = .ok (.aload_n 1, 1) := by decide +kernel
theorem dX4_freeLines_20 : decode cX4_freeLines 20 = .ok (.getfield 519, 3) := by decide +kernel
theorem dX4_freeLines_23 : decode cX4_freeLines 23 = .ok (.putfield 510, 3) := by decide +kernel
theorem dX4_freeLines_26 : decode cX4_freeLines 26 = .ok (.aload_n 1, 1) := by decide +kernel
theorem dX4_freeLines_27 : decode cX4_freeLines 27 = .ok (.aconst_null, 1) := by decide +kernel
theorem dX4_freeLines_28 : decode cX4_freeLines 28 = .ok (.putfield 519, 3) := by decide +kernel
theorem dX4_freeLines_31 : decode cX4_freeLines 31 = .ok (.aload_n 1, 1) := by decide +kernel
theorem dX4_freeLines_32 : decode cX4_freeLines 32 = .ok (.aconst_null, 1) := by decide +kernel
theorem dX4_freeLines_33 : decode cX4_freeLines 33 = .ok (.putfield 516, 3) := by decide +kernel
theorem dX4_freeLines_36 : decode cX4_freeLines 36 = .ok (.return_, 1) := by decide +kernel
theorem dX5_init_0 : decode cX5_init 0 = .ok (.aload_n 0, 1) := by decide +kernel
theorem dX5_init_1 : decode cX5_init 1 = .ok (.invokespecial 1, 3) := by decide +kernel
theorem dX5_init_4 : decode cX5_init 4 = .ok (.return_, 1) := by decide +kernel
theorem dX7_init_0 : decode cX7_init 0 = .ok (.aload_n 0, 1) := by decide +kernel
theorem dX7_init_1 : decode cX7_init 1 = .ok (.invokespecial 3, 3) := by decide +kernel
theorem dX7_init_4 : decode cX7_init 4 = .ok (.aload_n 0, 1) := by decide +kernel
theorem dX7_init_5 : decode cX7_init 5 = .ok (.iload_n 1, 1) := by decide +kernel
theorem dX7_init_6 : decode cX7_init 6 = .ok (.putfield 9, 3) := by decide +kernel
theorem dX7_init_9 : decode cX7_init 9 = .ok (.aload_n 0, 1) := by decide +kernel
theorem dX7_init_10 : decode cX7_init 10 = .ok (.aload_n 2, 1) := by decide +kernel
theorem dX7_init_11 : decode cX7_init 11 = .ok (.putfield 15, 3) := by decide +kernel
theorem dX7_init_14 : decode cX7_init 14 = .ok (.aload_n 0, 1) := by decide +kernel
theorem dX7_init_15 : decode cX7_init 15 = .ok (.aload_n 2, 1) := by decide +kernel
theorem dX7_init_16 : decode cX7_init 16 = .ok (.ifnonnull 7, 3) := by decide +kernel
theorem dX7_init_19 : decode cX7_init 19 = .ok (.iconst 0, 1) := by decide +kernel
theorem dX7_init_20 : decode cX7_init 20 = .ok (.goto 9, 3) := by decide +kernel
theorem dX7_init_23 : decode cX7_init 23 = .ok (.aload_n 2, 1) := by decide +kernel
theorem dX7_init_24 : decode cX7_init 24 = .ok (.getfield 19, 3) := by decide +kernel
theorem dX7_init_27 : decode cX7_init 27 = .ok (.iconst 1, 1) := by decide +kernel
theorem dX7_init_28 : decode cX7_init 28 = .ok (.iadd, 1) := by decide +kernel
theorem dX7_init_29 : decode cX7_init 29 = .ok (.putfield 19, 3) := by decide +kernel
theorem dX7_init_32 : decode cX7_init 32 = .ok (.aload_n 0, 1) := by decide +kernel
theorem dX7_init_33 : decode cX7_init 33 = .ok (.iload_n 3, 1) := by decide +kernel
theorem dX7_init_34 : decode cX7_init 34 = .ok (.putfield 22, 3) := by decide +kernel
theorem dX7_init_37 : decode cX7_init 37 = .ok (.aload_n 0, 1) := by decide +kernel
theorem dX7_init_38 : decode cX7_init 38 = .ok (.bipush 21, 2) := by decide +kernel
theorem dX7_init_40 : decode cX7_init 40 = .ok (.newarray .int, 2) := by decide +kernel
theorem dX7_init_42 : decode cX7_init 42 = .ok (.putfield 25, 3) := by decide +kernel
theorem dX7_init_45 : decode cX7_init 45 = .ok (.aload_n 0, 1) := by decide +kernel
theorem dX7_init_46 : decode cX7_init 46 = .ok (.bipush 21, 2) := by decide +kernel
theorem dX7_init_48 : decode cX7_init 48 = .ok (.newarray .int, 2) := by decide +kernel
theorem dX7_init_50 : decode cX7_init 50 = .ok (.putfield 29, 3) := by decide +kernel
theorem dX7_init_53 : decode cX7_init 53 = .ok (.iconst 0, 1) := by decide +kernel
theorem dX7_init_54 : decode cX7_init 54 = .ok (.istore 4, 2) := by decide +kernel
theorem dX7_init_56 : decode cX7_init 56 = .ok (.iload 4, 2) := by decide +kernel
theorem dX7_init_58 : decode cX7_init 58 = .ok (.bipush 21, 2) := by decide +kernel
theorem dX7_init_60 : decode cX7_init 60 = .ok (.if_icmp .ge 35, 3) := by decide +kernel
theorem dX7_init_63 : decode cX7_init 63 = .ok (.aload_n 0, 1) := by decide +kernel
theorem dX7_init_64 : decode cX7_init 64 = .ok (.getfield 25, 3) := by decide +kernel
theorem dX7_init_67 : decode cX7_init 67 = .ok (.iload 4, 2) := by decide +kernel
theorem dX7_init_69 : decode cX7_init 69 = .ok (.iload 4, 2) := by decide +kernel
theorem dX7_init_71 : decode cX7_init 71 = .ok (.invokestatic 32, 3) := by decide +kernel
theorem dX7_init_74 : decode cX7_init 74 = .ok (.iastore, 1) := by decide +kernel
theorem dX7_init_75 : decode cX7_init 75 = .ok (.aload_n 0, 1) := by decide +kernel
theorem dX7_init_76 : decode cX7_init 76 = .ok (.getfield 29, 3) := by decide +kernel
theorem dX7_init_79 : decode cX7_init 79 = .ok (.iload 4, 2) := by decide +kernel
theorem dX7_init_81 : decode cX7_init 81 = .ok (.aload_n 0, 1) := by decide +kernel
theorem dX7_init_82 : decode cX7_init 82 = .ok (.getfield 25, 3) := by decide +kernel
theorem dX7_init_85 : decode cX7_init 85 = .ok (.iload 4, 2) := by decide +kernel
theorem dX7_init_87 : decode cX7_init 87 = .ok (.iaload, 1) := by decide +kernel
theorem dX7_init_88 : decode cX7_init 88 = .ok (.iastore, 1) := by decide +kernel
theorem dX7_init_89 : decode cX7_init 89 = .ok (.iinc 4 1, 3) := by decide +kernel
theorem dX7_init_92 : decode cX7_init 92 = .ok (.goto (-36), 3) := by decide +kernel
theorem dX7_init_95 : decode cX7_init 95 = .ok (.iload_n 3, 1) := by decide +kernel
theorem dX7_init_96 : decode cX7_init 96 = .ok (.ifCond .le 8, 3) := by decide +kernel
theorem dX7_init_99 : decode cX7_init 99 = .ok (.bipush 20, 2) := by decide +kernel
theorem dX7_init_101 : decode cX7_init 101 = .ok (.goto 4, 3) := by decide +kernel
theorem dX7_init_104 : decode cX7_init 104 = .ok (.iconst 0, 1) := by decide +kernel
theorem dX7_init_105 : decode cX7_init 105 = .ok (.istore 4, 2) := by decide +kernel
theorem dX7_init_107 : decode cX7_init 107 = .ok (.aload_n 0, 1) := by decide +kernel
theorem dX7_init_108 : decode cX7_init 108 = .ok (.iload 4, 2) := by decide +kernel
theorem dX7_init_110 : decode cX7_init 110 = .ok (.newarray .int, 2) := by decide +kernel
theorem dX7_init_112 : decode cX7_init 112 = .ok (.putfield 36, 3) := by decide +kernel
theorem dX7_init_115 : decode cX7_init 115 = .ok (.aload_n 0, 1) := by decide +kernel
theorem dX7_init_116 : decode cX7_init 116 = .ok (.iload 4, 2) := by decide +kernel
theorem dX7_init_118 : decode cX7_init 118 = .ok (.newarray .int, 2) := by decide +kernel
theorem dX7_init_120 : decode cX7_init 120 = .ok (.putfield 39, 3) := by decide +kernel
theorem dX7_init_123 : decode cX7_init 123 = .ok (.aload_n 0, 1) := by decide +kernel
theorem dX7_init_124 : decode cX7_init 124 = .ok (.new 42, 3) := by decide +kernel
theorem dX7_init_127 : decode cX7_init 127 = .ok (.dup, 1) := by decide +kernel
theorem dX7_init_128 : decode cX7_init 128 = .ok (.iload_n 3, 1) := by decide +kernel
theorem dX7_init_129 : decode cX7_init 129 = .ok (.ifCond .le 8, 3) := by decide +kernel
theorem dX7_init_132 : decode cX7_init 132 = .ok (.bipush 40, 2) := by decide +kernel
theorem dX7_init_134 : decode cX7_init 134 = .ok (.goto 4, 3) := by decide +kernel
theorem dX7_init_137 : decode cX7_init 137 = .ok (.iconst 1, 1) := by decide +kernel
theorem dX7_init_138 : decode cX7_init 138 = .ok (.invokespecial 44, 3) := by decide +kernel
theorem dX7_init_141 : decode cX7_init 141 = .ok (.putfield 47, 3) := by decide +kernel
theorem dX7_init_144 : decode cX7_init 144 = .ok (.aload_n 0, 1) := by decide +kernel
theorem dX7_init_145 : decode cX7_init 145 = .ok (.new 42, 3) := by decide +kernel
theorem dX7_init_148 : decode cX7_init 148 = .ok (.dup, 1) := by decide +kernel
theorem dX7_init_149 : decode cX7_init 149 = .ok (.iload_n 3, 1) := by decide +kernel
theorem dX7_init_150 : decode cX7_init 150 = .ok (.ifCond .le 8, 3) := by decide +kernel
theorem dX7_init_153 : decode cX7_init 153 = .ok (.bipush 40, 2) := by decide +kernel
theorem dX7_init_155 : decode cX7_init 155 = .ok (.goto 4, 3) := by decide +kernel
theorem dX7_init_158 : decode cX7_init 158 = .ok (.iconst 1, 1) := by decide +kernel
theorem dX7_init_159 : decode cX7_init 159 = .ok (.invokespecial 44, 3) := by decide +kernel
theorem dX7_init_162 : decode cX7_init 162 = .ok (.putfield 51, 3) := by decide +kernel
theorem dX7_init_165 : decode cX7_init 165 = .ok (.aload_n 0, 1) := by decide +kernel
theorem dX7_init_166 : decode cX7_init 166 = .ok (.iload_n 3, 1) := by decide +kernel
theorem dX7_init_167 : decode cX7_init 167 = .ok (.ifCond .le 9, 3) := by decide +kernel
theorem dX7_init_170 : decode cX7_init 170 = .ok (.getstatic 54, 3) := by decide +kernel
theorem dX7_init_173 : decode cX7_init 173 = .ok (.goto 6, 3) := by decide +kernel
theorem dX7_init_176 : decode cX7_init 176 = .ok (.getstatic 60, 3) := by decide +kernel
theorem dX7_init_179 : decode cX7_init 179 = .ok (.putfield 63, 3) := by decide +kernel
theorem dX7_init_182 : decode cX7_init 182 = .ok (.return_, 1) := by decide +kernel
theorem dX7_firstValue_0 : decode cX7_firstValue 0 = .ok (.iload_n 0, 1) := by decide +kernel
theorem dX7_firstValue_1 : decode cX7_firstValue 1 = .ok (.lookupswitch 59 #[(4, 51), (5, 51), (17, 53), (18, 55), (19, 55)], 51) := by decide +kernel
theorem dX7_firstValue_52 : decode cX7_firstValue 52 = .ok (.iconst (-1), 1) := by decide +kernel
theorem dX7_firstValue_53 : decode cX7_firstValue 53 = .ok (.ireturn, 1) := by decide +kernel
theorem dX7_firstValue_54 : decode cX7_firstValue 54 = .ok (.iconst 1, 1) := by decide +kernel
theorem dX7_firstValue_55 : decode cX7_firstValue 55 = .ok (.ireturn, 1) := by decide +kernel
theorem dX7_firstValue_56 : decode cX7_firstValue 56 = .ok (.sipush (-1000), 3) := by decide +kernel
theorem dX7_firstValue_59 : decode cX7_firstValue 59 = .ok (.ireturn, 1) := by decide +kernel
theorem dX7_firstValue_60 : decode cX7_firstValue 60 = .ok (.iconst 0, 1) := by decide +kernel
theorem dX7_firstValue_61 : decode cX7_firstValue 61 = .ok (.ireturn, 1) := by decide +kernel
theorem dX7_isText_0 : decode cX7_isText 0 = .ok (.aload_n 0, 1) := by decide +kernel
theorem dX7_isText_1 : decode cX7_isText 1 = .ok (.getfield 22, 3) := by decide +kernel
theorem dX7_isText_4 : decode cX7_isText 4 = .ok (.ifCond .le 7, 3) := by decide +kernel
theorem dX7_isText_7 : decode cX7_isText 7 = .ok (.iconst 1, 1) := by decide +kernel
theorem dX7_isText_8 : decode cX7_isText 8 = .ok (.goto 4, 3) := by decide +kernel
theorem dX7_isText_11 : decode cX7_isText 11 = .ok (.iconst 0, 1) := by decide +kernel
theorem dX7_isText_12 : decode cX7_isText 12 = .ok (.ireturn, 1) := by decide +kernel
theorem dX7_holdsLines_0 : decode cX7_holdsLines 0 = .ok (.aload_n 0, 1) := by decide +kernel
theorem dX7_holdsLines_1 : decode cX7_holdsLines 1 = .ok (.invokevirtual 66, 3) := by decide +kernel
theorem dX7_holdsLines_4 : decode cX7_holdsLines 4 = .ok (.ifCond .ne 34, 3) := by decide +kernel
theorem dX7_holdsLines_7 : decode cX7_holdsLines 7 = .ok (.aload_n 0, 1) := by decide +kernel
theorem dX7_holdsLines_8 : decode cX7_holdsLines 8 = .ok (.getfield 70, 3) := by decide +kernel
theorem dX7_holdsLines_11 : decode cX7_holdsLines 11 = .ok (.ifCond .ne 27, 3) := by decide +kernel
theorem dX7_holdsLines_14 : decode cX7_holdsLines 14 = .ok (.aload_n 0, 1) := by decide +kernel
theorem dX7_holdsLines_15 : decode cX7_holdsLines 15 = .ok (.getfield 63, 3) := by decide +kernel
theorem dX7_holdsLines_18 : decode cX7_holdsLines 18 = .ok (.getstatic 74, 3) := by decide +kernel
theorem dX7_holdsLines_21 : decode cX7_holdsLines 21 = .ok (.if_acmp .eq 17, 3) := by decide +kernel
theorem dX7_holdsLines_24 : decode cX7_holdsLines 24 = .ok (.aload_n 0, 1) := by decide +kernel
theorem dX7_holdsLines_25 : decode cX7_holdsLines 25 = .ok (.getfield 63, 3) := by decide +kernel
theorem dX7_holdsLines_28 : decode cX7_holdsLines 28 = .ok (.getstatic 77, 3) := by decide +kernel
theorem dX7_holdsLines_31 : decode cX7_holdsLines 31 = .ok (.if_acmp .eq 7, 3) := by decide +kernel
theorem dX7_holdsLines_34 : decode cX7_holdsLines 34 = .ok (.iconst 1, 1) := by decide +kernel
theorem dX7_holdsLines_35 : decode cX7_holdsLines 35 = .ok (.goto 4, 3) := by decide +kernel
theorem dX7_holdsLines_38 : decode cX7_holdsLines 38 = .ok (.iconst 0, 1) := by decide +kernel
theorem dX7_holdsLines_39 : decode cX7_holdsLines 39 = .ok (.ireturn, 1) := by decide +kernel
theorem dX7_flatEdges_0 : decode cX7_flatEdges 0 = .ok (.aload_n 0, 1) := by decide +kernel
theorem dX7_flatEdges_1 : decode cX7_flatEdges 1 = .ok (.getfield 29, 3) := by decide +kernel
theorem dX7_flatEdges_4 : decode cX7_flatEdges 4 = .ok (.bipush 13, 2) := by decide +kernel
theorem dX7_flatEdges_6 : decode cX7_flatEdges 6 = .ok (.iaload, 1) := by decide +kernel
theorem dX7_flatEdges_7 : decode cX7_flatEdges 7 = .ok (.aload_n 0, 1) := by decide +kernel
theorem dX7_flatEdges_8 : decode cX7_flatEdges 8 = .ok (.getfield 29, 3) := by decide +kernel
theorem dX7_flatEdges_11 : decode cX7_flatEdges 11 = .ok (.bipush 11, 2) := by decide +kernel
theorem dX7_flatEdges_13 : decode cX7_flatEdges 13 = .ok (.iaload, 1) := by decide +kernel
theorem dX7_flatEdges_14 : decode cX7_flatEdges 14 = .ok (.iadd, 1) := by decide +kernel
theorem dX7_flatEdges_15 : decode cX7_flatEdges 15 = .ok (.ireturn, 1) := by decide +kernel
theorem dX7_uprightEdges_0 : decode cX7_uprightEdges 0 = .ok (.aload_n 0, 1) := by decide +kernel
theorem dX7_uprightEdges_1 : decode cX7_uprightEdges 1 = .ok (.getfield 29, 3) := by decide +kernel
theorem dX7_uprightEdges_4 : decode cX7_uprightEdges 4 = .ok (.bipush 10, 2) := by decide +kernel
theorem dX7_uprightEdges_6 : decode cX7_uprightEdges 6 = .ok (.iaload, 1) := by decide +kernel
theorem dX7_uprightEdges_7 : decode cX7_uprightEdges 7 = .ok (.aload_n 0, 1) := by decide +kernel
theorem dX7_uprightEdges_8 : decode cX7_uprightEdges 8 = .ok (.getfield 29, 3) := by decide +kernel
theorem dX7_uprightEdges_11 : decode cX7_uprightEdges 11 = .ok (.bipush 12, 2) := by decide +kernel
theorem dX7_uprightEdges_13 : decode cX7_uprightEdges 13 = .ok (.iaload, 1) := by decide +kernel
theorem dX7_uprightEdges_14 : decode cX7_uprightEdges 14 = .ok (.iadd, 1) := by decide +kernel
theorem dX7_uprightEdges_15 : decode cX7_uprightEdges 15 = .ok (.ireturn, 1) := by decide +kernel
theorem dX7_flatRim_0 : decode cX7_flatRim 0 = .ok (.aload_n 0, 1) := by decide +kernel
theorem dX7_flatRim_1 : decode cX7_flatRim 1 = .ok (.getfield 29, 3) := by decide +kernel
theorem dX7_flatRim_4 : decode cX7_flatRim 4 = .ok (.bipush 9, 2) := by decide +kernel
theorem dX7_flatRim_6 : decode cX7_flatRim 6 = .ok (.iaload, 1) := by decide +kernel
theorem dX7_flatRim_7 : decode cX7_flatRim 7 = .ok (.aload_n 0, 1) := by decide +kernel
theorem dX7_flatRim_8 : decode cX7_flatRim 8 = .ok (.getfield 29, 3) := by decide +kernel
theorem dX7_flatRim_11 : decode cX7_flatRim 11 = .ok (.bipush 13, 2) := by decide +kernel
theorem dX7_flatRim_13 : decode cX7_flatRim 13 = .ok (.iaload, 1) := by decide +kernel
theorem dX7_flatRim_14 : decode cX7_flatRim 14 = .ok (.iadd, 1) := by decide +kernel
theorem dX7_flatRim_15 : decode cX7_flatRim 15 = .ok (.aload_n 0, 1) := by decide +kernel
theorem dX7_flatRim_16 : decode cX7_flatRim 16 = .ok (.getfield 29, 3) := by decide +kernel
theorem dX7_flatRim_19 : decode cX7_flatRim 19 = .ok (.bipush 11, 2) := by decide +kernel
theorem dX7_flatRim_21 : decode cX7_flatRim 21 = .ok (.iaload, 1) := by decide +kernel
theorem dX7_flatRim_22 : decode cX7_flatRim 22 = .ok (.iadd, 1) := by decide +kernel
theorem dX7_flatRim_23 : decode cX7_flatRim 23 = .ok (.aload_n 0, 1) := by decide +kernel
theorem dX7_flatRim_24 : decode cX7_flatRim 24 = .ok (.getfield 29, 3) := by decide +kernel
theorem dX7_flatRim_27 : decode cX7_flatRim 27 = .ok (.bipush 7, 2) := by decide +kernel
theorem dX7_flatRim_29 : decode cX7_flatRim 29 = .ok (.iaload, 1) := by decide +kernel
theorem dX7_flatRim_30 : decode cX7_flatRim 30 = .ok (.iadd, 1) := by decide +kernel
theorem dX7_flatRim_31 : decode cX7_flatRim 31 = .ok (.ireturn, 1) := by decide +kernel
theorem dX7_countChildren_0 : decode cX7_countChildren 0 = .ok (.iconst 0, 1) := by decide +kernel
theorem dX7_countChildren_1 : decode cX7_countChildren 1 = .ok (.istore_n 1, 1) := by decide +kernel
theorem dX7_countChildren_2 : decode cX7_countChildren 2 = .ok (.aload_n 0, 1) := by decide +kernel
theorem dX7_countChildren_3 : decode cX7_countChildren 3 = .ok (.getfield 80, 3) := by decide +kernel
theorem dX7_countChildren_6 : decode cX7_countChildren 6 = .ok (.astore_n 2, 1) := by decide +kernel
theorem dX7_countChildren_7 : decode cX7_countChildren 7 = .ok (.aload_n 2, 1) := by decide +kernel
theorem dX7_countChildren_8 : decode cX7_countChildren 8 = .ok (.ifnull 14, 3) := by decide +kernel
theorem dX7_countChildren_11 : decode cX7_countChildren 11 = .ok (.iinc 1 1, 3) := by decide +kernel
theorem dX7_countChildren_14 : decode cX7_countChildren 14 = .ok (.aload_n 2, 1) := by decide +kernel
theorem dX7_countChildren_15 : decode cX7_countChildren 15 = .ok (.getfield 83, 3) := by decide +kernel
theorem dX7_countChildren_18 : decode cX7_countChildren 18 = .ok (.astore_n 2, 1) := by decide +kernel
theorem dX7_countChildren_19 : decode cX7_countChildren 19 = .ok (.goto (-12), 3) := by decide +kernel
theorem dX7_countChildren_22 : decode cX7_countChildren 22 = .ok (.iload_n 1, 1) := by decide +kernel
theorem dX7_countChildren_23 : decode cX7_countChildren 23 = .ok (.ireturn, 1) := by decide +kernel
theorem dX7_putIn_0 : decode cX7_putIn 0 = .ok (.aconst_null, 1) := by decide +kernel
theorem dX7_putIn_1 : decode cX7_putIn 1 = .ok (.astore_n 3, 1) := by decide +kernel
theorem dX7_putIn_2 : decode cX7_putIn 2 = .ok (.aload_n 0, 1) := by decide +kernel
theorem dX7_putIn_3 : decode cX7_putIn 3 = .ok (.getfield 80, 3) := by decide +kernel
theorem dX7_putIn_6 : decode cX7_putIn 6 = .ok (.astore 4, 2) := by decide +kernel
theorem dX7_putIn_8 : decode cX7_putIn 8 = .ok (.iconst 0, 1) := by decide +kernel
theorem dX7_putIn_9 : decode cX7_putIn 9 = .ok (.istore 5, 2) := by decide +kernel
theorem dX7_putIn_11 : decode cX7_putIn 11 = .ok (.iload 5, 2) := by decide +kernel
theorem dX7_putIn_13 : decode cX7_putIn 13 = .ok (.iload_n 2, 1) := by decide +kernel
theorem dX7_putIn_14 : decode cX7_putIn 14 = .ok (.if_icmp .ge 24, 3) := by decide +kernel
theorem dX7_putIn_17 : decode cX7_putIn 17 = .ok (.aload 4, 2) := by decide +kernel
theorem dX7_putIn_19 : decode cX7_putIn 19 = .ok (.ifnull 19, 3) := by decide +kernel
theorem dX7_putIn_22 : decode cX7_putIn 22 = .ok (.aload 4, 2) := by decide +kernel
theorem dX7_putIn_24 : decode cX7_putIn 24 = .ok (.astore_n 3, 1) := by decide +kernel
theorem dX7_putIn_25 : decode cX7_putIn 25 = .ok (.aload 4, 2) := by decide +kernel
theorem dX7_putIn_27 : decode cX7_putIn 27 = .ok (.getfield 83, 3) := by decide +kernel
theorem dX7_putIn_30 : decode cX7_putIn 30 = .ok (.astore 4, 2) := by decide +kernel
theorem dX7_putIn_32 : decode cX7_putIn 32 = .ok (.iinc 5 1, 3) := by decide +kernel
theorem dX7_putIn_35 : decode cX7_putIn 35 = .ok (.goto (-24), 3) := by decide +kernel
theorem dX7_putIn_38 : decode cX7_putIn 38 = .ok (.aload_n 1, 1) := by decide +kernel
theorem dX7_putIn_39 : decode cX7_putIn 39 = .ok (.aload 4, 2) := by decide +kernel
theorem dX7_putIn_41 : decode cX7_putIn 41 = .ok (.putfield 83, 3) := by decide +kernel
theorem dX7_putIn_44 : decode cX7_putIn 44 = .ok (.aload_n 3, 1) := by decide +kernel
theorem dX7_putIn_45 : decode cX7_putIn 45 = .ok (.ifnonnull 11, 3) := by decide +kernel
theorem dX7_putIn_48 : decode cX7_putIn 48 = .ok (.aload_n 0, 1) := by decide +kernel
theorem dX7_putIn_49 : decode cX7_putIn 49 = .ok (.aload_n 1, 1) := by decide +kernel
theorem dX7_putIn_50 : decode cX7_putIn 50 = .ok (.putfield 80, 3) := by decide +kernel
theorem dX7_putIn_53 : decode cX7_putIn 53 = .ok (.goto 8, 3) := by decide +kernel
theorem dX7_putIn_56 : decode cX7_putIn 56 = .ok (.aload_n 3, 1) := by decide +kernel
theorem dX7_putIn_57 : decode cX7_putIn 57 = .ok (.aload_n 1, 1) := by decide +kernel
theorem dX7_putIn_58 : decode cX7_putIn 58 = .ok (.putfield 83, 3) := by decide +kernel
theorem dX7_putIn_61 : decode cX7_putIn 61 = .ok (.return_, 1) := by decide +kernel
theorem dX7_onward_0 : decode cX7_onward 0 = .ok (.iload_n 2, 1) := by decide +kernel
theorem dX7_onward_1 : decode cX7_onward 1 = .ok (.ifCond .eq 15, 3) := by decide +kernel
theorem dX7_onward_4 : decode cX7_onward 4 = .ok (.aload_n 0, 1) := by decide +kernel
theorem dX7_onward_5 : decode cX7_onward 5 = .ok (.getfield 80, 3) := by decide +kernel
theorem dX7_onward_8 : decode cX7_onward 8 = .ok (.ifnull 8, 3) := by decide +kernel
theorem dX7_onward_11 : decode cX7_onward 11 = .ok (.aload_n 0, 1) := by decide +kernel
theorem dX7_onward_12 : decode cX7_onward 12 = .ok (.getfield 80, 3) := by decide +kernel
theorem dX7_onward_15 : decode cX7_onward 15 = .ok (.areturn, 1) := by decide +kernel
theorem dX7_onward_16 : decode cX7_onward 16 = .ok (.aload_n 0, 1) := by decide +kernel
theorem dX7_onward_17 : decode cX7_onward 17 = .ok (.astore_n 3, 1) := by decide +kernel
theorem dX7_onward_18 : decode cX7_onward 18 = .ok (.aload_n 3, 1) := by decide +kernel
theorem dX7_onward_19 : decode cX7_onward 19 = .ok (.ifnull 28, 3) := by decide +kernel
theorem dX7_onward_22 : decode cX7_onward 22 = .ok (.aload_n 3, 1) := by decide +kernel
theorem dX7_onward_23 : decode cX7_onward 23 = .ok (.aload_n 1, 1) := by decide +kernel
theorem dX7_onward_24 : decode cX7_onward 24 = .ok (.if_acmp .eq 23, 3) := by decide +kernel
theorem dX7_onward_27 : decode cX7_onward 27 = .ok (.aload_n 3, 1) := by decide +kernel
theorem dX7_onward_28 : decode cX7_onward 28 = .ok (.getfield 83, 3) := by decide +kernel
theorem dX7_onward_31 : decode cX7_onward 31 = .ok (.ifnull 8, 3) := by decide +kernel
theorem dX7_onward_34 : decode cX7_onward 34 = .ok (.aload_n 3, 1) := by decide +kernel
theorem dX7_onward_35 : decode cX7_onward 35 = .ok (.getfield 83, 3) := by decide +kernel
theorem dX7_onward_38 : decode cX7_onward 38 = .ok (.areturn, 1) := by decide +kernel
theorem dX7_onward_39 : decode cX7_onward 39 = .ok (.aload_n 3, 1) := by decide +kernel
theorem dX7_onward_40 : decode cX7_onward 40 = .ok (.getfield 15, 3) := by decide +kernel
theorem dX7_onward_43 : decode cX7_onward 43 = .ok (.astore_n 3, 1) := by decide +kernel
theorem dX7_onward_44 : decode cX7_onward 44 = .ok (.goto (-26), 3) := by decide +kernel
theorem dX7_onward_47 : decode cX7_onward 47 = .ok (.aconst_null, 1) := by decide +kernel
theorem dX7_onward_48 : decode cX7_onward 48 = .ok (.areturn, 1) := by decide +kernel
theorem dX7_onwardInRun_0 : decode cX7_onwardInRun 0 = .ok (.aload_n 0, 1) := by decide +kernel
theorem dX7_onwardInRun_1 : decode cX7_onwardInRun 1 = .ok (.getfield 63, 3) := by decide +kernel
theorem dX7_onwardInRun_4 : decode cX7_onwardInRun 4 = .ok (.getstatic 74, 3) := by decide +kernel
theorem dX7_onwardInRun_7 : decode cX7_onwardInRun 7 = .ok (.if_acmp .ne 15, 3) := by decide +kernel
theorem dX7_onwardInRun_10 : decode cX7_onwardInRun 10 = .ok (.aload_n 0, 1) := by decide +kernel
theorem dX7_onwardInRun_11 : decode cX7_onwardInRun 11 = .ok (.getfield 80, 3) := by decide +kernel
theorem dX7_onwardInRun_14 : decode cX7_onwardInRun 14 = .ok (.ifnull 8, 3) := by decide +kernel
theorem dX7_onwardInRun_17 : decode cX7_onwardInRun 17 = .ok (.aload_n 0, 1) := by decide +kernel
theorem dX7_onwardInRun_18 : decode cX7_onwardInRun 18 = .ok (.getfield 80, 3) := by decide +kernel
theorem dX7_onwardInRun_21 : decode cX7_onwardInRun 21 = .ok (.areturn, 1) := by decide +kernel
theorem dX7_onwardInRun_22 : decode cX7_onwardInRun 22 = .ok (.aload_n 0, 1) := by decide +kernel
theorem dX7_onwardInRun_23 : decode cX7_onwardInRun 23 = .ok (.astore_n 2, 1) := by decide +kernel
theorem dX7_onwardInRun_24 : decode cX7_onwardInRun 24 = .ok (.aload_n 2, 1) := by decide +kernel
theorem dX7_onwardInRun_25 : decode cX7_onwardInRun 25 = .ok (.ifnull 28, 3) := by decide +kernel
theorem dX7_onwardInRun_28 : decode cX7_onwardInRun 28 = .ok (.aload_n 2, 1) := by decide +kernel
theorem dX7_onwardInRun_29 : decode cX7_onwardInRun 29 = .ok (.aload_n 1, 1) := by decide +kernel
theorem dX7_onwardInRun_30 : decode cX7_onwardInRun 30 = .ok (.if_acmp .eq 23, 3) := by decide +kernel
theorem dX7_onwardInRun_33 : decode cX7_onwardInRun 33 = .ok (.aload_n 2, 1) := by decide +kernel
theorem dX7_onwardInRun_34 : decode cX7_onwardInRun 34 = .ok (.getfield 83, 3) := by decide +kernel
theorem dX7_onwardInRun_37 : decode cX7_onwardInRun 37 = .ok (.ifnull 8, 3) := by decide +kernel
theorem dX7_onwardInRun_40 : decode cX7_onwardInRun 40 = .ok (.aload_n 2, 1) := by decide +kernel
theorem dX7_onwardInRun_41 : decode cX7_onwardInRun 41 = .ok (.getfield 83, 3) := by decide +kernel
theorem dX7_onwardInRun_44 : decode cX7_onwardInRun 44 = .ok (.areturn, 1) := by decide +kernel
theorem dX7_onwardInRun_45 : decode cX7_onwardInRun 45 = .ok (.aload_n 2, 1) := by decide +kernel
theorem dX7_onwardInRun_46 : decode cX7_onwardInRun 46 = .ok (.getfield 15, 3) := by decide +kernel
theorem dX7_onwardInRun_49 : decode cX7_onwardInRun 49 = .ok (.astore_n 2, 1) := by decide +kernel
theorem dX7_onwardInRun_50 : decode cX7_onwardInRun 50 = .ok (.goto (-26), 3) := by decide +kernel
theorem dX7_onwardInRun_53 : decode cX7_onwardInRun 53 = .ok (.aconst_null, 1) := by decide +kernel
theorem dX7_onwardInRun_54 : decode cX7_onwardInRun 54 = .ok (.areturn, 1) := by decide +kernel
theorem dX7_endOfRun_0 : decode cX7_endOfRun 0 = .ok (.aload_n 0, 1) := by decide +kernel
theorem dX7_endOfRun_1 : decode cX7_endOfRun 1 = .ok (.astore_n 1, 1) := by decide +kernel
theorem dX7_endOfRun_2 : decode cX7_endOfRun 2 = .ok (.aload_n 0, 1) := by decide +kernel
theorem dX7_endOfRun_3 : decode cX7_endOfRun 3 = .ok (.getfield 83, 3) := by decide +kernel
theorem dX7_endOfRun_6 : decode cX7_endOfRun 6 = .ok (.astore_n 2, 1) := by decide +kernel
theorem dX7_endOfRun_7 : decode cX7_endOfRun 7 = .ok (.aload_n 2, 1) := by decide +kernel
theorem dX7_endOfRun_8 : decode cX7_endOfRun 8 = .ok (.ifnull 30, 3) := by decide +kernel
theorem dX7_endOfRun_11 : decode cX7_endOfRun 11 = .ok (.aload_n 2, 1) := by decide +kernel
theorem dX7_endOfRun_12 : decode cX7_endOfRun 12 = .ok (.invokevirtual 86, 3) := by decide +kernel
theorem dX7_endOfRun_15 : decode cX7_endOfRun 15 = .ok (.ifCond .eq 23, 3) := by decide +kernel
theorem dX7_endOfRun_18 : decode cX7_endOfRun 18 = .ok (.aload_n 2, 1) := by decide +kernel
theorem dX7_endOfRun_19 : decode cX7_endOfRun 19 = .ok (.getfield 63, 3) := by decide +kernel
theorem dX7_endOfRun_22 : decode cX7_endOfRun 22 = .ok (.invokevirtual 89, 3) := by decide +kernel
theorem dX7_endOfRun_25 : decode cX7_endOfRun 25 = .ok (.ifCond .eq 5, 3) := by decide +kernel
theorem dX7_endOfRun_28 : decode cX7_endOfRun 28 = .ok (.aload_n 2, 1) := by decide +kernel
theorem dX7_endOfRun_29 : decode cX7_endOfRun 29 = .ok (.astore_n 1, 1) := by decide +kernel
theorem dX7_endOfRun_30 : decode cX7_endOfRun 30 = .ok (.aload_n 2, 1) := by decide +kernel
theorem dX7_endOfRun_31 : decode cX7_endOfRun 31 = .ok (.getfield 83, 3) := by decide +kernel
theorem dX7_endOfRun_34 : decode cX7_endOfRun 34 = .ok (.astore_n 2, 1) := by decide +kernel
theorem dX7_endOfRun_35 : decode cX7_endOfRun 35 = .ok (.goto (-28), 3) := by decide +kernel
theorem dX7_endOfRun_38 : decode cX7_endOfRun 38 = .ok (.aload_n 1, 1) := by decide +kernel
theorem dX7_endOfRun_39 : decode cX7_endOfRun 39 = .ok (.areturn, 1) := by decide +kernel
theorem dX7_mayStandInRun_0 : decode cX7_mayStandInRun 0 = .ok (.aload_n 0, 1) := by decide +kernel
theorem dX7_mayStandInRun_1 : decode cX7_mayStandInRun 1 = .ok (.getfield 63, 3) := by decide +kernel
theorem dX7_mayStandInRun_4 : decode cX7_mayStandInRun 4 = .ok (.invokevirtual 89, 3) := by decide +kernel
theorem dX7_mayStandInRun_7 : decode cX7_mayStandInRun 7 = .ok (.ifCond .ne 23, 3) := by decide +kernel
theorem dX7_mayStandInRun_10 : decode cX7_mayStandInRun 10 = .ok (.aload_n 0, 1) := by decide +kernel
theorem dX7_mayStandInRun_11 : decode cX7_mayStandInRun 11 = .ok (.getfield 63, 3) := by decide +kernel
theorem dX7_mayStandInRun_14 : decode cX7_mayStandInRun 14 = .ok (.getstatic 92, 3) := by decide +kernel
theorem dX7_mayStandInRun_17 : decode cX7_mayStandInRun 17 = .ok (.if_acmp .eq 13, 3) := by decide +kernel
theorem dX7_mayStandInRun_20 : decode cX7_mayStandInRun 20 = .ok (.aload_n 0, 1) := by decide +kernel
theorem dX7_mayStandInRun_21 : decode cX7_mayStandInRun 21 = .ok (.getfield 63, 3) := by decide +kernel
theorem dX7_mayStandInRun_24 : decode cX7_mayStandInRun 24 = .ok (.getstatic 95, 3) := by decide +kernel
theorem dX7_mayStandInRun_27 : decode cX7_mayStandInRun 27 = .ok (.if_acmp .ne 7, 3) := by decide +kernel
theorem dX7_mayStandInRun_30 : decode cX7_mayStandInRun 30 = .ok (.iconst 1, 1) := by decide +kernel
theorem dX7_mayStandInRun_31 : decode cX7_mayStandInRun 31 = .ok (.goto 4, 3) := by decide +kernel
theorem dX7_mayStandInRun_34 : decode cX7_mayStandInRun 34 = .ok (.iconst 0, 1) := by decide +kernel
theorem dX7_mayStandInRun_35 : decode cX7_mayStandInRun 35 = .ok (.ireturn, 1) := by decide +kernel
theorem dX7_isStack_0 : decode cX7_isStack 0 = .ok (.aload_n 0, 1) := by decide +kernel
theorem dX7_isStack_1 : decode cX7_isStack 1 = .ok (.getfield 15, 3) := by decide +kernel
theorem dX7_isStack_4 : decode cX7_isStack 4 = .ok (.ifnull 12, 3) := by decide +kernel
theorem dX7_isStack_7 : decode cX7_isStack 7 = .ok (.aload_n 0, 1) := by decide +kernel
theorem dX7_isStack_8 : decode cX7_isStack 8 = .ok (.getfield 29, 3) := by decide +kernel
theorem dX7_isStack_11 : decode cX7_isStack 11 = .ok (.iconst 3, 1) := by decide +kernel
theorem dX7_isStack_12 : decode cX7_isStack 12 = .ok (.iaload, 1) := by decide +kernel
theorem dX7_isStack_13 : decode cX7_isStack 13 = .ok (.ifCond .eq 7, 3) := by decide +kernel
theorem dX7_isStack_16 : decode cX7_isStack 16 = .ok (.iconst 1, 1) := by decide +kernel
theorem dX7_isStack_17 : decode cX7_isStack 17 = .ok (.goto 4, 3) := by decide +kernel
theorem dX7_isStack_20 : decode cX7_isStack 20 = .ok (.iconst 0, 1) := by decide +kernel
theorem dX7_isStack_21 : decode cX7_isStack 21 = .ok (.ireturn, 1) := by decide +kernel
theorem dX7_assignRoles_0 : decode cX7_assignRoles 0 = .ok (.aload_n 0, 1) := by decide +kernel
theorem dX7_assignRoles_1 : decode cX7_assignRoles 1 = .ok (.astore_n 1, 1) := by decide +kernel
theorem dX7_assignRoles_2 : decode cX7_assignRoles 2 = .ok (.aload_n 1, 1) := by decide +kernel
theorem dX7_assignRoles_3 : decode cX7_assignRoles 3 = .ok (.ifnull 27, 3) := by decide +kernel
theorem dX7_assignRoles_6 : decode cX7_assignRoles 6 = .ok (.aload_n 1, 1) := by decide +kernel
theorem dX7_assignRoles_7 : decode cX7_assignRoles 7 = .ok (.iconst (-1), 1) := by decide +kernel
theorem dX7_assignRoles_8 : decode cX7_assignRoles 8 = .ok (.putfield 98, 3) := by decide +kernel
theorem dX7_assignRoles_11 : decode cX7_assignRoles 11 = .ok (.aload_n 1, 1) := by decide +kernel
theorem dX7_assignRoles_12 : decode cX7_assignRoles 12 = .ok (.iconst (-1), 1) := by decide +kernel
theorem dX7_assignRoles_13 : decode cX7_assignRoles 13 = .ok (.putfield 101, 3) := by decide +kernel
theorem dX7_assignRoles_16 : decode cX7_assignRoles 16 = .ok (.aload_n 1, 1) := by decide +kernel
theorem dX7_assignRoles_17 : decode cX7_assignRoles 17 = .ok (.invokevirtual 104, 3) := by decide +kernel
theorem dX7_assignRoles_20 : decode cX7_assignRoles 20 = .ok (.aload_n 1, 1) := by decide +kernel
theorem dX7_assignRoles_21 : decode cX7_assignRoles 21 = .ok (.aload_n 0, 1) := by decide +kernel
theorem dX7_assignRoles_22 : decode cX7_assignRoles 22 = .ok (.iconst 1, 1) := by decide +kernel
theorem dX7_assignRoles_23 : decode cX7_assignRoles 23 = .ok (.invokestatic 107, 3) := by decide +kernel
theorem dX7_assignRoles_26 : decode cX7_assignRoles 26 = .ok (.astore_n 1, 1) := by decide +kernel
theorem dX7_assignRoles_27 : decode cX7_assignRoles 27 = .ok (.goto (-25), 3) := by decide +kernel
theorem dX7_assignRoles_30 : decode cX7_assignRoles 30 = .ok (.return_, 1) := by decide +kernel
theorem dX7_assignRole_0 : decode cX7_assignRole 0 = .ok (.aload_n 0, 1) := by decide +kernel
theorem dX7_assignRole_1 : decode cX7_assignRole 1 = .ok (.aload_n 0, 1) := by decide +kernel
theorem dX7_assignRole_2 : decode cX7_assignRole 2 = .ok (.invokevirtual 111, 3) := by decide +kernel
theorem dX7_assignRole_5 : decode cX7_assignRole 5 = .ok (.putfield 63, 3) := by decide +kernel
theorem dX7_assignRole_8 : decode cX7_assignRole 8 = .ok (.aload_n 0, 1) := by decide +kernel
theorem dX7_assignRole_9 : decode cX7_assignRole 9 = .ok (.invokevirtual 66, 3) := by decide +kernel
theorem dX7_assignRole_12 : decode cX7_assignRole 12 = .ok (.ifCond .eq 4, 3) := by decide +kernel
theorem dX7_assignRole_15 : decode cX7_assignRole 15 = .ok (.return_, 1) := by decide +kernel
theorem dX7_assignRole_16 : decode cX7_assignRole 16 = .ok (.aload_n 0, 1) := by decide +kernel
theorem dX7_assignRole_17 : decode cX7_assignRole 17 = .ok (.aload_n 0, 1) := by decide +kernel
theorem dX7_assignRole_18 : decode cX7_assignRole 18 = .ok (.getfield 25, 3) := by decide +kernel
theorem dX7_assignRole_21 : decode cX7_assignRole 21 = .ok (.iconst 0, 1) := by decide +kernel
theorem dX7_assignRole_22 : decode cX7_assignRole 22 = .ok (.iaload, 1) := by decide +kernel
theorem dX7_assignRole_23 : decode cX7_assignRole 23 = .ok (.iconst 3, 1) := by decide +kernel
theorem dX7_assignRole_24 : decode cX7_assignRole 24 = .ok (.if_icmp .ne 37, 3) := by decide +kernel
theorem dX7_assignRole_27 : decode cX7_assignRole 27 = .ok (.aload_n 0, 1) := by decide +kernel
theorem dX7_assignRole_28 : decode cX7_assignRole 28 = .ok (.getfield 63, 3) := by decide +kernel
theorem dX7_assignRole_31 : decode cX7_assignRole 31 = .ok (.getstatic 60, 3) := by decide +kernel
theorem dX7_assignRole_34 : decode cX7_assignRole 34 = .ok (.if_acmp .eq 23, 3) := by decide +kernel
theorem dX7_assignRole_37 : decode cX7_assignRole 37 = .ok (.aload_n 0, 1) := by decide +kernel
theorem dX7_assignRole_38 : decode cX7_assignRole 38 = .ok (.getfield 63, 3) := by decide +kernel
theorem dX7_assignRole_41 : decode cX7_assignRole 41 = .ok (.getstatic 92, 3) := by decide +kernel
theorem dX7_assignRole_44 : decode cX7_assignRole 44 = .ok (.if_acmp .eq 13, 3) := by decide +kernel
theorem dX7_assignRole_47 : decode cX7_assignRole 47 = .ok (.aload_n 0, 1) := by decide +kernel
theorem dX7_assignRole_48 : decode cX7_assignRole 48 = .ok (.getfield 63, 3) := by decide +kernel
theorem dX7_assignRole_51 : decode cX7_assignRole 51 = .ok (.getstatic 95, 3) := by decide +kernel
theorem dX7_assignRole_54 : decode cX7_assignRole 54 = .ok (.if_acmp .ne 7, 3) := by decide +kernel
theorem dX7_assignRole_57 : decode cX7_assignRole 57 = .ok (.iconst 1, 1) := by decide +kernel
theorem dX7_assignRole_58 : decode cX7_assignRole 58 = .ok (.goto 4, 3) := by decide +kernel
theorem dX7_assignRole_61 : decode cX7_assignRole 61 = .ok (.iconst 0, 1) := by decide +kernel
theorem dX7_assignRole_62 : decode cX7_assignRole 62 = .ok (.putfield 70, 3) := by decide +kernel
theorem dX7_assignRole_65 : decode cX7_assignRole 65 = .ok (.iconst 0, 1) := by decide +kernel
theorem dX7_assignRole_66 : decode cX7_assignRole 66 = .ok (.istore_n 1, 1) := by decide +kernel
theorem dX7_assignRole_67 : decode cX7_assignRole 67 = .ok (.iload_n 1, 1) := by decide +kernel
theorem dX7_assignRole_68 : decode cX7_assignRole 68 = .ok (.bipush 21, 2) := by decide +kernel
theorem dX7_assignRole_70 : decode cX7_assignRole 70 = .ok (.if_icmp .ge 36, 3) := by decide +kernel
theorem dX7_assignRole_73 : decode cX7_assignRole 73 = .ok (.aload_n 0, 1) := by decide +kernel
theorem dX7_assignRole_74 : decode cX7_assignRole 74 = .ok (.getfield 29, 3) := by decide +kernel
theorem dX7_assignRole_77 : decode cX7_assignRole 77 = .ok (.iload_n 1, 1) := by decide +kernel
theorem dX7_assignRole_78 : decode cX7_assignRole 78 = .ok (.aload_n 0, 1) := by decide +kernel
theorem dX7_assignRole_79 : decode cX7_assignRole 79 = .ok (.iload_n 1, 1) := by decide +kernel
theorem dX7_assignRole_80 : decode cX7_assignRole 80 = .ok (.invokevirtual 115, 3) := by decide +kernel
theorem dX7_assignRole_83 : decode cX7_assignRole 83 = .ok (.ifCond .eq 12, 3) := by decide +kernel
theorem dX7_assignRole_86 : decode cX7_assignRole 86 = .ok (.aload_n 0, 1) := by decide +kernel
theorem dX7_assignRole_87 : decode cX7_assignRole 87 = .ok (.getfield 25, 3) := by decide +kernel
theorem dX7_assignRole_90 : decode cX7_assignRole 90 = .ok (.iload_n 1, 1) := by decide +kernel
theorem dX7_assignRole_91 : decode cX7_assignRole 91 = .ok (.iaload, 1) := by decide +kernel
theorem dX7_assignRole_92 : decode cX7_assignRole 92 = .ok (.goto 7, 3) := by decide +kernel
theorem dX7_assignRole_95 : decode cX7_assignRole 95 = .ok (.iload_n 1, 1) := by decide +kernel
theorem dX7_assignRole_96 : decode cX7_assignRole 96 = .ok (.invokestatic 32, 3) := by decide +kernel
theorem dX7_assignRole_99 : decode cX7_assignRole 99 = .ok (.iastore, 1) := by decide +kernel
theorem dX7_assignRole_100 : decode cX7_assignRole 100 = .ok (.iinc 1 1, 3) := by decide +kernel
theorem dX7_assignRole_103 : decode cX7_assignRole 103 = .ok (.goto (-36), 3) := by decide +kernel
theorem dX7_assignRole_106 : decode cX7_assignRole 106 = .ok (.aload_n 0, 1) := by decide +kernel
theorem dX7_assignRole_107 : decode cX7_assignRole 107 = .ok (.getfield 70, 3) := by decide +kernel
theorem dX7_assignRole_110 : decode cX7_assignRole 110 = .ok (.ifCond .ne 10, 3) := by decide +kernel
theorem dX7_assignRole_113 : decode cX7_assignRole 113 = .ok (.aload_n 0, 1) := by decide +kernel
theorem dX7_assignRole_114 : decode cX7_assignRole 114 = .ok (.invokevirtual 119, 3) := by decide +kernel
theorem dX7_assignRole_117 : decode cX7_assignRole 117 = .ok (.ifCond .eq 11, 3) := by decide +kernel
theorem dX7_assignRole_120 : decode cX7_assignRole 120 = .ok (.aload_n 0, 1) := by decide +kernel
theorem dX7_assignRole_121 : decode cX7_assignRole 121 = .ok (.getfield 29, 3) := by decide +kernel
theorem dX7_assignRole_124 : decode cX7_assignRole 124 = .ok (.bipush 17, 2) := by decide +kernel
theorem dX7_assignRole_126 : decode cX7_assignRole 126 = .ok (.iconst 1, 1) := by decide +kernel
theorem dX7_assignRole_127 : decode cX7_assignRole 127 = .ok (.iastore, 1) := by decide +kernel
theorem dX7_assignRole_128 : decode cX7_assignRole 128 = .ok (.aload_n 0, 1) := by decide +kernel
theorem dX7_assignRole_129 : decode cX7_assignRole 129 = .ok (.aload_n 0, 1) := by decide +kernel
theorem dX7_assignRole_130 : decode cX7_assignRole 130 = .ok (.getfield 29, 3) := by decide +kernel
theorem dX7_assignRole_133 : decode cX7_assignRole 133 = .ok (.bipush 14, 2) := by decide +kernel
theorem dX7_assignRole_135 : decode cX7_assignRole 135 = .ok (.iaload, 1) := by decide +kernel
theorem dX7_assignRole_136 : decode cX7_assignRole 136 = .ok (.iconst 2, 1) := by decide +kernel
theorem dX7_assignRole_137 : decode cX7_assignRole 137 = .ok (.if_icmp .ne 33, 3) := by decide +kernel
theorem dX7_assignRole_140 : decode cX7_assignRole 140 = .ok (.aload_n 0, 1) := by decide +kernel
theorem dX7_assignRole_141 : decode cX7_assignRole 141 = .ok (.getfield 70, 3) := by decide +kernel
theorem dX7_assignRole_144 : decode cX7_assignRole 144 = .ok (.ifCond .ne 26, 3) := by decide +kernel
theorem dX7_assignRole_147 : decode cX7_assignRole 147 = .ok (.aload_n 0, 1) := by decide +kernel
theorem dX7_assignRole_148 : decode cX7_assignRole 148 = .ok (.getfield 29, 3) := by decide +kernel
theorem dX7_assignRole_151 : decode cX7_assignRole 151 = .ok (.bipush 17, 2) := by decide +kernel
theorem dX7_assignRole_153 : decode cX7_assignRole 153 = .ok (.iaload, 1) := by decide +kernel
theorem dX7_assignRole_154 : decode cX7_assignRole 154 = .ok (.iconst 1, 1) := by decide +kernel
theorem dX7_assignRole_155 : decode cX7_assignRole 155 = .ok (.if_icmp .ne 15, 3) := by decide +kernel
theorem dX7_assignRole_158 : decode cX7_assignRole 158 = .ok (.aload_n 0, 1) := by decide +kernel
theorem dX7_assignRole_159 : decode cX7_assignRole 159 = .ok (.invokevirtual 122, 3) := by decide +kernel
theorem dX7_assignRole_162 : decode cX7_assignRole 162 = .ok (.iconst 2, 1) := by decide +kernel
theorem dX7_assignRole_163 : decode cX7_assignRole 163 = .ok (.if_icmp .ge 7, 3) := by decide +kernel
theorem dX7_assignRole_166 : decode cX7_assignRole 166 = .ok (.iconst 1, 1) := by decide +kernel
theorem dX7_assignRole_167 : decode cX7_assignRole 167 = .ok (.goto 4, 3) := by decide +kernel
theorem dX7_assignRole_170 : decode cX7_assignRole 170 = .ok (.iconst 0, 1) := by decide +kernel
theorem dX7_assignRole_171 : decode cX7_assignRole 171 = .ok (.putfield 126, 3) := by decide +kernel
theorem dX7_assignRole_174 : decode cX7_assignRole 174 = .ok (.aload_n 0, 1) := by decide +kernel
theorem dX7_assignRole_175 : decode cX7_assignRole 175 = .ok (.aload_n 0, 1) := by decide +kernel
theorem dX7_assignRole_176 : decode cX7_assignRole 176 = .ok (.getfield 15, 3) := by decide +kernel
theorem dX7_assignRole_179 : decode cX7_assignRole 179 = .ok (.ifnull 71, 3) := by decide +kernel
theorem dX7_assignRole_182 : decode cX7_assignRole 182 = .ok (.aload_n 0, 1) := by decide +kernel
theorem dX7_assignRole_183 : decode cX7_assignRole 183 = .ok (.getfield 70, 3) := by decide +kernel
theorem dX7_assignRole_186 : decode cX7_assignRole 186 = .ok (.ifCond .ne 64, 3) := by decide +kernel
theorem dX7_assignRole_189 : decode cX7_assignRole 189 = .ok (.aload_n 0, 1) := by decide +kernel
theorem dX7_assignRole_190 : decode cX7_assignRole 190 = .ok (.getfield 29, 3) := by decide +kernel
theorem dX7_assignRole_193 : decode cX7_assignRole 193 = .ok (.bipush 14, 2) := by decide +kernel
theorem dX7_assignRole_195 : decode cX7_assignRole 195 = .ok (.iaload, 1) := by decide +kernel
theorem dX7_assignRole_196 : decode cX7_assignRole 196 = .ok (.ifCond .ne 54, 3) := by decide +kernel
theorem dX7_assignRole_199 : decode cX7_assignRole 199 = .ok (.aload_n 0, 1) := by decide +kernel
theorem dX7_assignRole_200 : decode cX7_assignRole 200 = .ok (.getfield 29, 3) := by decide +kernel
theorem dX7_assignRole_203 : decode cX7_assignRole 203 = .ok (.bipush 17, 2) := by decide +kernel
theorem dX7_assignRole_205 : decode cX7_assignRole 205 = .ok (.iaload, 1) := by decide +kernel
theorem dX7_assignRole_206 : decode cX7_assignRole 206 = .ok (.iconst 1, 1) := by decide +kernel
theorem dX7_assignRole_207 : decode cX7_assignRole 207 = .ok (.if_icmp .gt 43, 3) := by decide +kernel
theorem dX7_assignRole_210 : decode cX7_assignRole 210 = .ok (.aload_n 0, 1) := by decide +kernel
theorem dX7_assignRole_211 : decode cX7_assignRole 211 = .ok (.getfield 63, 3) := by decide +kernel
theorem dX7_assignRole_214 : decode cX7_assignRole 214 = .ok (.getstatic 92, 3) := by decide +kernel
theorem dX7_assignRole_217 : decode cX7_assignRole 217 = .ok (.if_acmp .eq 33, 3) := by decide +kernel
theorem dX7_assignRole_220 : decode cX7_assignRole 220 = .ok (.aload_n 0, 1) := by decide +kernel
theorem dX7_assignRole_221 : decode cX7_assignRole 221 = .ok (.getfield 63, 3) := by decide +kernel
theorem dX7_assignRole_224 : decode cX7_assignRole 224 = .ok (.getstatic 95, 3) := by decide +kernel
theorem dX7_assignRole_227 : decode cX7_assignRole 227 = .ok (.if_acmp .eq 23, 3) := by decide +kernel
theorem dX7_assignRole_230 : decode cX7_assignRole 230 = .ok (.aload_n 0, 1) := by decide +kernel
theorem dX7_assignRole_231 : decode cX7_assignRole 231 = .ok (.getfield 63, 3) := by decide +kernel
theorem dX7_assignRole_234 : decode cX7_assignRole 234 = .ok (.getstatic 129, 3) := by decide +kernel
theorem dX7_assignRole_237 : decode cX7_assignRole 237 = .ok (.if_acmp .eq 13, 3) := by decide +kernel
theorem dX7_assignRole_240 : decode cX7_assignRole 240 = .ok (.aload_n 0, 1) := by decide +kernel
theorem dX7_assignRole_241 : decode cX7_assignRole 241 = .ok (.getfield 63, 3) := by decide +kernel
theorem dX7_assignRole_244 : decode cX7_assignRole 244 = .ok (.getstatic 132, 3) := by decide +kernel
theorem dX7_assignRole_247 : decode cX7_assignRole 247 = .ok (.if_acmp .ne 7, 3) := by decide +kernel
theorem dX7_assignRole_250 : decode cX7_assignRole 250 = .ok (.iconst 1, 1) := by decide +kernel
theorem dX7_assignRole_251 : decode cX7_assignRole 251 = .ok (.goto 4, 3) := by decide +kernel
theorem dX7_assignRole_254 : decode cX7_assignRole 254 = .ok (.iconst 0, 1) := by decide +kernel
theorem dX7_assignRole_255 : decode cX7_assignRole 255 = .ok (.putfield 135, 3) := by decide +kernel
theorem dX7_assignRole_258 : decode cX7_assignRole 258 = .ok (.return_, 1) := by decide +kernel
theorem dX7_findKind_0 : decode cX7_findKind 0 = .ok (.aload_n 0, 1) := by decide +kernel
theorem dX7_findKind_1 : decode cX7_findKind 1 = .ok (.getfield 15, 3) := by decide +kernel
theorem dX7_findKind_4 : decode cX7_findKind 4 = .ok (.ifnonnull 7, 3) := by decide +kernel
theorem dX7_findKind_7 : decode cX7_findKind 7 = .ok (.getstatic 60, 3) := by decide +kernel
theorem dX7_findKind_10 : decode cX7_findKind 10 = .ok (.areturn, 1) := by decide +kernel
theorem dX7_findKind_11 : decode cX7_findKind 11 = .ok (.aload_n 0, 1) := by decide +kernel
theorem dX7_findKind_12 : decode cX7_findKind 12 = .ok (.getfield 15, 3) := by decide +kernel
theorem dX7_findKind_15 : decode cX7_findKind 15 = .ok (.getfield 63, 3) := by decide +kernel
theorem dX7_findKind_18 : decode cX7_findKind 18 = .ok (.getstatic 77, 3) := by decide +kernel
theorem dX7_findKind_21 : decode cX7_findKind 21 = .ok (.if_acmp .ne 7, 3) := by decide +kernel
theorem dX7_findKind_24 : decode cX7_findKind 24 = .ok (.iconst 1, 1) := by decide +kernel
theorem dX7_findKind_25 : decode cX7_findKind 25 = .ok (.goto 4, 3) := by decide +kernel
theorem dX7_findKind_28 : decode cX7_findKind 28 = .ok (.iconst 0, 1) := by decide +kernel
theorem dX7_findKind_29 : decode cX7_findKind 29 = .ok (.istore_n 1, 1) := by decide +kernel
theorem dX7_findKind_30 : decode cX7_findKind 30 = .ok (.aload_n 0, 1) := by decide +kernel
theorem dX7_findKind_31 : decode cX7_findKind 31 = .ok (.invokevirtual 66, 3) := by decide +kernel
theorem dX7_findKind_34 : decode cX7_findKind 34 = .ok (.ifCond .eq 27, 3) := by decide +kernel
theorem dX7_findKind_37 : decode cX7_findKind 37 = .ok (.aload_n 0, 1) := by decide +kernel
theorem dX7_findKind_38 : decode cX7_findKind 38 = .ok (.getfield 15, 3) := by decide +kernel
theorem dX7_findKind_41 : decode cX7_findKind 41 = .ok (.getfield 70, 3) := by decide +kernel
theorem dX7_findKind_44 : decode cX7_findKind 44 = .ok (.ifCond .ne 7, 3) := by decide +kernel
theorem dX7_findKind_47 : decode cX7_findKind 47 = .ok (.iload_n 1, 1) := by decide +kernel
theorem dX7_findKind_48 : decode cX7_findKind 48 = .ok (.ifCond .eq 9, 3) := by decide +kernel
theorem dX7_findKind_51 : decode cX7_findKind 51 = .ok (.getstatic 138, 3) := by decide +kernel
theorem dX7_findKind_54 : decode cX7_findKind 54 = .ok (.goto 6, 3) := by decide +kernel
theorem dX7_findKind_57 : decode cX7_findKind 57 = .ok (.getstatic 54, 3) := by decide +kernel
theorem dX7_findKind_60 : decode cX7_findKind 60 = .ok (.areturn, 1) := by decide +kernel
theorem dX7_findKind_61 : decode cX7_findKind 61 = .ok (.aload_n 0, 1) := by decide +kernel
theorem dX7_findKind_62 : decode cX7_findKind 62 = .ok (.getfield 15, 3) := by decide +kernel
theorem dX7_findKind_65 : decode cX7_findKind 65 = .ok (.getfield 70, 3) := by decide +kernel
theorem dX7_findKind_68 : decode cX7_findKind 68 = .ok (.ifCond .ne 7, 3) := by decide +kernel
theorem dX7_findKind_71 : decode cX7_findKind 71 = .ok (.iload_n 1, 1) := by decide +kernel
theorem dX7_findKind_72 : decode cX7_findKind 72 = .ok (.ifCond .eq 17, 3) := by decide +kernel
theorem dX7_findKind_75 : decode cX7_findKind 75 = .ok (.iload_n 1, 1) := by decide +kernel
theorem dX7_findKind_76 : decode cX7_findKind 76 = .ok (.ifCond .eq 9, 3) := by decide +kernel
theorem dX7_findKind_79 : decode cX7_findKind 79 = .ok (.getstatic 132, 3) := by decide +kernel
theorem dX7_findKind_82 : decode cX7_findKind 82 = .ok (.goto 6, 3) := by decide +kernel
theorem dX7_findKind_85 : decode cX7_findKind 85 = .ok (.getstatic 77, 3) := by decide +kernel
theorem dX7_findKind_88 : decode cX7_findKind 88 = .ok (.areturn, 1) := by decide +kernel
theorem dX7_findKind_89 : decode cX7_findKind 89 = .ok (.aload_n 0, 1) := by decide +kernel
theorem dX7_findKind_90 : decode cX7_findKind 90 = .ok (.getfield 25, 3) := by decide +kernel
theorem dX7_findKind_93 : decode cX7_findKind 93 = .ok (.iconst 3, 1) := by decide +kernel
theorem dX7_findKind_94 : decode cX7_findKind 94 = .ok (.iaload, 1) := by decide +kernel
theorem dX7_findKind_95 : decode cX7_findKind 95 = .ok (.iconst 2, 1) := by decide +kernel
theorem dX7_findKind_96 : decode cX7_findKind 96 = .ok (.if_icmp .ne 7, 3) := by decide +kernel
theorem dX7_findKind_99 : decode cX7_findKind 99 = .ok (.getstatic 95, 3) := by decide +kernel
theorem dX7_findKind_102 : decode cX7_findKind 102 = .ok (.areturn, 1) := by decide +kernel
theorem dX7_findKind_103 : decode cX7_findKind 103 = .ok (.aload_n 0, 1) := by decide +kernel
theorem dX7_findKind_104 : decode cX7_findKind 104 = .ok (.getfield 25, 3) := by decide +kernel
theorem dX7_findKind_107 : decode cX7_findKind 107 = .ok (.iconst 1, 1) := by decide +kernel
theorem dX7_findKind_108 : decode cX7_findKind 108 = .ok (.iaload, 1) := by decide +kernel
theorem dX7_findKind_109 : decode cX7_findKind 109 = .ok (.ifCond .eq 7, 3) := by decide +kernel
theorem dX7_findKind_112 : decode cX7_findKind 112 = .ok (.getstatic 92, 3) := by decide +kernel
theorem dX7_findKind_115 : decode cX7_findKind 115 = .ok (.areturn, 1) := by decide +kernel
theorem dX7_findKind_116 : decode cX7_findKind 116 = .ok (.aload_n 0, 1) := by decide +kernel
theorem dX7_findKind_117 : decode cX7_findKind 117 = .ok (.getfield 25, 3) := by decide +kernel
theorem dX7_findKind_120 : decode cX7_findKind 120 = .ok (.iconst 0, 1) := by decide +kernel
theorem dX7_findKind_121 : decode cX7_findKind 121 = .ok (.iaload, 1) := by decide +kernel
theorem dX7_findKind_122 : decode cX7_findKind 122 = .ok (.iconst 1, 1) := by decide +kernel
theorem dX7_findKind_123 : decode cX7_findKind 123 = .ok (.if_icmp .ne 7, 3) := by decide +kernel
theorem dX7_findKind_126 : decode cX7_findKind 126 = .ok (.getstatic 74, 3) := by decide +kernel
theorem dX7_findKind_129 : decode cX7_findKind 129 = .ok (.areturn, 1) := by decide +kernel
theorem dX7_findKind_130 : decode cX7_findKind 130 = .ok (.aload_n 0, 1) := by decide +kernel
theorem dX7_findKind_131 : decode cX7_findKind 131 = .ok (.getfield 25, 3) := by decide +kernel
theorem dX7_findKind_134 : decode cX7_findKind 134 = .ok (.iconst 0, 1) := by decide +kernel
theorem dX7_findKind_135 : decode cX7_findKind 135 = .ok (.iaload, 1) := by decide +kernel
theorem dX7_findKind_136 : decode cX7_findKind 136 = .ok (.iconst 2, 1) := by decide +kernel
theorem dX7_findKind_137 : decode cX7_findKind 137 = .ok (.if_icmp .eq 16, 3) := by decide +kernel
theorem dX7_findKind_140 : decode cX7_findKind 140 = .ok (.aload_n 0, 1) := by decide +kernel
theorem dX7_findKind_141 : decode cX7_findKind 141 = .ok (.getfield 15, 3) := by decide +kernel
theorem dX7_findKind_144 : decode cX7_findKind 144 = .ok (.getfield 63, 3) := by decide +kernel
theorem dX7_findKind_147 : decode cX7_findKind 147 = .ok (.getstatic 74, 3) := by decide +kernel
theorem dX7_findKind_150 : decode cX7_findKind 150 = .ok (.if_acmp .ne 9, 3) := by decide +kernel
theorem dX7_findKind_153 : decode cX7_findKind 153 = .ok (.getstatic 129, 3) := by decide +kernel
theorem dX7_findKind_156 : decode cX7_findKind 156 = .ok (.goto 6, 3) := by decide +kernel
theorem dX7_findKind_159 : decode cX7_findKind 159 = .ok (.getstatic 60, 3) := by decide +kernel
theorem dX7_findKind_162 : decode cX7_findKind 162 = .ok (.areturn, 1) := by decide +kernel
theorem dX7_countsFor_0 : decode cX7_countsFor 0 = .ok (.getstatic 141, 3) := by decide +kernel
theorem dX7_countsFor_3 : decode cX7_countsFor 3 = .ok (.aload_n 0, 1) := by decide +kernel
theorem dX7_countsFor_4 : decode cX7_countsFor 4 = .ok (.getfield 63, 3) := by decide +kernel
theorem dX7_countsFor_7 : decode cX7_countsFor 7 = .ok (.invokevirtual 146, 3) := by decide +kernel
theorem dX7_countsFor_10 : decode cX7_countsFor 10 = .ok (.iaload, 1) := by decide +kernel
theorem dX7_countsFor_11 : decode cX7_countsFor 11 = .ok (.tableswitch 62 1 3 #[25, 27, 50], 25) := by decide +kernel
theorem dX7_countsFor_36 : decode cX7_countsFor 36 = .ok (.iconst 0, 1) := by decide +kernel
theorem dX7_countsFor_37 : decode cX7_countsFor 37 = .ok (.ireturn, 1) := by decide +kernel
theorem dX7_countsFor_38 : decode cX7_countsFor 38 = .ok (.iload_n 1, 1) := by decide +kernel
theorem dX7_countsFor_39 : decode cX7_countsFor 39 = .ok (.iconst 5, 1) := by decide +kernel
theorem dX7_countsFor_40 : decode cX7_countsFor 40 = .ok (.if_icmp .eq 15, 3) := by decide +kernel
theorem dX7_countsFor_43 : decode cX7_countsFor 43 = .ok (.iload_n 1, 1) := by decide +kernel
theorem dX7_countsFor_44 : decode cX7_countsFor 44 = .ok (.bipush 10, 2) := by decide +kernel
theorem dX7_countsFor_46 : decode cX7_countsFor 46 = .ok (.if_icmp .lt 13, 3) := by decide +kernel
theorem dX7_countsFor_49 : decode cX7_countsFor 49 = .ok (.iload_n 1, 1) := by decide +kernel
theorem dX7_countsFor_50 : decode cX7_countsFor 50 = .ok (.bipush 13, 2) := by decide +kernel
theorem dX7_countsFor_52 : decode cX7_countsFor 52 = .ok (.if_icmp .gt 7, 3) := by decide +kernel
theorem dX7_countsFor_55 : decode cX7_countsFor 55 = .ok (.iconst 1, 1) := by decide +kernel
theorem dX7_countsFor_56 : decode cX7_countsFor 56 = .ok (.goto 4, 3) := by decide +kernel
theorem dX7_countsFor_59 : decode cX7_countsFor 59 = .ok (.iconst 0, 1) := by decide +kernel
theorem dX7_countsFor_60 : decode cX7_countsFor 60 = .ok (.ireturn, 1) := by decide +kernel
theorem dX7_countsFor_61 : decode cX7_countsFor 61 = .ok (.iload_n 1, 1) := by decide +kernel
theorem dX7_countsFor_62 : decode cX7_countsFor 62 = .ok (.bipush 16, 2) := by decide +kernel
theorem dX7_countsFor_64 : decode cX7_countsFor 64 = .ok (.if_icmp .ne 7, 3) := by decide +kernel
theorem dX7_countsFor_67 : decode cX7_countsFor 67 = .ok (.iconst 1, 1) := by decide +kernel
theorem dX7_countsFor_68 : decode cX7_countsFor 68 = .ok (.goto 4, 3) := by decide +kernel
theorem dX7_countsFor_71 : decode cX7_countsFor 71 = .ok (.iconst 0, 1) := by decide +kernel
theorem dX7_countsFor_72 : decode cX7_countsFor 72 = .ok (.ireturn, 1) := by decide +kernel
theorem dX7_countsFor_73 : decode cX7_countsFor 73 = .ok (.iconst 1, 1) := by decide +kernel
theorem dX7_countsFor_74 : decode cX7_countsFor 74 = .ok (.ireturn, 1) := by decide +kernel
theorem dX7_isInColumns_0 : decode cX7_isInColumns 0 = .ok (.aload_n 0, 1) := by decide +kernel
theorem dX7_isInColumns_1 : decode cX7_isInColumns 1 = .ok (.getfield 15, 3) := by decide +kernel
theorem dX7_isInColumns_4 : decode cX7_isInColumns 4 = .ok (.astore_n 1, 1) := by decide +kernel
theorem dX7_isInColumns_5 : decode cX7_isInColumns 5 = .ok (.aload_n 1, 1) := by decide +kernel
theorem dX7_isInColumns_6 : decode cX7_isInColumns 6 = .ok (.ifnull 24, 3) := by decide +kernel
theorem dX7_isInColumns_9 : decode cX7_isInColumns 9 = .ok (.aload_n 1, 1) := by decide +kernel
theorem dX7_isInColumns_10 : decode cX7_isInColumns 10 = .ok (.getfield 29, 3) := by decide +kernel
theorem dX7_isInColumns_13 : decode cX7_isInColumns 13 = .ok (.bipush 17, 2) := by decide +kernel
theorem dX7_isInColumns_15 : decode cX7_isInColumns 15 = .ok (.iaload, 1) := by decide +kernel
theorem dX7_isInColumns_16 : decode cX7_isInColumns 16 = .ok (.iconst 1, 1) := by decide +kernel
theorem dX7_isInColumns_17 : decode cX7_isInColumns 17 = .ok (.if_icmp .le 5, 3) := by decide +kernel
theorem dX7_isInColumns_20 : decode cX7_isInColumns 20 = .ok (.iconst 1, 1) := by decide +kernel
theorem dX7_isInColumns_21 : decode cX7_isInColumns 21 = .ok (.ireturn, 1) := by decide +kernel
theorem dX7_isInColumns_22 : decode cX7_isInColumns 22 = .ok (.aload_n 1, 1) := by decide +kernel
theorem dX7_isInColumns_23 : decode cX7_isInColumns 23 = .ok (.getfield 15, 3) := by decide +kernel
theorem dX7_isInColumns_26 : decode cX7_isInColumns 26 = .ok (.astore_n 1, 1) := by decide +kernel
theorem dX7_isInColumns_27 : decode cX7_isInColumns 27 = .ok (.goto (-22), 3) := by decide +kernel
theorem dX7_isInColumns_30 : decode cX7_isInColumns 30 = .ok (.iconst 0, 1) := by decide +kernel
theorem dX7_isInColumns_31 : decode cX7_isInColumns 31 = .ok (.ireturn, 1) := by decide +kernel
theorem dX7_countScrollsAround_0 : decode cX7_countScrollsAround 0 = .ok (.iconst 0, 1) := by decide +kernel
theorem dX7_countScrollsAround_1 : decode cX7_countScrollsAround 1 = .ok (.istore_n 1, 1) := by decide +kernel
theorem dX7_countScrollsAround_2 : decode cX7_countScrollsAround 2 = .ok (.aload_n 0, 1) := by decide +kernel
theorem dX7_countScrollsAround_3 : decode cX7_countScrollsAround 3 = .ok (.getfield 15, 3) := by decide +kernel
theorem dX7_countScrollsAround_6 : decode cX7_countScrollsAround 6 = .ok (.astore_n 2, 1) := by decide +kernel
theorem dX7_countScrollsAround_7 : decode cX7_countScrollsAround 7 = .ok (.aload_n 2, 1) := by decide +kernel
theorem dX7_countScrollsAround_8 : decode cX7_countScrollsAround 8 = .ok (.ifnull 21, 3) := by decide +kernel
theorem dX7_countScrollsAround_11 : decode cX7_countScrollsAround 11 = .ok (.aload_n 2, 1) := by decide +kernel
theorem dX7_countScrollsAround_12 : decode cX7_countScrollsAround 12 = .ok (.getfield 126, 3) := by decide +kernel
theorem dX7_countScrollsAround_15 : decode cX7_countScrollsAround 15 = .ok (.ifCond .eq 6, 3) := by decide +kernel
theorem dX7_countScrollsAround_18 : decode cX7_countScrollsAround 18 = .ok (.iinc 1 1, 3) := by decide +kernel
theorem dX7_countScrollsAround_21 : decode cX7_countScrollsAround 21 = .ok (.aload_n 2, 1) := by decide +kernel
theorem dX7_countScrollsAround_22 : decode cX7_countScrollsAround 22 = .ok (.getfield 15, 3) := by decide +kernel
theorem dX7_countScrollsAround_25 : decode cX7_countScrollsAround 25 = .ok (.astore_n 2, 1) := by decide +kernel
theorem dX7_countScrollsAround_26 : decode cX7_countScrollsAround 26 = .ok (.goto (-19), 3) := by decide +kernel
theorem dX7_countScrollsAround_29 : decode cX7_countScrollsAround 29 = .ok (.iload_n 1, 1) := by decide +kernel
theorem dX7_countScrollsAround_30 : decode cX7_countScrollsAround 30 = .ok (.ireturn, 1) := by decide +kernel
theorem dX8_init_0 : decode cX8_init 0 = .ok (.aload_n 0, 1) := by decide +kernel
theorem dX8_init_1 : decode cX8_init 1 = .ok (.invokespecial 3, 3) := by decide +kernel
theorem dX8_init_4 : decode cX8_init 4 = .ok (.aload_n 0, 1) := by decide +kernel
theorem dX8_init_5 : decode cX8_init 5 = .ok (.bipush 60, 2) := by decide +kernel
theorem dX8_init_7 : decode cX8_init 7 = .ok (.anewarray 9, 3) := by decide +kernel
theorem dX8_init_10 : decode cX8_init 10 = .ok (.putfield 11, 3) := by decide +kernel
theorem dX8_init_13 : decode cX8_init 13 = .ok (.return_, 1) := by decide +kernel
theorem dX8_arrange_0 : decode cX8_arrange 0 = .ok (.aload_n 0, 1) := by decide +kernel
theorem dX8_arrange_1 : decode cX8_arrange 1 = .ok (.iconst 0, 1) := by decide +kernel
theorem dX8_arrange_2 : decode cX8_arrange 2 = .ok (.putfield 17, 3) := by decide +kernel
theorem dX8_arrange_5 : decode cX8_arrange 5 = .ok (.aload_n 0, 1) := by decide +kernel
theorem dX8_arrange_6 : decode cX8_arrange 6 = .ok (.aload_n 1, 1) := by decide +kernel
theorem dX8_arrange_7 : decode cX8_arrange 7 = .ok (.invokevirtual 21, 3) := by decide +kernel
theorem dX8_arrange_10 : decode cX8_arrange 10 = .ok (.return_, 1) := by decide +kernel
theorem dX8_add_0 : decode cX8_add 0 = .ok (.aload_n 0, 1) := by decide +kernel
theorem dX8_add_1 : decode cX8_add 1 = .ok (.getfield 17, 3) := by decide +kernel
theorem dX8_add_4 : decode cX8_add 4 = .ok (.bipush 60, 2) := by decide +kernel
theorem dX8_add_6 : decode cX8_add 6 = .ok (.if_icmp .ge 23, 3) := by decide +kernel
theorem dX8_add_9 : decode cX8_add 9 = .ok (.aload_n 0, 1) := by decide +kernel
theorem dX8_add_10 : decode cX8_add 10 = .ok (.getfield 11, 3) := by decide +kernel
theorem dX8_add_13 : decode cX8_add 13 = .ok (.aload_n 0, 1) := by decide +kernel
theorem dX8_add_14 : decode cX8_add 14 = .ok (.getfield 17, 3) := by decide +kernel
theorem dX8_add_17 : decode cX8_add 17 = .ok (.aload_n 1, 1) := by decide +kernel
theorem dX8_add_18 : decode cX8_add 18 = .ok (.aastore, 1) := by decide +kernel
theorem dX8_add_19 : decode cX8_add 19 = .ok (.aload_n 0, 1) := by decide +kernel
theorem dX8_add_20 : decode cX8_add 20 = .ok (.dup, 1) := by decide +kernel
theorem dX8_add_21 : decode cX8_add 21 = .ok (.getfield 17, 3) := by decide +kernel
theorem dX8_add_24 : decode cX8_add 24 = .ok (.iconst 1, 1) := by decide +kernel
theorem dX8_add_25 : decode cX8_add 25 = .ok (.iadd, 1) := by decide +kernel
theorem dX8_add_26 : decode cX8_add 26 = .ok (.putfield 17, 3) := by decide +kernel
theorem dX8_add_29 : decode cX8_add 29 = .ok (.return_, 1) := by decide +kernel
theorem dX8_paintStack_0 : decode cX8_paintStack 0 = .ok (.aload_n 0, 1) := by decide +kernel
theorem dX8_paintStack_1 : decode cX8_paintStack 1 = .ok (.aload_n 1, 1) := by decide +kernel
theorem dX8_paintStack_2 : decode cX8_paintStack 2 = .ok (.invokevirtual 25, 3) := by decide +kernel
theorem dX8_paintStack_5 : decode cX8_paintStack 5 = .ok (.bipush (-9), 2) := by decide +kernel
theorem dX8_paintStack_7 : decode cX8_paintStack 7 = .ok (.istore_n 2, 1) := by decide +kernel
theorem dX8_paintStack_8 : decode cX8_paintStack 8 = .ok (.iload_n 2, 1) := by decide +kernel
theorem dX8_paintStack_9 : decode cX8_paintStack 9 = .ok (.ifCond .ge 15, 3) := by decide +kernel
theorem dX8_paintStack_12 : decode cX8_paintStack 12 = .ok (.aload_n 0, 1) := by decide +kernel
theorem dX8_paintStack_13 : decode cX8_paintStack 13 = .ok (.aload_n 1, 1) := by decide +kernel
theorem dX8_paintStack_14 : decode cX8_paintStack 14 = .ok (.iload_n 2, 1) := by decide +kernel
theorem dX8_paintStack_15 : decode cX8_paintStack 15 = .ok (.invokevirtual 28, 3) := by decide +kernel
theorem dX8_paintStack_18 : decode cX8_paintStack 18 = .ok (.iinc 2 1, 3) := by decide +kernel
theorem dX8_paintStack_21 : decode cX8_paintStack 21 = .ok (.goto (-13), 3) := by decide +kernel
theorem dX8_paintStack_24 : decode cX8_paintStack 24 = .ok (.aload_n 0, 1) := by decide +kernel
theorem dX8_paintStack_25 : decode cX8_paintStack 25 = .ok (.aload_n 1, 1) := by decide +kernel
theorem dX8_paintStack_26 : decode cX8_paintStack 26 = .ok (.invokevirtual 32, 3) := by decide +kernel
theorem dX8_paintStack_29 : decode cX8_paintStack 29 = .ok (.iconst 0, 1) := by decide +kernel
theorem dX8_paintStack_30 : decode cX8_paintStack 30 = .ok (.istore_n 2, 1) := by decide +kernel
theorem dX8_paintStack_31 : decode cX8_paintStack 31 = .ok (.iload_n 2, 1) := by decide +kernel
theorem dX8_paintStack_32 : decode cX8_paintStack 32 = .ok (.bipush 9, 2) := by decide +kernel
theorem dX8_paintStack_34 : decode cX8_paintStack 34 = .ok (.if_icmp .gt 15, 3) := by decide +kernel
theorem dX8_paintStack_37 : decode cX8_paintStack 37 = .ok (.aload_n 0, 1) := by decide +kernel
theorem dX8_paintStack_38 : decode cX8_paintStack 38 = .ok (.aload_n 1, 1) := by decide +kernel
theorem dX8_paintStack_39 : decode cX8_paintStack 39 = .ok (.iload_n 2, 1) := by decide +kernel
theorem dX8_paintStack_40 : decode cX8_paintStack 40 = .ok (.invokevirtual 28, 3) := by decide +kernel
theorem dX8_paintStack_43 : decode cX8_paintStack 43 = .ok (.iinc 2 1, 3) := by decide +kernel
theorem dX8_paintStack_46 : decode cX8_paintStack 46 = .ok (.goto (-15), 3) := by decide +kernel
theorem dX8_paintStack_49 : decode cX8_paintStack 49 = .ok (.return_, 1) := by decide +kernel
theorem dX8_paintStacksIn_0 : decode cX8_paintStacksIn 0 = .ok (.aload_n 1, 1) := by decide +kernel
theorem dX8_paintStacksIn_1 : decode cX8_paintStacksIn 1 = .ok (.getfield 35, 3) := by decide +kernel
theorem dX8_paintStacksIn_4 : decode cX8_paintStacksIn 4 = .ok (.astore_n 3, 1) := by decide +kernel
theorem dX8_paintStacksIn_5 : decode cX8_paintStacksIn 5 = .ok (.aload_n 3, 1) := by decide +kernel
theorem dX8_paintStacksIn_6 : decode cX8_paintStacksIn 6 = .ok (.ifnull 49, 3) := by decide +kernel
theorem dX8_paintStacksIn_9 : decode cX8_paintStacksIn 9 = .ok (.aload_n 3, 1) := by decide +kernel
theorem dX8_paintStacksIn_10 : decode cX8_paintStacksIn 10 = .ok (.invokevirtual 39, 3) := by decide +kernel
theorem dX8_paintStacksIn_13 : decode cX8_paintStacksIn 13 = .ok (.istore 4, 2) := by decide +kernel
theorem dX8_paintStacksIn_15 : decode cX8_paintStacksIn 15 = .ok (.iload 4, 2) := by decide +kernel
theorem dX8_paintStacksIn_17 : decode cX8_paintStacksIn 17 = .ok (.ifCond .eq 19, 3) := by decide +kernel
theorem dX8_paintStacksIn_20 : decode cX8_paintStacksIn 20 = .ok (.aload_n 3, 1) := by decide +kernel
theorem dX8_paintStacksIn_21 : decode cX8_paintStacksIn 21 = .ok (.getfield 43, 3) := by decide +kernel
theorem dX8_paintStacksIn_24 : decode cX8_paintStacksIn 24 = .ok (.bipush 15, 2) := by decide +kernel
theorem dX8_paintStacksIn_26 : decode cX8_paintStacksIn 26 = .ok (.iaload, 1) := by decide +kernel
theorem dX8_paintStacksIn_27 : decode cX8_paintStacksIn 27 = .ok (.iload_n 2, 1) := by decide +kernel
theorem dX8_paintStacksIn_28 : decode cX8_paintStacksIn 28 = .ok (.if_icmp .ne 8, 3) := by decide +kernel
theorem dX8_paintStacksIn_31 : decode cX8_paintStacksIn 31 = .ok (.aload_n 0, 1) := by decide +kernel
theorem dX8_paintStacksIn_32 : decode cX8_paintStacksIn 32 = .ok (.aload_n 3, 1) := by decide +kernel
theorem dX8_paintStacksIn_33 : decode cX8_paintStacksIn 33 = .ok (.invokevirtual 21, 3) := by decide +kernel
theorem dX8_paintStacksIn_36 : decode cX8_paintStacksIn 36 = .ok (.aload_n 3, 1) := by decide +kernel
theorem dX8_paintStacksIn_37 : decode cX8_paintStacksIn 37 = .ok (.aload_n 1, 1) := by decide +kernel
theorem dX8_paintStacksIn_38 : decode cX8_paintStacksIn 38 = .ok (.iload 4, 2) := by decide +kernel
theorem dX8_paintStacksIn_40 : decode cX8_paintStacksIn 40 = .ok (.ifCond .ne 7, 3) := by decide +kernel
theorem dX8_paintStacksIn_43 : decode cX8_paintStacksIn 43 = .ok (.iconst 1, 1) := by decide +kernel
theorem dX8_paintStacksIn_44 : decode cX8_paintStacksIn 44 = .ok (.goto 4, 3) := by decide +kernel
theorem dX8_paintStacksIn_47 : decode cX8_paintStacksIn 47 = .ok (.iconst 0, 1) := by decide +kernel
theorem dX8_paintStacksIn_48 : decode cX8_paintStacksIn 48 = .ok (.invokestatic 47, 3) := by decide +kernel
theorem dX8_paintStacksIn_51 : decode cX8_paintStacksIn 51 = .ok (.astore_n 3, 1) := by decide +kernel
theorem dX8_paintStacksIn_52 : decode cX8_paintStacksIn 52 = .ok (.goto (-47), 3) := by decide +kernel
theorem dX8_paintStacksIn_55 : decode cX8_paintStacksIn 55 = .ok (.return_, 1) := by decide +kernel
theorem dX8_paintInside_0 : decode cX8_paintInside 0 = .ok (.iconst 0, 1) := by decide +kernel
theorem dX8_paintInside_1 : decode cX8_paintInside 1 = .ok (.istore_n 2, 1) := by decide +kernel
theorem dX8_paintInside_2 : decode cX8_paintInside 2 = .ok (.iload_n 2, 1) := by decide +kernel
theorem dX8_paintInside_3 : decode cX8_paintInside 3 = .ok (.iconst 2, 1) := by decide +kernel
theorem dX8_paintInside_4 : decode cX8_paintInside 4 = .ok (.if_icmp .gt 103, 3) := by decide +kernel
theorem dX8_paintInside_7 : decode cX8_paintInside 7 = .ok (.aload_n 1, 1) := by decide +kernel
theorem dX8_paintInside_8 : decode cX8_paintInside 8 = .ok (.getfield 35, 3) := by decide +kernel
theorem dX8_paintInside_11 : decode cX8_paintInside 11 = .ok (.astore_n 3, 1) := by decide +kernel
theorem dX8_paintInside_12 : decode cX8_paintInside 12 = .ok (.aload_n 3, 1) := by decide +kernel
theorem dX8_paintInside_13 : decode cX8_paintInside 13 = .ok (.ifnull 88, 3) := by decide +kernel
theorem dX8_paintInside_16 : decode cX8_paintInside 16 = .ok (.aload_n 3, 1) := by decide +kernel
theorem dX8_paintInside_17 : decode cX8_paintInside 17 = .ok (.invokevirtual 39, 3) := by decide +kernel
theorem dX8_paintInside_20 : decode cX8_paintInside 20 = .ok (.istore 4, 2) := by decide +kernel
theorem dX8_paintInside_22 : decode cX8_paintInside 22 = .ok (.aload_n 3, 1) := by decide +kernel
theorem dX8_paintInside_23 : decode cX8_paintInside 23 = .ok (.getfield 51, 3) := by decide +kernel
theorem dX8_paintInside_26 : decode cX8_paintInside 26 = .ok (.getstatic 55, 3) := by decide +kernel
theorem dX8_paintInside_29 : decode cX8_paintInside 29 = .ok (.if_acmp .eq 13, 3) := by decide +kernel
theorem dX8_paintInside_32 : decode cX8_paintInside 32 = .ok (.aload_n 3, 1) := by decide +kernel
theorem dX8_paintInside_33 : decode cX8_paintInside 33 = .ok (.getfield 51, 3) := by decide +kernel
theorem dX8_paintInside_36 : decode cX8_paintInside 36 = .ok (.getstatic 60, 3) := by decide +kernel
theorem dX8_paintInside_39 : decode cX8_paintInside 39 = .ok (.if_acmp .ne 7, 3) := by decide +kernel
theorem dX8_paintInside_42 : decode cX8_paintInside 42 = .ok (.iconst 1, 1) := by decide +kernel
theorem dX8_paintInside_43 : decode cX8_paintInside 43 = .ok (.goto 4, 3) := by decide +kernel
theorem dX8_paintInside_46 : decode cX8_paintInside 46 = .ok (.iconst 0, 1) := by decide +kernel
theorem dX8_paintInside_47 : decode cX8_paintInside 47 = .ok (.istore 5, 2) := by decide +kernel
theorem dX8_paintInside_49 : decode cX8_paintInside 49 = .ok (.iload 4, 2) := by decide +kernel
theorem dX8_paintInside_51 : decode cX8_paintInside 51 = .ok (.ifCond .ne 26, 3) := by decide +kernel
theorem dX8_paintInside_54 : decode cX8_paintInside 54 = .ok (.aload_n 3, 1) := by decide +kernel
theorem dX8_paintInside_55 : decode cX8_paintInside 55 = .ok (.invokestatic 63, 3) := by decide +kernel
theorem dX8_paintInside_58 : decode cX8_paintInside 58 = .ok (.iload_n 2, 1) := by decide +kernel
theorem dX8_paintInside_59 : decode cX8_paintInside 59 = .ok (.if_icmp .ne 18, 3) := by decide +kernel
theorem dX8_paintInside_62 : decode cX8_paintInside 62 = .ok (.aload_n 0, 1) := by decide +kernel
theorem dX8_paintInside_63 : decode cX8_paintInside 63 = .ok (.aload_n 3, 1) := by decide +kernel
theorem dX8_paintInside_64 : decode cX8_paintInside 64 = .ok (.invokevirtual 25, 3) := by decide +kernel
theorem dX8_paintInside_67 : decode cX8_paintInside 67 = .ok (.iload 5, 2) := by decide +kernel
theorem dX8_paintInside_69 : decode cX8_paintInside 69 = .ok (.ifCond .eq 8, 3) := by decide +kernel
theorem dX8_paintInside_72 : decode cX8_paintInside 72 = .ok (.aload_n 0, 1) := by decide +kernel
theorem dX8_paintInside_73 : decode cX8_paintInside 73 = .ok (.aload_n 3, 1) := by decide +kernel
theorem dX8_paintInside_74 : decode cX8_paintInside 74 = .ok (.invokevirtual 32, 3) := by decide +kernel
theorem dX8_paintInside_77 : decode cX8_paintInside 77 = .ok (.aload_n 3, 1) := by decide +kernel
theorem dX8_paintInside_78 : decode cX8_paintInside 78 = .ok (.aload_n 1, 1) := by decide +kernel
theorem dX8_paintInside_79 : decode cX8_paintInside 79 = .ok (.iload 4, 2) := by decide +kernel
theorem dX8_paintInside_81 : decode cX8_paintInside 81 = .ok (.ifCond .ne 12, 3) := by decide +kernel
theorem dX8_paintInside_84 : decode cX8_paintInside 84 = .ok (.iload 5, 2) := by decide +kernel
theorem dX8_paintInside_86 : decode cX8_paintInside 86 = .ok (.ifCond .ne 7, 3) := by decide +kernel
theorem dX8_paintInside_89 : decode cX8_paintInside 89 = .ok (.iconst 1, 1) := by decide +kernel
theorem dX8_paintInside_90 : decode cX8_paintInside 90 = .ok (.goto 4, 3) := by decide +kernel
theorem dX8_paintInside_93 : decode cX8_paintInside 93 = .ok (.iconst 0, 1) := by decide +kernel
theorem dX8_paintInside_94 : decode cX8_paintInside 94 = .ok (.invokestatic 47, 3) := by decide +kernel
theorem dX8_paintInside_97 : decode cX8_paintInside 97 = .ok (.astore_n 3, 1) := by decide +kernel
theorem dX8_paintInside_98 : decode cX8_paintInside 98 = .ok (.goto (-86), 3) := by decide +kernel
theorem dX8_paintInside_101 : decode cX8_paintInside 101 = .ok (.iinc 2 1, 3) := by decide +kernel
theorem dX8_paintInside_104 : decode cX8_paintInside 104 = .ok (.goto (-102), 3) := by decide +kernel
theorem dX8_paintInside_107 : decode cX8_paintInside 107 = .ok (.return_, 1) := by decide +kernel
theorem dX8_stepOf_0 : decode cX8_stepOf 0 = .ok (.getstatic 67, 3) := by decide +kernel
theorem dX8_stepOf_3 : decode cX8_stepOf 3 = .ok (.aload_n 0, 1) := by decide +kernel
theorem dX8_stepOf_4 : decode cX8_stepOf 4 = .ok (.getfield 51, 3) := by decide +kernel
theorem dX8_stepOf_7 : decode cX8_stepOf 7 = .ok (.invokevirtual 72, 3) := by decide +kernel
theorem dX8_stepOf_10 : decode cX8_stepOf 10 = .ok (.iaload, 1) := by decide +kernel
theorem dX8_stepOf_11 : decode cX8_stepOf 11 = .ok (.tableswitch 43 3 8 #[41, 41, 41, 39, 43, 37], 37) := by decide +kernel
theorem dX8_stepOf_48 : decode cX8_stepOf 48 = .ok (.iconst (-1), 1) := by decide +kernel
theorem dX8_stepOf_49 : decode cX8_stepOf 49 = .ok (.ireturn, 1) := by decide +kernel
theorem dX8_stepOf_50 : decode cX8_stepOf 50 = .ok (.iconst 1, 1) := by decide +kernel
theorem dX8_stepOf_51 : decode cX8_stepOf 51 = .ok (.ireturn, 1) := by decide +kernel
theorem dX8_stepOf_52 : decode cX8_stepOf 52 = .ok (.iconst 2, 1) := by decide +kernel
theorem dX8_stepOf_53 : decode cX8_stepOf 53 = .ok (.ireturn, 1) := by decide +kernel
theorem dX8_stepOf_54 : decode cX8_stepOf 54 = .ok (.iconst 0, 1) := by decide +kernel
theorem dX8_stepOf_55 : decode cX8_stepOf 55 = .ok (.ireturn, 1) := by decide +kernel
theorem dX9_init_0 : decode cX9_init 0 = .ok (.aload_n 0, 1) := by decide +kernel
theorem dX9_init_1 : decode cX9_init 1 = .ok (.invokespecial 3, 3) := by decide +kernel
theorem dX9_init_4 : decode cX9_init 4 = .ok (.aload_n 0, 1) := by decide +kernel
theorem dX9_init_5 : decode cX9_init 5 = .ok (.new 9, 3) := by decide +kernel
theorem dX9_init_8 : decode cX9_init 8 = .ok (.dup, 1) := by decide +kernel
theorem dX9_init_9 : decode cX9_init 9 = .ok (.invokespecial 11, 3) := by decide +kernel
theorem dX9_init_12 : decode cX9_init 12 = .ok (.putfield 12, 3) := by decide +kernel
theorem dX9_init_15 : decode cX9_init 15 = .ok (.aload_n 0, 1) := by decide +kernel
theorem dX9_init_16 : decode cX9_init 16 = .ok (.iload_n 1, 1) := by decide +kernel
theorem dX9_init_17 : decode cX9_init 17 = .ok (.anewarray 18, 3) := by decide +kernel
theorem dX9_init_20 : decode cX9_init 20 = .ok (.putfield 20, 3) := by decide +kernel
theorem dX9_init_23 : decode cX9_init 23 = .ok (.iconst 0, 1) := by decide +kernel
theorem dX9_init_24 : decode cX9_init 24 = .ok (.istore_n 2, 1) := by decide +kernel
theorem dX9_init_25 : decode cX9_init 25 = .ok (.iload_n 2, 1) := by decide +kernel
theorem dX9_init_26 : decode cX9_init 26 = .ok (.iload_n 1, 1) := by decide +kernel
theorem dX9_init_27 : decode cX9_init 27 = .ok (.if_icmp .ge 22, 3) := by decide +kernel
theorem dX9_init_30 : decode cX9_init 30 = .ok (.aload_n 0, 1) := by decide +kernel
theorem dX9_init_31 : decode cX9_init 31 = .ok (.getfield 20, 3) := by decide +kernel
theorem dX9_init_34 : decode cX9_init 34 = .ok (.iload_n 2, 1) := by decide +kernel
theorem dX9_init_35 : decode cX9_init 35 = .ok (.new 18, 3) := by decide +kernel
theorem dX9_init_38 : decode cX9_init 38 = .ok (.dup, 1) := by decide +kernel
theorem dX9_init_39 : decode cX9_init 39 = .ok (.invokespecial 24, 3) := by decide +kernel
theorem dX9_init_42 : decode cX9_init 42 = .ok (.aastore, 1) := by decide +kernel
theorem dX9_init_43 : decode cX9_init 43 = .ok (.iinc 2 1, 3) := by decide +kernel
theorem dX9_init_46 : decode cX9_init 46 = .ok (.goto (-21), 3) := by decide +kernel
theorem dX9_init_49 : decode cX9_init 49 = .ok (.aload_n 0, 1) := by decide +kernel
theorem dX9_init_50 : decode cX9_init 50 = .ok (.iconst (-1), 1) := by decide +kernel
theorem dX9_init_51 : decode cX9_init 51 = .ok (.putfield 25, 3) := by decide +kernel
theorem dX9_init_54 : decode cX9_init 54 = .ok (.aload_n 0, 1) := by decide +kernel
theorem dX9_init_55 : decode cX9_init 55 = .ok (.iconst (-1), 1) := by decide +kernel
theorem dX9_init_56 : decode cX9_init 56 = .ok (.putfield 29, 3) := by decide +kernel
theorem dX9_init_59 : decode cX9_init 59 = .ok (.return_, 1) := by decide +kernel
theorem dX9_pieceAt_0 : decode cX9_pieceAt 0 = .ok (.iload_n 1, 1) := by decide +kernel
theorem dX9_pieceAt_1 : decode cX9_pieceAt 1 = .ok (.ifCond .lt 12, 3) := by decide +kernel
theorem dX9_pieceAt_4 : decode cX9_pieceAt 4 = .ok (.iload_n 1, 1) := by decide +kernel
theorem dX9_pieceAt_5 : decode cX9_pieceAt 5 = .ok (.aload_n 0, 1) := by decide +kernel
theorem dX9_pieceAt_6 : decode cX9_pieceAt 6 = .ok (.getfield 20, 3) := by decide +kernel
theorem dX9_pieceAt_9 : decode cX9_pieceAt 9 = .ok (.arraylength, 1) := by decide +kernel
theorem dX9_pieceAt_10 : decode cX9_pieceAt 10 = .ok (.if_icmp .lt 7, 3) := by decide +kernel
theorem dX9_pieceAt_13 : decode cX9_pieceAt 13 = .ok (.aconst_null, 1) := by decide +kernel
theorem dX9_pieceAt_14 : decode cX9_pieceAt 14 = .ok (.goto 9, 3) := by decide +kernel
theorem dX9_pieceAt_17 : decode cX9_pieceAt 17 = .ok (.aload_n 0, 1) := by decide +kernel
theorem dX9_pieceAt_18 : decode cX9_pieceAt 18 = .ok (.getfield 20, 3) := by decide +kernel
theorem dX9_pieceAt_21 : decode cX9_pieceAt 21 = .ok (.iload_n 1, 1) := by decide +kernel
theorem dX9_pieceAt_22 : decode cX9_pieceAt 22 = .ok (.aaload, 1) := by decide +kernel
theorem dX9_pieceAt_23 : decode cX9_pieceAt 23 = .ok (.areturn, 1) := by decide +kernel
theorem dX10_init_0 : decode cX10_init 0 = .ok (.aload_n 0, 1) := by decide +kernel
theorem dX10_init_1 : decode cX10_init 1 = .ok (.invokespecial 3, 3) := by decide +kernel
theorem dX10_init_4 : decode cX10_init 4 = .ok (.aload_n 0, 1) := by decide +kernel
theorem dX10_init_5 : decode cX10_init 5 = .ok (.sipush 2460, 3) := by decide +kernel
theorem dX10_init_8 : decode cX10_init 8 = .ok (.newarray .int, 2) := by decide +kernel
theorem dX10_init_10 : decode cX10_init 10 = .ok (.putfield 11, 3) := by decide +kernel
theorem dX10_init_13 : decode cX10_init 13 = .ok (.aload_n 0, 1) := by decide +kernel
theorem dX10_init_14 : decode cX10_init 14 = .ok (.sipush 2460, 3) := by decide +kernel
theorem dX10_init_17 : decode cX10_init 17 = .ok (.newarray .int, 2) := by decide +kernel
theorem dX10_init_19 : decode cX10_init 19 = .ok (.putfield 15, 3) := by decide +kernel
theorem dX10_init_22 : decode cX10_init 22 = .ok (.aload_n 0, 1) := by decide +kernel
theorem dX10_init_23 : decode cX10_init 23 = .ok (.sipush 4922, 3) := by decide +kernel
theorem dX10_init_26 : decode cX10_init 26 = .ok (.newarray .int, 2) := by decide +kernel
theorem dX10_init_28 : decode cX10_init 28 = .ok (.putfield 18, 3) := by decide +kernel
theorem dX10_init_31 : decode cX10_init 31 = .ok (.aload_n 0, 1) := by decide +kernel
theorem dX10_init_32 : decode cX10_init 32 = .ok (.sipush 4922, 3) := by decide +kernel
theorem dX10_init_35 : decode cX10_init 35 = .ok (.newarray .int, 2) := by decide +kernel
theorem dX10_init_37 : decode cX10_init 37 = .ok (.putfield 21, 3) := by decide +kernel
theorem dX10_init_40 : decode cX10_init 40 = .ok (.return_, 1) := by decide +kernel
theorem dX11_init_0 : decode cX11_init 0 = .ok (.aload_n 0, 1) := by decide +kernel
theorem dX11_init_1 : decode cX11_init 1 = .ok (.invokespecial 1, 3) := by decide +kernel
theorem dX11_init_4 : decode cX11_init 4 = .ok (.return_, 1) := by decide +kernel
theorem dX11_leftSide_0 : decode cX11_leftSide 0 = .ok (.aload_n 0, 1) := by decide +kernel
theorem dX11_leftSide_1 : decode cX11_leftSide 1 = .ok (.getfield 7, 3) := by decide +kernel
theorem dX11_leftSide_4 : decode cX11_leftSide 4 = .ok (.ifnonnull 7, 3) := by decide +kernel
theorem dX11_leftSide_7 : decode cX11_leftSide 7 = .ok (.iconst 0, 1) := by decide +kernel
theorem dX11_leftSide_8 : decode cX11_leftSide 8 = .ok (.goto 15, 3) := by decide +kernel
theorem dX11_leftSide_11 : decode cX11_leftSide 11 = .ok (.aload_n 0, 1) := by decide +kernel
theorem dX11_leftSide_12 : decode cX11_leftSide 12 = .ok (.getfield 7, 3) := by decide +kernel
theorem dX11_leftSide_15 : decode cX11_leftSide 15 = .ok (.getfield 13, 3) := by decide +kernel
theorem dX11_leftSide_18 : decode cX11_leftSide 18 = .ok (.aload_n 0, 1) := by decide +kernel
theorem dX11_leftSide_19 : decode cX11_leftSide 19 = .ok (.getfield 19, 3) := by decide +kernel
theorem dX11_leftSide_22 : decode cX11_leftSide 22 = .ok (.iadd, 1) := by decide +kernel
theorem dX11_leftSide_23 : decode cX11_leftSide 23 = .ok (.ireturn, 1) := by decide +kernel
theorem dX12_init_0 : decode cX12_init 0 = .ok (.aload_n 0, 1) := by decide +kernel
theorem dX12_init_1 : decode cX12_init 1 = .ok (.invokespecial 1, 3) := by decide +kernel
theorem dX12_init_4 : decode cX12_init 4 = .ok (.new 7, 3) := by decide +kernel
theorem dX12_init_7 : decode cX12_init 7 = .ok (.dup, 1) := by decide +kernel
theorem dX12_init_8 : decode cX12_init 8 = .ok (.iconst 0, 1) := by decide +kernel
theorem dX12_init_9 : decode cX12_init 9 = .ok (.aconst_null, 1) := by decide +kernel
theorem dX12_init_10 : decode cX12_init 10 = .ok (.iconst 0, 1) := by decide +kernel
theorem dX12_init_11 : decode cX12_init 11 = .ok (.invokespecial 9, 3) := by decide +kernel
theorem dX12_init_14 : decode cX12_init 14 = .ok (.astore_n 1, 1) := by decide +kernel
theorem dX12_init_15 : decode cX12_init 15 = .ok (.new 12, 3) := by decide +kernel
theorem dX12_init_18 : decode cX12_init 18 = .ok (.dup, 1) := by decide +kernel
theorem dX12_init_19 : decode cX12_init 19 = .ok (.invokespecial 14, 3) := by decide +kernel
theorem dX12_init_22 : decode cX12_init 22 = .ok (.astore_n 2, 1) := by decide +kernel
theorem dX12_init_23 : decode cX12_init 23 = .ok (.aload_n 1, 1) := by decide +kernel
theorem dX12_init_24 : decode cX12_init 24 = .ok (.invokestatic 15, 3) := by decide +kernel
theorem dX12_init_27 : decode cX12_init 27 = .ok (.aload_n 0, 1) := by decide +kernel
theorem dX12_init_28 : decode cX12_init 28 = .ok (.bipush 60, 2) := by decide +kernel
theorem dX12_init_30 : decode cX12_init 30 = .ok (.anewarray 7, 3) := by decide +kernel
theorem dX12_init_33 : decode cX12_init 33 = .ok (.putfield 21, 3) := by decide +kernel
theorem dX12_init_36 : decode cX12_init 36 = .ok (.aload_n 0, 1) := by decide +kernel
theorem dX12_init_37 : decode cX12_init 37 = .ok (.getfield 21, 3) := by decide +kernel
theorem dX12_init_40 : decode cX12_init 40 = .ok (.iconst 0, 1) := by decide +kernel
theorem dX12_init_41 : decode cX12_init 41 = .ok (.aload_n 1, 1) := by decide +kernel
theorem dX12_init_42 : decode cX12_init 42 = .ok (.aastore, 1) := by decide +kernel
theorem dX12_init_43 : decode cX12_init 43 = .ok (.aload_n 0, 1) := by decide +kernel
theorem dX12_init_44 : decode cX12_init 44 = .ok (.aload_n 1, 1) := by decide +kernel
theorem dX12_init_45 : decode cX12_init 45 = .ok (.putfield 25, 3) := by decide +kernel
theorem dX12_init_48 : decode cX12_init 48 = .ok (.aload_n 0, 1) := by decide +kernel
theorem dX12_init_49 : decode cX12_init 49 = .ok (.iconst 1, 1) := by decide +kernel
theorem dX12_init_50 : decode cX12_init 50 = .ok (.putfield 29, 3) := by decide +kernel
theorem dX12_init_53 : decode cX12_init 53 = .ok (.aload_n 0, 1) := by decide +kernel
theorem dX12_init_54 : decode cX12_init 54 = .ok (.bipush 60, 2) := by decide +kernel
theorem dX12_init_56 : decode cX12_init 56 = .ok (.putfield 33, 3) := by decide +kernel
theorem dX12_init_59 : decode cX12_init 59 = .ok (.aload_n 0, 1) := by decide +kernel
theorem dX12_init_60 : decode cX12_init 60 = .ok (.new 36, 3) := by decide +kernel
theorem dX12_init_63 : decode cX12_init 63 = .ok (.dup, 1) := by decide +kernel
theorem dX12_init_64 : decode cX12_init 64 = .ok (.iconst 0, 1) := by decide +kernel
theorem dX12_init_65 : decode cX12_init 65 = .ok (.aload_n 2, 1) := by decide +kernel
theorem dX12_init_66 : decode cX12_init 66 = .ok (.invokespecial 38, 3) := by decide +kernel
theorem dX12_init_69 : decode cX12_init 69 = .ok (.putfield 41, 3) := by decide +kernel
theorem dX12_init_72 : decode cX12_init 72 = .ok (.aload_n 0, 1) := by decide +kernel
theorem dX12_init_73 : decode cX12_init 73 = .ok (.new 36, 3) := by decide +kernel
theorem dX12_init_76 : decode cX12_init 76 = .ok (.dup, 1) := by decide +kernel
theorem dX12_init_77 : decode cX12_init 77 = .ok (.iconst 1, 1) := by decide +kernel
theorem dX12_init_78 : decode cX12_init 78 = .ok (.aload_n 2, 1) := by decide +kernel
theorem dX12_init_79 : decode cX12_init 79 = .ok (.invokespecial 38, 3) := by decide +kernel
theorem dX12_init_82 : decode cX12_init 82 = .ok (.putfield 45, 3) := by decide +kernel
theorem dX12_init_85 : decode cX12_init 85 = .ok (.aload_n 0, 1) := by decide +kernel
theorem dX12_init_86 : decode cX12_init 86 = .ok (.new 48, 3) := by decide +kernel
theorem dX12_init_89 : decode cX12_init 89 = .ok (.dup, 1) := by decide +kernel
theorem dX12_init_90 : decode cX12_init 90 = .ok (.invokespecial 50, 3) := by decide +kernel
theorem dX12_init_93 : decode cX12_init 93 = .ok (.putfield 51, 3) := by decide +kernel
theorem dX12_init_96 : decode cX12_init 96 = .ok (.aload_n 0, 1) := by decide +kernel
theorem dX12_init_97 : decode cX12_init 97 = .ok (.aload_n 0, 1) := by decide +kernel
theorem dX12_init_98 : decode cX12_init 98 = .ok (.getfield 41, 3) := by decide +kernel
theorem dX12_init_101 : decode cX12_init 101 = .ok (.aload_n 1, 1) := by decide +kernel
theorem dX12_init_102 : decode cX12_init 102 = .ok (.bipush 60, 2) := by decide +kernel
theorem dX12_init_104 : decode cX12_init 104 = .ok (.iconst 0, 1) := by decide +kernel
theorem dX12_init_105 : decode cX12_init 105 = .ok (.invokevirtual 55, 3) := by decide +kernel
theorem dX12_init_108 : decode cX12_init 108 = .ok (.putfield 59, 3) := by decide +kernel
theorem dX12_init_111 : decode cX12_init 111 = .ok (.aload_n 0, 1) := by decide +kernel
theorem dX12_init_112 : decode cX12_init 112 = .ok (.aload_n 0, 1) := by decide +kernel
theorem dX12_init_113 : decode cX12_init 113 = .ok (.getfield 59, 3) := by decide +kernel
theorem dX12_init_116 : decode cX12_init 116 = .ok (.putfield 62, 3) := by decide +kernel
theorem dX12_init_119 : decode cX12_init 119 = .ok (.aload_n 0, 1) := by decide +kernel
theorem dX12_init_120 : decode cX12_init 120 = .ok (.getfield 51, 3) := by decide +kernel
theorem dX12_init_123 : decode cX12_init 123 = .ok (.aload_n 1, 1) := by decide +kernel
theorem dX12_init_124 : decode cX12_init 124 = .ok (.invokevirtual 65, 3) := by decide +kernel
theorem dX12_init_127 : decode cX12_init 127 = .ok (.return_, 1) := by decide +kernel
theorem dX12_box_0 : decode cX12_box 0 = .ok (.aload_n 0, 1) := by decide +kernel
theorem dX12_box_1 : decode cX12_box 1 = .ok (.iload_n 1, 1) := by decide +kernel
theorem dX12_box_2 : decode cX12_box 2 = .ok (.invokevirtual 68, 3) := by decide +kernel
theorem dX12_box_5 : decode cX12_box 5 = .ok (.astore_n 3, 1) := by decide +kernel
theorem dX12_box_6 : decode cX12_box 6 = .ok (.aload_n 3, 1) := by decide +kernel
theorem dX12_box_7 : decode cX12_box 7 = .ok (.ifnull 15, 3) := by decide +kernel
theorem dX12_box_10 : decode cX12_box 10 = .ok (.iload_n 2, 1) := by decide +kernel
theorem dX12_box_11 : decode cX12_box 11 = .ok (.ifCond .lt 11, 3) := by decide +kernel
theorem dX12_box_14 : decode cX12_box 14 = .ok (.iload_n 2, 1) := by decide +kernel
theorem dX12_box_15 : decode cX12_box 15 = .ok (.aload_n 3, 1) := by decide +kernel
theorem dX12_box_16 : decode cX12_box 16 = .ok (.invokevirtual 72, 3) := by decide +kernel
theorem dX12_box_19 : decode cX12_box 19 = .ok (.if_icmp .le 11, 3) := by decide +kernel
theorem dX12_box_22 : decode cX12_box 22 = .ok (.new 76, 3) := by decide +kernel
theorem dX12_box_25 : decode cX12_box 25 = .ok (.dup, 1) := by decide +kernel
theorem dX12_box_26 : decode cX12_box 26 = .ok (.invokespecial 78, 3) := by decide +kernel
theorem dX12_box_29 : decode cX12_box 29 = .ok (.athrow, 1) := by decide +kernel
theorem dX12_box_30 : decode cX12_box 30 = .ok (.aload_n 0, 1) := by decide +kernel
theorem dX12_box_31 : decode cX12_box 31 = .ok (.aload_n 3, 1) := by decide +kernel
theorem dX12_box_32 : decode cX12_box 32 = .ok (.invokevirtual 79, 3) := by decide +kernel
theorem dX12_box_35 : decode cX12_box 35 = .ok (.ifCond .ne 11, 3) := by decide +kernel
theorem dX12_box_38 : decode cX12_box 38 = .ok (.new 83, 3) := by decide +kernel
theorem dX12_box_41 : decode cX12_box 41 = .ok (.dup, 1) := by decide +kernel
theorem dX12_box_42 : decode cX12_box 42 = .ok (.invokespecial 85, 3) := by decide +kernel
theorem dX12_box_45 : decode cX12_box 45 = .ok (.athrow, 1) := by decide +kernel
theorem dX12_box_46 : decode cX12_box 46 = .ok (.aload_n 0, 1) := by decide +kernel
theorem dX12_box_47 : decode cX12_box 47 = .ok (.aload_n 3, 1) := by decide +kernel
theorem dX12_box_48 : decode cX12_box 48 = .ok (.iload_n 2, 1) := by decide +kernel
theorem dX12_box_49 : decode cX12_box 49 = .ok (.iconst 0, 1) := by decide +kernel
theorem dX12_box_50 : decode cX12_box 50 = .ok (.invokevirtual 86, 3) := by decide +kernel
theorem dX12_box_53 : decode cX12_box 53 = .ok (.istore 4, 2) := by decide +kernel
theorem dX12_box_55 : decode cX12_box 55 = .ok (.aload_n 0, 1) := by decide +kernel
theorem dX12_box_56 : decode cX12_box 56 = .ok (.invokevirtual 89, 3) := by decide +kernel
theorem dX12_box_59 : decode cX12_box 59 = .ok (.iload 4, 2) := by decide +kernel
theorem dX12_box_61 : decode cX12_box 61 = .ok (.ireturn, 1) := by decide +kernel
theorem dX12_text_0 : decode cX12_text 0 = .ok (.aload_n 0, 1) := by decide +kernel
theorem dX12_text_1 : decode cX12_text 1 = .ok (.iload_n 1, 1) := by decide +kernel
theorem dX12_text_2 : decode cX12_text 2 = .ok (.invokevirtual 68, 3) := by decide +kernel
theorem dX12_text_5 : decode cX12_text 5 = .ok (.astore 4, 2) := by decide +kernel
theorem dX12_text_7 : decode cX12_text 7 = .ok (.aload 4, 2) := by decide +kernel
theorem dX12_text_9 : decode cX12_text 9 = .ok (.ifnull 16, 3) := by decide +kernel
theorem dX12_text_12 : decode cX12_text 12 = .ok (.iload_n 2, 1) := by decide +kernel
theorem dX12_text_13 : decode cX12_text 13 = .ok (.ifCond .lt 12, 3) := by decide +kernel
theorem dX12_text_16 : decode cX12_text 16 = .ok (.iload_n 2, 1) := by decide +kernel
theorem dX12_text_17 : decode cX12_text 17 = .ok (.aload 4, 2) := by decide +kernel
theorem dX12_text_19 : decode cX12_text 19 = .ok (.invokevirtual 72, 3) := by decide +kernel
theorem dX12_text_22 : decode cX12_text 22 = .ok (.if_icmp .le 11, 3) := by decide +kernel
theorem dX12_text_25 : decode cX12_text 25 = .ok (.new 76, 3) := by decide +kernel
theorem dX12_text_28 : decode cX12_text 28 = .ok (.dup, 1) := by decide +kernel
theorem dX12_text_29 : decode cX12_text 29 = .ok (.invokespecial 78, 3) := by decide +kernel
theorem dX12_text_32 : decode cX12_text 32 = .ok (.athrow, 1) := by decide +kernel
theorem dX12_text_33 : decode cX12_text 33 = .ok (.iload_n 3, 1) := by decide +kernel
theorem dX12_text_34 : decode cX12_text 34 = .ok (.iconst 1, 1) := by decide +kernel
theorem dX12_text_35 : decode cX12_text 35 = .ok (.if_icmp .lt 9, 3) := by decide +kernel
theorem dX12_text_38 : decode cX12_text 38 = .ok (.iload_n 3, 1) := by decide +kernel
theorem dX12_text_39 : decode cX12_text 39 = .ok (.bipush 20, 2) := by decide +kernel
theorem dX12_text_41 : decode cX12_text 41 = .ok (.if_icmp .le 11, 3) := by decide +kernel
theorem dX12_text_44 : decode cX12_text 44 = .ok (.new 92, 3) := by decide +kernel
theorem dX12_text_47 : decode cX12_text 47 = .ok (.dup, 1) := by decide +kernel
theorem dX12_text_48 : decode cX12_text 48 = .ok (.invokespecial 94, 3) := by decide +kernel
theorem dX12_text_51 : decode cX12_text 51 = .ok (.athrow, 1) := by decide +kernel
theorem dX12_text_52 : decode cX12_text 52 = .ok (.aload_n 0, 1) := by decide +kernel
end
section
theorem dX12_text_53 : decode cX12_text 53 = .ok (.aload 4, 2) := by decide +kernel
theorem dX12_text_55 : decode cX12_text 55 = .ok (.invokevirtual 79, 3) := by decide +kernel
theorem dX12_text_58 : decode cX12_text 58 = .ok (.ifCond .ne 11, 3) := by decide +kernel
theorem dX12_text_61 : decode cX12_text 61 = .ok (.new 83, 3) := by decide +kernel
theorem dX12_text_64 : decode cX12_text 64 = .ok (.dup, 1) := by decide +kernel
theorem dX12_text_65 : decode cX12_text 65 = .ok (.invokespecial 85, 3) := by decide +kernel
theorem dX12_text_68 : decode cX12_text 68 = .ok (.athrow, 1) := by decide +kernel
theorem dX12_text_69 : decode cX12_text 69 = .ok (.aload_n 0, 1) := by decide +kernel
theorem dX12_text_70 : decode cX12_text 70 = .ok (.aload 4, 2) := by decide +kernel
theorem dX12_text_72 : decode cX12_text 72 = .ok (.iload_n 2, 1) := by decide +kernel
theorem dX12_text_73 : decode cX12_text 73 = .ok (.iload_n 3, 1) := by decide +kernel
theorem dX12_text_74 : decode cX12_text 74 = .ok (.invokevirtual 86, 3) := by decide +kernel
theorem dX12_text_77 : decode cX12_text 77 = .ok (.istore 5, 2) := by decide +kernel
theorem dX12_text_79 : decode cX12_text 79 = .ok (.aload_n 0, 1) := by decide +kernel
theorem dX12_text_80 : decode cX12_text 80 = .ok (.invokevirtual 89, 3) := by decide +kernel
theorem dX12_text_83 : decode cX12_text 83 = .ok (.iload 5, 2) := by decide +kernel
theorem dX12_text_85 : decode cX12_text 85 = .ok (.ireturn, 1) := by decide +kernel
theorem dX12_word_0 : decode cX12_word 0 = .ok (.aload_n 0, 1) := by decide +kernel
theorem dX12_word_1 : decode cX12_word 1 = .ok (.iload_n 1, 1) := by decide +kernel
theorem dX12_word_2 : decode cX12_word 2 = .ok (.invokevirtual 95, 3) := by decide +kernel
theorem dX12_word_5 : decode cX12_word 5 = .ok (.astore 4, 2) := by decide +kernel
theorem dX12_word_7 : decode cX12_word 7 = .ok (.aload 4, 2) := by decide +kernel
theorem dX12_word_9 : decode cX12_word 9 = .ok (.ifnonnull 11, 3) := by decide +kernel
theorem dX12_word_12 : decode cX12_word 12 = .ok (.new 76, 3) := by decide +kernel
theorem dX12_word_15 : decode cX12_word 15 = .ok (.dup, 1) := by decide +kernel
theorem dX12_word_16 : decode cX12_word 16 = .ok (.invokespecial 78, 3) := by decide +kernel
theorem dX12_word_19 : decode cX12_word 19 = .ok (.athrow, 1) := by decide +kernel
theorem dX12_word_20 : decode cX12_word 20 = .ok (.iload_n 2, 1) := by decide +kernel
theorem dX12_word_21 : decode cX12_word 21 = .ok (.iconst 1, 1) := by decide +kernel
theorem dX12_word_22 : decode cX12_word 22 = .ok (.if_icmp .lt 18, 3) := by decide +kernel
theorem dX12_word_25 : decode cX12_word 25 = .ok (.iload_n 2, 1) := by decide +kernel
theorem dX12_word_26 : decode cX12_word 26 = .ok (.bipush 30, 2) := by decide +kernel
theorem dX12_word_28 : decode cX12_word 28 = .ok (.if_icmp .gt 12, 3) := by decide +kernel
theorem dX12_word_31 : decode cX12_word 31 = .ok (.iload_n 3, 1) := by decide +kernel
theorem dX12_word_32 : decode cX12_word 32 = .ok (.ifCond .lt 8, 3) := by decide +kernel
theorem dX12_word_35 : decode cX12_word 35 = .ok (.iload_n 3, 1) := by decide +kernel
theorem dX12_word_36 : decode cX12_word 36 = .ok (.iload_n 2, 1) := by decide +kernel
theorem dX12_word_37 : decode cX12_word 37 = .ok (.if_icmp .lt 11, 3) := by decide +kernel
theorem dX12_word_40 : decode cX12_word 40 = .ok (.new 92, 3) := by decide +kernel
theorem dX12_word_43 : decode cX12_word 43 = .ok (.dup, 1) := by decide +kernel
theorem dX12_word_44 : decode cX12_word 44 = .ok (.invokespecial 94, 3) := by decide +kernel
theorem dX12_word_47 : decode cX12_word 47 = .ok (.athrow, 1) := by decide +kernel
theorem dX12_word_48 : decode cX12_word 48 = .ok (.aload 4, 2) := by decide +kernel
theorem dX12_word_50 : decode cX12_word 50 = .ok (.getfield 98, 3) := by decide +kernel
theorem dX12_word_53 : decode cX12_word 53 = .ok (.bipush 20, 2) := by decide +kernel
theorem dX12_word_55 : decode cX12_word 55 = .ok (.if_icmp .lt 11, 3) := by decide +kernel
theorem dX12_word_58 : decode cX12_word 58 = .ok (.new 83, 3) := by decide +kernel
theorem dX12_word_61 : decode cX12_word 61 = .ok (.dup, 1) := by decide +kernel
theorem dX12_word_62 : decode cX12_word 62 = .ok (.invokespecial 85, 3) := by decide +kernel
theorem dX12_word_65 : decode cX12_word 65 = .ok (.athrow, 1) := by decide +kernel
theorem dX12_word_66 : decode cX12_word 66 = .ok (.aload 4, 2) := by decide +kernel
theorem dX12_word_68 : decode cX12_word 68 = .ok (.getfield 101, 3) := by decide +kernel
theorem dX12_word_71 : decode cX12_word 71 = .ok (.aload 4, 2) := by decide +kernel
theorem dX12_word_73 : decode cX12_word 73 = .ok (.getfield 98, 3) := by decide +kernel
theorem dX12_word_76 : decode cX12_word 76 = .ok (.iload_n 2, 1) := by decide +kernel
theorem dX12_word_77 : decode cX12_word 77 = .ok (.iastore, 1) := by decide +kernel
theorem dX12_word_78 : decode cX12_word 78 = .ok (.aload 4, 2) := by decide +kernel
theorem dX12_word_80 : decode cX12_word 80 = .ok (.getfield 105, 3) := by decide +kernel
theorem dX12_word_83 : decode cX12_word 83 = .ok (.aload 4, 2) := by decide +kernel
theorem dX12_word_85 : decode cX12_word 85 = .ok (.getfield 98, 3) := by decide +kernel
theorem dX12_word_88 : decode cX12_word 88 = .ok (.iload_n 3, 1) := by decide +kernel
theorem dX12_word_89 : decode cX12_word 89 = .ok (.iastore, 1) := by decide +kernel
theorem dX12_word_90 : decode cX12_word 90 = .ok (.aload 4, 2) := by decide +kernel
theorem dX12_word_92 : decode cX12_word 92 = .ok (.dup, 1) := by decide +kernel
theorem dX12_word_93 : decode cX12_word 93 = .ok (.getfield 98, 3) := by decide +kernel
theorem dX12_word_96 : decode cX12_word 96 = .ok (.iconst 1, 1) := by decide +kernel
theorem dX12_word_97 : decode cX12_word 97 = .ok (.iadd, 1) := by decide +kernel
theorem dX12_word_98 : decode cX12_word 98 = .ok (.putfield 98, 3) := by decide +kernel
theorem dX12_word_101 : decode cX12_word 101 = .ok (.aload_n 0, 1) := by decide +kernel
theorem dX12_word_102 : decode cX12_word 102 = .ok (.aload 4, 2) := by decide +kernel
theorem dX12_word_104 : decode cX12_word 104 = .ok (.invokevirtual 108, 3) := by decide +kernel
theorem dX12_word_107 : decode cX12_word 107 = .ok (.aload_n 0, 1) := by decide +kernel
theorem dX12_word_108 : decode cX12_word 108 = .ok (.invokevirtual 89, 3) := by decide +kernel
theorem dX12_word_111 : decode cX12_word 111 = .ok (.aload 4, 2) := by decide +kernel
theorem dX12_word_113 : decode cX12_word 113 = .ok (.getfield 98, 3) := by decide +kernel
theorem dX12_word_116 : decode cX12_word 116 = .ok (.ireturn, 1) := by decide +kernel
theorem dX12_children_0 : decode cX12_children 0 = .ok (.aload_n 0, 1) := by decide +kernel
theorem dX12_children_1 : decode cX12_children 1 = .ok (.iload_n 1, 1) := by decide +kernel
theorem dX12_children_2 : decode cX12_children 2 = .ok (.invokevirtual 68, 3) := by decide +kernel
theorem dX12_children_5 : decode cX12_children 5 = .ok (.astore_n 2, 1) := by decide +kernel
theorem dX12_children_6 : decode cX12_children 6 = .ok (.aload_n 2, 1) := by decide +kernel
theorem dX12_children_7 : decode cX12_children 7 = .ok (.ifnonnull 11, 3) := by decide +kernel
theorem dX12_children_10 : decode cX12_children 10 = .ok (.new 76, 3) := by decide +kernel
theorem dX12_children_13 : decode cX12_children 13 = .ok (.dup, 1) := by decide +kernel
theorem dX12_children_14 : decode cX12_children 14 = .ok (.invokespecial 78, 3) := by decide +kernel
theorem dX12_children_17 : decode cX12_children 17 = .ok (.athrow, 1) := by decide +kernel
theorem dX12_children_18 : decode cX12_children 18 = .ok (.aload_n 2, 1) := by decide +kernel
theorem dX12_children_19 : decode cX12_children 19 = .ok (.invokevirtual 72, 3) := by decide +kernel
theorem dX12_children_22 : decode cX12_children 22 = .ok (.ireturn, 1) := by decide +kernel
theorem dX12_style_0 : decode cX12_style 0 = .ok (.aload_n 0, 1) := by decide +kernel
theorem dX12_style_1 : decode cX12_style 1 = .ok (.iload_n 1, 1) := by decide +kernel
theorem dX12_style_2 : decode cX12_style 2 = .ok (.invokevirtual 68, 3) := by decide +kernel
theorem dX12_style_5 : decode cX12_style 5 = .ok (.astore 4, 2) := by decide +kernel
theorem dX12_style_7 : decode cX12_style 7 = .ok (.aload 4, 2) := by decide +kernel
theorem dX12_style_9 : decode cX12_style 9 = .ok (.ifnonnull 11, 3) := by decide +kernel
theorem dX12_style_12 : decode cX12_style 12 = .ok (.new 76, 3) := by decide +kernel
theorem dX12_style_15 : decode cX12_style 15 = .ok (.dup, 1) := by decide +kernel
theorem dX12_style_16 : decode cX12_style 16 = .ok (.invokespecial 78, 3) := by decide +kernel
theorem dX12_style_19 : decode cX12_style 19 = .ok (.athrow, 1) := by decide +kernel
theorem dX12_style_20 : decode cX12_style 20 = .ok (.iload_n 2, 1) := by decide +kernel
theorem dX12_style_21 : decode cX12_style 21 = .ok (.ifCond .lt 17, 3) := by decide +kernel
theorem dX12_style_24 : decode cX12_style 24 = .ok (.iload_n 2, 1) := by decide +kernel
theorem dX12_style_25 : decode cX12_style 25 = .ok (.bipush 21, 2) := by decide +kernel
theorem dX12_style_27 : decode cX12_style 27 = .ok (.if_icmp .ge 11, 3) := by decide +kernel
theorem dX12_style_30 : decode cX12_style 30 = .ok (.iload_n 2, 1) := by decide +kernel
theorem dX12_style_31 : decode cX12_style 31 = .ok (.iload_n 3, 1) := by decide +kernel
theorem dX12_style_32 : decode cX12_style 32 = .ok (.invokestatic 127, 3) := by decide +kernel
theorem dX12_style_35 : decode cX12_style 35 = .ok (.ifCond .ne 11, 3) := by decide +kernel
theorem dX12_style_38 : decode cX12_style 38 = .ok (.new 92, 3) := by decide +kernel
theorem dX12_style_41 : decode cX12_style 41 = .ok (.dup, 1) := by decide +kernel
theorem dX12_style_42 : decode cX12_style 42 = .ok (.invokespecial 94, 3) := by decide +kernel
theorem dX12_style_45 : decode cX12_style 45 = .ok (.athrow, 1) := by decide +kernel
theorem dX12_style_46 : decode cX12_style 46 = .ok (.aload 4, 2) := by decide +kernel
theorem dX12_style_48 : decode cX12_style 48 = .ok (.getfield 114, 3) := by decide +kernel
theorem dX12_style_51 : decode cX12_style 51 = .ok (.ifnonnull 11, 3) := by decide +kernel
theorem dX12_style_54 : decode cX12_style 54 = .ok (.new 83, 3) := by decide +kernel
theorem dX12_style_57 : decode cX12_style 57 = .ok (.dup, 1) := by decide +kernel
theorem dX12_style_58 : decode cX12_style 58 = .ok (.invokespecial 85, 3) := by decide +kernel
theorem dX12_style_61 : decode cX12_style 61 = .ok (.athrow, 1) := by decide +kernel
theorem dX12_style_62 : decode cX12_style 62 = .ok (.aload 4, 2) := by decide +kernel
theorem dX12_style_64 : decode cX12_style 64 = .ok (.getfield 131, 3) := by decide +kernel
theorem dX12_style_67 : decode cX12_style 67 = .ok (.iload_n 2, 1) := by decide +kernel
theorem dX12_style_68 : decode cX12_style 68 = .ok (.iaload, 1) := by decide +kernel
theorem dX12_style_69 : decode cX12_style 69 = .ok (.istore 5, 2) := by decide +kernel
theorem dX12_style_71 : decode cX12_style 71 = .ok (.iload 5, 2) := by decide +kernel
theorem dX12_style_73 : decode cX12_style 73 = .ok (.iload_n 3, 1) := by decide +kernel
theorem dX12_style_74 : decode cX12_style 74 = .ok (.if_icmp .eq 34, 3) := by decide +kernel
theorem dX12_style_77 : decode cX12_style 77 = .ok (.aload 4, 2) := by decide +kernel
theorem dX12_style_79 : decode cX12_style 79 = .ok (.getfield 131, 3) := by decide +kernel
theorem dX12_style_82 : decode cX12_style 82 = .ok (.iload_n 2, 1) := by decide +kernel
theorem dX12_style_83 : decode cX12_style 83 = .ok (.iload_n 3, 1) := by decide +kernel
theorem dX12_style_84 : decode cX12_style 84 = .ok (.iastore, 1) := by decide +kernel
theorem dX12_style_85 : decode cX12_style 85 = .ok (.aload_n 0, 1) := by decide +kernel
theorem dX12_style_86 : decode cX12_style 86 = .ok (.aload 4, 2) := by decide +kernel
theorem dX12_style_88 : decode cX12_style 88 = .ok (.invokevirtual 108, 3) := by decide +kernel
theorem dX12_style_91 : decode cX12_style 91 = .ok (.iload_n 2, 1) := by decide +kernel
theorem dX12_style_92 : decode cX12_style 92 = .ok (.invokestatic 134, 3) := by decide +kernel
theorem dX12_style_95 : decode cX12_style 95 = .ok (.ifCond .eq 9, 3) := by decide +kernel
theorem dX12_style_98 : decode cX12_style 98 = .ok (.aload_n 0, 1) := by decide +kernel
theorem dX12_style_99 : decode cX12_style 99 = .ok (.aload 4, 2) := by decide +kernel
theorem dX12_style_101 : decode cX12_style 101 = .ok (.invokevirtual 138, 3) := by decide +kernel
theorem dX12_style_104 : decode cX12_style 104 = .ok (.aload_n 0, 1) := by decide +kernel
theorem dX12_style_105 : decode cX12_style 105 = .ok (.invokevirtual 89, 3) := by decide +kernel
theorem dX12_style_108 : decode cX12_style 108 = .ok (.iload 5, 2) := by decide +kernel
theorem dX12_style_110 : decode cX12_style 110 = .ok (.ireturn, 1) := by decide +kernel
theorem dX12_page_0 : decode cX12_page 0 = .ok (.iload_n 1, 1) := by decide +kernel
theorem dX12_page_1 : decode cX12_page 1 = .ok (.iconst 1, 1) := by decide +kernel
theorem dX12_page_2 : decode cX12_page 2 = .ok (.if_icmp .lt 10, 3) := by decide +kernel
theorem dX12_page_5 : decode cX12_page 5 = .ok (.iload_n 1, 1) := by decide +kernel
theorem dX12_page_6 : decode cX12_page 6 = .ok (.sipush 300, 3) := by decide +kernel
theorem dX12_page_9 : decode cX12_page 9 = .ok (.if_icmp .le 11, 3) := by decide +kernel
theorem dX12_page_12 : decode cX12_page 12 = .ok (.new 92, 3) := by decide +kernel
theorem dX12_page_15 : decode cX12_page 15 = .ok (.dup, 1) := by decide +kernel
theorem dX12_page_16 : decode cX12_page 16 = .ok (.invokespecial 94, 3) := by decide +kernel
theorem dX12_page_19 : decode cX12_page 19 = .ok (.athrow, 1) := by decide +kernel
theorem dX12_page_20 : decode cX12_page 20 = .ok (.aload_n 0, 1) := by decide +kernel
theorem dX12_page_21 : decode cX12_page 21 = .ok (.getfield 33, 3) := by decide +kernel
theorem dX12_page_24 : decode cX12_page 24 = .ok (.istore_n 2, 1) := by decide +kernel
theorem dX12_page_25 : decode cX12_page 25 = .ok (.iload_n 2, 1) := by decide +kernel
theorem dX12_page_26 : decode cX12_page 26 = .ok (.iload_n 1, 1) := by decide +kernel
theorem dX12_page_27 : decode cX12_page 27 = .ok (.if_icmp .eq 12, 3) := by decide +kernel
theorem dX12_page_30 : decode cX12_page 30 = .ok (.aload_n 0, 1) := by decide +kernel
theorem dX12_page_31 : decode cX12_page 31 = .ok (.iload_n 1, 1) := by decide +kernel
theorem dX12_page_32 : decode cX12_page 32 = .ok (.putfield 33, 3) := by decide +kernel
theorem dX12_page_35 : decode cX12_page 35 = .ok (.aload_n 0, 1) := by decide +kernel
theorem dX12_page_36 : decode cX12_page 36 = .ok (.invokevirtual 89, 3) := by decide +kernel
theorem dX12_page_39 : decode cX12_page 39 = .ok (.iload_n 2, 1) := by decide +kernel
theorem dX12_page_40 : decode cX12_page 40 = .ok (.ireturn, 1) := by decide +kernel
theorem dX12_x_0 : decode cX12_x 0 = .ok (.aload_n 0, 1) := by decide +kernel
theorem dX12_x_1 : decode cX12_x 1 = .ok (.iload_n 1, 1) := by decide +kernel
theorem dX12_x_2 : decode cX12_x 2 = .ok (.invokevirtual 141, 3) := by decide +kernel
theorem dX12_x_5 : decode cX12_x 5 = .ok (.iconst 0, 1) := by decide +kernel
theorem dX12_x_6 : decode cX12_x 6 = .ok (.aload_n 0, 1) := by decide +kernel
theorem dX12_x_7 : decode cX12_x 7 = .ok (.getfield 41, 3) := by decide +kernel
theorem dX12_x_10 : decode cX12_x 10 = .ok (.invokestatic 144, 3) := by decide +kernel
theorem dX12_x_13 : decode cX12_x 13 = .ok (.ireturn, 1) := by decide +kernel
theorem dX12_y_0 : decode cX12_y 0 = .ok (.aload_n 0, 1) := by decide +kernel
theorem dX12_y_1 : decode cX12_y 1 = .ok (.iload_n 1, 1) := by decide +kernel
theorem dX12_y_2 : decode cX12_y 2 = .ok (.invokevirtual 141, 3) := by decide +kernel
theorem dX12_y_5 : decode cX12_y 5 = .ok (.iconst 1, 1) := by decide +kernel
theorem dX12_y_6 : decode cX12_y 6 = .ok (.aload_n 0, 1) := by decide +kernel
theorem dX12_y_7 : decode cX12_y 7 = .ok (.getfield 41, 3) := by decide +kernel
theorem dX12_y_10 : decode cX12_y 10 = .ok (.invokestatic 144, 3) := by decide +kernel
theorem dX12_y_13 : decode cX12_y 13 = .ok (.ireturn, 1) := by decide +kernel
theorem dX12_width_0 : decode cX12_width 0 = .ok (.aload_n 0, 1) := by decide +kernel
theorem dX12_width_1 : decode cX12_width 1 = .ok (.iload_n 1, 1) := by decide +kernel
theorem dX12_width_2 : decode cX12_width 2 = .ok (.invokevirtual 141, 3) := by decide +kernel
theorem dX12_width_5 : decode cX12_width 5 = .ok (.iconst 2, 1) := by decide +kernel
theorem dX12_width_6 : decode cX12_width 6 = .ok (.aload_n 0, 1) := by decide +kernel
theorem dX12_width_7 : decode cX12_width 7 = .ok (.getfield 41, 3) := by decide +kernel
theorem dX12_width_10 : decode cX12_width 10 = .ok (.invokestatic 144, 3) := by decide +kernel
theorem dX12_width_13 : decode cX12_width 13 = .ok (.ireturn, 1) := by decide +kernel
theorem dX12_height_0 : decode cX12_height 0 = .ok (.aload_n 0, 1) := by decide +kernel
theorem dX12_height_1 : decode cX12_height 1 = .ok (.iload_n 1, 1) := by decide +kernel
theorem dX12_height_2 : decode cX12_height 2 = .ok (.invokevirtual 141, 3) := by decide +kernel
theorem dX12_height_5 : decode cX12_height 5 = .ok (.iconst 3, 1) := by decide +kernel
theorem dX12_height_6 : decode cX12_height 6 = .ok (.aload_n 0, 1) := by decide +kernel
theorem dX12_height_7 : decode cX12_height 7 = .ok (.getfield 41, 3) := by decide +kernel
theorem dX12_height_10 : decode cX12_height 10 = .ok (.invokestatic 144, 3) := by decide +kernel
theorem dX12_height_13 : decode cX12_height 13 = .ok (.ireturn, 1) := by decide +kernel
theorem dX12_fromNothing_0 : decode cX12_fromNothing 0 = .ok (.aload_n 0, 1) := by decide +kernel
theorem dX12_fromNothing_1 : decode cX12_fromNothing 1 = .ok (.iload_n 1, 1) := by decide +kernel
theorem dX12_fromNothing_2 : decode cX12_fromNothing 2 = .ok (.invokevirtual 111, 3) := by decide +kernel
theorem dX12_fromNothing_5 : decode cX12_fromNothing 5 = .ok (.ifnonnull 11, 3) := by decide +kernel
theorem dX12_fromNothing_8 : decode cX12_fromNothing 8 = .ok (.new 76, 3) := by decide +kernel
theorem dX12_fromNothing_11 : decode cX12_fromNothing 11 = .ok (.dup, 1) := by decide +kernel
theorem dX12_fromNothing_12 : decode cX12_fromNothing 12 = .ok (.invokespecial 78, 3) := by decide +kernel
theorem dX12_fromNothing_15 : decode cX12_fromNothing 15 = .ok (.athrow, 1) := by decide +kernel
theorem dX12_fromNothing_16 : decode cX12_fromNothing 16 = .ok (.iload_n 2, 1) := by decide +kernel
theorem dX12_fromNothing_17 : decode cX12_fromNothing 17 = .ok (.ifCond .lt 8, 3) := by decide +kernel
theorem dX12_fromNothing_20 : decode cX12_fromNothing 20 = .ok (.iload_n 2, 1) := by decide +kernel
theorem dX12_fromNothing_21 : decode cX12_fromNothing 21 = .ok (.iconst 3, 1) := by decide +kernel
theorem dX12_fromNothing_22 : decode cX12_fromNothing 22 = .ok (.if_icmp .le 11, 3) := by decide +kernel
theorem dX12_fromNothing_25 : decode cX12_fromNothing 25 = .ok (.new 92, 3) := by decide +kernel
theorem dX12_fromNothing_28 : decode cX12_fromNothing 28 = .ok (.dup, 1) := by decide +kernel
theorem dX12_fromNothing_29 : decode cX12_fromNothing 29 = .ok (.invokespecial 94, 3) := by decide +kernel
theorem dX12_fromNothing_32 : decode cX12_fromNothing 32 = .ok (.athrow, 1) := by decide +kernel
theorem dX12_fromNothing_33 : decode cX12_fromNothing 33 = .ok (.aload_n 0, 1) := by decide +kernel
theorem dX12_fromNothing_34 : decode cX12_fromNothing 34 = .ok (.iload_n 1, 1) := by decide +kernel
theorem dX12_fromNothing_35 : decode cX12_fromNothing 35 = .ok (.invokevirtual 141, 3) := by decide +kernel
theorem dX12_fromNothing_38 : decode cX12_fromNothing 38 = .ok (.astore_n 3, 1) := by decide +kernel
theorem dX12_fromNothing_39 : decode cX12_fromNothing 39 = .ok (.aload_n 0, 1) := by decide +kernel
theorem dX12_fromNothing_40 : decode cX12_fromNothing 40 = .ok (.getfield 45, 3) := by decide +kernel
theorem dX12_fromNothing_43 : decode cX12_fromNothing 43 = .ok (.aload_n 0, 1) := by decide +kernel
theorem dX12_fromNothing_44 : decode cX12_fromNothing 44 = .ok (.getfield 25, 3) := by decide +kernel
theorem dX12_fromNothing_47 : decode cX12_fromNothing 47 = .ok (.invokevirtual 148, 3) := by decide +kernel
theorem dX12_fromNothing_50 : decode cX12_fromNothing 50 = .ok (.aload_n 0, 1) := by decide +kernel
theorem dX12_fromNothing_51 : decode cX12_fromNothing 51 = .ok (.getfield 45, 3) := by decide +kernel
theorem dX12_fromNothing_54 : decode cX12_fromNothing 54 = .ok (.aload_n 0, 1) := by decide +kernel
theorem dX12_fromNothing_55 : decode cX12_fromNothing 55 = .ok (.getfield 25, 3) := by decide +kernel
theorem dX12_fromNothing_58 : decode cX12_fromNothing 58 = .ok (.aload_n 0, 1) := by decide +kernel
theorem dX12_fromNothing_59 : decode cX12_fromNothing 59 = .ok (.getfield 33, 3) := by decide +kernel
theorem dX12_fromNothing_62 : decode cX12_fromNothing 62 = .ok (.aload_n 0, 1) := by decide +kernel
theorem dX12_fromNothing_63 : decode cX12_fromNothing 63 = .ok (.getfield 151, 3) := by decide +kernel
theorem dX12_fromNothing_66 : decode cX12_fromNothing 66 = .ok (.invokevirtual 55, 3) := by decide +kernel
theorem dX12_fromNothing_69 : decode cX12_fromNothing 69 = .ok (.pop, 1) := by decide +kernel
theorem dX12_fromNothing_70 : decode cX12_fromNothing 70 = .ok (.aload_n 3, 1) := by decide +kernel
theorem dX12_fromNothing_71 : decode cX12_fromNothing 71 = .ok (.iload_n 2, 1) := by decide +kernel
theorem dX12_fromNothing_72 : decode cX12_fromNothing 72 = .ok (.aload_n 0, 1) := by decide +kernel
theorem dX12_fromNothing_73 : decode cX12_fromNothing 73 = .ok (.getfield 45, 3) := by decide +kernel
theorem dX12_fromNothing_76 : decode cX12_fromNothing 76 = .ok (.invokestatic 144, 3) := by decide +kernel
theorem dX12_fromNothing_79 : decode cX12_fromNothing 79 = .ok (.ireturn, 1) := by decide +kernel
theorem dX12_bars_0 : decode cX12_bars 0 = .ok (.aload_n 0, 1) := by decide +kernel
theorem dX12_bars_1 : decode cX12_bars 1 = .ok (.iload_n 1, 1) := by decide +kernel
theorem dX12_bars_2 : decode cX12_bars 2 = .ok (.invokevirtual 68, 3) := by decide +kernel
theorem dX12_bars_5 : decode cX12_bars 5 = .ok (.astore_n 2, 1) := by decide +kernel
theorem dX12_bars_6 : decode cX12_bars 6 = .ok (.aload_n 2, 1) := by decide +kernel
theorem dX12_bars_7 : decode cX12_bars 7 = .ok (.ifnonnull 11, 3) := by decide +kernel
theorem dX12_bars_10 : decode cX12_bars 10 = .ok (.new 76, 3) := by decide +kernel
theorem dX12_bars_13 : decode cX12_bars 13 = .ok (.dup, 1) := by decide +kernel
theorem dX12_bars_14 : decode cX12_bars 14 = .ok (.invokespecial 78, 3) := by decide +kernel
theorem dX12_bars_17 : decode cX12_bars 17 = .ok (.athrow, 1) := by decide +kernel
theorem dX12_bars_18 : decode cX12_bars 18 = .ok (.aload_n 2, 1) := by decide +kernel
theorem dX12_bars_19 : decode cX12_bars 19 = .ok (.getfield 166, 3) := by decide +kernel
theorem dX12_bars_22 : decode cX12_bars 22 = .ok (.getstatic 170, 3) := by decide +kernel
theorem dX12_bars_25 : decode cX12_bars 25 = .ok (.if_acmp .eq 13, 3) := by decide +kernel
theorem dX12_bars_28 : decode cX12_bars 28 = .ok (.aload_n 2, 1) := by decide +kernel
theorem dX12_bars_29 : decode cX12_bars 29 = .ok (.getfield 166, 3) := by decide +kernel
theorem dX12_bars_32 : decode cX12_bars 32 = .ok (.getstatic 175, 3) := by decide +kernel
theorem dX12_bars_35 : decode cX12_bars 35 = .ok (.if_acmp .ne 11, 3) := by decide +kernel
theorem dX12_bars_38 : decode cX12_bars 38 = .ok (.new 83, 3) := by decide +kernel
theorem dX12_bars_41 : decode cX12_bars 41 = .ok (.dup, 1) := by decide +kernel
theorem dX12_bars_42 : decode cX12_bars 42 = .ok (.invokespecial 85, 3) := by decide +kernel
theorem dX12_bars_45 : decode cX12_bars 45 = .ok (.athrow, 1) := by decide +kernel
theorem dX12_bars_46 : decode cX12_bars 46 = .ok (.aload_n 2, 1) := by decide +kernel
theorem dX12_bars_47 : decode cX12_bars 47 = .ok (.getfield 178, 3) := by decide +kernel
theorem dX12_bars_50 : decode cX12_bars 50 = .ok (.ifCond .eq 13, 3) := by decide +kernel
theorem dX12_bars_53 : decode cX12_bars 53 = .ok (.aload_n 2, 1) := by decide +kernel
theorem dX12_bars_54 : decode cX12_bars 54 = .ok (.getfield 182, 3) := by decide +kernel
theorem dX12_bars_57 : decode cX12_bars 57 = .ok (.getfield 185, 3) := by decide +kernel
theorem dX12_bars_60 : decode cX12_bars 60 = .ok (.goto 4, 3) := by decide +kernel
theorem dX12_bars_63 : decode cX12_bars 63 = .ok (.iconst 0, 1) := by decide +kernel
theorem dX12_bars_64 : decode cX12_bars 64 = .ok (.ireturn, 1) := by decide +kernel
theorem dX12_lines_0 : decode cX12_lines 0 = .ok (.aload_n 0, 1) := by decide +kernel
theorem dX12_lines_1 : decode cX12_lines 1 = .ok (.iload_n 1, 1) := by decide +kernel
theorem dX12_lines_2 : decode cX12_lines 2 = .ok (.invokevirtual 68, 3) := by decide +kernel
theorem dX12_lines_5 : decode cX12_lines 5 = .ok (.astore_n 2, 1) := by decide +kernel
theorem dX12_lines_6 : decode cX12_lines 6 = .ok (.aload_n 2, 1) := by decide +kernel
theorem dX12_lines_7 : decode cX12_lines 7 = .ok (.ifnonnull 11, 3) := by decide +kernel
theorem dX12_lines_10 : decode cX12_lines 10 = .ok (.new 76, 3) := by decide +kernel
theorem dX12_lines_13 : decode cX12_lines 13 = .ok (.dup, 1) := by decide +kernel
theorem dX12_lines_14 : decode cX12_lines 14 = .ok (.invokespecial 78, 3) := by decide +kernel
theorem dX12_lines_17 : decode cX12_lines 17 = .ok (.athrow, 1) := by decide +kernel
theorem dX12_lines_18 : decode cX12_lines 18 = .ok (.aload_n 2, 1) := by decide +kernel
theorem dX12_lines_19 : decode cX12_lines 19 = .ok (.invokevirtual 190, 3) := by decide +kernel
theorem dX12_lines_22 : decode cX12_lines 22 = .ok (.ifCond .ne 11, 3) := by decide +kernel
theorem dX12_lines_25 : decode cX12_lines 25 = .ok (.new 83, 3) := by decide +kernel
theorem dX12_lines_28 : decode cX12_lines 28 = .ok (.dup, 1) := by decide +kernel
theorem dX12_lines_29 : decode cX12_lines 29 = .ok (.invokespecial 85, 3) := by decide +kernel
theorem dX12_lines_32 : decode cX12_lines 32 = .ok (.athrow, 1) := by decide +kernel
theorem dX12_lines_33 : decode cX12_lines 33 = .ok (.iconst 0, 1) := by decide +kernel
theorem dX12_lines_34 : decode cX12_lines 34 = .ok (.istore_n 3, 1) := by decide +kernel
theorem dX12_lines_35 : decode cX12_lines 35 = .ok (.aload_n 2, 1) := by decide +kernel
theorem dX12_lines_36 : decode cX12_lines 36 = .ok (.getfield 182, 3) := by decide +kernel
theorem dX12_lines_39 : decode cX12_lines 39 = .ok (.getfield 194, 3) := by decide +kernel
theorem dX12_lines_42 : decode cX12_lines 42 = .ok (.astore 4, 2) := by decide +kernel
theorem dX12_lines_44 : decode cX12_lines 44 = .ok (.aload 4, 2) := by decide +kernel
theorem dX12_lines_46 : decode cX12_lines 46 = .ok (.ifnull 16, 3) := by decide +kernel
theorem dX12_lines_49 : decode cX12_lines 49 = .ok (.iinc 3 1, 3) := by decide +kernel
theorem dX12_lines_52 : decode cX12_lines 52 = .ok (.aload 4, 2) := by decide +kernel
theorem dX12_lines_54 : decode cX12_lines 54 = .ok (.getfield 198, 3) := by decide +kernel
theorem dX12_lines_57 : decode cX12_lines 57 = .ok (.astore 4, 2) := by decide +kernel
theorem dX12_lines_59 : decode cX12_lines 59 = .ok (.goto (-15), 3) := by decide +kernel
theorem dX12_lines_62 : decode cX12_lines 62 = .ok (.iload_n 3, 1) := by decide +kernel
theorem dX12_lines_63 : decode cX12_lines 63 = .ok (.ireturn, 1) := by decide +kernel
theorem dX12_line_0 : decode cX12_line 0 = .ok (.aload_n 0, 1) := by decide +kernel
theorem dX12_line_1 : decode cX12_line 1 = .ok (.iload_n 1, 1) := by decide +kernel
theorem dX12_line_2 : decode cX12_line 2 = .ok (.invokevirtual 68, 3) := by decide +kernel
theorem dX12_line_5 : decode cX12_line 5 = .ok (.astore 4, 2) := by decide +kernel
theorem dX12_line_7 : decode cX12_line 7 = .ok (.aload 4, 2) := by decide +kernel
theorem dX12_line_9 : decode cX12_line 9 = .ok (.ifnonnull 11, 3) := by decide +kernel
theorem dX12_line_12 : decode cX12_line 12 = .ok (.new 76, 3) := by decide +kernel
theorem dX12_line_15 : decode cX12_line 15 = .ok (.dup, 1) := by decide +kernel
theorem dX12_line_16 : decode cX12_line 16 = .ok (.invokespecial 78, 3) := by decide +kernel
theorem dX12_line_19 : decode cX12_line 19 = .ok (.athrow, 1) := by decide +kernel
theorem dX12_line_20 : decode cX12_line 20 = .ok (.iload_n 3, 1) := by decide +kernel
theorem dX12_line_21 : decode cX12_line 21 = .ok (.ifCond .lt 8, 3) := by decide +kernel
theorem dX12_line_24 : decode cX12_line 24 = .ok (.iload_n 3, 1) := by decide +kernel
theorem dX12_line_25 : decode cX12_line 25 = .ok (.iconst 4, 1) := by decide +kernel
theorem dX12_line_26 : decode cX12_line 26 = .ok (.if_icmp .le 7, 3) := by decide +kernel
theorem dX12_line_29 : decode cX12_line 29 = .ok (.iconst 1, 1) := by decide +kernel
theorem dX12_line_30 : decode cX12_line 30 = .ok (.goto 4, 3) := by decide +kernel
theorem dX12_line_33 : decode cX12_line 33 = .ok (.iconst 0, 1) := by decide +kernel
theorem dX12_line_34 : decode cX12_line 34 = .ok (.istore 5, 2) := by decide +kernel
theorem dX12_line_36 : decode cX12_line 36 = .ok (.aload 4, 2) := by decide +kernel
theorem dX12_line_38 : decode cX12_line 38 = .ok (.invokevirtual 190, 3) := by decide +kernel
theorem dX12_line_41 : decode cX12_line 41 = .ok (.ifCond .ne 24, 3) := by decide +kernel
theorem dX12_line_44 : decode cX12_line 44 = .ok (.iload 5, 2) := by decide +kernel
theorem dX12_line_46 : decode cX12_line 46 = .ok (.ifCond .eq 11, 3) := by decide +kernel
theorem dX12_line_49 : decode cX12_line 49 = .ok (.new 92, 3) := by decide +kernel
theorem dX12_line_52 : decode cX12_line 52 = .ok (.dup, 1) := by decide +kernel
theorem dX12_line_53 : decode cX12_line 53 = .ok (.invokespecial 94, 3) := by decide +kernel
theorem dX12_line_56 : decode cX12_line 56 = .ok (.athrow, 1) := by decide +kernel
theorem dX12_line_57 : decode cX12_line 57 = .ok (.new 83, 3) := by decide +kernel
theorem dX12_line_60 : decode cX12_line 60 = .ok (.dup, 1) := by decide +kernel
theorem dX12_line_61 : decode cX12_line 61 = .ok (.invokespecial 85, 3) := by decide +kernel
theorem dX12_line_64 : decode cX12_line 64 = .ok (.athrow, 1) := by decide +kernel
theorem dX12_line_65 : decode cX12_line 65 = .ok (.aload 4, 2) := by decide +kernel
theorem dX12_line_67 : decode cX12_line 67 = .ok (.iload_n 2, 1) := by decide +kernel
theorem dX12_line_68 : decode cX12_line 68 = .ok (.invokestatic 203, 3) := by decide +kernel
theorem dX12_line_71 : decode cX12_line 71 = .ok (.astore 6, 2) := by decide +kernel
theorem dX12_line_73 : decode cX12_line 73 = .ok (.aload 6, 2) := by decide +kernel
theorem dX12_line_75 : decode cX12_line 75 = .ok (.ifnonnull 11, 3) := by decide +kernel
theorem dX12_line_78 : decode cX12_line 78 = .ok (.new 76, 3) := by decide +kernel
theorem dX12_line_81 : decode cX12_line 81 = .ok (.dup, 1) := by decide +kernel
theorem dX12_line_82 : decode cX12_line 82 = .ok (.invokespecial 78, 3) := by decide +kernel
theorem dX12_line_85 : decode cX12_line 85 = .ok (.athrow, 1) := by decide +kernel
theorem dX12_line_86 : decode cX12_line 86 = .ok (.iload 5, 2) := by decide +kernel
theorem dX12_line_88 : decode cX12_line 88 = .ok (.ifCond .eq 11, 3) := by decide +kernel
theorem dX12_line_91 : decode cX12_line 91 = .ok (.new 92, 3) := by decide +kernel
theorem dX12_line_94 : decode cX12_line 94 = .ok (.dup, 1) := by decide +kernel
theorem dX12_line_95 : decode cX12_line 95 = .ok (.invokespecial 94, 3) := by decide +kernel
theorem dX12_line_98 : decode cX12_line 98 = .ok (.athrow, 1) := by decide +kernel
theorem dX12_line_99 : decode cX12_line 99 = .ok (.iload_n 3, 1) := by decide +kernel
theorem dX12_line_100 : decode cX12_line 100 = .ok (.tableswitch 74 0 3 #[32, 47, 62, 68], 32) := by decide +kernel
theorem dX12_line_132 : decode cX12_line 132 = .ok (.aload 4, 2) := by decide +kernel
theorem dX12_line_134 : decode cX12_line 134 = .ok (.getfield 182, 3) := by decide +kernel
theorem dX12_line_137 : decode cX12_line 137 = .ok (.getfield 207, 3) := by decide +kernel
theorem dX12_line_140 : decode cX12_line 140 = .ok (.aload 6, 2) := by decide +kernel
theorem dX12_line_142 : decode cX12_line 142 = .ok (.getfield 210, 3) := by decide +kernel
theorem dX12_line_145 : decode cX12_line 145 = .ok (.iadd, 1) := by decide +kernel
theorem dX12_line_146 : decode cX12_line 146 = .ok (.ireturn, 1) := by decide +kernel
theorem dX12_line_147 : decode cX12_line 147 = .ok (.aload 4, 2) := by decide +kernel
theorem dX12_line_149 : decode cX12_line 149 = .ok (.getfield 182, 3) := by decide +kernel
theorem dX12_line_152 : decode cX12_line 152 = .ok (.getfield 213, 3) := by decide +kernel
theorem dX12_line_155 : decode cX12_line 155 = .ok (.aload 6, 2) := by decide +kernel
theorem dX12_line_157 : decode cX12_line 157 = .ok (.getfield 216, 3) := by decide +kernel
theorem dX12_line_160 : decode cX12_line 160 = .ok (.iadd, 1) := by decide +kernel
theorem dX12_line_161 : decode cX12_line 161 = .ok (.ireturn, 1) := by decide +kernel
theorem dX12_line_162 : decode cX12_line 162 = .ok (.aload 6, 2) := by decide +kernel
theorem dX12_line_164 : decode cX12_line 164 = .ok (.getfield 219, 3) := by decide +kernel
theorem dX12_line_167 : decode cX12_line 167 = .ok (.ireturn, 1) := by decide +kernel
theorem dX12_line_168 : decode cX12_line 168 = .ok (.aload 6, 2) := by decide +kernel
theorem dX12_line_170 : decode cX12_line 170 = .ok (.getfield 222, 3) := by decide +kernel
theorem dX12_line_173 : decode cX12_line 173 = .ok (.ireturn, 1) := by decide +kernel
theorem dX12_line_174 : decode cX12_line 174 = .ok (.aload 6, 2) := by decide +kernel
theorem dX12_line_176 : decode cX12_line 176 = .ok (.getfield 225, 3) := by decide +kernel
theorem dX12_line_179 : decode cX12_line 179 = .ok (.ireturn, 1) := by decide +kernel
theorem dX12_painted_0 : decode cX12_painted 0 = .ok (.aload_n 0, 1) := by decide +kernel
theorem dX12_painted_1 : decode cX12_painted 1 = .ok (.getfield 51, 3) := by decide +kernel
theorem dX12_painted_4 : decode cX12_painted 4 = .ok (.getfield 232, 3) := by decide +kernel
theorem dX12_painted_7 : decode cX12_painted 7 = .ok (.ireturn, 1) := by decide +kernel
theorem dX12_nodeAt_0 : decode cX12_nodeAt 0 = .ok (.iload_n 1, 1) := by decide +kernel
theorem dX12_nodeAt_1 : decode cX12_nodeAt 1 = .ok (.ifCond .lt 9, 3) := by decide +kernel
theorem dX12_nodeAt_4 : decode cX12_nodeAt 4 = .ok (.iload_n 1, 1) := by decide +kernel
theorem dX12_nodeAt_5 : decode cX12_nodeAt 5 = .ok (.bipush 60, 2) := by decide +kernel
theorem dX12_nodeAt_7 : decode cX12_nodeAt 7 = .ok (.if_icmp .lt 7, 3) := by decide +kernel
theorem dX12_nodeAt_10 : decode cX12_nodeAt 10 = .ok (.aconst_null, 1) := by decide +kernel
theorem dX12_nodeAt_11 : decode cX12_nodeAt 11 = .ok (.goto 9, 3) := by decide +kernel
theorem dX12_nodeAt_14 : decode cX12_nodeAt 14 = .ok (.aload_n 0, 1) := by decide +kernel
theorem dX12_nodeAt_15 : decode cX12_nodeAt 15 = .ok (.getfield 21, 3) := by decide +kernel
theorem dX12_nodeAt_18 : decode cX12_nodeAt 18 = .ok (.iload_n 1, 1) := by decide +kernel
theorem dX12_nodeAt_19 : decode cX12_nodeAt 19 = .ok (.aaload, 1) := by decide +kernel
theorem dX12_nodeAt_20 : decode cX12_nodeAt 20 = .ok (.areturn, 1) := by decide +kernel
theorem dX12_boxAt_0 : decode cX12_boxAt 0 = .ok (.aload_n 0, 1) := by decide +kernel
theorem dX12_boxAt_1 : decode cX12_boxAt 1 = .ok (.iload_n 1, 1) := by decide +kernel
theorem dX12_boxAt_2 : decode cX12_boxAt 2 = .ok (.invokevirtual 111, 3) := by decide +kernel
theorem dX12_boxAt_5 : decode cX12_boxAt 5 = .ok (.astore_n 2, 1) := by decide +kernel
theorem dX12_boxAt_6 : decode cX12_boxAt 6 = .ok (.aload_n 2, 1) := by decide +kernel
theorem dX12_boxAt_7 : decode cX12_boxAt 7 = .ok (.ifnull 10, 3) := by decide +kernel
theorem dX12_boxAt_10 : decode cX12_boxAt 10 = .ok (.aload_n 2, 1) := by decide +kernel
theorem dX12_boxAt_11 : decode cX12_boxAt 11 = .ok (.invokevirtual 242, 3) := by decide +kernel
theorem dX12_boxAt_14 : decode cX12_boxAt 14 = .ok (.ifCond .eq 7, 3) := by decide +kernel
theorem dX12_boxAt_17 : decode cX12_boxAt 17 = .ok (.aconst_null, 1) := by decide +kernel
theorem dX12_boxAt_18 : decode cX12_boxAt 18 = .ok (.goto 4, 3) := by decide +kernel
theorem dX12_boxAt_21 : decode cX12_boxAt 21 = .ok (.aload_n 2, 1) := by decide +kernel
theorem dX12_boxAt_22 : decode cX12_boxAt 22 = .ok (.areturn, 1) := by decide +kernel
theorem dX12_textAt_0 : decode cX12_textAt 0 = .ok (.aload_n 0, 1) := by decide +kernel
theorem dX12_textAt_1 : decode cX12_textAt 1 = .ok (.iload_n 1, 1) := by decide +kernel
theorem dX12_textAt_2 : decode cX12_textAt 2 = .ok (.invokevirtual 111, 3) := by decide +kernel
theorem dX12_textAt_5 : decode cX12_textAt 5 = .ok (.astore_n 2, 1) := by decide +kernel
theorem dX12_textAt_6 : decode cX12_textAt 6 = .ok (.aload_n 2, 1) := by decide +kernel
theorem dX12_textAt_7 : decode cX12_textAt 7 = .ok (.ifnull 10, 3) := by decide +kernel
theorem dX12_textAt_10 : decode cX12_textAt 10 = .ok (.aload_n 2, 1) := by decide +kernel
theorem dX12_textAt_11 : decode cX12_textAt 11 = .ok (.invokevirtual 242, 3) := by decide +kernel
theorem dX12_textAt_14 : decode cX12_textAt 14 = .ok (.ifCond .ne 7, 3) := by decide +kernel
theorem dX12_textAt_17 : decode cX12_textAt 17 = .ok (.aconst_null, 1) := by decide +kernel
theorem dX12_textAt_18 : decode cX12_textAt 18 = .ok (.goto 4, 3) := by decide +kernel
theorem dX12_textAt_21 : decode cX12_textAt 21 = .ok (.aload_n 2, 1) := by decide +kernel
theorem dX12_textAt_22 : decode cX12_textAt 22 = .ok (.areturn, 1) := by decide +kernel
theorem dX12_placedAt_0 : decode cX12_placedAt 0 = .ok (.aload_n 0, 1) := by decide +kernel
theorem dX12_placedAt_1 : decode cX12_placedAt 1 = .ok (.iload_n 1, 1) := by decide +kernel
theorem dX12_placedAt_2 : decode cX12_placedAt 2 = .ok (.invokevirtual 111, 3) := by decide +kernel
theorem dX12_placedAt_5 : decode cX12_placedAt 5 = .ok (.astore_n 2, 1) := by decide +kernel
theorem dX12_placedAt_6 : decode cX12_placedAt 6 = .ok (.aload_n 2, 1) := by decide +kernel
theorem dX12_placedAt_7 : decode cX12_placedAt 7 = .ok (.ifnonnull 11, 3) := by decide +kernel
theorem dX12_placedAt_10 : decode cX12_placedAt 10 = .ok (.new 76, 3) := by decide +kernel
theorem dX12_placedAt_13 : decode cX12_placedAt 13 = .ok (.dup, 1) := by decide +kernel
theorem dX12_placedAt_14 : decode cX12_placedAt 14 = .ok (.invokespecial 78, 3) := by decide +kernel
theorem dX12_placedAt_17 : decode cX12_placedAt 17 = .ok (.athrow, 1) := by decide +kernel
theorem dX12_placedAt_18 : decode cX12_placedAt 18 = .ok (.aload_n 2, 1) := by decide +kernel
theorem dX12_placedAt_19 : decode cX12_placedAt 19 = .ok (.invokevirtual 242, 3) := by decide +kernel
theorem dX12_placedAt_22 : decode cX12_placedAt 22 = .ok (.ifCond .eq 14, 3) := by decide +kernel
theorem dX12_placedAt_25 : decode cX12_placedAt 25 = .ok (.aload_n 2, 1) := by decide +kernel
theorem dX12_placedAt_26 : decode cX12_placedAt 26 = .ok (.getfield 98, 3) := by decide +kernel
theorem dX12_placedAt_29 : decode cX12_placedAt 29 = .ok (.ifCond .ne 7, 3) := by decide +kernel
theorem dX12_placedAt_32 : decode cX12_placedAt 32 = .ok (.iconst 1, 1) := by decide +kernel
theorem dX12_placedAt_33 : decode cX12_placedAt 33 = .ok (.goto 4, 3) := by decide +kernel
theorem dX12_placedAt_36 : decode cX12_placedAt 36 = .ok (.iconst 0, 1) := by decide +kernel
theorem dX12_placedAt_37 : decode cX12_placedAt 37 = .ok (.istore_n 3, 1) := by decide +kernel
theorem dX12_placedAt_38 : decode cX12_placedAt 38 = .ok (.aload_n 2, 1) := by decide +kernel
theorem dX12_placedAt_39 : decode cX12_placedAt 39 = .ok (.getfield 166, 3) := by decide +kernel
theorem dX12_placedAt_42 : decode cX12_placedAt 42 = .ok (.getstatic 170, 3) := by decide +kernel
theorem dX12_placedAt_45 : decode cX12_placedAt 45 = .ok (.if_acmp .eq 17, 3) := by decide +kernel
theorem dX12_placedAt_48 : decode cX12_placedAt 48 = .ok (.aload_n 2, 1) := by decide +kernel
theorem dX12_placedAt_49 : decode cX12_placedAt 49 = .ok (.getfield 166, 3) := by decide +kernel
theorem dX12_placedAt_52 : decode cX12_placedAt 52 = .ok (.getstatic 175, 3) := by decide +kernel
theorem dX12_placedAt_55 : decode cX12_placedAt 55 = .ok (.if_acmp .eq 7, 3) := by decide +kernel
theorem dX12_placedAt_58 : decode cX12_placedAt 58 = .ok (.iload_n 3, 1) := by decide +kernel
theorem dX12_placedAt_59 : decode cX12_placedAt 59 = .ok (.ifCond .eq 11, 3) := by decide +kernel
theorem dX12_placedAt_62 : decode cX12_placedAt 62 = .ok (.new 83, 3) := by decide +kernel
theorem dX12_placedAt_65 : decode cX12_placedAt 65 = .ok (.dup, 1) := by decide +kernel
theorem dX12_placedAt_66 : decode cX12_placedAt 66 = .ok (.invokespecial 85, 3) := by decide +kernel
theorem dX12_placedAt_69 : decode cX12_placedAt 69 = .ok (.athrow, 1) := by decide +kernel
theorem dX12_placedAt_70 : decode cX12_placedAt 70 = .ok (.aload_n 2, 1) := by decide +kernel
theorem dX12_placedAt_71 : decode cX12_placedAt 71 = .ok (.areturn, 1) := by decide +kernel
theorem dX12_lineAt_0 : decode cX12_lineAt 0 = .ok (.iload_n 1, 1) := by decide +kernel
theorem dX12_lineAt_1 : decode cX12_lineAt 1 = .ok (.istore_n 2, 1) := by decide +kernel
theorem dX12_lineAt_2 : decode cX12_lineAt 2 = .ok (.iload_n 2, 1) := by decide +kernel
theorem dX12_lineAt_3 : decode cX12_lineAt 3 = .ok (.ifCond .ge 5, 3) := by decide +kernel
theorem dX12_lineAt_6 : decode cX12_lineAt 6 = .ok (.aconst_null, 1) := by decide +kernel
theorem dX12_lineAt_7 : decode cX12_lineAt 7 = .ok (.areturn, 1) := by decide +kernel
theorem dX12_lineAt_8 : decode cX12_lineAt 8 = .ok (.aload_n 0, 1) := by decide +kernel
theorem dX12_lineAt_9 : decode cX12_lineAt 9 = .ok (.getfield 182, 3) := by decide +kernel
theorem dX12_lineAt_12 : decode cX12_lineAt 12 = .ok (.getfield 194, 3) := by decide +kernel
theorem dX12_lineAt_15 : decode cX12_lineAt 15 = .ok (.astore_n 3, 1) := by decide +kernel
theorem dX12_lineAt_16 : decode cX12_lineAt 16 = .ok (.aload_n 3, 1) := by decide +kernel
theorem dX12_lineAt_17 : decode cX12_lineAt 17 = .ok (.ifnull 18, 3) := by decide +kernel
theorem dX12_lineAt_20 : decode cX12_lineAt 20 = .ok (.iload_n 2, 1) := by decide +kernel
theorem dX12_lineAt_21 : decode cX12_lineAt 21 = .ok (.ifCond .le 14, 3) := by decide +kernel
theorem dX12_lineAt_24 : decode cX12_lineAt 24 = .ok (.aload_n 3, 1) := by decide +kernel
theorem dX12_lineAt_25 : decode cX12_lineAt 25 = .ok (.getfield 198, 3) := by decide +kernel
theorem dX12_lineAt_28 : decode cX12_lineAt 28 = .ok (.astore_n 3, 1) := by decide +kernel
theorem dX12_lineAt_29 : decode cX12_lineAt 29 = .ok (.iinc 2 (-1), 3) := by decide +kernel
theorem dX12_lineAt_32 : decode cX12_lineAt 32 = .ok (.goto (-16), 3) := by decide +kernel
theorem dX12_lineAt_35 : decode cX12_lineAt 35 = .ok (.aload_n 3, 1) := by decide +kernel
theorem dX12_lineAt_36 : decode cX12_lineAt 36 = .ok (.areturn, 1) := by decide +kernel
theorem dX12_hasRoom_0 : decode cX12_hasRoom 0 = .ok (.aload_n 0, 1) := by decide +kernel
theorem dX12_hasRoom_1 : decode cX12_hasRoom 1 = .ok (.getfield 29, 3) := by decide +kernel
theorem dX12_hasRoom_4 : decode cX12_hasRoom 4 = .ok (.bipush 60, 2) := by decide +kernel
theorem dX12_hasRoom_6 : decode cX12_hasRoom 6 = .ok (.if_icmp .ge 16, 3) := by decide +kernel
theorem dX12_hasRoom_9 : decode cX12_hasRoom 9 = .ok (.aload_n 1, 1) := by decide +kernel
theorem dX12_hasRoom_10 : decode cX12_hasRoom 10 = .ok (.getfield 248, 3) := by decide +kernel
theorem dX12_hasRoom_13 : decode cX12_hasRoom 13 = .ok (.bipush 20, 2) := by decide +kernel
theorem dX12_hasRoom_15 : decode cX12_hasRoom 15 = .ok (.if_icmp .ge 7, 3) := by decide +kernel
theorem dX12_hasRoom_18 : decode cX12_hasRoom 18 = .ok (.iconst 1, 1) := by decide +kernel
theorem dX12_hasRoom_19 : decode cX12_hasRoom 19 = .ok (.goto 4, 3) := by decide +kernel
theorem dX12_hasRoom_22 : decode cX12_hasRoom 22 = .ok (.iconst 0, 1) := by decide +kernel
theorem dX12_hasRoom_23 : decode cX12_hasRoom 23 = .ok (.ireturn, 1) := by decide +kernel
theorem dX12_insertNode_0 : decode cX12_insertNode 0 = .ok (.aload_n 0, 1) := by decide +kernel
theorem dX12_insertNode_1 : decode cX12_insertNode 1 = .ok (.getfield 29, 3) := by decide +kernel
theorem dX12_insertNode_4 : decode cX12_insertNode 4 = .ok (.istore 4, 2) := by decide +kernel
theorem dX12_insertNode_6 : decode cX12_insertNode 6 = .ok (.iload 4, 2) := by decide +kernel
theorem dX12_insertNode_8 : decode cX12_insertNode 8 = .ok (.ifCond .lt 10, 3) := by decide +kernel
theorem dX12_insertNode_11 : decode cX12_insertNode 11 = .ok (.iload 4, 2) := by decide +kernel
theorem dX12_insertNode_13 : decode cX12_insertNode 13 = .ok (.bipush 60, 2) := by decide +kernel
theorem dX12_insertNode_15 : decode cX12_insertNode 15 = .ok (.if_icmp .lt 5, 3) := by decide +kernel
theorem dX12_insertNode_18 : decode cX12_insertNode 18 = .ok (.iconst (-1), 1) := by decide +kernel
theorem dX12_insertNode_19 : decode cX12_insertNode 19 = .ok (.ireturn, 1) := by decide +kernel
theorem dX12_insertNode_20 : decode cX12_insertNode 20 = .ok (.new 7, 3) := by decide +kernel
theorem dX12_insertNode_23 : decode cX12_insertNode 23 = .ok (.dup, 1) := by decide +kernel
theorem dX12_insertNode_24 : decode cX12_insertNode 24 = .ok (.iload 4, 2) := by decide +kernel
theorem dX12_insertNode_26 : decode cX12_insertNode 26 = .ok (.aload_n 1, 1) := by decide +kernel
theorem dX12_insertNode_27 : decode cX12_insertNode 27 = .ok (.iload_n 3, 1) := by decide +kernel
theorem dX12_insertNode_28 : decode cX12_insertNode 28 = .ok (.invokespecial 9, 3) := by decide +kernel
theorem dX12_insertNode_31 : decode cX12_insertNode 31 = .ok (.astore 5, 2) := by decide +kernel
theorem dX12_insertNode_33 : decode cX12_insertNode 33 = .ok (.aload_n 0, 1) := by decide +kernel
theorem dX12_insertNode_34 : decode cX12_insertNode 34 = .ok (.getfield 21, 3) := by decide +kernel
theorem dX12_insertNode_37 : decode cX12_insertNode 37 = .ok (.iload 4, 2) := by decide +kernel
theorem dX12_insertNode_39 : decode cX12_insertNode 39 = .ok (.aload 5, 2) := by decide +kernel
theorem dX12_insertNode_41 : decode cX12_insertNode 41 = .ok (.aastore, 1) := by decide +kernel
theorem dX12_insertNode_42 : decode cX12_insertNode 42 = .ok (.aload_n 0, 1) := by decide +kernel
theorem dX12_insertNode_43 : decode cX12_insertNode 43 = .ok (.dup, 1) := by decide +kernel
theorem dX12_insertNode_44 : decode cX12_insertNode 44 = .ok (.getfield 29, 3) := by decide +kernel
theorem dX12_insertNode_47 : decode cX12_insertNode 47 = .ok (.iconst 1, 1) := by decide +kernel
theorem dX12_insertNode_48 : decode cX12_insertNode 48 = .ok (.iadd, 1) := by decide +kernel
theorem dX12_insertNode_49 : decode cX12_insertNode 49 = .ok (.putfield 29, 3) := by decide +kernel
theorem dX12_insertNode_52 : decode cX12_insertNode 52 = .ok (.aload_n 1, 1) := by decide +kernel
theorem dX12_insertNode_53 : decode cX12_insertNode 53 = .ok (.aload 5, 2) := by decide +kernel
theorem dX12_insertNode_55 : decode cX12_insertNode 55 = .ok (.iload_n 2, 1) := by decide +kernel
theorem dX12_insertNode_56 : decode cX12_insertNode 56 = .ok (.invokevirtual 251, 3) := by decide +kernel
theorem dX12_insertNode_59 : decode cX12_insertNode 59 = .ok (.aload_n 0, 1) := by decide +kernel
theorem dX12_insertNode_60 : decode cX12_insertNode 60 = .ok (.aload_n 1, 1) := by decide +kernel
theorem dX12_insertNode_61 : decode cX12_insertNode 61 = .ok (.invokevirtual 108, 3) := by decide +kernel
theorem dX12_insertNode_64 : decode cX12_insertNode 64 = .ok (.iload 4, 2) := by decide +kernel
theorem dX12_insertNode_66 : decode cX12_insertNode 66 = .ok (.ireturn, 1) := by decide +kernel
theorem dX12_allows_0 : decode cX12_allows 0 = .ok (.iload_n 0, 1) := by decide +kernel
theorem dX12_allows_1 : decode cX12_allows 1 = .ok (.tableswitch 274 0 20 #[99, 114, 99, 114, 129, 155, 274, 274, 274, 274, 274, 274, 274, 274, 114, 180, 198, 216, 232, 232, 259], 99) := by decide +kernel
theorem dX12_allows_100 : decode cX12_allows 100 = .ok (.iload_n 1, 1) := by decide +kernel
theorem dX12_allows_101 : decode cX12_allows 101 = .ok (.ifCond .lt 12, 3) := by decide +kernel
theorem dX12_allows_104 : decode cX12_allows 104 = .ok (.iload_n 1, 1) := by decide +kernel
theorem dX12_allows_105 : decode cX12_allows 105 = .ok (.iconst 3, 1) := by decide +kernel
theorem dX12_allows_106 : decode cX12_allows 106 = .ok (.if_icmp .gt 7, 3) := by decide +kernel
theorem dX12_allows_109 : decode cX12_allows 109 = .ok (.iconst 1, 1) := by decide +kernel
theorem dX12_allows_110 : decode cX12_allows 110 = .ok (.goto 4, 3) := by decide +kernel
theorem dX12_allows_113 : decode cX12_allows 113 = .ok (.iconst 0, 1) := by decide +kernel
theorem dX12_allows_114 : decode cX12_allows 114 = .ok (.ireturn, 1) := by decide +kernel
theorem dX12_allows_115 : decode cX12_allows 115 = .ok (.iload_n 1, 1) := by decide +kernel
theorem dX12_allows_116 : decode cX12_allows 116 = .ok (.ifCond .lt 12, 3) := by decide +kernel
theorem dX12_allows_119 : decode cX12_allows 119 = .ok (.iload_n 1, 1) := by decide +kernel
theorem dX12_allows_120 : decode cX12_allows 120 = .ok (.iconst 2, 1) := by decide +kernel
theorem dX12_allows_121 : decode cX12_allows 121 = .ok (.if_icmp .gt 7, 3) := by decide +kernel
theorem dX12_allows_124 : decode cX12_allows 124 = .ok (.iconst 1, 1) := by decide +kernel
theorem dX12_allows_125 : decode cX12_allows 125 = .ok (.goto 4, 3) := by decide +kernel
theorem dX12_allows_128 : decode cX12_allows 128 = .ok (.iconst 0, 1) := by decide +kernel
theorem dX12_allows_129 : decode cX12_allows 129 = .ok (.ireturn, 1) := by decide +kernel
theorem dX12_allows_130 : decode cX12_allows 130 = .ok (.iload_n 1, 1) := by decide +kernel
theorem dX12_allows_131 : decode cX12_allows 131 = .ok (.bipush (-4), 2) := by decide +kernel
theorem dX12_allows_133 : decode cX12_allows 133 = .ok (.if_icmp .lt 10, 3) := by decide +kernel
theorem dX12_allows_136 : decode cX12_allows 136 = .ok (.iload_n 1, 1) := by decide +kernel
theorem dX12_allows_137 : decode cX12_allows 137 = .ok (.sipush 200, 3) := by decide +kernel
theorem dX12_allows_140 : decode cX12_allows 140 = .ok (.if_icmp .le 10, 3) := by decide +kernel
theorem dX12_allows_143 : decode cX12_allows 143 = .ok (.iload_n 1, 1) := by decide +kernel
theorem dX12_allows_144 : decode cX12_allows 144 = .ok (.invokestatic 255, 3) := by decide +kernel
theorem dX12_allows_147 : decode cX12_allows 147 = .ok (.ifCond .eq 7, 3) := by decide +kernel
theorem dX12_allows_150 : decode cX12_allows 150 = .ok (.iconst 1, 1) := by decide +kernel
theorem dX12_allows_151 : decode cX12_allows 151 = .ok (.goto 4, 3) := by decide +kernel
theorem dX12_allows_154 : decode cX12_allows 154 = .ok (.iconst 0, 1) := by decide +kernel
theorem dX12_allows_155 : decode cX12_allows 155 = .ok (.ireturn, 1) := by decide +kernel
theorem dX12_allows_156 : decode cX12_allows 156 = .ok (.iload_n 1, 1) := by decide +kernel
theorem dX12_allows_157 : decode cX12_allows 157 = .ok (.iconst (-1), 1) := by decide +kernel
theorem dX12_allows_158 : decode cX12_allows 158 = .ok (.if_icmp .lt 10, 3) := by decide +kernel
theorem dX12_allows_161 : decode cX12_allows 161 = .ok (.iload_n 1, 1) := by decide +kernel
theorem dX12_allows_162 : decode cX12_allows 162 = .ok (.sipush 200, 3) := by decide +kernel
theorem dX12_allows_165 : decode cX12_allows 165 = .ok (.if_icmp .le 10, 3) := by decide +kernel
theorem dX12_allows_168 : decode cX12_allows 168 = .ok (.iload_n 1, 1) := by decide +kernel
theorem dX12_allows_169 : decode cX12_allows 169 = .ok (.invokestatic 255, 3) := by decide +kernel
theorem dX12_allows_172 : decode cX12_allows 172 = .ok (.ifCond .eq 7, 3) := by decide +kernel
theorem dX12_allows_175 : decode cX12_allows 175 = .ok (.iconst 1, 1) := by decide +kernel
theorem dX12_allows_176 : decode cX12_allows 176 = .ok (.goto 4, 3) := by decide +kernel
theorem dX12_allows_179 : decode cX12_allows 179 = .ok (.iconst 0, 1) := by decide +kernel
theorem dX12_allows_180 : decode cX12_allows 180 = .ok (.ireturn, 1) := by decide +kernel
theorem dX12_allows_181 : decode cX12_allows 181 = .ok (.iload_n 1, 1) := by decide +kernel
theorem dX12_allows_182 : decode cX12_allows 182 = .ok (.bipush (-9), 2) := by decide +kernel
theorem dX12_allows_184 : decode cX12_allows 184 = .ok (.if_icmp .lt 13, 3) := by decide +kernel
theorem dX12_allows_187 : decode cX12_allows 187 = .ok (.iload_n 1, 1) := by decide +kernel
theorem dX12_allows_188 : decode cX12_allows 188 = .ok (.bipush 9, 2) := by decide +kernel
theorem dX12_allows_190 : decode cX12_allows 190 = .ok (.if_icmp .gt 7, 3) := by decide +kernel
theorem dX12_allows_193 : decode cX12_allows 193 = .ok (.iconst 1, 1) := by decide +kernel
theorem dX12_allows_194 : decode cX12_allows 194 = .ok (.goto 4, 3) := by decide +kernel
theorem dX12_allows_197 : decode cX12_allows 197 = .ok (.iconst 0, 1) := by decide +kernel
theorem dX12_allows_198 : decode cX12_allows 198 = .ok (.ireturn, 1) := by decide +kernel
theorem dX12_allows_199 : decode cX12_allows 199 = .ok (.iload_n 1, 1) := by decide +kernel
theorem dX12_allows_200 : decode cX12_allows 200 = .ok (.bipush (-10), 2) := by decide +kernel
theorem dX12_allows_202 : decode cX12_allows 202 = .ok (.if_icmp .lt 13, 3) := by decide +kernel
theorem dX12_allows_205 : decode cX12_allows 205 = .ok (.iload_n 1, 1) := by decide +kernel
theorem dX12_allows_206 : decode cX12_allows 206 = .ok (.bipush 10, 2) := by decide +kernel
theorem dX12_allows_208 : decode cX12_allows 208 = .ok (.if_icmp .gt 7, 3) := by decide +kernel
theorem dX12_allows_211 : decode cX12_allows 211 = .ok (.iconst 1, 1) := by decide +kernel
theorem dX12_allows_212 : decode cX12_allows 212 = .ok (.goto 4, 3) := by decide +kernel
theorem dX12_allows_215 : decode cX12_allows 215 = .ok (.iconst 0, 1) := by decide +kernel
theorem dX12_allows_216 : decode cX12_allows 216 = .ok (.ireturn, 1) := by decide +kernel
theorem dX12_allows_217 : decode cX12_allows 217 = .ok (.iload_n 1, 1) := by decide +kernel
theorem dX12_allows_218 : decode cX12_allows 218 = .ok (.iconst 1, 1) := by decide +kernel
theorem dX12_allows_219 : decode cX12_allows 219 = .ok (.if_icmp .lt 12, 3) := by decide +kernel
theorem dX12_allows_222 : decode cX12_allows 222 = .ok (.iload_n 1, 1) := by decide +kernel
theorem dX12_allows_223 : decode cX12_allows 223 = .ok (.iconst 4, 1) := by decide +kernel
theorem dX12_allows_224 : decode cX12_allows 224 = .ok (.if_icmp .gt 7, 3) := by decide +kernel
theorem dX12_allows_227 : decode cX12_allows 227 = .ok (.iconst 1, 1) := by decide +kernel
theorem dX12_allows_228 : decode cX12_allows 228 = .ok (.goto 4, 3) := by decide +kernel
theorem dX12_allows_231 : decode cX12_allows 231 = .ok (.iconst 0, 1) := by decide +kernel
theorem dX12_allows_232 : decode cX12_allows 232 = .ok (.ireturn, 1) := by decide +kernel
theorem dX12_allows_233 : decode cX12_allows 233 = .ok (.iload_n 1, 1) := by decide +kernel
theorem dX12_allows_234 : decode cX12_allows 234 = .ok (.sipush (-200), 3) := by decide +kernel
theorem dX12_allows_237 : decode cX12_allows 237 = .ok (.if_icmp .lt 10, 3) := by decide +kernel
theorem dX12_allows_240 : decode cX12_allows 240 = .ok (.iload_n 1, 1) := by decide +kernel
theorem dX12_allows_241 : decode cX12_allows 241 = .ok (.sipush 200, 3) := by decide +kernel
theorem dX12_allows_244 : decode cX12_allows 244 = .ok (.if_icmp .le 10, 3) := by decide +kernel
theorem dX12_allows_247 : decode cX12_allows 247 = .ok (.iload_n 1, 1) := by decide +kernel
theorem dX12_allows_248 : decode cX12_allows 248 = .ok (.sipush (-1000), 3) := by decide +kernel
theorem dX12_allows_251 : decode cX12_allows 251 = .ok (.if_icmp .ne 7, 3) := by decide +kernel
theorem dX12_allows_254 : decode cX12_allows 254 = .ok (.iconst 1, 1) := by decide +kernel
theorem dX12_allows_255 : decode cX12_allows 255 = .ok (.goto 4, 3) := by decide +kernel
theorem dX12_allows_258 : decode cX12_allows 258 = .ok (.iconst 0, 1) := by decide +kernel
theorem dX12_allows_259 : decode cX12_allows 259 = .ok (.ireturn, 1) := by decide +kernel
theorem dX12_allows_260 : decode cX12_allows 260 = .ok (.iload_n 1, 1) := by decide +kernel
theorem dX12_allows_261 : decode cX12_allows 261 = .ok (.ifCond .eq 8, 3) := by decide +kernel
theorem dX12_allows_264 : decode cX12_allows 264 = .ok (.iload_n 1, 1) := by decide +kernel
theorem dX12_allows_265 : decode cX12_allows 265 = .ok (.iconst 1, 1) := by decide +kernel
theorem dX12_allows_266 : decode cX12_allows 266 = .ok (.if_icmp .ne 7, 3) := by decide +kernel
theorem dX12_allows_269 : decode cX12_allows 269 = .ok (.iconst 1, 1) := by decide +kernel
theorem dX12_allows_270 : decode cX12_allows 270 = .ok (.goto 4, 3) := by decide +kernel
theorem dX12_allows_273 : decode cX12_allows 273 = .ok (.iconst 0, 1) := by decide +kernel
theorem dX12_allows_274 : decode cX12_allows 274 = .ok (.ireturn, 1) := by decide +kernel
theorem dX12_allows_275 : decode cX12_allows 275 = .ok (.iload_n 0, 1) := by decide +kernel
theorem dX12_allows_276 : decode cX12_allows 276 = .ok (.bipush 9, 2) := by decide +kernel
theorem dX12_allows_278 : decode cX12_allows 278 = .ok (.if_icmp .gt 23, 3) := by decide +kernel
theorem dX12_allows_281 : decode cX12_allows 281 = .ok (.iload_n 1, 1) := by decide +kernel
theorem dX12_allows_282 : decode cX12_allows 282 = .ok (.bipush (-40), 2) := by decide +kernel
theorem dX12_allows_284 : decode cX12_allows 284 = .ok (.if_icmp .lt 13, 3) := by decide +kernel
theorem dX12_allows_287 : decode cX12_allows 287 = .ok (.iload_n 1, 1) := by decide +kernel
theorem dX12_allows_288 : decode cX12_allows 288 = .ok (.bipush 40, 2) := by decide +kernel
theorem dX12_allows_290 : decode cX12_allows 290 = .ok (.if_icmp .gt 7, 3) := by decide +kernel
theorem dX12_allows_293 : decode cX12_allows 293 = .ok (.iconst 1, 1) := by decide +kernel
theorem dX12_allows_294 : decode cX12_allows 294 = .ok (.goto 22, 3) := by decide +kernel
theorem dX12_allows_297 : decode cX12_allows 297 = .ok (.iconst 0, 1) := by decide +kernel
theorem dX12_allows_298 : decode cX12_allows 298 = .ok (.goto 18, 3) := by decide +kernel
theorem dX12_allows_301 : decode cX12_allows 301 = .ok (.iload_n 1, 1) := by decide +kernel
theorem dX12_allows_302 : decode cX12_allows 302 = .ok (.ifCond .lt 13, 3) := by decide +kernel
theorem dX12_allows_305 : decode cX12_allows 305 = .ok (.iload_n 1, 1) := by decide +kernel
theorem dX12_allows_306 : decode cX12_allows 306 = .ok (.bipush 20, 2) := by decide +kernel
theorem dX12_allows_308 : decode cX12_allows 308 = .ok (.if_icmp .gt 7, 3) := by decide +kernel
theorem dX12_allows_311 : decode cX12_allows 311 = .ok (.iconst 1, 1) := by decide +kernel
theorem dX12_allows_312 : decode cX12_allows 312 = .ok (.goto 4, 3) := by decide +kernel
theorem dX12_allows_315 : decode cX12_allows 315 = .ok (.iconst 0, 1) := by decide +kernel
theorem dX12_allows_316 : decode cX12_allows 316 = .ok (.ireturn, 1) := by decide +kernel
theorem dX12_isPercentage_0 : decode cX12_isPercentage 0 = .ok (.iload_n 0, 1) := by decide +kernel
theorem dX12_isPercentage_1 : decode cX12_isPercentage 1 = .ok (.sipush 1000, 3) := by decide +kernel
theorem dX12_isPercentage_4 : decode cX12_isPercentage 4 = .ok (.if_icmp .lt 14, 3) := by decide +kernel
theorem dX12_isPercentage_7 : decode cX12_isPercentage 7 = .ok (.iload_n 0, 1) := by decide +kernel
theorem dX12_isPercentage_8 : decode cX12_isPercentage 8 = .ok (.sipush 1100, 3) := by decide +kernel
theorem dX12_isPercentage_11 : decode cX12_isPercentage 11 = .ok (.if_icmp .gt 7, 3) := by decide +kernel
theorem dX12_isPercentage_14 : decode cX12_isPercentage 14 = .ok (.iconst 1, 1) := by decide +kernel
theorem dX12_isPercentage_15 : decode cX12_isPercentage 15 = .ok (.goto 4, 3) := by decide +kernel
theorem dX12_isPercentage_18 : decode cX12_isPercentage 18 = .ok (.iconst 0, 1) := by decide +kernel
theorem dX12_isPercentage_19 : decode cX12_isPercentage 19 = .ok (.ireturn, 1) := by decide +kernel
theorem dX12_reachesInside_0 : decode cX12_reachesInside 0 = .ok (.iload_n 0, 1) := by decide +kernel
theorem dX12_reachesInside_1 : decode cX12_reachesInside 1 = .ok (.ifCond .eq 25, 3) := by decide +kernel
theorem dX12_reachesInside_4 : decode cX12_reachesInside 4 = .ok (.iload_n 0, 1) := by decide +kernel
theorem dX12_reachesInside_5 : decode cX12_reachesInside 5 = .ok (.iconst 1, 1) := by decide +kernel
theorem dX12_reachesInside_6 : decode cX12_reachesInside 6 = .ok (.if_icmp .eq 20, 3) := by decide +kernel
theorem dX12_reachesInside_9 : decode cX12_reachesInside 9 = .ok (.iload_n 0, 1) := by decide +kernel
theorem dX12_reachesInside_10 : decode cX12_reachesInside 10 = .ok (.iconst 3, 1) := by decide +kernel
theorem dX12_reachesInside_11 : decode cX12_reachesInside 11 = .ok (.if_icmp .eq 15, 3) := by decide +kernel
theorem dX12_reachesInside_14 : decode cX12_reachesInside 14 = .ok (.iload_n 0, 1) := by decide +kernel
theorem dX12_reachesInside_15 : decode cX12_reachesInside 15 = .ok (.bipush 14, 2) := by decide +kernel
theorem dX12_reachesInside_17 : decode cX12_reachesInside 17 = .ok (.if_icmp .eq 9, 3) := by decide +kernel
theorem dX12_reachesInside_20 : decode cX12_reachesInside 20 = .ok (.iload_n 0, 1) := by decide +kernel
theorem dX12_reachesInside_21 : decode cX12_reachesInside 21 = .ok (.bipush 17, 2) := by decide +kernel
theorem dX12_reachesInside_23 : decode cX12_reachesInside 23 = .ok (.if_icmp .ne 7, 3) := by decide +kernel
theorem dX12_reachesInside_26 : decode cX12_reachesInside 26 = .ok (.iconst 1, 1) := by decide +kernel
theorem dX12_reachesInside_27 : decode cX12_reachesInside 27 = .ok (.goto 4, 3) := by decide +kernel
theorem dX12_reachesInside_30 : decode cX12_reachesInside 30 = .ok (.iconst 0, 1) := by decide +kernel
theorem dX12_reachesInside_31 : decode cX12_reachesInside 31 = .ok (.ireturn, 1) := by decide +kernel
theorem dX12_noteChange_0 : decode cX12_noteChange 0 = .ok (.aload_n 0, 1) := by decide +kernel
theorem dX12_noteChange_1 : decode cX12_noteChange 1 = .ok (.dup, 1) := by decide +kernel
theorem dX12_noteChange_2 : decode cX12_noteChange 2 = .ok (.getfield 151, 3) := by decide +kernel
theorem dX12_noteChange_5 : decode cX12_noteChange 5 = .ok (.iconst 1, 1) := by decide +kernel
theorem dX12_noteChange_6 : decode cX12_noteChange 6 = .ok (.iadd, 1) := by decide +kernel
theorem dX12_noteChange_7 : decode cX12_noteChange 7 = .ok (.putfield 151, 3) := by decide +kernel
theorem dX12_noteChange_10 : decode cX12_noteChange 10 = .ok (.aload_n 1, 1) := by decide +kernel
theorem dX12_noteChange_11 : decode cX12_noteChange 11 = .ok (.astore_n 2, 1) := by decide +kernel
theorem dX12_noteChange_12 : decode cX12_noteChange 12 = .ok (.aload_n 2, 1) := by decide +kernel
theorem dX12_noteChange_13 : decode cX12_noteChange 13 = .ok (.ifnull 19, 3) := by decide +kernel
theorem dX12_noteChange_16 : decode cX12_noteChange 16 = .ok (.aload_n 2, 1) := by decide +kernel
theorem dX12_noteChange_17 : decode cX12_noteChange 17 = .ok (.aload_n 0, 1) := by decide +kernel
theorem dX12_noteChange_18 : decode cX12_noteChange 18 = .ok (.getfield 151, 3) := by decide +kernel
theorem dX12_noteChange_21 : decode cX12_noteChange 21 = .ok (.putfield 258, 3) := by decide +kernel
theorem dX12_noteChange_24 : decode cX12_noteChange 24 = .ok (.aload_n 2, 1) := by decide +kernel
theorem dX12_noteChange_25 : decode cX12_noteChange 25 = .ok (.getfield 114, 3) := by decide +kernel
theorem dX12_noteChange_28 : decode cX12_noteChange 28 = .ok (.astore_n 2, 1) := by decide +kernel
theorem dX12_noteChange_29 : decode cX12_noteChange 29 = .ok (.goto (-17), 3) := by decide +kernel
theorem dX12_noteChange_32 : decode cX12_noteChange 32 = .ok (.return_, 1) := by decide +kernel
theorem dX12_layAgain_0 : decode cX12_layAgain 0 = .ok (.aload_n 0, 1) := by decide +kernel
theorem dX12_layAgain_1 : decode cX12_layAgain 1 = .ok (.getfield 25, 3) := by decide +kernel
theorem dX12_layAgain_4 : decode cX12_layAgain 4 = .ok (.invokestatic 15, 3) := by decide +kernel
theorem dX12_layAgain_7 : decode cX12_layAgain 7 = .ok (.aload_n 0, 1) := by decide +kernel
theorem dX12_layAgain_8 : decode cX12_layAgain 8 = .ok (.aload_n 0, 1) := by decide +kernel
theorem dX12_layAgain_9 : decode cX12_layAgain 9 = .ok (.getfield 41, 3) := by decide +kernel
theorem dX12_layAgain_12 : decode cX12_layAgain 12 = .ok (.aload_n 0, 1) := by decide +kernel
theorem dX12_layAgain_13 : decode cX12_layAgain 13 = .ok (.getfield 25, 3) := by decide +kernel
theorem dX12_layAgain_16 : decode cX12_layAgain 16 = .ok (.aload_n 0, 1) := by decide +kernel
theorem dX12_layAgain_17 : decode cX12_layAgain 17 = .ok (.getfield 33, 3) := by decide +kernel
theorem dX12_layAgain_20 : decode cX12_layAgain 20 = .ok (.aload_n 0, 1) := by decide +kernel
theorem dX12_layAgain_21 : decode cX12_layAgain 21 = .ok (.getfield 151, 3) := by decide +kernel
theorem dX12_layAgain_24 : decode cX12_layAgain 24 = .ok (.invokevirtual 55, 3) := by decide +kernel
theorem dX12_layAgain_27 : decode cX12_layAgain 27 = .ok (.putfield 59, 3) := by decide +kernel
theorem dX12_layAgain_30 : decode cX12_layAgain 30 = .ok (.aload_n 0, 1) := by decide +kernel
theorem dX12_layAgain_31 : decode cX12_layAgain 31 = .ok (.dup, 1) := by decide +kernel
theorem dX12_layAgain_32 : decode cX12_layAgain 32 = .ok (.getfield 62, 3) := by decide +kernel
theorem dX12_layAgain_35 : decode cX12_layAgain 35 = .ok (.aload_n 0, 1) := by decide +kernel
theorem dX12_layAgain_36 : decode cX12_layAgain 36 = .ok (.getfield 59, 3) := by decide +kernel
theorem dX12_layAgain_39 : decode cX12_layAgain 39 = .ok (.iadd, 1) := by decide +kernel
theorem dX12_layAgain_40 : decode cX12_layAgain 40 = .ok (.putfield 62, 3) := by decide +kernel
theorem dX12_layAgain_43 : decode cX12_layAgain 43 = .ok (.aload_n 0, 1) := by decide +kernel
theorem dX12_layAgain_44 : decode cX12_layAgain 44 = .ok (.getfield 51, 3) := by decide +kernel
theorem dX12_layAgain_47 : decode cX12_layAgain 47 = .ok (.aload_n 0, 1) := by decide +kernel
theorem dX12_layAgain_48 : decode cX12_layAgain 48 = .ok (.getfield 25, 3) := by decide +kernel
theorem dX12_layAgain_51 : decode cX12_layAgain 51 = .ok (.invokevirtual 65, 3) := by decide +kernel
theorem dX12_layAgain_54 : decode cX12_layAgain 54 = .ok (.return_, 1) := by decide +kernel
theorem dX12_sideOf_0 : decode cX12_sideOf 0 = .ok (.aload_n 0, 1) := by decide +kernel
theorem dX12_sideOf_1 : decode cX12_sideOf 1 = .ok (.invokevirtual 242, 3) := by decide +kernel
theorem dX12_sideOf_4 : decode cX12_sideOf 4 = .ok (.ifCond .eq 23, 3) := by decide +kernel
theorem dX12_sideOf_7 : decode cX12_sideOf 7 = .ok (.iload_n 1, 1) := by decide +kernel
theorem dX12_sideOf_8 : decode cX12_sideOf 8 = .ok (.iconst 3, 1) := by decide +kernel
theorem dX12_sideOf_9 : decode cX12_sideOf 9 = .ok (.if_icmp .ne 10, 3) := by decide +kernel
theorem dX12_sideOf_12 : decode cX12_sideOf 12 = .ok (.aload_n 0, 1) := by decide +kernel
theorem dX12_sideOf_13 : decode cX12_sideOf 13 = .ok (.getfield 261, 3) := by decide +kernel
theorem dX12_sideOf_16 : decode cX12_sideOf 16 = .ok (.goto 10, 3) := by decide +kernel
theorem dX12_sideOf_19 : decode cX12_sideOf 19 = .ok (.aload_n 0, 1) := by decide +kernel
theorem dX12_sideOf_20 : decode cX12_sideOf 20 = .ok (.iconst 0, 1) := by decide +kernel
theorem dX12_sideOf_21 : decode cX12_sideOf 21 = .ok (.iload_n 1, 1) := by decide +kernel
theorem dX12_sideOf_22 : decode cX12_sideOf 22 = .ok (.aload_n 2, 1) := by decide +kernel
theorem dX12_sideOf_23 : decode cX12_sideOf 23 = .ok (.invokestatic 228, 3) := by decide +kernel
theorem dX12_sideOf_26 : decode cX12_sideOf 26 = .ok (.ireturn, 1) := by decide +kernel
theorem dX12_sideOf_27 : decode cX12_sideOf 27 = .ok (.aload_n 2, 1) := by decide +kernel
theorem dX12_sideOf_28 : decode cX12_sideOf 28 = .ok (.aload_n 0, 1) := by decide +kernel
theorem dX12_sideOf_29 : decode cX12_sideOf 29 = .ok (.invokevirtual 264, 3) := by decide +kernel
theorem dX12_sideOf_32 : decode cX12_sideOf 32 = .ok (.astore_n 3, 1) := by decide +kernel
theorem dX12_sideOf_33 : decode cX12_sideOf 33 = .ok (.iload_n 1, 1) := by decide +kernel
theorem dX12_sideOf_34 : decode cX12_sideOf 34 = .ok (.tableswitch 46 0 2 #[26, 31, 36], 26) := by decide +kernel
theorem dX12_sideOf_60 : decode cX12_sideOf 60 = .ok (.aload_n 3, 1) := by decide +kernel
theorem dX12_sideOf_61 : decode cX12_sideOf 61 = .ok (.getfield 268, 3) := by decide +kernel
theorem dX12_sideOf_64 : decode cX12_sideOf 64 = .ok (.ireturn, 1) := by decide +kernel
theorem dX12_sideOf_65 : decode cX12_sideOf 65 = .ok (.aload_n 3, 1) := by decide +kernel
theorem dX12_sideOf_66 : decode cX12_sideOf 66 = .ok (.getfield 271, 3) := by decide +kernel
theorem dX12_sideOf_69 : decode cX12_sideOf 69 = .ok (.ireturn, 1) := by decide +kernel
theorem dX12_sideOf_70 : decode cX12_sideOf 70 = .ok (.aload_n 3, 1) := by decide +kernel
theorem dX12_sideOf_71 : decode cX12_sideOf 71 = .ok (.getfield 274, 3) := by decide +kernel
theorem dX12_sideOf_74 : decode cX12_sideOf 74 = .ok (.aload_n 0, 1) := by decide +kernel
theorem dX12_sideOf_75 : decode cX12_sideOf 75 = .ok (.invokevirtual 277, 3) := by decide +kernel
theorem dX12_sideOf_78 : decode cX12_sideOf 78 = .ok (.iadd, 1) := by decide +kernel
theorem dX12_sideOf_79 : decode cX12_sideOf 79 = .ok (.ireturn, 1) := by decide +kernel
theorem dX12_sideOf_80 : decode cX12_sideOf 80 = .ok (.aload_n 3, 1) := by decide +kernel
theorem dX12_sideOf_81 : decode cX12_sideOf 81 = .ok (.getfield 280, 3) := by decide +kernel
theorem dX12_sideOf_84 : decode cX12_sideOf 84 = .ok (.aload_n 0, 1) := by decide +kernel
theorem dX12_sideOf_85 : decode cX12_sideOf 85 = .ok (.invokevirtual 281, 3) := by decide +kernel
theorem dX12_sideOf_88 : decode cX12_sideOf 88 = .ok (.iadd, 1) := by decide +kernel
theorem dX12_sideOf_89 : decode cX12_sideOf 89 = .ok (.ireturn, 1) := by decide +kernel
theorem dX12_pieceSide_0 : decode cX12_pieceSide 0 = .ok (.aload_n 3, 1) := by decide +kernel
theorem dX12_pieceSide_1 : decode cX12_pieceSide 1 = .ok (.aload_n 0, 1) := by decide +kernel
theorem dX12_pieceSide_2 : decode cX12_pieceSide 2 = .ok (.invokevirtual 264, 3) := by decide +kernel
theorem dX12_pieceSide_5 : decode cX12_pieceSide 5 = .ok (.iload_n 1, 1) := by decide +kernel
theorem dX12_pieceSide_6 : decode cX12_pieceSide 6 = .ok (.invokevirtual 284, 3) := by decide +kernel
theorem dX12_pieceSide_9 : decode cX12_pieceSide 9 = .ok (.astore 4, 2) := by decide +kernel
theorem dX12_pieceSide_11 : decode cX12_pieceSide 11 = .ok (.aload_n 0, 1) := by decide +kernel
theorem dX12_pieceSide_12 : decode cX12_pieceSide 12 = .ok (.getfield 114, 3) := by decide +kernel
theorem dX12_pieceSide_15 : decode cX12_pieceSide 15 = .ok (.astore 5, 2) := by decide +kernel
theorem dX12_pieceSide_17 : decode cX12_pieceSide 17 = .ok (.aload 4, 2) := by decide +kernel
theorem dX12_pieceSide_19 : decode cX12_pieceSide 19 = .ok (.ifnull 16, 3) := by decide +kernel
theorem dX12_pieceSide_22 : decode cX12_pieceSide 22 = .ok (.aload 4, 2) := by decide +kernel
theorem dX12_pieceSide_24 : decode cX12_pieceSide 24 = .ok (.getfield 288, 3) := by decide +kernel
theorem dX12_pieceSide_27 : decode cX12_pieceSide 27 = .ok (.ifnull 8, 3) := by decide +kernel
theorem dX12_pieceSide_30 : decode cX12_pieceSide 30 = .ok (.aload 5, 2) := by decide +kernel
theorem dX12_pieceSide_32 : decode cX12_pieceSide 32 = .ok (.ifnonnull 5, 3) := by decide +kernel
theorem dX12_pieceSide_35 : decode cX12_pieceSide 35 = .ok (.iconst 0, 1) := by decide +kernel
theorem dX12_pieceSide_36 : decode cX12_pieceSide 36 = .ok (.ireturn, 1) := by decide +kernel
theorem dX12_pieceSide_37 : decode cX12_pieceSide 37 = .ok (.aload_n 3, 1) := by decide +kernel
theorem dX12_pieceSide_38 : decode cX12_pieceSide 38 = .ok (.aload 5, 2) := by decide +kernel
theorem dX12_pieceSide_40 : decode cX12_pieceSide 40 = .ok (.invokevirtual 264, 3) := by decide +kernel
theorem dX12_pieceSide_43 : decode cX12_pieceSide 43 = .ok (.astore 6, 2) := by decide +kernel
theorem dX12_pieceSide_45 : decode cX12_pieceSide 45 = .ok (.iload_n 2, 1) := by decide +kernel
theorem dX12_pieceSide_46 : decode cX12_pieceSide 46 = .ok (.lookupswitch 50 #[(0, 26), (1, 38)], 26) := by decide +kernel
theorem dX12_pieceSide_72 : decode cX12_pieceSide 72 = .ok (.aload 6, 2) := by decide +kernel
theorem dX12_pieceSide_74 : decode cX12_pieceSide 74 = .ok (.getfield 207, 3) := by decide +kernel
theorem dX12_pieceSide_77 : decode cX12_pieceSide 77 = .ok (.aload 4, 2) := by decide +kernel
theorem dX12_pieceSide_79 : decode cX12_pieceSide 79 = .ok (.invokevirtual 293, 3) := by decide +kernel
theorem dX12_pieceSide_82 : decode cX12_pieceSide 82 = .ok (.iadd, 1) := by decide +kernel
theorem dX12_pieceSide_83 : decode cX12_pieceSide 83 = .ok (.ireturn, 1) := by decide +kernel
theorem dX12_pieceSide_84 : decode cX12_pieceSide 84 = .ok (.aload 6, 2) := by decide +kernel
theorem dX12_pieceSide_86 : decode cX12_pieceSide 86 = .ok (.getfield 213, 3) := by decide +kernel
theorem dX12_pieceSide_89 : decode cX12_pieceSide 89 = .ok (.aload 4, 2) := by decide +kernel
theorem dX12_pieceSide_91 : decode cX12_pieceSide 91 = .ok (.invokevirtual 296, 3) := by decide +kernel
theorem dX12_pieceSide_94 : decode cX12_pieceSide 94 = .ok (.iadd, 1) := by decide +kernel
theorem dX12_pieceSide_95 : decode cX12_pieceSide 95 = .ok (.ireturn, 1) := by decide +kernel
theorem dX12_pieceSide_96 : decode cX12_pieceSide 96 = .ok (.aload 4, 2) := by decide +kernel
theorem dX12_pieceSide_98 : decode cX12_pieceSide 98 = .ok (.getfield 299, 3) := by decide +kernel
theorem dX12_pieceSide_101 : decode cX12_pieceSide 101 = .ok (.ireturn, 1) := by decide +kernel
theorem dJx29ce0_ordinal_8abf5_0 : decode cJx29ce0_ordinal_8abf5 0 = .ok (.aload_n 0, 1) := by decide +kernel
theorem dJx29ce0_ordinal_8abf5_1 : decode cJx29ce0_ordinal_8abf5 1 = .ok (.getfield 7, 3) := by decide +kernel
theorem dJx29ce0_ordinal_8abf5_4 : decode cJx29ce0_ordinal_8abf5 4 = .ok (.ireturn, 1) := by decide +kernel
theorem dL_cell_0 : decode cL_cell 0 = .ok (.iload_n 1, 1) := by decide +kernel
theorem dL_cell_1 : decode cL_cell 1 = .ok (.aload_n 0, 1) := by decide +kernel
theorem dL_cell_2 : decode cL_cell 2 = .ok (.arraylength, 1) := by decide +kernel
theorem dL_cell_3 : decode cL_cell 3 = .ok (.if_icmp .ge 9, 3) := by decide +kernel
theorem dL_cell_6 : decode cL_cell 6 = .ok (.aload_n 0, 1) := by decide +kernel
theorem dL_cell_7 : decode cL_cell 7 = .ok (.iload_n 1, 1) := by decide +kernel
theorem dL_cell_8 : decode cL_cell 8 = .ok (.iaload, 1) := by decide +kernel
theorem dL_cell_9 : decode cL_cell 9 = .ok (.goto 13, 3) := by decide +kernel
theorem dL_cell_12 : decode cL_cell 12 = .ok (.ldc 7, 2) := by decide +kernel
theorem dL_cell_14 : decode cL_cell 14 = .ok (.iload_n 1, 1) := by decide +kernel
theorem dL_cell_15 : decode cL_cell 15 = .ok (.bipush 47, 2) := by decide +kernel
theorem dL_cell_17 : decode cL_cell 17 = .ok (.iadd, 1) := by decide +kernel
theorem dL_cell_18 : decode cL_cell 18 = .ok (.imul, 1) := by decide +kernel
theorem dL_cell_19 : decode cL_cell 19 = .ok (.ldc 8, 2) := by decide +kernel
theorem dL_cell_21 : decode cL_cell 21 = .ok (.iadd, 1) := by decide +kernel
theorem dL_cell_22 : decode cL_cell 22 = .ok (.ireturn, 1) := by decide +kernel
theorem dL_low_0 : decode cL_low 0 = .ok (.iload_n 0, 1) := by decide +kernel
theorem dL_low_1 : decode cL_low 1 = .ok (.ldc 9, 2) := by decide +kernel
theorem dL_low_3 : decode cL_low 3 = .ok (.iand, 1) := by decide +kernel
theorem dL_low_4 : decode cL_low 4 = .ok (.iload_n 1, 1) := by decide +kernel
theorem dL_low_5 : decode cL_low 5 = .ok (.irem, 1) := by decide +kernel
theorem dL_low_6 : decode cL_low 6 = .ok (.ireturn, 1) := by decide +kernel
theorem dL_pends_0 : decode cL_pends 0 = .ok (.aload_n 1, 1) := by decide +kernel
theorem dL_pends_1 : decode cL_pends 1 = .ok (.iconst 1, 1) := by decide +kernel
theorem dL_pends_2 : decode cL_pends 2 = .ok (.iload_n 0, 1) := by decide +kernel
theorem dL_pends_3 : decode cL_pends 3 = .ok (.aload_n 1, 1) := by decide +kernel
theorem dL_pends_4 : decode cL_pends 4 = .ok (.iconst 1, 1) := by decide +kernel
theorem dL_pends_5 : decode cL_pends 5 = .ok (.iaload, 1) := by decide +kernel
theorem dL_pends_6 : decode cL_pends 6 = .ok (.if_icmp .le 7, 3) := by decide +kernel
theorem dL_pends_9 : decode cL_pends 9 = .ok (.iload_n 0, 1) := by decide +kernel
theorem dL_pends_10 : decode cL_pends 10 = .ok (.goto 6, 3) := by decide +kernel
theorem dL_pends_13 : decode cL_pends 13 = .ok (.aload_n 1, 1) := by decide +kernel
theorem dL_pends_14 : decode cL_pends 14 = .ok (.iconst 1, 1) := by decide +kernel
theorem dL_pends_15 : decode cL_pends 15 = .ok (.iaload, 1) := by decide +kernel
theorem dL_pends_16 : decode cL_pends 16 = .ok (.iastore, 1) := by decide +kernel
theorem dL_pends_17 : decode cL_pends 17 = .ok (.aload_n 1, 1) := by decide +kernel
theorem dL_pends_18 : decode cL_pends 18 = .ok (.iconst 2, 1) := by decide +kernel
theorem dL_pends_19 : decode cL_pends 19 = .ok (.iload_n 0, 1) := by decide +kernel
theorem dL_pends_20 : decode cL_pends 20 = .ok (.aload_n 1, 1) := by decide +kernel
theorem dL_pends_21 : decode cL_pends 21 = .ok (.iconst 2, 1) := by decide +kernel
theorem dL_pends_22 : decode cL_pends 22 = .ok (.iaload, 1) := by decide +kernel
theorem dL_pends_23 : decode cL_pends 23 = .ok (.if_icmp .ge 7, 3) := by decide +kernel
theorem dL_pends_26 : decode cL_pends 26 = .ok (.iload_n 0, 1) := by decide +kernel
theorem dL_pends_27 : decode cL_pends 27 = .ok (.goto 6, 3) := by decide +kernel
theorem dL_pends_30 : decode cL_pends 30 = .ok (.aload_n 1, 1) := by decide +kernel
theorem dL_pends_31 : decode cL_pends 31 = .ok (.iconst 2, 1) := by decide +kernel
theorem dL_pends_32 : decode cL_pends 32 = .ok (.iaload, 1) := by decide +kernel
theorem dL_pends_33 : decode cL_pends 33 = .ok (.iastore, 1) := by decide +kernel
theorem dL_pends_34 : decode cL_pends 34 = .ok (.return_, 1) := by decide +kernel
theorem dL_ends_0 : decode cL_ends 0 = .ok (.aload_n 0, 1) := by decide +kernel
theorem dL_ends_1 : decode cL_ends 1 = .ok (.iconst 0, 1) := by decide +kernel
theorem dL_ends_2 : decode cL_ends 2 = .ok (.dup2, 1) := by decide +kernel
theorem dL_ends_3 : decode cL_ends 3 = .ok (.iaload, 1) := by decide +kernel
theorem dL_ends_4 : decode cL_ends 4 = .ok (.aload_n 0, 1) := by decide +kernel
theorem dL_ends_5 : decode cL_ends 5 = .ok (.iconst 1, 1) := by decide +kernel
theorem dL_ends_6 : decode cL_ends 6 = .ok (.iaload, 1) := by decide +kernel
theorem dL_ends_7 : decode cL_ends 7 = .ok (.aload_n 0, 1) := by decide +kernel
theorem dL_ends_8 : decode cL_ends 8 = .ok (.iconst 2, 1) := by decide +kernel
theorem dL_ends_9 : decode cL_ends 9 = .ok (.iaload, 1) := by decide +kernel
theorem dL_ends_10 : decode cL_ends 10 = .ok (.iadd, 1) := by decide +kernel
theorem dL_ends_11 : decode cL_ends 11 = .ok (.iadd, 1) := by decide +kernel
theorem dL_ends_12 : decode cL_ends 12 = .ok (.iastore, 1) := by decide +kernel
theorem dL_ends_13 : decode cL_ends 13 = .ok (.aload_n 0, 1) := by decide +kernel
theorem dL_ends_14 : decode cL_ends 14 = .ok (.iconst 1, 1) := by decide +kernel
theorem dL_ends_15 : decode cL_ends 15 = .ok (.iconst 0, 1) := by decide +kernel
theorem dL_ends_16 : decode cL_ends 16 = .ok (.iastore, 1) := by decide +kernel
theorem dL_ends_17 : decode cL_ends 17 = .ok (.aload_n 0, 1) := by decide +kernel
theorem dL_ends_18 : decode cL_ends 18 = .ok (.iconst 2, 1) := by decide +kernel
theorem dL_ends_19 : decode cL_ends 19 = .ok (.iconst 0, 1) := by decide +kernel
theorem dL_ends_20 : decode cL_ends 20 = .ok (.iastore, 1) := by decide +kernel
theorem dL_ends_21 : decode cL_ends 21 = .ok (.iconst 1, 1) := by decide +kernel
theorem dL_ends_22 : decode cL_ends 22 = .ok (.istore_n 2, 1) := by decide +kernel
theorem dL_ends_23 : decode cL_ends 23 = .ok (.iload_n 2, 1) := by decide +kernel
theorem dL_ends_24 : decode cL_ends 24 = .ok (.bipush 12, 2) := by decide +kernel
theorem dL_ends_26 : decode cL_ends 26 = .ok (.if_icmp .ge 38, 3) := by decide +kernel
theorem dL_ends_29 : decode cL_ends 29 = .ok (.aload_n 1, 1) := by decide +kernel
theorem dL_ends_30 : decode cL_ends 30 = .ok (.bipush 16, 2) := by decide +kernel
theorem dL_ends_32 : decode cL_ends 32 = .ok (.iload_n 2, 1) := by decide +kernel
theorem dL_ends_33 : decode cL_ends 33 = .ok (.iadd, 1) := by decide +kernel
theorem dL_ends_34 : decode cL_ends 34 = .ok (.aload_n 0, 1) := by decide +kernel
theorem dL_ends_35 : decode cL_ends 35 = .ok (.iconst 5, 1) := by decide +kernel
theorem dL_ends_36 : decode cL_ends 36 = .ok (.iaload, 1) := by decide +kernel
theorem dL_ends_37 : decode cL_ends 37 = .ok (.iload_n 2, 1) := by decide +kernel
theorem dL_ends_38 : decode cL_ends 38 = .ok (.ishr, 1) := by decide +kernel
theorem dL_ends_39 : decode cL_ends 39 = .ok (.iconst 1, 1) := by decide +kernel
theorem dL_ends_40 : decode cL_ends 40 = .ok (.iand, 1) := by decide +kernel
theorem dL_ends_41 : decode cL_ends 41 = .ok (.iconst 1, 1) := by decide +kernel
theorem dL_ends_42 : decode cL_ends 42 = .ok (.if_icmp .ne 9, 3) := by decide +kernel
theorem dL_ends_45 : decode cL_ends 45 = .ok (.aload_n 0, 1) := by decide +kernel
theorem dL_ends_46 : decode cL_ends 46 = .ok (.iconst 0, 1) := by decide +kernel
theorem dL_ends_47 : decode cL_ends 47 = .ok (.iaload, 1) := by decide +kernel
theorem dL_ends_48 : decode cL_ends 48 = .ok (.goto 9, 3) := by decide +kernel
theorem dL_ends_51 : decode cL_ends 51 = .ok (.aload_n 1, 1) := by decide +kernel
theorem dL_ends_52 : decode cL_ends 52 = .ok (.bipush 16, 2) := by decide +kernel
theorem dL_ends_54 : decode cL_ends 54 = .ok (.iload_n 2, 1) := by decide +kernel
theorem dL_ends_55 : decode cL_ends 55 = .ok (.iadd, 1) := by decide +kernel
theorem dL_ends_56 : decode cL_ends 56 = .ok (.iaload, 1) := by decide +kernel
theorem dL_ends_57 : decode cL_ends 57 = .ok (.iastore, 1) := by decide +kernel
theorem dL_ends_58 : decode cL_ends 58 = .ok (.iinc 2 1, 3) := by decide +kernel
theorem dL_ends_61 : decode cL_ends 61 = .ok (.goto (-38), 3) := by decide +kernel
theorem dL_ends_64 : decode cL_ends 64 = .ok (.aload_n 0, 1) := by decide +kernel
theorem dL_ends_65 : decode cL_ends 65 = .ok (.iconst 5, 1) := by decide +kernel
theorem dL_ends_66 : decode cL_ends 66 = .ok (.iconst 0, 1) := by decide +kernel
theorem dL_ends_67 : decode cL_ends 67 = .ok (.iastore, 1) := by decide +kernel
theorem dL_ends_68 : decode cL_ends 68 = .ok (.return_, 1) := by decide +kernel
theorem dL_next_0 : decode cL_next 0 = .ok (.iload_n 1, 1) := by decide +kernel
theorem dL_next_1 : decode cL_next 1 = .ok (.iconst 1, 1) := by decide +kernel
theorem dL_next_2 : decode cL_next 2 = .ok (.iadd, 1) := by decide +kernel
theorem dL_next_3 : decode cL_next 3 = .ok (.istore 4, 2) := by decide +kernel
theorem dL_next_5 : decode cL_next 5 = .ok (.iload 4, 2) := by decide +kernel
theorem dL_next_7 : decode cL_next 7 = .ok (.aload_n 3, 1) := by decide +kernel
theorem dL_next_8 : decode cL_next 8 = .ok (.iconst 3, 1) := by decide +kernel
theorem dL_next_9 : decode cL_next 9 = .ok (.iaload, 1) := by decide +kernel
theorem dL_next_10 : decode cL_next 10 = .ok (.if_icmp .ge 20, 3) := by decide +kernel
theorem dL_next_13 : decode cL_next 13 = .ok (.aload_n 2, 1) := by decide +kernel
theorem dL_next_14 : decode cL_next 14 = .ok (.iload 4, 2) := by decide +kernel
theorem dL_next_16 : decode cL_next 16 = .ok (.iaload, 1) := by decide +kernel
theorem dL_next_17 : decode cL_next 17 = .ok (.iload_n 0, 1) := by decide +kernel
theorem dL_next_18 : decode cL_next 18 = .ok (.if_icmp .ne 6, 3) := by decide +kernel
theorem dL_next_21 : decode cL_next 21 = .ok (.iload 4, 2) := by decide +kernel
theorem dL_next_23 : decode cL_next 23 = .ok (.ireturn, 1) := by decide +kernel
theorem dL_next_24 : decode cL_next 24 = .ok (.iinc 4 1, 3) := by decide +kernel
theorem dL_next_27 : decode cL_next 27 = .ok (.goto (-22), 3) := by decide +kernel
theorem dL_next_30 : decode cL_next 30 = .ok (.iconst 0, 1) := by decide +kernel
theorem dL_next_31 : decode cL_next 31 = .ok (.ireturn, 1) := by decide +kernel
theorem dL_known_0 : decode cL_known 0 = .ok (.aload_n 1, 1) := by decide +kernel
theorem dL_known_1 : decode cL_known 1 = .ok (.bipush 16, 2) := by decide +kernel
theorem dL_known_3 : decode cL_known 3 = .ok (.iload_n 0, 1) := by decide +kernel
theorem dL_known_4 : decode cL_known 4 = .ok (.iadd, 1) := by decide +kernel
theorem dL_known_5 : decode cL_known 5 = .ok (.iaload, 1) := by decide +kernel
theorem dL_known_6 : decode cL_known 6 = .ok (.istore 4, 2) := by decide +kernel
theorem dL_known_8 : decode cL_known 8 = .ok (.iload 4, 2) := by decide +kernel
theorem dL_known_10 : decode cL_known 10 = .ok (.ifCond .ge 7, 3) := by decide +kernel
theorem dL_known_13 : decode cL_known 13 = .ok (.iconst (-1), 1) := by decide +kernel
theorem dL_known_14 : decode cL_known 14 = .ok (.goto 43, 3) := by decide +kernel
theorem dL_known_17 : decode cL_known 17 = .ok (.iload 4, 2) := by decide +kernel
theorem dL_known_19 : decode cL_known 19 = .ok (.sipush 1000, 3) := by decide +kernel
theorem dL_known_22 : decode cL_known 22 = .ok (.if_icmp .ge 8, 3) := by decide +kernel
theorem dL_known_25 : decode cL_known 25 = .ok (.iload 4, 2) := by decide +kernel
theorem dL_known_27 : decode cL_known 27 = .ok (.goto 30, 3) := by decide +kernel
theorem dL_known_30 : decode cL_known 30 = .ok (.aload_n 3, 1) := by decide +kernel
theorem dL_known_31 : decode cL_known 31 = .ok (.aload_n 2, 1) := by decide +kernel
theorem dL_known_32 : decode cL_known 32 = .ok (.iload_n 0, 1) := by decide +kernel
theorem dL_known_33 : decode cL_known 33 = .ok (.iaload, 1) := by decide +kernel
theorem dL_known_34 : decode cL_known 34 = .ok (.iaload, 1) := by decide +kernel
theorem dL_known_35 : decode cL_known 35 = .ok (.ifCond .ge 7, 3) := by decide +kernel
theorem dL_known_38 : decode cL_known 38 = .ok (.iconst (-1), 1) := by decide +kernel
theorem dL_known_39 : decode cL_known 39 = .ok (.goto 18, 3) := by decide +kernel
theorem dL_known_42 : decode cL_known 42 = .ok (.aload_n 3, 1) := by decide +kernel
theorem dL_known_43 : decode cL_known 43 = .ok (.aload_n 2, 1) := by decide +kernel
theorem dL_known_44 : decode cL_known 44 = .ok (.iload_n 0, 1) := by decide +kernel
theorem dL_known_45 : decode cL_known 45 = .ok (.iaload, 1) := by decide +kernel
theorem dL_known_46 : decode cL_known 46 = .ok (.iaload, 1) := by decide +kernel
theorem dL_known_47 : decode cL_known 47 = .ok (.iload 4, 2) := by decide +kernel
theorem dL_known_49 : decode cL_known 49 = .ok (.sipush 1000, 3) := by decide +kernel
theorem dL_known_52 : decode cL_known 52 = .ok (.isub, 1) := by decide +kernel
theorem dL_known_53 : decode cL_known 53 = .ok (.imul, 1) := by decide +kernel
theorem dL_known_54 : decode cL_known 54 = .ok (.bipush 100, 2) := by decide +kernel
theorem dL_known_56 : decode cL_known 56 = .ok (.idiv, 1) := by decide +kernel
theorem dL_known_57 : decode cL_known 57 = .ok (.ireturn, 1) := by decide +kernel
theorem dL_inside_0 : decode cL_inside 0 = .ok (.iload_n 0, 1) := by decide +kernel
theorem dL_inside_1 : decode cL_inside 1 = .ok (.ifCond .ne 7, 3) := by decide +kernel
theorem dL_inside_4 : decode cL_inside 4 = .ok (.iconst 0, 1) := by decide +kernel
theorem dL_inside_5 : decode cL_inside 5 = .ok (.goto 14, 3) := by decide +kernel
theorem dL_inside_8 : decode cL_inside 8 = .ok (.aload_n 1, 1) := by decide +kernel
theorem dL_inside_9 : decode cL_inside 9 = .ok (.iload_n 0, 1) := by decide +kernel
theorem dL_inside_10 : decode cL_inside 10 = .ok (.iaload, 1) := by decide +kernel
theorem dL_inside_11 : decode cL_inside 11 = .ok (.aload_n 2, 1) := by decide +kernel
theorem dL_inside_12 : decode cL_inside 12 = .ok (.iconst 4, 1) := by decide +kernel
theorem dL_inside_13 : decode cL_inside 13 = .ok (.iload_n 0, 1) := by decide +kernel
theorem dL_inside_14 : decode cL_inside 14 = .ok (.imul, 1) := by decide +kernel
theorem dL_inside_15 : decode cL_inside 15 = .ok (.iconst 3, 1) := by decide +kernel
theorem dL_inside_16 : decode cL_inside 16 = .ok (.iadd, 1) := by decide +kernel
theorem dL_inside_17 : decode cL_inside 17 = .ok (.iaload, 1) := by decide +kernel
theorem dL_inside_18 : decode cL_inside 18 = .ok (.iadd, 1) := by decide +kernel
theorem dL_inside_19 : decode cL_inside 19 = .ok (.ireturn, 1) := by decide +kernel
theorem dL_enters_0 : decode cL_enters 0 = .ok (.aload_n 1, 1) := by decide +kernel
theorem dL_enters_1 : decode cL_enters 1 = .ok (.iload_n 0, 1) := by decide +kernel
theorem dL_enters_2 : decode cL_enters 2 = .ok (.iaload, 1) := by decide +kernel
theorem dL_enters_3 : decode cL_enters 3 = .ok (.istore 8, 2) := by decide +kernel
theorem dL_enters_5 : decode cL_enters 5 = .ok (.aload 5, 2) := by decide +kernel
theorem dL_enters_7 : decode cL_enters 7 = .ok (.bipush 32, 2) := by decide +kernel
theorem dL_enters_9 : decode cL_enters 9 = .ok (.iload 8, 2) := by decide +kernel
theorem dL_enters_11 : decode cL_enters 11 = .ok (.iadd, 1) := by decide +kernel
theorem dL_enters_12 : decode cL_enters 12 = .ok (.iaload, 1) := by decide +kernel
theorem dL_enters_13 : decode cL_enters 13 = .ok (.aload_n 2, 1) := by decide +kernel
theorem dL_enters_14 : decode cL_enters 14 = .ok (.iconst 4, 1) := by decide +kernel
theorem dL_enters_15 : decode cL_enters 15 = .ok (.iload_n 0, 1) := by decide +kernel
theorem dL_enters_16 : decode cL_enters 16 = .ok (.imul, 1) := by decide +kernel
theorem dL_enters_17 : decode cL_enters 17 = .ok (.iconst 1, 1) := by decide +kernel
theorem dL_enters_18 : decode cL_enters 18 = .ok (.iadd, 1) := by decide +kernel
theorem dL_enters_19 : decode cL_enters 19 = .ok (.iaload, 1) := by decide +kernel
theorem dL_enters_20 : decode cL_enters 20 = .ok (.isub, 1) := by decide +kernel
theorem dL_enters_21 : decode cL_enters 21 = .ok (.aload_n 2, 1) := by decide +kernel
theorem dL_enters_22 : decode cL_enters 22 = .ok (.iconst 4, 1) := by decide +kernel
theorem dL_enters_23 : decode cL_enters 23 = .ok (.iload_n 0, 1) := by decide +kernel
theorem dL_enters_24 : decode cL_enters 24 = .ok (.imul, 1) := by decide +kernel
theorem dL_enters_25 : decode cL_enters 25 = .ok (.iconst 3, 1) := by decide +kernel
theorem dL_enters_26 : decode cL_enters 26 = .ok (.iadd, 1) := by decide +kernel
theorem dL_enters_27 : decode cL_enters 27 = .ok (.iaload, 1) := by decide +kernel
theorem dL_enters_28 : decode cL_enters 28 = .ok (.isub, 1) := by decide +kernel
theorem dL_enters_29 : decode cL_enters 29 = .ok (.aload_n 3, 1) := by decide +kernel
theorem dL_enters_30 : decode cL_enters 30 = .ok (.iconst 4, 1) := by decide +kernel
theorem dL_enters_31 : decode cL_enters 31 = .ok (.iload_n 0, 1) := by decide +kernel
theorem dL_enters_32 : decode cL_enters 32 = .ok (.imul, 1) := by decide +kernel
theorem dL_enters_33 : decode cL_enters 33 = .ok (.iconst 1, 1) := by decide +kernel
theorem dL_enters_34 : decode cL_enters 34 = .ok (.iadd, 1) := by decide +kernel
theorem dL_enters_35 : decode cL_enters 35 = .ok (.iaload, 1) := by decide +kernel
theorem dL_enters_36 : decode cL_enters 36 = .ok (.isub, 1) := by decide +kernel
theorem dL_enters_37 : decode cL_enters 37 = .ok (.aload_n 3, 1) := by decide +kernel
theorem dL_enters_38 : decode cL_enters 38 = .ok (.iconst 4, 1) := by decide +kernel
theorem dL_enters_39 : decode cL_enters 39 = .ok (.iload_n 0, 1) := by decide +kernel
theorem dL_enters_40 : decode cL_enters 40 = .ok (.imul, 1) := by decide +kernel
theorem dL_enters_41 : decode cL_enters 41 = .ok (.iconst 3, 1) := by decide +kernel
theorem dL_enters_42 : decode cL_enters 42 = .ok (.iadd, 1) := by decide +kernel
theorem dL_enters_43 : decode cL_enters 43 = .ok (.iaload, 1) := by decide +kernel
theorem dL_enters_44 : decode cL_enters 44 = .ok (.isub, 1) := by decide +kernel
theorem dL_enters_45 : decode cL_enters 45 = .ok (.istore 9, 2) := by decide +kernel
theorem dL_enters_47 : decode cL_enters 47 = .ok (.aload_n 2, 1) := by decide +kernel
theorem dL_enters_48 : decode cL_enters 48 = .ok (.iconst 4, 1) := by decide +kernel
theorem dL_enters_49 : decode cL_enters 49 = .ok (.iload_n 0, 1) := by decide +kernel
theorem dL_enters_50 : decode cL_enters 50 = .ok (.imul, 1) := by decide +kernel
theorem dL_enters_51 : decode cL_enters 51 = .ok (.iaload, 1) := by decide +kernel
theorem dL_enters_52 : decode cL_enters 52 = .ok (.aload 7, 2) := by decide +kernel
theorem dL_enters_54 : decode cL_enters 54 = .ok (.invokestatic 10, 3) := by decide +kernel
theorem dL_enters_57 : decode cL_enters 57 = .ok (.aload 7, 2) := by decide +kernel
theorem dL_enters_59 : decode cL_enters 59 = .ok (.iconst 5, 1) := by decide +kernel
theorem dL_enters_60 : decode cL_enters 60 = .ok (.dup2, 1) := by decide +kernel
theorem dL_enters_61 : decode cL_enters 61 = .ok (.iaload, 1) := by decide +kernel
theorem dL_enters_62 : decode cL_enters 62 = .ok (.iconst 1, 1) := by decide +kernel
theorem dL_enters_63 : decode cL_enters 63 = .ok (.iload_n 0, 1) := by decide +kernel
theorem dL_enters_64 : decode cL_enters 64 = .ok (.ishl, 1) := by decide +kernel
theorem dL_enters_65 : decode cL_enters 65 = .ok (.ior, 1) := by decide +kernel
theorem dL_enters_66 : decode cL_enters 66 = .ok (.iastore, 1) := by decide +kernel
theorem dL_enters_67 : decode cL_enters 67 = .ok (.aload_n 3, 1) := by decide +kernel
theorem dL_enters_68 : decode cL_enters 68 = .ok (.iconst 4, 1) := by decide +kernel
theorem dL_enters_69 : decode cL_enters 69 = .ok (.iload_n 0, 1) := by decide +kernel
theorem dL_enters_70 : decode cL_enters 70 = .ok (.imul, 1) := by decide +kernel
theorem dL_enters_71 : decode cL_enters 71 = .ok (.iaload, 1) := by decide +kernel
theorem dL_enters_72 : decode cL_enters 72 = .ok (.ifCond .le 22, 3) := by decide +kernel
theorem dL_enters_75 : decode cL_enters 75 = .ok (.aload 7, 2) := by decide +kernel
theorem dL_enters_77 : decode cL_enters 77 = .ok (.aload 5, 2) := by decide +kernel
theorem dL_enters_79 : decode cL_enters 79 = .ok (.invokestatic 16, 3) := by decide +kernel
theorem dL_enters_82 : decode cL_enters 82 = .ok (.aload 7, 2) := by decide +kernel
theorem dL_enters_84 : decode cL_enters 84 = .ok (.iconst 0, 1) := by decide +kernel
theorem dL_enters_85 : decode cL_enters 85 = .ok (.dup2, 1) := by decide +kernel
theorem dL_enters_86 : decode cL_enters 86 = .ok (.iaload, 1) := by decide +kernel
theorem dL_enters_87 : decode cL_enters 87 = .ok (.aload_n 3, 1) := by decide +kernel
theorem dL_enters_88 : decode cL_enters 88 = .ok (.iconst 4, 1) := by decide +kernel
theorem dL_enters_89 : decode cL_enters 89 = .ok (.iload_n 0, 1) := by decide +kernel
theorem dL_enters_90 : decode cL_enters 90 = .ok (.imul, 1) := by decide +kernel
theorem dL_enters_91 : decode cL_enters 91 = .ok (.iaload, 1) := by decide +kernel
theorem dL_enters_92 : decode cL_enters 92 = .ok (.iadd, 1) := by decide +kernel
theorem dL_enters_93 : decode cL_enters 93 = .ok (.iastore, 1) := by decide +kernel
theorem dL_enters_94 : decode cL_enters 94 = .ok (.aload 6, 2) := by decide +kernel
theorem dL_enters_96 : decode cL_enters 96 = .ok (.iload_n 0, 1) := by decide +kernel
theorem dL_enters_97 : decode cL_enters 97 = .ok (.iload_n 0, 1) := by decide +kernel
theorem dL_enters_98 : decode cL_enters 98 = .ok (.aload 4, 2) := by decide +kernel
theorem dL_enters_100 : decode cL_enters 100 = .ok (.aload_n 1, 1) := by decide +kernel
theorem dL_enters_101 : decode cL_enters 101 = .ok (.aload 6, 2) := by decide +kernel
theorem dL_enters_103 : decode cL_enters 103 = .ok (.invokestatic 20, 3) := by decide +kernel
theorem dL_enters_106 : decode cL_enters 106 = .ok (.iastore, 1) := by decide +kernel
theorem dL_enters_107 : decode cL_enters 107 = .ok (.aload 5, 2) := by decide +kernel
theorem dL_enters_109 : decode cL_enters 109 = .ok (.iload_n 0, 1) := by decide +kernel
theorem dL_enters_110 : decode cL_enters 110 = .ok (.iload 8, 2) := by decide +kernel
theorem dL_enters_112 : decode cL_enters 112 = .ok (.aload 5, 2) := by decide +kernel
theorem dL_enters_114 : decode cL_enters 114 = .ok (.aload_n 3, 1) := by decide +kernel
theorem dL_enters_115 : decode cL_enters 115 = .ok (.invokestatic 24, 3) := by decide +kernel
theorem dL_enters_118 : decode cL_enters 118 = .ok (.aload_n 2, 1) := by decide +kernel
theorem dL_enters_119 : decode cL_enters 119 = .ok (.iconst 4, 1) := by decide +kernel
theorem dL_enters_120 : decode cL_enters 120 = .ok (.iload_n 0, 1) := by decide +kernel
theorem dL_enters_121 : decode cL_enters 121 = .ok (.imul, 1) := by decide +kernel
theorem dL_enters_122 : decode cL_enters 122 = .ok (.iconst 3, 1) := by decide +kernel
theorem dL_enters_123 : decode cL_enters 123 = .ok (.iadd, 1) := by decide +kernel
theorem dL_enters_124 : decode cL_enters 124 = .ok (.iaload, 1) := by decide +kernel
theorem dL_enters_125 : decode cL_enters 125 = .ok (.iadd, 1) := by decide +kernel
theorem dL_enters_126 : decode cL_enters 126 = .ok (.iastore, 1) := by decide +kernel
theorem dL_enters_127 : decode cL_enters 127 = .ok (.aload 5, 2) := by decide +kernel
theorem dL_enters_129 : decode cL_enters 129 = .ok (.bipush 32, 2) := by decide +kernel
theorem dL_enters_131 : decode cL_enters 131 = .ok (.iload_n 0, 1) := by decide +kernel
theorem dL_enters_132 : decode cL_enters 132 = .ok (.iadd, 1) := by decide +kernel
theorem dL_enters_133 : decode cL_enters 133 = .ok (.aload 4, 2) := by decide +kernel
theorem dL_enters_135 : decode cL_enters 135 = .ok (.iload_n 0, 1) := by decide +kernel
theorem dL_enters_136 : decode cL_enters 136 = .ok (.iaload, 1) := by decide +kernel
theorem dL_enters_137 : decode cL_enters 137 = .ok (.sipush 1000, 3) := by decide +kernel
theorem dL_enters_140 : decode cL_enters 140 = .ok (.if_icmp .lt 26, 3) := by decide +kernel
theorem dL_enters_143 : decode cL_enters 143 = .ok (.aload 5, 2) := by decide +kernel
theorem dL_enters_145 : decode cL_enters 145 = .ok (.bipush 32, 2) := by decide +kernel
theorem dL_enters_147 : decode cL_enters 147 = .ok (.iload 8, 2) := by decide +kernel
theorem dL_enters_149 : decode cL_enters 149 = .ok (.iadd, 1) := by decide +kernel
theorem dL_enters_150 : decode cL_enters 150 = .ok (.iaload, 1) := by decide +kernel
theorem dL_enters_151 : decode cL_enters 151 = .ok (.aload 4, 2) := by decide +kernel
theorem dL_enters_153 : decode cL_enters 153 = .ok (.iload_n 0, 1) := by decide +kernel
theorem dL_enters_154 : decode cL_enters 154 = .ok (.iaload, 1) := by decide +kernel
theorem dL_enters_155 : decode cL_enters 155 = .ok (.sipush 1000, 3) := by decide +kernel
theorem dL_enters_158 : decode cL_enters 158 = .ok (.isub, 1) := by decide +kernel
theorem dL_enters_159 : decode cL_enters 159 = .ok (.imul, 1) := by decide +kernel
theorem dL_enters_160 : decode cL_enters 160 = .ok (.bipush 100, 2) := by decide +kernel
theorem dL_enters_162 : decode cL_enters 162 = .ok (.idiv, 1) := by decide +kernel
theorem dL_enters_163 : decode cL_enters 163 = .ok (.goto 28, 3) := by decide +kernel
theorem dL_enters_166 : decode cL_enters 166 = .ok (.aload 4, 2) := by decide +kernel
theorem dL_enters_168 : decode cL_enters 168 = .ok (.iload_n 0, 1) := by decide +kernel
theorem dL_enters_169 : decode cL_enters 169 = .ok (.iaload, 1) := by decide +kernel
theorem dL_enters_170 : decode cL_enters 170 = .ok (.ifCond .lt 10, 3) := by decide +kernel
theorem dL_enters_173 : decode cL_enters 173 = .ok (.aload 4, 2) := by decide +kernel
theorem dL_enters_175 : decode cL_enters 175 = .ok (.iload_n 0, 1) := by decide +kernel
theorem dL_enters_176 : decode cL_enters 176 = .ok (.iaload, 1) := by decide +kernel
theorem dL_enters_177 : decode cL_enters 177 = .ok (.goto 14, 3) := by decide +kernel
theorem dL_enters_180 : decode cL_enters 180 = .ok (.iload 9, 2) := by decide +kernel
theorem dL_enters_182 : decode cL_enters 182 = .ok (.ifCond .le 8, 3) := by decide +kernel
theorem dL_enters_185 : decode cL_enters 185 = .ok (.iload 9, 2) := by decide +kernel
theorem dL_enters_187 : decode cL_enters 187 = .ok (.goto 4, 3) := by decide +kernel
theorem dL_enters_190 : decode cL_enters 190 = .ok (.iconst 0, 1) := by decide +kernel
theorem dL_enters_191 : decode cL_enters 191 = .ok (.iastore, 1) := by decide +kernel
theorem dL_enters_192 : decode cL_enters 192 = .ok (.return_, 1) := by decide +kernel
theorem dL_leaves_0 : decode cL_leaves 0 = .ok (.aload_n 2, 1) := by decide +kernel
theorem dL_leaves_1 : decode cL_leaves 1 = .ok (.iconst 4, 1) := by decide +kernel
theorem dL_leaves_2 : decode cL_leaves 2 = .ok (.iload_n 0, 1) := by decide +kernel
theorem dL_leaves_3 : decode cL_leaves 3 = .ok (.imul, 1) := by decide +kernel
theorem dL_leaves_4 : decode cL_leaves 4 = .ok (.iconst 2, 1) := by decide +kernel
theorem dL_leaves_5 : decode cL_leaves 5 = .ok (.iadd, 1) := by decide +kernel
theorem dL_leaves_6 : decode cL_leaves 6 = .ok (.iaload, 1) := by decide +kernel
theorem dL_leaves_7 : decode cL_leaves 7 = .ok (.istore 6, 2) := by decide +kernel
theorem dL_leaves_9 : decode cL_leaves 9 = .ok (.aload 5, 2) := by decide +kernel
theorem dL_leaves_11 : decode cL_leaves 11 = .ok (.iconst 5, 1) := by decide +kernel
theorem dL_leaves_12 : decode cL_leaves 12 = .ok (.iaload, 1) := by decide +kernel
theorem dL_leaves_13 : decode cL_leaves 13 = .ok (.iload_n 0, 1) := by decide +kernel
theorem dL_leaves_14 : decode cL_leaves 14 = .ok (.ishr, 1) := by decide +kernel
theorem dL_leaves_15 : decode cL_leaves 15 = .ok (.iconst 1, 1) := by decide +kernel
theorem dL_leaves_16 : decode cL_leaves 16 = .ok (.iand, 1) := by decide +kernel
theorem dL_leaves_17 : decode cL_leaves 17 = .ok (.iconst 1, 1) := by decide +kernel
theorem dL_leaves_18 : decode cL_leaves 18 = .ok (.if_icmp .ne 7, 3) := by decide +kernel
theorem dL_leaves_21 : decode cL_leaves 21 = .ok (.iconst 1, 1) := by decide +kernel
theorem dL_leaves_22 : decode cL_leaves 22 = .ok (.goto 4, 3) := by decide +kernel
theorem dL_leaves_25 : decode cL_leaves 25 = .ok (.iconst 0, 1) := by decide +kernel
theorem dL_leaves_26 : decode cL_leaves 26 = .ok (.istore 7, 2) := by decide +kernel
theorem dL_leaves_28 : decode cL_leaves 28 = .ok (.aload 5, 2) := by decide +kernel
theorem dL_leaves_30 : decode cL_leaves 30 = .ok (.iconst 0, 1) := by decide +kernel
theorem dL_leaves_31 : decode cL_leaves 31 = .ok (.iaload, 1) := by decide +kernel
theorem dL_leaves_32 : decode cL_leaves 32 = .ok (.aload_n 3, 1) := by decide +kernel
theorem dL_leaves_33 : decode cL_leaves 33 = .ok (.bipush 16, 2) := by decide +kernel
theorem dL_leaves_35 : decode cL_leaves 35 = .ok (.iload_n 0, 1) := by decide +kernel
theorem dL_leaves_36 : decode cL_leaves 36 = .ok (.iadd, 1) := by decide +kernel
theorem dL_leaves_37 : decode cL_leaves 37 = .ok (.iaload, 1) := by decide +kernel
theorem dL_leaves_38 : decode cL_leaves 38 = .ok (.isub, 1) := by decide +kernel
theorem dL_leaves_39 : decode cL_leaves 39 = .ok (.aload_n 2, 1) := by decide +kernel
theorem dL_leaves_40 : decode cL_leaves 40 = .ok (.iconst 4, 1) := by decide +kernel
theorem dL_leaves_41 : decode cL_leaves 41 = .ok (.iload_n 0, 1) := by decide +kernel
theorem dL_leaves_42 : decode cL_leaves 42 = .ok (.imul, 1) := by decide +kernel
theorem dL_leaves_43 : decode cL_leaves 43 = .ok (.iaload, 1) := by decide +kernel
theorem dL_leaves_44 : decode cL_leaves 44 = .ok (.isub, 1) := by decide +kernel
theorem dL_leaves_45 : decode cL_leaves 45 = .ok (.istore 8, 2) := by decide +kernel
theorem dL_leaves_47 : decode cL_leaves 47 = .ok (.iload 7, 2) := by decide +kernel
theorem dL_leaves_49 : decode cL_leaves 49 = .ok (.ifCond .eq 57, 3) := by decide +kernel
theorem dL_leaves_52 : decode cL_leaves 52 = .ok (.aload 4, 2) := by decide +kernel
theorem dL_leaves_54 : decode cL_leaves 54 = .ok (.iload_n 0, 1) := by decide +kernel
theorem dL_leaves_55 : decode cL_leaves 55 = .ok (.iaload, 1) := by decide +kernel
theorem dL_leaves_56 : decode cL_leaves 56 = .ok (.ifCond .gt 50, 3) := by decide +kernel
theorem dL_leaves_59 : decode cL_leaves 59 = .ok (.iload 6, 2) := by decide +kernel
theorem dL_leaves_61 : decode cL_leaves 61 = .ok (.ifCond .ne 45, 3) := by decide +kernel
theorem dL_leaves_64 : decode cL_leaves 64 = .ok (.aload_n 3, 1) := by decide +kernel
theorem dL_leaves_65 : decode cL_leaves 65 = .ok (.bipush 16, 2) := by decide +kernel
theorem dL_leaves_67 : decode cL_leaves 67 = .ok (.iload_n 0, 1) := by decide +kernel
theorem dL_leaves_68 : decode cL_leaves 68 = .ok (.iadd, 1) := by decide +kernel
theorem dL_leaves_69 : decode cL_leaves 69 = .ok (.aload 5, 2) := by decide +kernel
theorem dL_leaves_71 : decode cL_leaves 71 = .ok (.iconst 0, 1) := by decide +kernel
theorem dL_leaves_72 : decode cL_leaves 72 = .ok (.iaload, 1) := by decide +kernel
theorem dL_leaves_73 : decode cL_leaves 73 = .ok (.aload 5, 2) := by decide +kernel
theorem dL_leaves_75 : decode cL_leaves 75 = .ok (.iconst 1, 1) := by decide +kernel
theorem dL_leaves_76 : decode cL_leaves 76 = .ok (.iaload, 1) := by decide +kernel
theorem dL_leaves_77 : decode cL_leaves 77 = .ok (.iadd, 1) := by decide +kernel
theorem dL_leaves_78 : decode cL_leaves 78 = .ok (.aload 5, 2) := by decide +kernel
theorem dL_leaves_80 : decode cL_leaves 80 = .ok (.iconst 2, 1) := by decide +kernel
theorem dL_leaves_81 : decode cL_leaves 81 = .ok (.iaload, 1) := by decide +kernel
theorem dL_leaves_82 : decode cL_leaves 82 = .ok (.iadd, 1) := by decide +kernel
theorem dL_leaves_83 : decode cL_leaves 83 = .ok (.iastore, 1) := by decide +kernel
theorem dL_leaves_84 : decode cL_leaves 84 = .ok (.aload_n 3, 1) := by decide +kernel
theorem dL_leaves_85 : decode cL_leaves 85 = .ok (.bipush 48, 2) := by decide +kernel
theorem dL_leaves_87 : decode cL_leaves 87 = .ok (.iload_n 0, 1) := by decide +kernel
theorem dL_leaves_88 : decode cL_leaves 88 = .ok (.iadd, 1) := by decide +kernel
theorem dL_leaves_89 : decode cL_leaves 89 = .ok (.iconst 0, 1) := by decide +kernel
theorem dL_leaves_90 : decode cL_leaves 90 = .ok (.iastore, 1) := by decide +kernel
theorem dL_leaves_91 : decode cL_leaves 91 = .ok (.aload 5, 2) := by decide +kernel
theorem dL_leaves_93 : decode cL_leaves 93 = .ok (.iconst 5, 1) := by decide +kernel
theorem dL_leaves_94 : decode cL_leaves 94 = .ok (.dup2, 1) := by decide +kernel
theorem dL_leaves_95 : decode cL_leaves 95 = .ok (.iaload, 1) := by decide +kernel
theorem dL_leaves_96 : decode cL_leaves 96 = .ok (.iconst 1, 1) := by decide +kernel
theorem dL_leaves_97 : decode cL_leaves 97 = .ok (.iload_n 0, 1) := by decide +kernel
theorem dL_leaves_98 : decode cL_leaves 98 = .ok (.ishl, 1) := by decide +kernel
theorem dL_leaves_99 : decode cL_leaves 99 = .ok (.iconst (-1), 1) := by decide +kernel
theorem dL_leaves_100 : decode cL_leaves 100 = .ok (.ixor, 1) := by decide +kernel
theorem dL_leaves_101 : decode cL_leaves 101 = .ok (.iand, 1) := by decide +kernel
theorem dL_leaves_102 : decode cL_leaves 102 = .ok (.iastore, 1) := by decide +kernel
theorem dL_leaves_103 : decode cL_leaves 103 = .ok (.goto 193, 3) := by decide +kernel
theorem dL_leaves_106 : decode cL_leaves 106 = .ok (.iload 7, 2) := by decide +kernel
theorem dL_leaves_108 : decode cL_leaves 108 = .ok (.ifCond .eq 49, 3) := by decide +kernel
theorem dL_leaves_111 : decode cL_leaves 111 = .ok (.aload 5, 2) := by decide +kernel
theorem dL_leaves_113 : decode cL_leaves 113 = .ok (.aload_n 3, 1) := by decide +kernel
theorem dL_leaves_114 : decode cL_leaves 114 = .ok (.invokestatic 16, 3) := by decide +kernel
theorem dL_leaves_117 : decode cL_leaves 117 = .ok (.aload_n 3, 1) := by decide +kernel
theorem dL_leaves_118 : decode cL_leaves 118 = .ok (.bipush 48, 2) := by decide +kernel
theorem dL_leaves_120 : decode cL_leaves 120 = .ok (.iload_n 0, 1) := by decide +kernel
theorem dL_leaves_121 : decode cL_leaves 121 = .ok (.iadd, 1) := by decide +kernel
theorem dL_leaves_122 : decode cL_leaves 122 = .ok (.aload 4, 2) := by decide +kernel
theorem dL_leaves_124 : decode cL_leaves 124 = .ok (.iload_n 0, 1) := by decide +kernel
theorem dL_leaves_125 : decode cL_leaves 125 = .ok (.iaload, 1) := by decide +kernel
theorem dL_leaves_126 : decode cL_leaves 126 = .ok (.ifCond .le 10, 3) := by decide +kernel
theorem dL_leaves_129 : decode cL_leaves 129 = .ok (.aload 4, 2) := by decide +kernel
theorem dL_leaves_131 : decode cL_leaves 131 = .ok (.iload_n 0, 1) := by decide +kernel
theorem dL_leaves_132 : decode cL_leaves 132 = .ok (.iaload, 1) := by decide +kernel
theorem dL_leaves_133 : decode cL_leaves 133 = .ok (.goto 4, 3) := by decide +kernel
theorem dL_leaves_136 : decode cL_leaves 136 = .ok (.iconst 0, 1) := by decide +kernel
theorem dL_leaves_137 : decode cL_leaves 137 = .ok (.iastore, 1) := by decide +kernel
theorem dL_leaves_138 : decode cL_leaves 138 = .ok (.aload 5, 2) := by decide +kernel
theorem dL_leaves_140 : decode cL_leaves 140 = .ok (.iconst 0, 1) := by decide +kernel
theorem dL_leaves_141 : decode cL_leaves 141 = .ok (.dup2, 1) := by decide +kernel
theorem dL_leaves_142 : decode cL_leaves 142 = .ok (.iaload, 1) := by decide +kernel
theorem dL_leaves_143 : decode cL_leaves 143 = .ok (.aload_n 3, 1) := by decide +kernel
theorem dL_leaves_144 : decode cL_leaves 144 = .ok (.bipush 48, 2) := by decide +kernel
theorem dL_leaves_146 : decode cL_leaves 146 = .ok (.iload_n 0, 1) := by decide +kernel
theorem dL_leaves_147 : decode cL_leaves 147 = .ok (.iadd, 1) := by decide +kernel
theorem dL_leaves_148 : decode cL_leaves 148 = .ok (.iaload, 1) := by decide +kernel
theorem dL_leaves_149 : decode cL_leaves 149 = .ok (.iload 6, 2) := by decide +kernel
theorem dL_leaves_151 : decode cL_leaves 151 = .ok (.iadd, 1) := by decide +kernel
theorem dL_leaves_152 : decode cL_leaves 152 = .ok (.iadd, 1) := by decide +kernel
theorem dL_leaves_153 : decode cL_leaves 153 = .ok (.iastore, 1) := by decide +kernel
theorem dL_leaves_154 : decode cL_leaves 154 = .ok (.goto 142, 3) := by decide +kernel
theorem dL_leaves_157 : decode cL_leaves 157 = .ok (.aload 4, 2) := by decide +kernel
theorem dL_leaves_159 : decode cL_leaves 159 = .ok (.iload_n 0, 1) := by decide +kernel
theorem dL_leaves_160 : decode cL_leaves 160 = .ok (.iaload, 1) := by decide +kernel
theorem dL_leaves_161 : decode cL_leaves 161 = .ok (.ifCond .lt 50, 3) := by decide +kernel
theorem dL_leaves_164 : decode cL_leaves 164 = .ok (.aload 5, 2) := by decide +kernel
theorem dL_leaves_166 : decode cL_leaves 166 = .ok (.iconst 1, 1) := by decide +kernel
theorem dL_leaves_167 : decode cL_leaves 167 = .ok (.iconst 0, 1) := by decide +kernel
theorem dL_leaves_168 : decode cL_leaves 168 = .ok (.iastore, 1) := by decide +kernel
theorem dL_leaves_169 : decode cL_leaves 169 = .ok (.aload 5, 2) := by decide +kernel
theorem dL_leaves_171 : decode cL_leaves 171 = .ok (.iconst 2, 1) := by decide +kernel
theorem dL_leaves_172 : decode cL_leaves 172 = .ok (.iconst 0, 1) := by decide +kernel
theorem dL_leaves_173 : decode cL_leaves 173 = .ok (.iastore, 1) := by decide +kernel
theorem dL_leaves_174 : decode cL_leaves 174 = .ok (.aload_n 3, 1) := by decide +kernel
theorem dL_leaves_175 : decode cL_leaves 175 = .ok (.bipush 48, 2) := by decide +kernel
theorem dL_leaves_177 : decode cL_leaves 177 = .ok (.iload_n 0, 1) := by decide +kernel
theorem dL_leaves_178 : decode cL_leaves 178 = .ok (.iadd, 1) := by decide +kernel
theorem dL_leaves_179 : decode cL_leaves 179 = .ok (.aload 4, 2) := by decide +kernel
theorem dL_leaves_181 : decode cL_leaves 181 = .ok (.iload_n 0, 1) := by decide +kernel
theorem dL_leaves_182 : decode cL_leaves 182 = .ok (.iaload, 1) := by decide +kernel
theorem dL_leaves_183 : decode cL_leaves 183 = .ok (.iastore, 1) := by decide +kernel
theorem dL_leaves_184 : decode cL_leaves 184 = .ok (.aload 5, 2) := by decide +kernel
theorem dL_leaves_186 : decode cL_leaves 186 = .ok (.iconst 0, 1) := by decide +kernel
theorem dL_leaves_187 : decode cL_leaves 187 = .ok (.aload_n 3, 1) := by decide +kernel
theorem dL_leaves_188 : decode cL_leaves 188 = .ok (.bipush 16, 2) := by decide +kernel
theorem dL_leaves_190 : decode cL_leaves 190 = .ok (.iload_n 0, 1) := by decide +kernel
theorem dL_leaves_191 : decode cL_leaves 191 = .ok (.iadd, 1) := by decide +kernel
end
section
theorem dL_leaves_192 : decode cL_leaves 192 = .ok (.iaload, 1) := by decide +kernel
theorem dL_leaves_193 : decode cL_leaves 193 = .ok (.aload_n 2, 1) := by decide +kernel
theorem dL_leaves_194 : decode cL_leaves 194 = .ok (.iconst 4, 1) := by decide +kernel
theorem dL_leaves_195 : decode cL_leaves 195 = .ok (.iload_n 0, 1) := by decide +kernel
theorem dL_leaves_196 : decode cL_leaves 196 = .ok (.imul, 1) := by decide +kernel
theorem dL_leaves_197 : decode cL_leaves 197 = .ok (.iaload, 1) := by decide +kernel
theorem dL_leaves_198 : decode cL_leaves 198 = .ok (.iadd, 1) := by decide +kernel
theorem dL_leaves_199 : decode cL_leaves 199 = .ok (.aload 4, 2) := by decide +kernel
theorem dL_leaves_201 : decode cL_leaves 201 = .ok (.iload_n 0, 1) := by decide +kernel
theorem dL_leaves_202 : decode cL_leaves 202 = .ok (.iaload, 1) := by decide +kernel
theorem dL_leaves_203 : decode cL_leaves 203 = .ok (.iadd, 1) := by decide +kernel
theorem dL_leaves_204 : decode cL_leaves 204 = .ok (.iload 6, 2) := by decide +kernel
theorem dL_leaves_206 : decode cL_leaves 206 = .ok (.iadd, 1) := by decide +kernel
theorem dL_leaves_207 : decode cL_leaves 207 = .ok (.iastore, 1) := by decide +kernel
theorem dL_leaves_208 : decode cL_leaves 208 = .ok (.goto 88, 3) := by decide +kernel
theorem dL_leaves_211 : decode cL_leaves 211 = .ok (.iload 6, 2) := by decide +kernel
theorem dL_leaves_213 : decode cL_leaves 213 = .ok (.ifCond .le 28, 3) := by decide +kernel
theorem dL_leaves_216 : decode cL_leaves 216 = .ok (.aload 5, 2) := by decide +kernel
theorem dL_leaves_218 : decode cL_leaves 218 = .ok (.aload_n 3, 1) := by decide +kernel
theorem dL_leaves_219 : decode cL_leaves 219 = .ok (.invokestatic 16, 3) := by decide +kernel
theorem dL_leaves_222 : decode cL_leaves 222 = .ok (.aload 5, 2) := by decide +kernel
theorem dL_leaves_224 : decode cL_leaves 224 = .ok (.iconst 0, 1) := by decide +kernel
theorem dL_leaves_225 : decode cL_leaves 225 = .ok (.iaload, 1) := by decide +kernel
theorem dL_leaves_226 : decode cL_leaves 226 = .ok (.aload_n 3, 1) := by decide +kernel
theorem dL_leaves_227 : decode cL_leaves 227 = .ok (.bipush 16, 2) := by decide +kernel
theorem dL_leaves_229 : decode cL_leaves 229 = .ok (.iload_n 0, 1) := by decide +kernel
theorem dL_leaves_230 : decode cL_leaves 230 = .ok (.iadd, 1) := by decide +kernel
theorem dL_leaves_231 : decode cL_leaves 231 = .ok (.iaload, 1) := by decide +kernel
theorem dL_leaves_232 : decode cL_leaves 232 = .ok (.isub, 1) := by decide +kernel
theorem dL_leaves_233 : decode cL_leaves 233 = .ok (.aload_n 2, 1) := by decide +kernel
theorem dL_leaves_234 : decode cL_leaves 234 = .ok (.iconst 4, 1) := by decide +kernel
theorem dL_leaves_235 : decode cL_leaves 235 = .ok (.iload_n 0, 1) := by decide +kernel
theorem dL_leaves_236 : decode cL_leaves 236 = .ok (.imul, 1) := by decide +kernel
theorem dL_leaves_237 : decode cL_leaves 237 = .ok (.iaload, 1) := by decide +kernel
theorem dL_leaves_238 : decode cL_leaves 238 = .ok (.isub, 1) := by decide +kernel
theorem dL_leaves_239 : decode cL_leaves 239 = .ok (.istore 8, 2) := by decide +kernel
theorem dL_leaves_241 : decode cL_leaves 241 = .ok (.aload_n 3, 1) := by decide +kernel
theorem dL_leaves_242 : decode cL_leaves 242 = .ok (.bipush 48, 2) := by decide +kernel
theorem dL_leaves_244 : decode cL_leaves 244 = .ok (.iload_n 0, 1) := by decide +kernel
theorem dL_leaves_245 : decode cL_leaves 245 = .ok (.iadd, 1) := by decide +kernel
theorem dL_leaves_246 : decode cL_leaves 246 = .ok (.iload 8, 2) := by decide +kernel
theorem dL_leaves_248 : decode cL_leaves 248 = .ok (.ifCond .le 8, 3) := by decide +kernel
theorem dL_leaves_251 : decode cL_leaves 251 = .ok (.iload 8, 2) := by decide +kernel
theorem dL_leaves_253 : decode cL_leaves 253 = .ok (.goto 4, 3) := by decide +kernel
theorem dL_leaves_256 : decode cL_leaves 256 = .ok (.iconst 0, 1) := by decide +kernel
theorem dL_leaves_257 : decode cL_leaves 257 = .ok (.iastore, 1) := by decide +kernel
theorem dL_leaves_258 : decode cL_leaves 258 = .ok (.aload 5, 2) := by decide +kernel
theorem dL_leaves_260 : decode cL_leaves 260 = .ok (.iconst 0, 1) := by decide +kernel
theorem dL_leaves_261 : decode cL_leaves 261 = .ok (.iload 6, 2) := by decide +kernel
theorem dL_leaves_263 : decode cL_leaves 263 = .ok (.ifCond .le 28, 3) := by decide +kernel
theorem dL_leaves_266 : decode cL_leaves 266 = .ok (.aload_n 3, 1) := by decide +kernel
theorem dL_leaves_267 : decode cL_leaves 267 = .ok (.bipush 16, 2) := by decide +kernel
theorem dL_leaves_269 : decode cL_leaves 269 = .ok (.iload_n 0, 1) := by decide +kernel
theorem dL_leaves_270 : decode cL_leaves 270 = .ok (.iadd, 1) := by decide +kernel
theorem dL_leaves_271 : decode cL_leaves 271 = .ok (.iaload, 1) := by decide +kernel
theorem dL_leaves_272 : decode cL_leaves 272 = .ok (.aload_n 2, 1) := by decide +kernel
theorem dL_leaves_273 : decode cL_leaves 273 = .ok (.iconst 4, 1) := by decide +kernel
theorem dL_leaves_274 : decode cL_leaves 274 = .ok (.iload_n 0, 1) := by decide +kernel
theorem dL_leaves_275 : decode cL_leaves 275 = .ok (.imul, 1) := by decide +kernel
theorem dL_leaves_276 : decode cL_leaves 276 = .ok (.iaload, 1) := by decide +kernel
theorem dL_leaves_277 : decode cL_leaves 277 = .ok (.iadd, 1) := by decide +kernel
theorem dL_leaves_278 : decode cL_leaves 278 = .ok (.aload_n 3, 1) := by decide +kernel
theorem dL_leaves_279 : decode cL_leaves 279 = .ok (.bipush 48, 2) := by decide +kernel
theorem dL_leaves_281 : decode cL_leaves 281 = .ok (.iload_n 0, 1) := by decide +kernel
theorem dL_leaves_282 : decode cL_leaves 282 = .ok (.iadd, 1) := by decide +kernel
theorem dL_leaves_283 : decode cL_leaves 283 = .ok (.iaload, 1) := by decide +kernel
theorem dL_leaves_284 : decode cL_leaves 284 = .ok (.iadd, 1) := by decide +kernel
theorem dL_leaves_285 : decode cL_leaves 285 = .ok (.iload 6, 2) := by decide +kernel
theorem dL_leaves_287 : decode cL_leaves 287 = .ok (.iadd, 1) := by decide +kernel
theorem dL_leaves_288 : decode cL_leaves 288 = .ok (.goto 7, 3) := by decide +kernel
theorem dL_leaves_291 : decode cL_leaves 291 = .ok (.aload 5, 2) := by decide +kernel
theorem dL_leaves_293 : decode cL_leaves 293 = .ok (.iconst 0, 1) := by decide +kernel
theorem dL_leaves_294 : decode cL_leaves 294 = .ok (.iaload, 1) := by decide +kernel
theorem dL_leaves_295 : decode cL_leaves 295 = .ok (.iastore, 1) := by decide +kernel
theorem dL_leaves_296 : decode cL_leaves 296 = .ok (.aload_n 1, 1) := by decide +kernel
theorem dL_leaves_297 : decode cL_leaves 297 = .ok (.iconst 4, 1) := by decide +kernel
theorem dL_leaves_298 : decode cL_leaves 298 = .ok (.iload_n 0, 1) := by decide +kernel
theorem dL_leaves_299 : decode cL_leaves 299 = .ok (.imul, 1) := by decide +kernel
theorem dL_leaves_300 : decode cL_leaves 300 = .ok (.iconst 2, 1) := by decide +kernel
theorem dL_leaves_301 : decode cL_leaves 301 = .ok (.iadd, 1) := by decide +kernel
theorem dL_leaves_302 : decode cL_leaves 302 = .ok (.iaload, 1) := by decide +kernel
theorem dL_leaves_303 : decode cL_leaves 303 = .ok (.aload 5, 2) := by decide +kernel
theorem dL_leaves_305 : decode cL_leaves 305 = .ok (.invokestatic 10, 3) := by decide +kernel
theorem dL_leaves_308 : decode cL_leaves 308 = .ok (.return_, 1) := by decide +kernel
theorem dL_shuts_0 : decode cL_shuts 0 = .ok (.aload 5, 2) := by decide +kernel
theorem dL_shuts_2 : decode cL_shuts 2 = .ok (.iconst 3, 1) := by decide +kernel
theorem dL_shuts_3 : decode cL_shuts 3 = .ok (.aload 4, 2) := by decide +kernel
theorem dL_shuts_5 : decode cL_shuts 5 = .ok (.bipush 6, 2) := by decide +kernel
theorem dL_shuts_7 : decode cL_shuts 7 = .ok (.iaload, 1) := by decide +kernel
theorem dL_shuts_8 : decode cL_shuts 8 = .ok (.imul, 1) := by decide +kernel
theorem dL_shuts_9 : decode cL_shuts 9 = .ok (.iload_n 0, 1) := by decide +kernel
theorem dL_shuts_10 : decode cL_shuts 10 = .ok (.iastore, 1) := by decide +kernel
theorem dL_shuts_11 : decode cL_shuts 11 = .ok (.aload 5, 2) := by decide +kernel
theorem dL_shuts_13 : decode cL_shuts 13 = .ok (.iconst 3, 1) := by decide +kernel
theorem dL_shuts_14 : decode cL_shuts 14 = .ok (.aload 4, 2) := by decide +kernel
theorem dL_shuts_16 : decode cL_shuts 16 = .ok (.bipush 6, 2) := by decide +kernel
theorem dL_shuts_18 : decode cL_shuts 18 = .ok (.iaload, 1) := by decide +kernel
theorem dL_shuts_19 : decode cL_shuts 19 = .ok (.imul, 1) := by decide +kernel
theorem dL_shuts_20 : decode cL_shuts 20 = .ok (.iconst 1, 1) := by decide +kernel
theorem dL_shuts_21 : decode cL_shuts 21 = .ok (.iadd, 1) := by decide +kernel
theorem dL_shuts_22 : decode cL_shuts 22 = .ok (.aload 4, 2) := by decide +kernel
theorem dL_shuts_24 : decode cL_shuts 24 = .ok (.iconst 0, 1) := by decide +kernel
theorem dL_shuts_25 : decode cL_shuts 25 = .ok (.iaload, 1) := by decide +kernel
theorem dL_shuts_26 : decode cL_shuts 26 = .ok (.iastore, 1) := by decide +kernel
theorem dL_shuts_27 : decode cL_shuts 27 = .ok (.aload 5, 2) := by decide +kernel
theorem dL_shuts_29 : decode cL_shuts 29 = .ok (.iconst 3, 1) := by decide +kernel
theorem dL_shuts_30 : decode cL_shuts 30 = .ok (.aload 4, 2) := by decide +kernel
theorem dL_shuts_32 : decode cL_shuts 32 = .ok (.bipush 6, 2) := by decide +kernel
theorem dL_shuts_34 : decode cL_shuts 34 = .ok (.iaload, 1) := by decide +kernel
theorem dL_shuts_35 : decode cL_shuts 35 = .ok (.imul, 1) := by decide +kernel
theorem dL_shuts_36 : decode cL_shuts 36 = .ok (.iconst 2, 1) := by decide +kernel
theorem dL_shuts_37 : decode cL_shuts 37 = .ok (.iadd, 1) := by decide +kernel
theorem dL_shuts_38 : decode cL_shuts 38 = .ok (.iload_n 1, 1) := by decide +kernel
theorem dL_shuts_39 : decode cL_shuts 39 = .ok (.iastore, 1) := by decide +kernel
theorem dL_shuts_40 : decode cL_shuts 40 = .ok (.aload 4, 2) := by decide +kernel
theorem dL_shuts_42 : decode cL_shuts 42 = .ok (.bipush 6, 2) := by decide +kernel
theorem dL_shuts_44 : decode cL_shuts 44 = .ok (.dup2, 1) := by decide +kernel
theorem dL_shuts_45 : decode cL_shuts 45 = .ok (.iaload, 1) := by decide +kernel
theorem dL_shuts_46 : decode cL_shuts 46 = .ok (.iconst 1, 1) := by decide +kernel
theorem dL_shuts_47 : decode cL_shuts 47 = .ok (.iadd, 1) := by decide +kernel
theorem dL_shuts_48 : decode cL_shuts 48 = .ok (.iastore, 1) := by decide +kernel
theorem dL_shuts_49 : decode cL_shuts 49 = .ok (.aload 4, 2) := by decide +kernel
theorem dL_shuts_51 : decode cL_shuts 51 = .ok (.iconst 0, 1) := by decide +kernel
theorem dL_shuts_52 : decode cL_shuts 52 = .ok (.dup2, 1) := by decide +kernel
theorem dL_shuts_53 : decode cL_shuts 53 = .ok (.iaload, 1) := by decide +kernel
theorem dL_shuts_54 : decode cL_shuts 54 = .ok (.iload_n 2, 1) := by decide +kernel
theorem dL_shuts_55 : decode cL_shuts 55 = .ok (.iload_n 3, 1) := by decide +kernel
theorem dL_shuts_56 : decode cL_shuts 56 = .ok (.iadd, 1) := by decide +kernel
theorem dL_shuts_57 : decode cL_shuts 57 = .ok (.iadd, 1) := by decide +kernel
theorem dL_shuts_58 : decode cL_shuts 58 = .ok (.iastore, 1) := by decide +kernel
theorem dL_shuts_59 : decode cL_shuts 59 = .ok (.return_, 1) := by decide +kernel
theorem dL_runs_0 : decode cL_runs 0 = .ok (.iload_n 1, 1) := by decide +kernel
theorem dL_runs_1 : decode cL_runs 1 = .ok (.istore 8, 2) := by decide +kernel
theorem dL_runs_3 : decode cL_runs 3 = .ok (.aload_n 2, 1) := by decide +kernel
theorem dL_runs_4 : decode cL_runs 4 = .ok (.bipush 32, 2) := by decide +kernel
theorem dL_runs_6 : decode cL_runs 6 = .ok (.iload_n 1, 1) := by decide +kernel
theorem dL_runs_7 : decode cL_runs 7 = .ok (.iadd, 1) := by decide +kernel
theorem dL_runs_8 : decode cL_runs 8 = .ok (.iaload, 1) := by decide +kernel
theorem dL_runs_9 : decode cL_runs 9 = .ok (.istore 9, 2) := by decide +kernel
theorem dL_runs_11 : decode cL_runs 11 = .ok (.iload_n 0, 1) := by decide +kernel
theorem dL_runs_12 : decode cL_runs 12 = .ok (.iload_n 1, 1) := by decide +kernel
theorem dL_runs_13 : decode cL_runs 13 = .ok (.aload_n 2, 1) := by decide +kernel
theorem dL_runs_14 : decode cL_runs 14 = .ok (.aload 6, 2) := by decide +kernel
theorem dL_runs_16 : decode cL_runs 16 = .ok (.invokestatic 28, 3) := by decide +kernel
theorem dL_runs_19 : decode cL_runs 19 = .ok (.istore 10, 2) := by decide +kernel
theorem dL_runs_21 : decode cL_runs 21 = .ok (.iload 10, 2) := by decide +kernel
theorem dL_runs_23 : decode cL_runs 23 = .ok (.ifCond .le 44, 3) := by decide +kernel
theorem dL_runs_26 : decode cL_runs 26 = .ok (.aload_n 2, 1) := by decide +kernel
theorem dL_runs_27 : decode cL_runs 27 = .ok (.bipush 16, 2) := by decide +kernel
theorem dL_runs_29 : decode cL_runs 29 = .ok (.iload 10, 2) := by decide +kernel
theorem dL_runs_31 : decode cL_runs 31 = .ok (.iadd, 1) := by decide +kernel
theorem dL_runs_32 : decode cL_runs 32 = .ok (.iaload, 1) := by decide +kernel
theorem dL_runs_33 : decode cL_runs 33 = .ok (.iconst 1, 1) := by decide +kernel
theorem dL_runs_34 : decode cL_runs 34 = .ok (.if_icmp .ne 33, 3) := by decide +kernel
theorem dL_runs_37 : decode cL_runs 37 = .ok (.iload 10, 2) := by decide +kernel
theorem dL_runs_39 : decode cL_runs 39 = .ok (.istore 8, 2) := by decide +kernel
theorem dL_runs_41 : decode cL_runs 41 = .ok (.iload 9, 2) := by decide +kernel
theorem dL_runs_43 : decode cL_runs 43 = .ok (.aload_n 2, 1) := by decide +kernel
theorem dL_runs_44 : decode cL_runs 44 = .ok (.bipush 32, 2) := by decide +kernel
theorem dL_runs_46 : decode cL_runs 46 = .ok (.iload 10, 2) := by decide +kernel
theorem dL_runs_48 : decode cL_runs 48 = .ok (.iadd, 1) := by decide +kernel
theorem dL_runs_49 : decode cL_runs 49 = .ok (.iaload, 1) := by decide +kernel
theorem dL_runs_50 : decode cL_runs 50 = .ok (.iadd, 1) := by decide +kernel
theorem dL_runs_51 : decode cL_runs 51 = .ok (.istore 9, 2) := by decide +kernel
theorem dL_runs_53 : decode cL_runs 53 = .ok (.iload_n 0, 1) := by decide +kernel
theorem dL_runs_54 : decode cL_runs 54 = .ok (.iload 10, 2) := by decide +kernel
theorem dL_runs_56 : decode cL_runs 56 = .ok (.aload_n 2, 1) := by decide +kernel
theorem dL_runs_57 : decode cL_runs 57 = .ok (.aload 6, 2) := by decide +kernel
theorem dL_runs_59 : decode cL_runs 59 = .ok (.invokestatic 28, 3) := by decide +kernel
theorem dL_runs_62 : decode cL_runs 62 = .ok (.istore 10, 2) := by decide +kernel
theorem dL_runs_64 : decode cL_runs 64 = .ok (.goto (-43), 3) := by decide +kernel
theorem dL_runs_67 : decode cL_runs 67 = .ok (.iload 9, 2) := by decide +kernel
theorem dL_runs_69 : decode cL_runs 69 = .ok (.ifCond .ne 6, 3) := by decide +kernel
theorem dL_runs_72 : decode cL_runs 72 = .ok (.iload 8, 2) := by decide +kernel
theorem dL_runs_74 : decode cL_runs 74 = .ok (.ireturn, 1) := by decide +kernel
theorem dL_runs_75 : decode cL_runs 75 = .ok (.aload 6, 2) := by decide +kernel
theorem dL_runs_77 : decode cL_runs 77 = .ok (.aload 4, 2) := by decide +kernel
theorem dL_runs_79 : decode cL_runs 79 = .ok (.invokestatic 16, 3) := by decide +kernel
theorem dL_runs_82 : decode cL_runs 82 = .ok (.iconst 0, 1) := by decide +kernel
theorem dL_runs_83 : decode cL_runs 83 = .ok (.istore 11, 2) := by decide +kernel
theorem dL_runs_85 : decode cL_runs 85 = .ok (.iconst 0, 1) := by decide +kernel
theorem dL_runs_86 : decode cL_runs 86 = .ok (.istore 12, 2) := by decide +kernel
theorem dL_runs_88 : decode cL_runs 88 = .ok (.iconst 0, 1) := by decide +kernel
theorem dL_runs_89 : decode cL_runs 89 = .ok (.istore 13, 2) := by decide +kernel
theorem dL_runs_91 : decode cL_runs 91 = .ok (.iload_n 1, 1) := by decide +kernel
theorem dL_runs_92 : decode cL_runs 92 = .ok (.istore 14, 2) := by decide +kernel
theorem dL_runs_94 : decode cL_runs 94 = .ok (.iload 14, 2) := by decide +kernel
theorem dL_runs_96 : decode cL_runs 96 = .ok (.ifCond .le 212, 3) := by decide +kernel
theorem dL_runs_99 : decode cL_runs 99 = .ok (.iload 14, 2) := by decide +kernel
theorem dL_runs_101 : decode cL_runs 101 = .ok (.iload 8, 2) := by decide +kernel
theorem dL_runs_103 : decode cL_runs 103 = .ok (.if_icmp .gt 205, 3) := by decide +kernel
theorem dL_runs_106 : decode cL_runs 106 = .ok (.iconst 0, 1) := by decide +kernel
theorem dL_runs_107 : decode cL_runs 107 = .ok (.istore 15, 2) := by decide +kernel
theorem dL_runs_109 : decode cL_runs 109 = .ok (.iload 15, 2) := by decide +kernel
theorem dL_runs_111 : decode cL_runs 111 = .ok (.aload_n 2, 1) := by decide +kernel
theorem dL_runs_112 : decode cL_runs 112 = .ok (.bipush 32, 2) := by decide +kernel
theorem dL_runs_114 : decode cL_runs 114 = .ok (.iload 14, 2) := by decide +kernel
theorem dL_runs_116 : decode cL_runs 116 = .ok (.iadd, 1) := by decide +kernel
theorem dL_runs_117 : decode cL_runs 117 = .ok (.iaload, 1) := by decide +kernel
theorem dL_runs_118 : decode cL_runs 118 = .ok (.if_icmp .ge 176, 3) := by decide +kernel
theorem dL_runs_121 : decode cL_runs 121 = .ok (.aload_n 3, 1) := by decide +kernel
theorem dL_runs_122 : decode cL_runs 122 = .ok (.iconst 4, 1) := by decide +kernel
theorem dL_runs_123 : decode cL_runs 123 = .ok (.iload 14, 2) := by decide +kernel
theorem dL_runs_125 : decode cL_runs 125 = .ok (.imul, 1) := by decide +kernel
theorem dL_runs_126 : decode cL_runs 126 = .ok (.iload 15, 2) := by decide +kernel
theorem dL_runs_128 : decode cL_runs 128 = .ok (.iadd, 1) := by decide +kernel
theorem dL_runs_129 : decode cL_runs 129 = .ok (.iaload, 1) := by decide +kernel
theorem dL_runs_130 : decode cL_runs 130 = .ok (.istore 16, 2) := by decide +kernel
theorem dL_runs_132 : decode cL_runs 132 = .ok (.iload 11, 2) := by decide +kernel
theorem dL_runs_134 : decode cL_runs 134 = .ok (.ifCond .le 43, 3) := by decide +kernel
theorem dL_runs_137 : decode cL_runs 137 = .ok (.iload 11, 2) := by decide +kernel
theorem dL_runs_139 : decode cL_runs 139 = .ok (.iconst 1, 1) := by decide +kernel
theorem dL_runs_140 : decode cL_runs 140 = .ok (.iadd, 1) := by decide +kernel
theorem dL_runs_141 : decode cL_runs 141 = .ok (.iload 16, 2) := by decide +kernel
theorem dL_runs_143 : decode cL_runs 143 = .ok (.iadd, 1) := by decide +kernel
theorem dL_runs_144 : decode cL_runs 144 = .ok (.aload 4, 2) := by decide +kernel
theorem dL_runs_146 : decode cL_runs 146 = .ok (.bipush 32, 2) := by decide +kernel
theorem dL_runs_148 : decode cL_runs 148 = .ok (.iload_n 0, 1) := by decide +kernel
theorem dL_runs_149 : decode cL_runs 149 = .ok (.iadd, 1) := by decide +kernel
theorem dL_runs_150 : decode cL_runs 150 = .ok (.iaload, 1) := by decide +kernel
theorem dL_runs_151 : decode cL_runs 151 = .ok (.if_icmp .le 26, 3) := by decide +kernel
theorem dL_runs_154 : decode cL_runs 154 = .ok (.iload_n 0, 1) := by decide +kernel
theorem dL_runs_155 : decode cL_runs 155 = .ok (.iload 11, 2) := by decide +kernel
theorem dL_runs_157 : decode cL_runs 157 = .ok (.iload 12, 2) := by decide +kernel
theorem dL_runs_159 : decode cL_runs 159 = .ok (.iload 13, 2) := by decide +kernel
theorem dL_runs_161 : decode cL_runs 161 = .ok (.aload 6, 2) := by decide +kernel
theorem dL_runs_163 : decode cL_runs 163 = .ok (.aload 7, 2) := by decide +kernel
theorem dL_runs_165 : decode cL_runs 165 = .ok (.invokestatic 32, 3) := by decide +kernel
theorem dL_runs_168 : decode cL_runs 168 = .ok (.iconst 0, 1) := by decide +kernel
theorem dL_runs_169 : decode cL_runs 169 = .ok (.istore 11, 2) := by decide +kernel
theorem dL_runs_171 : decode cL_runs 171 = .ok (.iconst 0, 1) := by decide +kernel
theorem dL_runs_172 : decode cL_runs 172 = .ok (.istore 12, 2) := by decide +kernel
theorem dL_runs_174 : decode cL_runs 174 = .ok (.iconst 0, 1) := by decide +kernel
theorem dL_runs_175 : decode cL_runs 175 = .ok (.istore 13, 2) := by decide +kernel
theorem dL_runs_177 : decode cL_runs 177 = .ok (.iconst 3, 1) := by decide +kernel
theorem dL_runs_178 : decode cL_runs 178 = .ok (.aload_n 2, 1) := by decide +kernel
theorem dL_runs_179 : decode cL_runs 179 = .ok (.bipush 48, 2) := by decide +kernel
theorem dL_runs_181 : decode cL_runs 181 = .ok (.iload 14, 2) := by decide +kernel
theorem dL_runs_183 : decode cL_runs 183 = .ok (.iadd, 1) := by decide +kernel
theorem dL_runs_184 : decode cL_runs 184 = .ok (.iaload, 1) := by decide +kernel
theorem dL_runs_185 : decode cL_runs 185 = .ok (.imul, 1) := by decide +kernel
theorem dL_runs_186 : decode cL_runs 186 = .ok (.iconst 4, 1) := by decide +kernel
theorem dL_runs_187 : decode cL_runs 187 = .ok (.idiv, 1) := by decide +kernel
theorem dL_runs_188 : decode cL_runs 188 = .ok (.istore 17, 2) := by decide +kernel
theorem dL_runs_190 : decode cL_runs 190 = .ok (.iload 15, 2) := by decide +kernel
theorem dL_runs_192 : decode cL_runs 192 = .ok (.ifCond .ne 30, 3) := by decide +kernel
theorem dL_runs_195 : decode cL_runs 195 = .ok (.aload 4, 2) := by decide +kernel
theorem dL_runs_197 : decode cL_runs 197 = .ok (.iload 14, 2) := by decide +kernel
theorem dL_runs_199 : decode cL_runs 199 = .ok (.iload_n 0, 1) := by decide +kernel
theorem dL_runs_200 : decode cL_runs 200 = .ok (.aload 4, 2) := by decide +kernel
theorem dL_runs_202 : decode cL_runs 202 = .ok (.aload 5, 2) := by decide +kernel
theorem dL_runs_204 : decode cL_runs 204 = .ok (.invokestatic 24, 3) := by decide +kernel
theorem dL_runs_207 : decode cL_runs 207 = .ok (.iload 11, 2) := by decide +kernel
theorem dL_runs_209 : decode cL_runs 209 = .ok (.ifCond .le 10, 3) := by decide +kernel
theorem dL_runs_212 : decode cL_runs 212 = .ok (.iload 11, 2) := by decide +kernel
theorem dL_runs_214 : decode cL_runs 214 = .ok (.iconst 1, 1) := by decide +kernel
theorem dL_runs_215 : decode cL_runs 215 = .ok (.iadd, 1) := by decide +kernel
theorem dL_runs_216 : decode cL_runs 216 = .ok (.goto 4, 3) := by decide +kernel
theorem dL_runs_219 : decode cL_runs 219 = .ok (.iconst 0, 1) := by decide +kernel
theorem dL_runs_220 : decode cL_runs 220 = .ok (.iadd, 1) := by decide +kernel
theorem dL_runs_221 : decode cL_runs 221 = .ok (.iastore, 1) := by decide +kernel
theorem dL_runs_222 : decode cL_runs 222 = .ok (.iload 11, 2) := by decide +kernel
theorem dL_runs_224 : decode cL_runs 224 = .ok (.iload 11, 2) := by decide +kernel
theorem dL_runs_226 : decode cL_runs 226 = .ok (.ifCond .le 7, 3) := by decide +kernel
theorem dL_runs_229 : decode cL_runs 229 = .ok (.iconst 1, 1) := by decide +kernel
theorem dL_runs_230 : decode cL_runs 230 = .ok (.goto 4, 3) := by decide +kernel
theorem dL_runs_233 : decode cL_runs 233 = .ok (.iconst 0, 1) := by decide +kernel
theorem dL_runs_234 : decode cL_runs 234 = .ok (.iload 16, 2) := by decide +kernel
theorem dL_runs_236 : decode cL_runs 236 = .ok (.iadd, 1) := by decide +kernel
theorem dL_runs_237 : decode cL_runs 237 = .ok (.iadd, 1) := by decide +kernel
theorem dL_runs_238 : decode cL_runs 238 = .ok (.istore 11, 2) := by decide +kernel
theorem dL_runs_240 : decode cL_runs 240 = .ok (.iload 17, 2) := by decide +kernel
theorem dL_runs_242 : decode cL_runs 242 = .ok (.iload 12, 2) := by decide +kernel
theorem dL_runs_244 : decode cL_runs 244 = .ok (.if_icmp .le 8, 3) := by decide +kernel
theorem dL_runs_247 : decode cL_runs 247 = .ok (.iload 17, 2) := by decide +kernel
theorem dL_runs_249 : decode cL_runs 249 = .ok (.goto 5, 3) := by decide +kernel
theorem dL_runs_252 : decode cL_runs 252 = .ok (.iload 12, 2) := by decide +kernel
theorem dL_runs_254 : decode cL_runs 254 = .ok (.istore 12, 2) := by decide +kernel
theorem dL_runs_256 : decode cL_runs 256 = .ok (.aload_n 2, 1) := by decide +kernel
theorem dL_runs_257 : decode cL_runs 257 = .ok (.bipush 48, 2) := by decide +kernel
theorem dL_runs_259 : decode cL_runs 259 = .ok (.iload 14, 2) := by decide +kernel
theorem dL_runs_261 : decode cL_runs 261 = .ok (.iadd, 1) := by decide +kernel
theorem dL_runs_262 : decode cL_runs 262 = .ok (.iaload, 1) := by decide +kernel
theorem dL_runs_263 : decode cL_runs 263 = .ok (.iload 17, 2) := by decide +kernel
theorem dL_runs_265 : decode cL_runs 265 = .ok (.isub, 1) := by decide +kernel
theorem dL_runs_266 : decode cL_runs 266 = .ok (.iload 13, 2) := by decide +kernel
theorem dL_runs_268 : decode cL_runs 268 = .ok (.if_icmp .le 16, 3) := by decide +kernel
theorem dL_runs_271 : decode cL_runs 271 = .ok (.aload_n 2, 1) := by decide +kernel
theorem dL_runs_272 : decode cL_runs 272 = .ok (.bipush 48, 2) := by decide +kernel
theorem dL_runs_274 : decode cL_runs 274 = .ok (.iload 14, 2) := by decide +kernel
theorem dL_runs_276 : decode cL_runs 276 = .ok (.iadd, 1) := by decide +kernel
theorem dL_runs_277 : decode cL_runs 277 = .ok (.iaload, 1) := by decide +kernel
theorem dL_runs_278 : decode cL_runs 278 = .ok (.iload 17, 2) := by decide +kernel
theorem dL_runs_280 : decode cL_runs 280 = .ok (.isub, 1) := by decide +kernel
theorem dL_runs_281 : decode cL_runs 281 = .ok (.goto 5, 3) := by decide +kernel
theorem dL_runs_284 : decode cL_runs 284 = .ok (.iload 13, 2) := by decide +kernel
theorem dL_runs_286 : decode cL_runs 286 = .ok (.istore 13, 2) := by decide +kernel
theorem dL_runs_288 : decode cL_runs 288 = .ok (.iinc 15 1, 3) := by decide +kernel
theorem dL_runs_291 : decode cL_runs 291 = .ok (.goto (-182), 3) := by decide +kernel
theorem dL_runs_294 : decode cL_runs 294 = .ok (.iload_n 0, 1) := by decide +kernel
theorem dL_runs_295 : decode cL_runs 295 = .ok (.iload 14, 2) := by decide +kernel
theorem dL_runs_297 : decode cL_runs 297 = .ok (.aload_n 2, 1) := by decide +kernel
theorem dL_runs_298 : decode cL_runs 298 = .ok (.aload 6, 2) := by decide +kernel
theorem dL_runs_300 : decode cL_runs 300 = .ok (.invokestatic 28, 3) := by decide +kernel
theorem dL_runs_303 : decode cL_runs 303 = .ok (.istore 14, 2) := by decide +kernel
theorem dL_runs_305 : decode cL_runs 305 = .ok (.goto (-211), 3) := by decide +kernel
theorem dL_runs_308 : decode cL_runs 308 = .ok (.iload_n 0, 1) := by decide +kernel
theorem dL_runs_309 : decode cL_runs 309 = .ok (.iload 11, 2) := by decide +kernel
theorem dL_runs_311 : decode cL_runs 311 = .ok (.iload 12, 2) := by decide +kernel
theorem dL_runs_313 : decode cL_runs 313 = .ok (.iload 13, 2) := by decide +kernel
theorem dL_runs_315 : decode cL_runs 315 = .ok (.aload 6, 2) := by decide +kernel
theorem dL_runs_317 : decode cL_runs 317 = .ok (.aload 7, 2) := by decide +kernel
theorem dL_runs_319 : decode cL_runs 319 = .ok (.invokestatic 32, 3) := by decide +kernel
theorem dL_runs_322 : decode cL_runs 322 = .ok (.iload 8, 2) := by decide +kernel
theorem dL_runs_324 : decode cL_runs 324 = .ok (.ireturn, 1) := by decide +kernel
theorem dL_lays_0 : decode cL_lays 0 = .ok (.iconst 0, 1) := by decide +kernel
theorem dL_lays_1 : decode cL_lays 1 = .ok (.istore 9, 2) := by decide +kernel
theorem dL_lays_3 : decode cL_lays 3 = .ok (.iconst 0, 1) := by decide +kernel
theorem dL_lays_4 : decode cL_lays 4 = .ok (.istore 10, 2) := by decide +kernel
theorem dL_lays_6 : decode cL_lays 6 = .ok (.aload 7, 2) := by decide +kernel
theorem dL_lays_8 : decode cL_lays 8 = .ok (.iconst 0, 1) := by decide +kernel
theorem dL_lays_9 : decode cL_lays 9 = .ok (.iconst 0, 1) := by decide +kernel
theorem dL_lays_10 : decode cL_lays 10 = .ok (.iastore, 1) := by decide +kernel
theorem dL_lays_11 : decode cL_lays 11 = .ok (.aload 7, 2) := by decide +kernel
theorem dL_lays_13 : decode cL_lays 13 = .ok (.iconst 1, 1) := by decide +kernel
theorem dL_lays_14 : decode cL_lays 14 = .ok (.iconst 0, 1) := by decide +kernel
theorem dL_lays_15 : decode cL_lays 15 = .ok (.iastore, 1) := by decide +kernel
theorem dL_lays_16 : decode cL_lays 16 = .ok (.aload 7, 2) := by decide +kernel
theorem dL_lays_18 : decode cL_lays 18 = .ok (.iconst 2, 1) := by decide +kernel
theorem dL_lays_19 : decode cL_lays 19 = .ok (.iconst 0, 1) := by decide +kernel
theorem dL_lays_20 : decode cL_lays 20 = .ok (.iastore, 1) := by decide +kernel
theorem dL_lays_21 : decode cL_lays 21 = .ok (.aload 7, 2) := by decide +kernel
theorem dL_lays_23 : decode cL_lays 23 = .ok (.iconst 5, 1) := by decide +kernel
theorem dL_lays_24 : decode cL_lays 24 = .ok (.iconst 0, 1) := by decide +kernel
theorem dL_lays_25 : decode cL_lays 25 = .ok (.iastore, 1) := by decide +kernel
theorem dL_lays_26 : decode cL_lays 26 = .ok (.aload 7, 2) := by decide +kernel
theorem dL_lays_28 : decode cL_lays 28 = .ok (.bipush 6, 2) := by decide +kernel
theorem dL_lays_30 : decode cL_lays 30 = .ok (.iconst 0, 1) := by decide +kernel
theorem dL_lays_31 : decode cL_lays 31 = .ok (.iastore, 1) := by decide +kernel
theorem dL_lays_32 : decode cL_lays 32 = .ok (.aload 5, 2) := by decide +kernel
theorem dL_lays_34 : decode cL_lays 34 = .ok (.bipush 32, 2) := by decide +kernel
theorem dL_lays_36 : decode cL_lays 36 = .ok (.aload 7, 2) := by decide +kernel
theorem dL_lays_38 : decode cL_lays 38 = .ok (.iconst 4, 1) := by decide +kernel
theorem dL_lays_39 : decode cL_lays 39 = .ok (.iaload, 1) := by decide +kernel
theorem dL_lays_40 : decode cL_lays 40 = .ok (.iastore, 1) := by decide +kernel
theorem dL_lays_41 : decode cL_lays 41 = .ok (.aload 6, 2) := by decide +kernel
theorem dL_lays_43 : decode cL_lays 43 = .ok (.iconst 0, 1) := by decide +kernel
theorem dL_lays_44 : decode cL_lays 44 = .ok (.iconst (-1), 1) := by decide +kernel
theorem dL_lays_45 : decode cL_lays 45 = .ok (.iastore, 1) := by decide +kernel
theorem dL_lays_46 : decode cL_lays 46 = .ok (.iconst 0, 1) := by decide +kernel
theorem dL_lays_47 : decode cL_lays 47 = .ok (.istore 11, 2) := by decide +kernel
theorem dL_lays_49 : decode cL_lays 49 = .ok (.iload 11, 2) := by decide +kernel
theorem dL_lays_51 : decode cL_lays 51 = .ok (.ifCond .ne 121, 3) := by decide +kernel
theorem dL_lays_54 : decode cL_lays 54 = .ok (.iload 9, 2) := by decide +kernel
theorem dL_lays_56 : decode cL_lays 56 = .ok (.iload 10, 2) := by decide +kernel
theorem dL_lays_58 : decode cL_lays 58 = .ok (.aload_n 0, 1) := by decide +kernel
theorem dL_lays_59 : decode cL_lays 59 = .ok (.aload 7, 2) := by decide +kernel
theorem dL_lays_61 : decode cL_lays 61 = .ok (.invokestatic 28, 3) := by decide +kernel
theorem dL_lays_64 : decode cL_lays 64 = .ok (.istore 12, 2) := by decide +kernel
theorem dL_lays_66 : decode cL_lays 66 = .ok (.iload 12, 2) := by decide +kernel
theorem dL_lays_68 : decode cL_lays 68 = .ok (.ifCond .le 36, 3) := by decide +kernel
theorem dL_lays_71 : decode cL_lays 71 = .ok (.aload_n 0, 1) := by decide +kernel
theorem dL_lays_72 : decode cL_lays 72 = .ok (.bipush 16, 2) := by decide +kernel
theorem dL_lays_74 : decode cL_lays 74 = .ok (.iload 12, 2) := by decide +kernel
theorem dL_lays_76 : decode cL_lays 76 = .ok (.iadd, 1) := by decide +kernel
theorem dL_lays_77 : decode cL_lays 77 = .ok (.iaload, 1) := by decide +kernel
theorem dL_lays_78 : decode cL_lays 78 = .ok (.iconst 1, 1) := by decide +kernel
theorem dL_lays_79 : decode cL_lays 79 = .ok (.if_icmp .ne 25, 3) := by decide +kernel
theorem dL_lays_82 : decode cL_lays 82 = .ok (.iload 9, 2) := by decide +kernel
theorem dL_lays_84 : decode cL_lays 84 = .ok (.iload 12, 2) := by decide +kernel
theorem dL_lays_86 : decode cL_lays 86 = .ok (.aload_n 0, 1) := by decide +kernel
theorem dL_lays_87 : decode cL_lays 87 = .ok (.aload 4, 2) := by decide +kernel
theorem dL_lays_89 : decode cL_lays 89 = .ok (.aload 5, 2) := by decide +kernel
theorem dL_lays_91 : decode cL_lays 91 = .ok (.aload_n 2, 1) := by decide +kernel
theorem dL_lays_92 : decode cL_lays 92 = .ok (.aload 7, 2) := by decide +kernel
theorem dL_lays_94 : decode cL_lays 94 = .ok (.aload 8, 2) := by decide +kernel
theorem dL_lays_96 : decode cL_lays 96 = .ok (.invokestatic 36, 3) := by decide +kernel
theorem dL_lays_99 : decode cL_lays 99 = .ok (.istore 10, 2) := by decide +kernel
theorem dL_lays_101 : decode cL_lays 101 = .ok (.goto 68, 3) := by decide +kernel
theorem dL_lays_104 : decode cL_lays 104 = .ok (.iload 12, 2) := by decide +kernel
theorem dL_lays_106 : decode cL_lays 106 = .ok (.ifCond .le 29, 3) := by decide +kernel
theorem dL_lays_109 : decode cL_lays 109 = .ok (.iload 12, 2) := by decide +kernel
theorem dL_lays_111 : decode cL_lays 111 = .ok (.aload_n 0, 1) := by decide +kernel
theorem dL_lays_112 : decode cL_lays 112 = .ok (.aload_n 1, 1) := by decide +kernel
theorem dL_lays_113 : decode cL_lays 113 = .ok (.aload_n 2, 1) := by decide +kernel
theorem dL_lays_114 : decode cL_lays 114 = .ok (.aload_n 3, 1) := by decide +kernel
theorem dL_lays_115 : decode cL_lays 115 = .ok (.aload 5, 2) := by decide +kernel
theorem dL_lays_117 : decode cL_lays 117 = .ok (.aload 6, 2) := by decide +kernel
theorem dL_lays_119 : decode cL_lays 119 = .ok (.aload 7, 2) := by decide +kernel
theorem dL_lays_121 : decode cL_lays 121 = .ok (.invokestatic 40, 3) := by decide +kernel
theorem dL_lays_124 : decode cL_lays 124 = .ok (.iload 12, 2) := by decide +kernel
theorem dL_lays_126 : decode cL_lays 126 = .ok (.istore 9, 2) := by decide +kernel
theorem dL_lays_128 : decode cL_lays 128 = .ok (.iload 12, 2) := by decide +kernel
theorem dL_lays_130 : decode cL_lays 130 = .ok (.istore 10, 2) := by decide +kernel
theorem dL_lays_132 : decode cL_lays 132 = .ok (.goto 37, 3) := by decide +kernel
theorem dL_lays_135 : decode cL_lays 135 = .ok (.iload 9, 2) := by decide +kernel
theorem dL_lays_137 : decode cL_lays 137 = .ok (.ifCond .le 29, 3) := by decide +kernel
theorem dL_lays_140 : decode cL_lays 140 = .ok (.iload 9, 2) := by decide +kernel
theorem dL_lays_142 : decode cL_lays 142 = .ok (.aload_n 1, 1) := by decide +kernel
theorem dL_lays_143 : decode cL_lays 143 = .ok (.aload_n 2, 1) := by decide +kernel
theorem dL_lays_144 : decode cL_lays 144 = .ok (.aload 5, 2) := by decide +kernel
theorem dL_lays_146 : decode cL_lays 146 = .ok (.aload 6, 2) := by decide +kernel
theorem dL_lays_148 : decode cL_lays 148 = .ok (.aload 7, 2) := by decide +kernel
theorem dL_lays_150 : decode cL_lays 150 = .ok (.invokestatic 44, 3) := by decide +kernel
theorem dL_lays_153 : decode cL_lays 153 = .ok (.iload 9, 2) := by decide +kernel
theorem dL_lays_155 : decode cL_lays 155 = .ok (.istore 10, 2) := by decide +kernel
theorem dL_lays_157 : decode cL_lays 157 = .ok (.aload_n 0, 1) := by decide +kernel
theorem dL_lays_158 : decode cL_lays 158 = .ok (.iload 9, 2) := by decide +kernel
theorem dL_lays_160 : decode cL_lays 160 = .ok (.iaload, 1) := by decide +kernel
theorem dL_lays_161 : decode cL_lays 161 = .ok (.istore 9, 2) := by decide +kernel
theorem dL_lays_163 : decode cL_lays 163 = .ok (.goto 6, 3) := by decide +kernel
theorem dL_lays_166 : decode cL_lays 166 = .ok (.iconst 1, 1) := by decide +kernel
theorem dL_lays_167 : decode cL_lays 167 = .ok (.istore 11, 2) := by decide +kernel
theorem dL_lays_169 : decode cL_lays 169 = .ok (.goto (-120), 3) := by decide +kernel
theorem dL_lays_172 : decode cL_lays 172 = .ok (.aload 7, 2) := by decide +kernel
theorem dL_lays_174 : decode cL_lays 174 = .ok (.aload 5, 2) := by decide +kernel
theorem dL_lays_176 : decode cL_lays 176 = .ok (.invokestatic 16, 3) := by decide +kernel
theorem dL_lays_179 : decode cL_lays 179 = .ok (.aload 5, 2) := by decide +kernel
theorem dL_lays_181 : decode cL_lays 181 = .ok (.bipush 48, 2) := by decide +kernel
theorem dL_lays_183 : decode cL_lays 183 = .ok (.aload 7, 2) := by decide +kernel
theorem dL_lays_185 : decode cL_lays 185 = .ok (.iconst 0, 1) := by decide +kernel
theorem dL_lays_186 : decode cL_lays 186 = .ok (.iaload, 1) := by decide +kernel
theorem dL_lays_187 : decode cL_lays 187 = .ok (.ifCond .le 10, 3) := by decide +kernel
theorem dL_lays_190 : decode cL_lays 190 = .ok (.aload 7, 2) := by decide +kernel
theorem dL_lays_192 : decode cL_lays 192 = .ok (.iconst 0, 1) := by decide +kernel
theorem dL_lays_193 : decode cL_lays 193 = .ok (.iaload, 1) := by decide +kernel
theorem dL_lays_194 : decode cL_lays 194 = .ok (.goto 4, 3) := by decide +kernel
theorem dL_lays_197 : decode cL_lays 197 = .ok (.iconst 0, 1) := by decide +kernel
theorem dL_lays_198 : decode cL_lays 198 = .ok (.iastore, 1) := by decide +kernel
theorem dL_lays_199 : decode cL_lays 199 = .ok (.return_, 1) := by decide +kernel
theorem dL_same_0 : decode cL_same 0 = .ok (.aload_n 0, 1) := by decide +kernel
theorem dL_same_1 : decode cL_same 1 = .ok (.iconst 0, 1) := by decide +kernel
theorem dL_same_2 : decode cL_same 2 = .ok (.invokevirtual 48, 3) := by decide +kernel
theorem dL_same_5 : decode cL_same 5 = .ok (.aload_n 3, 1) := by decide +kernel
theorem dL_same_6 : decode cL_same 6 = .ok (.bipush 48, 2) := by decide +kernel
theorem dL_same_8 : decode cL_same 8 = .ok (.iaload, 1) := by decide +kernel
theorem dL_same_9 : decode cL_same 9 = .ok (.if_icmp .ne 30, 3) := by decide +kernel
theorem dL_same_12 : decode cL_same 12 = .ok (.aload_n 0, 1) := by decide +kernel
theorem dL_same_13 : decode cL_same 13 = .ok (.iconst 0, 1) := by decide +kernel
theorem dL_same_14 : decode cL_same 14 = .ok (.invokevirtual 54, 3) := by decide +kernel
theorem dL_same_17 : decode cL_same 17 = .ok (.aload 4, 2) := by decide +kernel
theorem dL_same_19 : decode cL_same 19 = .ok (.iconst 4, 1) := by decide +kernel
theorem dL_same_20 : decode cL_same 20 = .ok (.iaload, 1) := by decide +kernel
theorem dL_same_21 : decode cL_same 21 = .ok (.if_icmp .ne 18, 3) := by decide +kernel
theorem dL_same_24 : decode cL_same 24 = .ok (.aload_n 0, 1) := by decide +kernel
theorem dL_same_25 : decode cL_same 25 = .ok (.invokevirtual 57, 3) := by decide +kernel
theorem dL_same_28 : decode cL_same 28 = .ok (.aload 4, 2) := by decide +kernel
theorem dL_same_30 : decode cL_same 30 = .ok (.iconst 3, 1) := by decide +kernel
theorem dL_same_31 : decode cL_same 31 = .ok (.iaload, 1) := by decide +kernel
theorem dL_same_32 : decode cL_same 32 = .ok (.if_icmp .ne 7, 3) := by decide +kernel
theorem dL_same_35 : decode cL_same 35 = .ok (.iconst 1, 1) := by decide +kernel
theorem dL_same_36 : decode cL_same 36 = .ok (.goto 4, 3) := by decide +kernel
theorem dL_same_39 : decode cL_same 39 = .ok (.iconst 0, 1) := by decide +kernel
theorem dL_same_40 : decode cL_same 40 = .ok (.istore 6, 2) := by decide +kernel
theorem dL_same_42 : decode cL_same 42 = .ok (.iconst 1, 1) := by decide +kernel
theorem dL_same_43 : decode cL_same 43 = .ok (.istore 7, 2) := by decide +kernel
theorem dL_same_45 : decode cL_same 45 = .ok (.iload 7, 2) := by decide +kernel
theorem dL_same_47 : decode cL_same 47 = .ok (.aload 4, 2) := by decide +kernel
theorem dL_same_49 : decode cL_same 49 = .ok (.iconst 3, 1) := by decide +kernel
theorem dL_same_50 : decode cL_same 50 = .ok (.iaload, 1) := by decide +kernel
theorem dL_same_51 : decode cL_same 51 = .ok (.if_icmp .ge 210, 3) := by decide +kernel
theorem dL_same_54 : decode cL_same 54 = .ok (.iload 6, 2) := by decide +kernel
theorem dL_same_56 : decode cL_same 56 = .ok (.ifCond .eq 205, 3) := by decide +kernel
theorem dL_same_59 : decode cL_same 59 = .ok (.aload_n 1, 1) := by decide +kernel
theorem dL_same_60 : decode cL_same 60 = .ok (.bipush 16, 2) := by decide +kernel
theorem dL_same_62 : decode cL_same 62 = .ok (.iload 7, 2) := by decide +kernel
theorem dL_same_64 : decode cL_same 64 = .ok (.iadd, 1) := by decide +kernel
theorem dL_same_65 : decode cL_same 65 = .ok (.iaload, 1) := by decide +kernel
theorem dL_same_66 : decode cL_same 66 = .ok (.ifCond .ne 117, 3) := by decide +kernel
theorem dL_same_69 : decode cL_same 69 = .ok (.aload_n 0, 1) := by decide +kernel
theorem dL_same_70 : decode cL_same 70 = .ok (.iload 7, 2) := by decide +kernel
theorem dL_same_72 : decode cL_same 72 = .ok (.invokevirtual 61, 3) := by decide +kernel
theorem dL_same_75 : decode cL_same 75 = .ok (.aload_n 3, 1) := by decide +kernel
theorem dL_same_76 : decode cL_same 76 = .ok (.iload 7, 2) := by decide +kernel
theorem dL_same_78 : decode cL_same 78 = .ok (.iaload, 1) := by decide +kernel
theorem dL_same_79 : decode cL_same 79 = .ok (.if_icmp .ne 98, 3) := by decide +kernel
theorem dL_same_82 : decode cL_same 82 = .ok (.aload_n 0, 1) := by decide +kernel
theorem dL_same_83 : decode cL_same 83 = .ok (.iload 7, 2) := by decide +kernel
theorem dL_same_85 : decode cL_same 85 = .ok (.invokevirtual 64, 3) := by decide +kernel
theorem dL_same_88 : decode cL_same 88 = .ok (.aload_n 3, 1) := by decide +kernel
theorem dL_same_89 : decode cL_same 89 = .ok (.bipush 16, 2) := by decide +kernel
theorem dL_same_91 : decode cL_same 91 = .ok (.iload 7, 2) := by decide +kernel
theorem dL_same_93 : decode cL_same 93 = .ok (.iadd, 1) := by decide +kernel
theorem dL_same_94 : decode cL_same 94 = .ok (.iaload, 1) := by decide +kernel
theorem dL_same_95 : decode cL_same 95 = .ok (.if_icmp .ne 82, 3) := by decide +kernel
theorem dL_same_98 : decode cL_same 98 = .ok (.aload_n 0, 1) := by decide +kernel
theorem dL_same_99 : decode cL_same 99 = .ok (.iload 7, 2) := by decide +kernel
theorem dL_same_101 : decode cL_same 101 = .ok (.invokevirtual 54, 3) := by decide +kernel
theorem dL_same_104 : decode cL_same 104 = .ok (.aload_n 3, 1) := by decide +kernel
theorem dL_same_105 : decode cL_same 105 = .ok (.bipush 32, 2) := by decide +kernel
theorem dL_same_107 : decode cL_same 107 = .ok (.iload 7, 2) := by decide +kernel
theorem dL_same_109 : decode cL_same 109 = .ok (.iadd, 1) := by decide +kernel
theorem dL_same_110 : decode cL_same 110 = .ok (.iaload, 1) := by decide +kernel
theorem dL_same_111 : decode cL_same 111 = .ok (.aload_n 2, 1) := by decide +kernel
theorem dL_same_112 : decode cL_same 112 = .ok (.iconst 4, 1) := by decide +kernel
theorem dL_same_113 : decode cL_same 113 = .ok (.iload 7, 2) := by decide +kernel
theorem dL_same_115 : decode cL_same 115 = .ok (.imul, 1) := by decide +kernel
theorem dL_same_116 : decode cL_same 116 = .ok (.iconst 1, 1) := by decide +kernel
theorem dL_same_117 : decode cL_same 117 = .ok (.iadd, 1) := by decide +kernel
theorem dL_same_118 : decode cL_same 118 = .ok (.iaload, 1) := by decide +kernel
theorem dL_same_119 : decode cL_same 119 = .ok (.iadd, 1) := by decide +kernel
theorem dL_same_120 : decode cL_same 120 = .ok (.aload_n 2, 1) := by decide +kernel
theorem dL_same_121 : decode cL_same 121 = .ok (.iconst 4, 1) := by decide +kernel
theorem dL_same_122 : decode cL_same 122 = .ok (.iload 7, 2) := by decide +kernel
theorem dL_same_124 : decode cL_same 124 = .ok (.imul, 1) := by decide +kernel
theorem dL_same_125 : decode cL_same 125 = .ok (.iconst 3, 1) := by decide +kernel
theorem dL_same_126 : decode cL_same 126 = .ok (.iadd, 1) := by decide +kernel
theorem dL_same_127 : decode cL_same 127 = .ok (.iaload, 1) := by decide +kernel
theorem dL_same_128 : decode cL_same 128 = .ok (.iadd, 1) := by decide +kernel
theorem dL_same_129 : decode cL_same 129 = .ok (.if_icmp .ne 48, 3) := by decide +kernel
theorem dL_same_132 : decode cL_same 132 = .ok (.aload_n 0, 1) := by decide +kernel
theorem dL_same_133 : decode cL_same 133 = .ok (.iload 7, 2) := by decide +kernel
theorem dL_same_135 : decode cL_same 135 = .ok (.invokevirtual 48, 3) := by decide +kernel
theorem dL_same_138 : decode cL_same 138 = .ok (.aload_n 3, 1) := by decide +kernel
theorem dL_same_139 : decode cL_same 139 = .ok (.bipush 48, 2) := by decide +kernel
theorem dL_same_141 : decode cL_same 141 = .ok (.iload 7, 2) := by decide +kernel
theorem dL_same_143 : decode cL_same 143 = .ok (.iadd, 1) := by decide +kernel
theorem dL_same_144 : decode cL_same 144 = .ok (.iaload, 1) := by decide +kernel
theorem dL_same_145 : decode cL_same 145 = .ok (.aload_n 2, 1) := by decide +kernel
theorem dL_same_146 : decode cL_same 146 = .ok (.iconst 4, 1) := by decide +kernel
theorem dL_same_147 : decode cL_same 147 = .ok (.iload 7, 2) := by decide +kernel
theorem dL_same_149 : decode cL_same 149 = .ok (.imul, 1) := by decide +kernel
theorem dL_same_150 : decode cL_same 150 = .ok (.iaload, 1) := by decide +kernel
theorem dL_same_151 : decode cL_same 151 = .ok (.iadd, 1) := by decide +kernel
theorem dL_same_152 : decode cL_same 152 = .ok (.aload_n 2, 1) := by decide +kernel
theorem dL_same_153 : decode cL_same 153 = .ok (.iconst 4, 1) := by decide +kernel
theorem dL_same_154 : decode cL_same 154 = .ok (.iload 7, 2) := by decide +kernel
theorem dL_same_156 : decode cL_same 156 = .ok (.imul, 1) := by decide +kernel
theorem dL_same_157 : decode cL_same 157 = .ok (.iconst 2, 1) := by decide +kernel
theorem dL_same_158 : decode cL_same 158 = .ok (.iadd, 1) := by decide +kernel
theorem dL_same_159 : decode cL_same 159 = .ok (.iaload, 1) := by decide +kernel
theorem dL_same_160 : decode cL_same 160 = .ok (.iadd, 1) := by decide +kernel
theorem dL_same_161 : decode cL_same 161 = .ok (.if_icmp .ne 16, 3) := by decide +kernel
theorem dL_same_164 : decode cL_same 164 = .ok (.aload_n 0, 1) := by decide +kernel
theorem dL_same_165 : decode cL_same 165 = .ok (.iload 7, 2) := by decide +kernel
theorem dL_same_167 : decode cL_same 167 = .ok (.invokevirtual 67, 3) := by decide +kernel
theorem dL_same_170 : decode cL_same 170 = .ok (.ifCond .ne 7, 3) := by decide +kernel
theorem dL_same_173 : decode cL_same 173 = .ok (.iconst 1, 1) := by decide +kernel
theorem dL_same_174 : decode cL_same 174 = .ok (.goto 4, 3) := by decide +kernel
theorem dL_same_177 : decode cL_same 177 = .ok (.iconst 0, 1) := by decide +kernel
theorem dL_same_178 : decode cL_same 178 = .ok (.istore 6, 2) := by decide +kernel
theorem dL_same_180 : decode cL_same 180 = .ok (.goto 75, 3) := by decide +kernel
theorem dL_same_183 : decode cL_same 183 = .ok (.aload_n 1, 1) := by decide +kernel
theorem dL_same_184 : decode cL_same 184 = .ok (.bipush 32, 2) := by decide +kernel
theorem dL_same_186 : decode cL_same 186 = .ok (.iload 7, 2) := by decide +kernel
theorem dL_same_188 : decode cL_same 188 = .ok (.iadd, 1) := by decide +kernel
theorem dL_same_189 : decode cL_same 189 = .ok (.iaload, 1) := by decide +kernel
theorem dL_same_190 : decode cL_same 190 = .ok (.ifCond .le 65, 3) := by decide +kernel
theorem dL_same_193 : decode cL_same 193 = .ok (.aload_n 0, 1) := by decide +kernel
theorem dL_same_194 : decode cL_same 194 = .ok (.iload 7, 2) := by decide +kernel
theorem dL_same_196 : decode cL_same 196 = .ok (.invokevirtual 61, 3) := by decide +kernel
theorem dL_same_199 : decode cL_same 199 = .ok (.aload_n 3, 1) := by decide +kernel
theorem dL_same_200 : decode cL_same 200 = .ok (.iload 7, 2) := by decide +kernel
theorem dL_same_202 : decode cL_same 202 = .ok (.iaload, 1) := by decide +kernel
theorem dL_same_203 : decode cL_same 203 = .ok (.if_icmp .ne 49, 3) := by decide +kernel
theorem dL_same_206 : decode cL_same 206 = .ok (.aload_n 0, 1) := by decide +kernel
theorem dL_same_207 : decode cL_same 207 = .ok (.iload 7, 2) := by decide +kernel
theorem dL_same_209 : decode cL_same 209 = .ok (.invokevirtual 48, 3) := by decide +kernel
theorem dL_same_212 : decode cL_same 212 = .ok (.aload_n 1, 1) := by decide +kernel
theorem dL_same_213 : decode cL_same 213 = .ok (.bipush 48, 2) := by decide +kernel
theorem dL_same_215 : decode cL_same 215 = .ok (.iload 7, 2) := by decide +kernel
theorem dL_same_217 : decode cL_same 217 = .ok (.iadd, 1) := by decide +kernel
theorem dL_same_218 : decode cL_same 218 = .ok (.iaload, 1) := by decide +kernel
theorem dL_same_219 : decode cL_same 219 = .ok (.if_icmp .ne 33, 3) := by decide +kernel
theorem dL_same_222 : decode cL_same 222 = .ok (.aload_n 1, 1) := by decide +kernel
theorem dL_same_223 : decode cL_same 223 = .ok (.bipush 48, 2) := by decide +kernel
theorem dL_same_225 : decode cL_same 225 = .ok (.iload 7, 2) := by decide +kernel
theorem dL_same_227 : decode cL_same 227 = .ok (.iadd, 1) := by decide +kernel
theorem dL_same_228 : decode cL_same 228 = .ok (.iaload, 1) := by decide +kernel
theorem dL_same_229 : decode cL_same 229 = .ok (.iconst 4, 1) := by decide +kernel
theorem dL_same_230 : decode cL_same 230 = .ok (.irem, 1) := by decide +kernel
theorem dL_same_231 : decode cL_same 231 = .ok (.ifCond .gt 17, 3) := by decide +kernel
theorem dL_same_234 : decode cL_same 234 = .ok (.aload_n 0, 1) := by decide +kernel
theorem dL_same_235 : decode cL_same 235 = .ok (.iload 7, 2) := by decide +kernel
theorem dL_same_237 : decode cL_same 237 = .ok (.iconst 0, 1) := by decide +kernel
theorem dL_same_238 : decode cL_same 238 = .ok (.invokevirtual 70, 3) := by decide +kernel
theorem dL_same_241 : decode cL_same 241 = .ok (.aload_n 3, 1) := by decide +kernel
theorem dL_same_242 : decode cL_same 242 = .ok (.iload 7, 2) := by decide +kernel
theorem dL_same_244 : decode cL_same 244 = .ok (.iaload, 1) := by decide +kernel
theorem dL_same_245 : decode cL_same 245 = .ok (.if_icmp .ne 7, 3) := by decide +kernel
theorem dL_same_248 : decode cL_same 248 = .ok (.iconst 1, 1) := by decide +kernel
theorem dL_same_249 : decode cL_same 249 = .ok (.goto 4, 3) := by decide +kernel
theorem dL_same_252 : decode cL_same 252 = .ok (.iconst 0, 1) := by decide +kernel
theorem dL_same_253 : decode cL_same 253 = .ok (.istore 6, 2) := by decide +kernel
theorem dL_same_255 : decode cL_same 255 = .ok (.iinc 7 1, 3) := by decide +kernel
theorem dL_same_258 : decode cL_same 258 = .ok (.goto (-213), 3) := by decide +kernel
theorem dL_same_261 : decode cL_same 261 = .ok (.iconst 0, 1) := by decide +kernel
theorem dL_same_262 : decode cL_same 262 = .ok (.istore 7, 2) := by decide +kernel
theorem dL_same_264 : decode cL_same 264 = .ok (.iload 7, 2) := by decide +kernel
theorem dL_same_266 : decode cL_same 266 = .ok (.aload 4, 2) := by decide +kernel
theorem dL_same_268 : decode cL_same 268 = .ok (.iconst 3, 1) := by decide +kernel
theorem dL_same_269 : decode cL_same 269 = .ok (.iaload, 1) := by decide +kernel
theorem dL_same_270 : decode cL_same 270 = .ok (.if_icmp .ge 183, 3) := by decide +kernel
theorem dL_same_273 : decode cL_same 273 = .ok (.iload 6, 2) := by decide +kernel
theorem dL_same_275 : decode cL_same 275 = .ok (.ifCond .eq 178, 3) := by decide +kernel
theorem dL_same_278 : decode cL_same 278 = .ok (.iconst 0, 1) := by decide +kernel
theorem dL_same_279 : decode cL_same 279 = .ok (.istore 8, 2) := by decide +kernel
theorem dL_same_281 : decode cL_same 281 = .ok (.iconst 0, 1) := by decide +kernel
theorem dL_same_282 : decode cL_same 282 = .ok (.istore 9, 2) := by decide +kernel
theorem dL_same_284 : decode cL_same 284 = .ok (.iload 9, 2) := by decide +kernel
theorem dL_same_286 : decode cL_same 286 = .ok (.aload 4, 2) := by decide +kernel
theorem dL_same_288 : decode cL_same 288 = .ok (.bipush 6, 2) := by decide +kernel
theorem dL_same_290 : decode cL_same 290 = .ok (.iaload, 1) := by decide +kernel
theorem dL_same_291 : decode cL_same 291 = .ok (.if_icmp .ge 122, 3) := by decide +kernel
theorem dL_same_294 : decode cL_same 294 = .ok (.iload 6, 2) := by decide +kernel
theorem dL_same_296 : decode cL_same 296 = .ok (.ifCond .eq 117, 3) := by decide +kernel
theorem dL_same_299 : decode cL_same 299 = .ok (.aload_n 1, 1) := by decide +kernel
theorem dL_same_300 : decode cL_same 300 = .ok (.bipush 16, 2) := by decide +kernel
theorem dL_same_302 : decode cL_same 302 = .ok (.iload 7, 2) := by decide +kernel
theorem dL_same_304 : decode cL_same 304 = .ok (.iadd, 1) := by decide +kernel
theorem dL_same_305 : decode cL_same 305 = .ok (.iaload, 1) := by decide +kernel
theorem dL_same_306 : decode cL_same 306 = .ok (.ifCond .ne 107, 3) := by decide +kernel
theorem dL_same_309 : decode cL_same 309 = .ok (.aload 5, 2) := by decide +kernel
theorem dL_same_311 : decode cL_same 311 = .ok (.iconst 3, 1) := by decide +kernel
theorem dL_same_312 : decode cL_same 312 = .ok (.iload 9, 2) := by decide +kernel
theorem dL_same_314 : decode cL_same 314 = .ok (.imul, 1) := by decide +kernel
theorem dL_same_315 : decode cL_same 315 = .ok (.iaload, 1) := by decide +kernel
theorem dL_same_316 : decode cL_same 316 = .ok (.iload 7, 2) := by decide +kernel
theorem dL_same_318 : decode cL_same 318 = .ok (.if_icmp .ne 89, 3) := by decide +kernel
theorem dL_same_321 : decode cL_same 321 = .ok (.aload_n 0, 1) := by decide +kernel
theorem dL_same_322 : decode cL_same 322 = .ok (.iload 7, 2) := by decide +kernel
theorem dL_same_324 : decode cL_same 324 = .ok (.iload 8, 2) := by decide +kernel
theorem dL_same_326 : decode cL_same 326 = .ok (.iconst 1, 1) := by decide +kernel
theorem dL_same_327 : decode cL_same 327 = .ok (.invokevirtual 74, 3) := by decide +kernel
theorem dL_same_330 : decode cL_same 330 = .ok (.aload 5, 2) := by decide +kernel
theorem dL_same_332 : decode cL_same 332 = .ok (.iconst 3, 1) := by decide +kernel
theorem dL_same_333 : decode cL_same 333 = .ok (.iload 9, 2) := by decide +kernel
theorem dL_same_335 : decode cL_same 335 = .ok (.imul, 1) := by decide +kernel
theorem dL_same_336 : decode cL_same 336 = .ok (.iconst 1, 1) := by decide +kernel
theorem dL_same_337 : decode cL_same 337 = .ok (.iadd, 1) := by decide +kernel
theorem dL_same_338 : decode cL_same 338 = .ok (.iaload, 1) := by decide +kernel
theorem dL_same_339 : decode cL_same 339 = .ok (.if_icmp .ne 62, 3) := by decide +kernel
theorem dL_same_342 : decode cL_same 342 = .ok (.aload_n 0, 1) := by decide +kernel
theorem dL_same_343 : decode cL_same 343 = .ok (.iload 7, 2) := by decide +kernel
theorem dL_same_345 : decode cL_same 345 = .ok (.iload 8, 2) := by decide +kernel
theorem dL_same_347 : decode cL_same 347 = .ok (.iconst 2, 1) := by decide +kernel
theorem dL_same_348 : decode cL_same 348 = .ok (.invokevirtual 74, 3) := by decide +kernel
theorem dL_same_351 : decode cL_same 351 = .ok (.aload 5, 2) := by decide +kernel
theorem dL_same_353 : decode cL_same 353 = .ok (.iconst 3, 1) := by decide +kernel
theorem dL_same_354 : decode cL_same 354 = .ok (.iload 9, 2) := by decide +kernel
theorem dL_same_356 : decode cL_same 356 = .ok (.imul, 1) := by decide +kernel
theorem dL_same_357 : decode cL_same 357 = .ok (.iconst 2, 1) := by decide +kernel
theorem dL_same_358 : decode cL_same 358 = .ok (.iadd, 1) := by decide +kernel
theorem dL_same_359 : decode cL_same 359 = .ok (.iaload, 1) := by decide +kernel
theorem dL_same_360 : decode cL_same 360 = .ok (.if_icmp .ne 41, 3) := by decide +kernel
theorem dL_same_363 : decode cL_same 363 = .ok (.aload_n 0, 1) := by decide +kernel
theorem dL_same_364 : decode cL_same 364 = .ok (.iload 7, 2) := by decide +kernel
theorem dL_same_366 : decode cL_same 366 = .ok (.iload 8, 2) := by decide +kernel
theorem dL_same_368 : decode cL_same 368 = .ok (.iconst 0, 1) := by decide +kernel
theorem dL_same_369 : decode cL_same 369 = .ok (.invokevirtual 74, 3) := by decide +kernel
theorem dL_same_372 : decode cL_same 372 = .ok (.iload 7, 2) := by decide +kernel
theorem dL_same_374 : decode cL_same 374 = .ok (.ifCond .ne 7, 3) := by decide +kernel
theorem dL_same_377 : decode cL_same 377 = .ok (.iconst 0, 1) := by decide +kernel
theorem dL_same_378 : decode cL_same 378 = .ok (.goto 16, 3) := by decide +kernel
theorem dL_same_381 : decode cL_same 381 = .ok (.aload_n 3, 1) := by decide +kernel
theorem dL_same_382 : decode cL_same 382 = .ok (.iload 7, 2) := by decide +kernel
theorem dL_same_384 : decode cL_same 384 = .ok (.iaload, 1) := by decide +kernel
theorem dL_same_385 : decode cL_same 385 = .ok (.aload_n 2, 1) := by decide +kernel
theorem dL_same_386 : decode cL_same 386 = .ok (.iconst 4, 1) := by decide +kernel
theorem dL_same_387 : decode cL_same 387 = .ok (.iload 7, 2) := by decide +kernel
theorem dL_same_389 : decode cL_same 389 = .ok (.imul, 1) := by decide +kernel
theorem dL_same_390 : decode cL_same 390 = .ok (.iconst 3, 1) := by decide +kernel
theorem dL_same_391 : decode cL_same 391 = .ok (.iadd, 1) := by decide +kernel
theorem dL_same_392 : decode cL_same 392 = .ok (.iaload, 1) := by decide +kernel
theorem dL_same_393 : decode cL_same 393 = .ok (.iadd, 1) := by decide +kernel
theorem dL_same_394 : decode cL_same 394 = .ok (.if_icmp .ne 7, 3) := by decide +kernel
theorem dL_same_397 : decode cL_same 397 = .ok (.iconst 1, 1) := by decide +kernel
theorem dL_same_398 : decode cL_same 398 = .ok (.goto 4, 3) := by decide +kernel
theorem dL_same_401 : decode cL_same 401 = .ok (.iconst 0, 1) := by decide +kernel
theorem dL_same_402 : decode cL_same 402 = .ok (.istore 6, 2) := by decide +kernel
theorem dL_same_404 : decode cL_same 404 = .ok (.iinc 8 1, 3) := by decide +kernel
theorem dL_same_407 : decode cL_same 407 = .ok (.iinc 9 1, 3) := by decide +kernel
theorem dL_same_410 : decode cL_same 410 = .ok (.goto (-126), 3) := by decide +kernel
theorem dL_same_413 : decode cL_same 413 = .ok (.iload 6, 2) := by decide +kernel
theorem dL_same_415 : decode cL_same 415 = .ok (.ifCond .eq 29, 3) := by decide +kernel
theorem dL_same_418 : decode cL_same 418 = .ok (.aload_n 1, 1) := by decide +kernel
theorem dL_same_419 : decode cL_same 419 = .ok (.bipush 16, 2) := by decide +kernel
theorem dL_same_421 : decode cL_same 421 = .ok (.iload 7, 2) := by decide +kernel
theorem dL_same_423 : decode cL_same 423 = .ok (.iadd, 1) := by decide +kernel
theorem dL_same_424 : decode cL_same 424 = .ok (.iaload, 1) := by decide +kernel
theorem dL_same_425 : decode cL_same 425 = .ok (.iconst 1, 1) := by decide +kernel
theorem dL_same_426 : decode cL_same 426 = .ok (.if_icmp .eq 14, 3) := by decide +kernel
theorem dL_same_429 : decode cL_same 429 = .ok (.aload_n 0, 1) := by decide +kernel
theorem dL_same_430 : decode cL_same 430 = .ok (.iload 7, 2) := by decide +kernel
theorem dL_same_432 : decode cL_same 432 = .ok (.invokevirtual 78, 3) := by decide +kernel
theorem dL_same_435 : decode cL_same 435 = .ok (.iload 8, 2) := by decide +kernel
theorem dL_same_437 : decode cL_same 437 = .ok (.if_icmp .ne 7, 3) := by decide +kernel
theorem dL_same_440 : decode cL_same 440 = .ok (.iconst 1, 1) := by decide +kernel
theorem dL_same_441 : decode cL_same 441 = .ok (.goto 4, 3) := by decide +kernel
theorem dL_same_444 : decode cL_same 444 = .ok (.iconst 0, 1) := by decide +kernel
theorem dL_same_445 : decode cL_same 445 = .ok (.istore 6, 2) := by decide +kernel
theorem dL_same_447 : decode cL_same 447 = .ok (.iinc 7 1, 3) := by decide +kernel
theorem dL_same_450 : decode cL_same 450 = .ok (.goto (-186), 3) := by decide +kernel
theorem dL_same_453 : decode cL_same 453 = .ok (.iload 6, 2) := by decide +kernel
theorem dL_same_455 : decode cL_same 455 = .ok (.ireturn, 1) := by decide +kernel
theorem dL_makes_0 : decode cL_makes 0 = .ok (.aload 5, 2) := by decide +kernel
theorem dL_makes_2 : decode cL_makes 2 = .ok (.iconst 3, 1) := by decide +kernel
theorem dL_makes_3 : decode cL_makes 3 = .ok (.iaload, 1) := by decide +kernel
theorem dL_makes_4 : decode cL_makes 4 = .ok (.istore 6, 2) := by decide +kernel
theorem dL_makes_6 : decode cL_makes 6 = .ok (.iload_n 1, 1) := by decide +kernel
theorem dL_makes_7 : decode cL_makes 7 = .ok (.iload 6, 2) := by decide +kernel
theorem dL_makes_9 : decode cL_makes 9 = .ok (.invokestatic 81, 3) := by decide +kernel
theorem dL_makes_12 : decode cL_makes 12 = .ok (.istore 7, 2) := by decide +kernel
theorem dL_makes_14 : decode cL_makes 14 = .ok (.aload_n 2, 1) := by decide +kernel
theorem dL_makes_15 : decode cL_makes 15 = .ok (.bipush 16, 2) := by decide +kernel
theorem dL_makes_17 : decode cL_makes 17 = .ok (.iload 7, 2) := by decide +kernel
theorem dL_makes_19 : decode cL_makes 19 = .ok (.iadd, 1) := by decide +kernel
theorem dL_makes_20 : decode cL_makes 20 = .ok (.iaload, 1) := by decide +kernel
theorem dL_makes_21 : decode cL_makes 21 = .ok (.iconst 1, 1) := by decide +kernel
theorem dL_makes_22 : decode cL_makes 22 = .ok (.if_icmp .ne 7, 3) := by decide +kernel
theorem dL_makes_25 : decode cL_makes 25 = .ok (.iconst 0, 1) := by decide +kernel
theorem dL_makes_26 : decode cL_makes 26 = .ok (.goto 5, 3) := by decide +kernel
theorem dL_makes_29 : decode cL_makes 29 = .ok (.iload 7, 2) := by decide +kernel
theorem dL_makes_31 : decode cL_makes 31 = .ok (.istore 7, 2) := by decide +kernel
theorem dL_makes_33 : decode cL_makes 33 = .ok (.iload 6, 2) := by decide +kernel
theorem dL_makes_35 : decode cL_makes 35 = .ok (.iconst 1, 1) := by decide +kernel
theorem dL_makes_36 : decode cL_makes 36 = .ok (.if_icmp .le 17, 3) := by decide +kernel
theorem dL_makes_39 : decode cL_makes 39 = .ok (.iload_n 1, 1) := by decide +kernel
theorem dL_makes_40 : decode cL_makes 40 = .ok (.iconst 4, 1) := by decide +kernel
theorem dL_makes_41 : decode cL_makes 41 = .ok (.ishr, 1) := by decide +kernel
theorem dL_makes_42 : decode cL_makes 42 = .ok (.iconst 3, 1) := by decide +kernel
theorem dL_makes_43 : decode cL_makes 43 = .ok (.invokestatic 81, 3) := by decide +kernel
theorem dL_makes_46 : decode cL_makes 46 = .ok (.ifCond .ne 7, 3) := by decide +kernel
theorem dL_makes_49 : decode cL_makes 49 = .ok (.iconst 1, 1) := by decide +kernel
theorem dL_makes_50 : decode cL_makes 50 = .ok (.goto 4, 3) := by decide +kernel
theorem dL_makes_53 : decode cL_makes 53 = .ok (.iconst 0, 1) := by decide +kernel
theorem dL_makes_54 : decode cL_makes 54 = .ok (.istore 8, 2) := by decide +kernel
theorem dL_makes_56 : decode cL_makes 56 = .ok (.aload_n 2, 1) := by decide +kernel
theorem dL_makes_57 : decode cL_makes 57 = .ok (.iload 6, 2) := by decide +kernel
theorem dL_makes_59 : decode cL_makes 59 = .ok (.iload 7, 2) := by decide +kernel
theorem dL_makes_61 : decode cL_makes 61 = .ok (.iastore, 1) := by decide +kernel
theorem dL_makes_62 : decode cL_makes 62 = .ok (.aload_n 2, 1) := by decide +kernel
theorem dL_makes_63 : decode cL_makes 63 = .ok (.bipush 16, 2) := by decide +kernel
theorem dL_makes_65 : decode cL_makes 65 = .ok (.iload 6, 2) := by decide +kernel
theorem dL_makes_67 : decode cL_makes 67 = .ok (.iadd, 1) := by decide +kernel
theorem dL_makes_68 : decode cL_makes 68 = .ok (.iload 8, 2) := by decide +kernel
theorem dL_makes_70 : decode cL_makes 70 = .ok (.ifCond .eq 7, 3) := by decide +kernel
theorem dL_makes_73 : decode cL_makes 73 = .ok (.iconst 1, 1) := by decide +kernel
theorem dL_makes_74 : decode cL_makes 74 = .ok (.goto 4, 3) := by decide +kernel
theorem dL_makes_77 : decode cL_makes 77 = .ok (.iconst 0, 1) := by decide +kernel
theorem dL_makes_78 : decode cL_makes 78 = .ok (.iastore, 1) := by decide +kernel
theorem dL_makes_79 : decode cL_makes 79 = .ok (.aload_n 2, 1) := by decide +kernel
theorem dL_makes_80 : decode cL_makes 80 = .ok (.bipush 32, 2) := by decide +kernel
theorem dL_makes_82 : decode cL_makes 82 = .ok (.iload 6, 2) := by decide +kernel
theorem dL_makes_84 : decode cL_makes 84 = .ok (.iadd, 1) := by decide +kernel
theorem dL_makes_85 : decode cL_makes 85 = .ok (.iconst 0, 1) := by decide +kernel
theorem dL_makes_86 : decode cL_makes 86 = .ok (.iastore, 1) := by decide +kernel
theorem dL_makes_87 : decode cL_makes 87 = .ok (.aload_n 2, 1) := by decide +kernel
theorem dL_makes_88 : decode cL_makes 88 = .ok (.bipush 48, 2) := by decide +kernel
theorem dL_makes_90 : decode cL_makes 90 = .ok (.iload 6, 2) := by decide +kernel
theorem dL_makes_92 : decode cL_makes 92 = .ok (.iadd, 1) := by decide +kernel
theorem dL_makes_93 : decode cL_makes 93 = .ok (.iconst 1, 1) := by decide +kernel
theorem dL_makes_94 : decode cL_makes 94 = .ok (.iload_n 1, 1) := by decide +kernel
theorem dL_makes_95 : decode cL_makes 95 = .ok (.bipush 6, 2) := by decide +kernel
theorem dL_makes_97 : decode cL_makes 97 = .ok (.ishr, 1) := by decide +kernel
theorem dL_makes_98 : decode cL_makes 98 = .ok (.bipush 20, 2) := by decide +kernel
theorem dL_makes_100 : decode cL_makes 100 = .ok (.invokestatic 81, 3) := by decide +kernel
theorem dL_makes_103 : decode cL_makes 103 = .ok (.iadd, 1) := by decide +kernel
theorem dL_makes_104 : decode cL_makes 104 = .ok (.iastore, 1) := by decide +kernel
theorem dL_makes_105 : decode cL_makes 105 = .ok (.aload_n 3, 1) := by decide +kernel
theorem dL_makes_106 : decode cL_makes 106 = .ok (.iload 6, 2) := by decide +kernel
theorem dL_makes_108 : decode cL_makes 108 = .ok (.iconst (-1), 1) := by decide +kernel
theorem dL_makes_109 : decode cL_makes 109 = .ok (.iastore, 1) := by decide +kernel
theorem dL_makes_110 : decode cL_makes 110 = .ok (.aload_n 3, 1) := by decide +kernel
theorem dL_makes_111 : decode cL_makes 111 = .ok (.bipush 16, 2) := by decide +kernel
theorem dL_makes_113 : decode cL_makes 113 = .ok (.iload 6, 2) := by decide +kernel
theorem dL_makes_115 : decode cL_makes 115 = .ok (.iadd, 1) := by decide +kernel
theorem dL_makes_116 : decode cL_makes 116 = .ok (.iconst (-1), 1) := by decide +kernel
theorem dL_makes_117 : decode cL_makes 117 = .ok (.iastore, 1) := by decide +kernel
theorem dL_makes_118 : decode cL_makes 118 = .ok (.aload 5, 2) := by decide +kernel
theorem dL_makes_120 : decode cL_makes 120 = .ok (.iconst 3, 1) := by decide +kernel
theorem dL_makes_121 : decode cL_makes 121 = .ok (.dup2, 1) := by decide +kernel
theorem dL_makes_122 : decode cL_makes 122 = .ok (.iaload, 1) := by decide +kernel
theorem dL_makes_123 : decode cL_makes 123 = .ok (.iconst 1, 1) := by decide +kernel
theorem dL_makes_124 : decode cL_makes 124 = .ok (.iadd, 1) := by decide +kernel
theorem dL_makes_125 : decode cL_makes 125 = .ok (.iastore, 1) := by decide +kernel
theorem dL_makes_126 : decode cL_makes 126 = .ok (.iload 8, 2) := by decide +kernel
theorem dL_makes_128 : decode cL_makes 128 = .ok (.ifCond .eq 25, 3) := by decide +kernel
theorem dL_makes_131 : decode cL_makes 131 = .ok (.aload_n 0, 1) := by decide +kernel
theorem dL_makes_132 : decode cL_makes 132 = .ok (.iload 7, 2) := by decide +kernel
theorem dL_makes_134 : decode cL_makes 134 = .ok (.aload_n 0, 1) := by decide +kernel
theorem dL_makes_135 : decode cL_makes 135 = .ok (.iload 7, 2) := by decide +kernel
theorem dL_makes_137 : decode cL_makes 137 = .ok (.invokevirtual 84, 3) := by decide +kernel
theorem dL_makes_140 : decode cL_makes 140 = .ok (.aload_n 2, 1) := by decide +kernel
theorem dL_makes_141 : decode cL_makes 141 = .ok (.bipush 48, 2) := by decide +kernel
theorem dL_makes_143 : decode cL_makes 143 = .ok (.iload 6, 2) := by decide +kernel
theorem dL_makes_145 : decode cL_makes 145 = .ok (.iadd, 1) := by decide +kernel
theorem dL_makes_146 : decode cL_makes 146 = .ok (.iaload, 1) := by decide +kernel
theorem dL_makes_147 : decode cL_makes 147 = .ok (.invokevirtual 87, 3) := by decide +kernel
theorem dL_makes_150 : decode cL_makes 150 = .ok (.goto 15, 3) := by decide +kernel
theorem dL_makes_153 : decode cL_makes 153 = .ok (.aload_n 0, 1) := by decide +kernel
theorem dL_makes_154 : decode cL_makes 154 = .ok (.iload 7, 2) := by decide +kernel
theorem dL_makes_156 : decode cL_makes 156 = .ok (.aload_n 0, 1) := by decide +kernel
theorem dL_makes_157 : decode cL_makes 157 = .ok (.iload 7, 2) := by decide +kernel
theorem dL_makes_159 : decode cL_makes 159 = .ok (.invokevirtual 84, 3) := by decide +kernel
theorem dL_makes_162 : decode cL_makes 162 = .ok (.invokevirtual 90, 3) := by decide +kernel
theorem dL_makes_165 : decode cL_makes 165 = .ok (.iload 6, 2) := by decide +kernel
theorem dL_makes_167 : decode cL_makes 167 = .ok (.if_icmp .ne 7, 3) := by decide +kernel
theorem dL_makes_170 : decode cL_makes 170 = .ok (.iconst 1, 1) := by decide +kernel
theorem dL_makes_171 : decode cL_makes 171 = .ok (.goto 4, 3) := by decide +kernel
theorem dL_makes_174 : decode cL_makes 174 = .ok (.iconst 0, 1) := by decide +kernel
theorem dL_makes_175 : decode cL_makes 175 = .ok (.istore 9, 2) := by decide +kernel
theorem dL_makes_177 : decode cL_makes 177 = .ok (.iconst 0, 1) := by decide +kernel
theorem dL_makes_178 : decode cL_makes 178 = .ok (.istore 10, 2) := by decide +kernel
theorem dL_makes_180 : decode cL_makes 180 = .ok (.iload 10, 2) := by decide +kernel
theorem dL_makes_182 : decode cL_makes 182 = .ok (.iconst 4, 1) := by decide +kernel
theorem dL_makes_183 : decode cL_makes 183 = .ok (.if_icmp .ge 116, 3) := by decide +kernel
theorem dL_makes_186 : decode cL_makes 186 = .ok (.iload 8, 2) := by decide +kernel
theorem dL_makes_188 : decode cL_makes 188 = .ok (.ifCond .eq 111, 3) := by decide +kernel
theorem dL_makes_191 : decode cL_makes 191 = .ok (.iload_n 1, 1) := by decide +kernel
theorem dL_makes_192 : decode cL_makes 192 = .ok (.bipush 9, 2) := by decide +kernel
theorem dL_makes_194 : decode cL_makes 194 = .ok (.ishr, 1) := by decide +kernel
theorem dL_makes_195 : decode cL_makes 195 = .ok (.iconst 5, 1) := by decide +kernel
theorem dL_makes_196 : decode cL_makes 196 = .ok (.invokestatic 81, 3) := by decide +kernel
theorem dL_makes_199 : decode cL_makes 199 = .ok (.iload 10, 2) := by decide +kernel
theorem dL_makes_201 : decode cL_makes 201 = .ok (.if_icmp .le 98, 3) := by decide +kernel
theorem dL_makes_204 : decode cL_makes 204 = .ok (.aload 5, 2) := by decide +kernel
theorem dL_makes_206 : decode cL_makes 206 = .ok (.bipush 7, 2) := by decide +kernel
theorem dL_makes_208 : decode cL_makes 208 = .ok (.iaload, 1) := by decide +kernel
theorem dL_makes_209 : decode cL_makes 209 = .ok (.bipush 20, 2) := by decide +kernel
theorem dL_makes_211 : decode cL_makes 211 = .ok (.if_icmp .ge 88, 3) := by decide +kernel
theorem dL_makes_214 : decode cL_makes 214 = .ok (.aload 4, 2) := by decide +kernel
theorem dL_makes_216 : decode cL_makes 216 = .ok (.iconst 4, 1) := by decide +kernel
theorem dL_makes_217 : decode cL_makes 217 = .ok (.iload 6, 2) := by decide +kernel
theorem dL_makes_219 : decode cL_makes 219 = .ok (.imul, 1) := by decide +kernel
theorem dL_makes_220 : decode cL_makes 220 = .ok (.iload 10, 2) := by decide +kernel
theorem dL_makes_222 : decode cL_makes 222 = .ok (.iadd, 1) := by decide +kernel
theorem dL_makes_223 : decode cL_makes 223 = .ok (.iconst 1, 1) := by decide +kernel
theorem dL_makes_224 : decode cL_makes 224 = .ok (.iload_n 1, 1) := by decide +kernel
theorem dL_makes_225 : decode cL_makes 225 = .ok (.iconst 3, 1) := by decide +kernel
theorem dL_makes_226 : decode cL_makes 226 = .ok (.iload 10, 2) := by decide +kernel
theorem dL_makes_228 : decode cL_makes 228 = .ok (.imul, 1) := by decide +kernel
theorem dL_makes_229 : decode cL_makes 229 = .ok (.ishr, 1) := by decide +kernel
theorem dL_makes_230 : decode cL_makes 230 = .ok (.bipush 30, 2) := by decide +kernel
theorem dL_makes_232 : decode cL_makes 232 = .ok (.invokestatic 81, 3) := by decide +kernel
theorem dL_makes_235 : decode cL_makes 235 = .ok (.iadd, 1) := by decide +kernel
theorem dL_makes_236 : decode cL_makes 236 = .ok (.iastore, 1) := by decide +kernel
theorem dL_makes_237 : decode cL_makes 237 = .ok (.aload_n 2, 1) := by decide +kernel
theorem dL_makes_238 : decode cL_makes 238 = .ok (.bipush 32, 2) := by decide +kernel
theorem dL_makes_240 : decode cL_makes 240 = .ok (.iload 6, 2) := by decide +kernel
theorem dL_makes_242 : decode cL_makes 242 = .ok (.iadd, 1) := by decide +kernel
theorem dL_makes_243 : decode cL_makes 243 = .ok (.dup2, 1) := by decide +kernel
theorem dL_makes_244 : decode cL_makes 244 = .ok (.iaload, 1) := by decide +kernel
theorem dL_makes_245 : decode cL_makes 245 = .ok (.iconst 1, 1) := by decide +kernel
theorem dL_makes_246 : decode cL_makes 246 = .ok (.iadd, 1) := by decide +kernel
theorem dL_makes_247 : decode cL_makes 247 = .ok (.iastore, 1) := by decide +kernel
theorem dL_makes_248 : decode cL_makes 248 = .ok (.aload 5, 2) := by decide +kernel
theorem dL_makes_250 : decode cL_makes 250 = .ok (.bipush 7, 2) := by decide +kernel
theorem dL_makes_252 : decode cL_makes 252 = .ok (.dup2, 1) := by decide +kernel
theorem dL_makes_253 : decode cL_makes 253 = .ok (.iaload, 1) := by decide +kernel
theorem dL_makes_254 : decode cL_makes 254 = .ok (.iconst 1, 1) := by decide +kernel
theorem dL_makes_255 : decode cL_makes 255 = .ok (.iadd, 1) := by decide +kernel
theorem dL_makes_256 : decode cL_makes 256 = .ok (.iastore, 1) := by decide +kernel
theorem dL_makes_257 : decode cL_makes 257 = .ok (.iload 9, 2) := by decide +kernel
theorem dL_makes_259 : decode cL_makes 259 = .ok (.ifCond .eq 31, 3) := by decide +kernel
theorem dL_makes_262 : decode cL_makes 262 = .ok (.aload_n 0, 1) := by decide +kernel
theorem dL_makes_263 : decode cL_makes 263 = .ok (.iload 6, 2) := by decide +kernel
theorem dL_makes_265 : decode cL_makes 265 = .ok (.aload 4, 2) := by decide +kernel
theorem dL_makes_267 : decode cL_makes 267 = .ok (.iconst 4, 1) := by decide +kernel
theorem dL_makes_268 : decode cL_makes 268 = .ok (.iload 6, 2) := by decide +kernel
theorem dL_makes_270 : decode cL_makes 270 = .ok (.imul, 1) := by decide +kernel
theorem dL_makes_271 : decode cL_makes 271 = .ok (.iload 10, 2) := by decide +kernel
theorem dL_makes_273 : decode cL_makes 273 = .ok (.iadd, 1) := by decide +kernel
theorem dL_makes_274 : decode cL_makes 274 = .ok (.iaload, 1) := by decide +kernel
theorem dL_makes_275 : decode cL_makes 275 = .ok (.iconst 0, 1) := by decide +kernel
theorem dL_makes_276 : decode cL_makes 276 = .ok (.invokevirtual 93, 3) := by decide +kernel
theorem dL_makes_279 : decode cL_makes 279 = .ok (.iload 10, 2) := by decide +kernel
theorem dL_makes_281 : decode cL_makes 281 = .ok (.iconst 1, 1) := by decide +kernel
theorem dL_makes_282 : decode cL_makes 282 = .ok (.iadd, 1) := by decide +kernel
theorem dL_makes_283 : decode cL_makes 283 = .ok (.if_icmp .ne 7, 3) := by decide +kernel
theorem dL_makes_286 : decode cL_makes 286 = .ok (.iconst 1, 1) := by decide +kernel
theorem dL_makes_287 : decode cL_makes 287 = .ok (.goto 4, 3) := by decide +kernel
theorem dL_makes_290 : decode cL_makes 290 = .ok (.iconst 0, 1) := by decide +kernel
theorem dL_makes_291 : decode cL_makes 291 = .ok (.istore 9, 2) := by decide +kernel
theorem dL_makes_293 : decode cL_makes 293 = .ok (.iinc 10 1, 3) := by decide +kernel
theorem dL_makes_296 : decode cL_makes 296 = .ok (.goto (-116), 3) := by decide +kernel
theorem dL_makes_299 : decode cL_makes 299 = .ok (.iload 9, 2) := by decide +kernel
theorem dL_makes_301 : decode cL_makes 301 = .ok (.ireturn, 1) := by decide +kernel
theorem dL_styles_0 : decode cL_styles 0 = .ok (.iconst 1, 1) := by decide +kernel
theorem dL_styles_1 : decode cL_styles 1 = .ok (.iload_n 1, 1) := by decide +kernel
theorem dL_styles_2 : decode cL_styles 2 = .ok (.aload 6, 2) := by decide +kernel
theorem dL_styles_4 : decode cL_styles 4 = .ok (.iconst 3, 1) := by decide +kernel
theorem dL_styles_5 : decode cL_styles 5 = .ok (.iaload, 1) := by decide +kernel
theorem dL_styles_6 : decode cL_styles 6 = .ok (.iconst 1, 1) := by decide +kernel
theorem dL_styles_7 : decode cL_styles 7 = .ok (.isub, 1) := by decide +kernel
theorem dL_styles_8 : decode cL_styles 8 = .ok (.invokestatic 81, 3) := by decide +kernel
theorem dL_styles_11 : decode cL_styles 11 = .ok (.iadd, 1) := by decide +kernel
theorem dL_styles_12 : decode cL_styles 12 = .ok (.istore 7, 2) := by decide +kernel
theorem dL_styles_14 : decode cL_styles 14 = .ok (.aload_n 2, 1) := by decide +kernel
theorem dL_styles_15 : decode cL_styles 15 = .ok (.bipush 16, 2) := by decide +kernel
theorem dL_styles_17 : decode cL_styles 17 = .ok (.iload 7, 2) := by decide +kernel
theorem dL_styles_19 : decode cL_styles 19 = .ok (.iadd, 1) := by decide +kernel
theorem dL_styles_20 : decode cL_styles 20 = .ok (.iaload, 1) := by decide +kernel
theorem dL_styles_21 : decode cL_styles 21 = .ok (.iconst 1, 1) := by decide +kernel
theorem dL_styles_22 : decode cL_styles 22 = .ok (.if_icmp .ne 5, 3) := by decide +kernel
theorem dL_styles_25 : decode cL_styles 25 = .ok (.iconst 1, 1) := by decide +kernel
theorem dL_styles_26 : decode cL_styles 26 = .ok (.ireturn, 1) := by decide +kernel
theorem dL_styles_27 : decode cL_styles 27 = .ok (.iload_n 1, 1) := by decide +kernel
theorem dL_styles_28 : decode cL_styles 28 = .ok (.iconst 4, 1) := by decide +kernel
theorem dL_styles_29 : decode cL_styles 29 = .ok (.ishr, 1) := by decide +kernel
theorem dL_styles_30 : decode cL_styles 30 = .ok (.bipush 10, 2) := by decide +kernel
theorem dL_styles_32 : decode cL_styles 32 = .ok (.invokestatic 81, 3) := by decide +kernel
theorem dL_styles_35 : decode cL_styles 35 = .ok (.istore 8, 2) := by decide +kernel
theorem dL_styles_37 : decode cL_styles 37 = .ok (.iload 8, 2) := by decide +kernel
theorem dL_styles_39 : decode cL_styles 39 = .ok (.iconst 2, 1) := by decide +kernel
theorem dL_styles_40 : decode cL_styles 40 = .ok (.if_icmp .ge 68, 3) := by decide +kernel
theorem dL_styles_43 : decode cL_styles 43 = .ok (.iload_n 1, 1) := by decide +kernel
theorem dL_styles_44 : decode cL_styles 44 = .ok (.bipush 7, 2) := by decide +kernel
theorem dL_styles_46 : decode cL_styles 46 = .ok (.ishr, 1) := by decide +kernel
theorem dL_styles_47 : decode cL_styles 47 = .ok (.iconst 3, 1) := by decide +kernel
theorem dL_styles_48 : decode cL_styles 48 = .ok (.invokestatic 81, 3) := by decide +kernel
theorem dL_styles_51 : decode cL_styles 51 = .ok (.ifCond .ne 7, 3) := by decide +kernel
theorem dL_styles_54 : decode cL_styles 54 = .ok (.iconst (-1), 1) := by decide +kernel
theorem dL_styles_55 : decode cL_styles 55 = .ok (.goto 114, 3) := by decide +kernel
theorem dL_styles_58 : decode cL_styles 58 = .ok (.iload_n 1, 1) := by decide +kernel
theorem dL_styles_59 : decode cL_styles 59 = .ok (.bipush 7, 2) := by decide +kernel
theorem dL_styles_61 : decode cL_styles 61 = .ok (.ishr, 1) := by decide +kernel
theorem dL_styles_62 : decode cL_styles 62 = .ok (.iconst 3, 1) := by decide +kernel
theorem dL_styles_63 : decode cL_styles 63 = .ok (.invokestatic 81, 3) := by decide +kernel
theorem dL_styles_66 : decode cL_styles 66 = .ok (.iconst 1, 1) := by decide +kernel
theorem dL_styles_67 : decode cL_styles 67 = .ok (.if_icmp .ne 19, 3) := by decide +kernel
theorem dL_styles_70 : decode cL_styles 70 = .ok (.sipush 1000, 3) := by decide +kernel
theorem dL_styles_73 : decode cL_styles 73 = .ok (.iload_n 1, 1) := by decide +kernel
theorem dL_styles_74 : decode cL_styles 74 = .ok (.bipush 9, 2) := by decide +kernel
theorem dL_styles_76 : decode cL_styles 76 = .ok (.ishr, 1) := by decide +kernel
theorem dL_styles_77 : decode cL_styles 77 = .ok (.bipush 101, 2) := by decide +kernel
theorem dL_styles_79 : decode cL_styles 79 = .ok (.invokestatic 81, 3) := by decide +kernel
theorem dL_styles_82 : decode cL_styles 82 = .ok (.iadd, 1) := by decide +kernel
theorem dL_styles_83 : decode cL_styles 83 = .ok (.goto 86, 3) := by decide +kernel
theorem dL_styles_86 : decode cL_styles 86 = .ok (.iload_n 1, 1) := by decide +kernel
theorem dL_styles_87 : decode cL_styles 87 = .ok (.bipush 9, 2) := by decide +kernel
theorem dL_styles_89 : decode cL_styles 89 = .ok (.ishr, 1) := by decide +kernel
theorem dL_styles_90 : decode cL_styles 90 = .ok (.iload 8, 2) := by decide +kernel
theorem dL_styles_92 : decode cL_styles 92 = .ok (.ifCond .ne 8, 3) := by decide +kernel
theorem dL_styles_95 : decode cL_styles 95 = .ok (.bipush 61, 2) := by decide +kernel
theorem dL_styles_97 : decode cL_styles 97 = .ok (.goto 5, 3) := by decide +kernel
theorem dL_styles_100 : decode cL_styles 100 = .ok (.bipush 20, 2) := by decide +kernel
theorem dL_styles_102 : decode cL_styles 102 = .ok (.invokestatic 81, 3) := by decide +kernel
theorem dL_styles_105 : decode cL_styles 105 = .ok (.goto 64, 3) := by decide +kernel
theorem dL_styles_108 : decode cL_styles 108 = .ok (.iload 8, 2) := by decide +kernel
theorem dL_styles_110 : decode cL_styles 110 = .ok (.bipush 6, 2) := by decide +kernel
theorem dL_styles_112 : decode cL_styles 112 = .ok (.if_icmp .ge 33, 3) := by decide +kernel
theorem dL_styles_115 : decode cL_styles 115 = .ok (.iload_n 1, 1) := by decide +kernel
theorem dL_styles_116 : decode cL_styles 116 = .ok (.bipush 9, 2) := by decide +kernel
theorem dL_styles_118 : decode cL_styles 118 = .ok (.ishr, 1) := by decide +kernel
theorem dL_styles_119 : decode cL_styles 119 = .ok (.bipush 31, 2) := by decide +kernel
theorem dL_styles_121 : decode cL_styles 121 = .ok (.invokestatic 81, 3) := by decide +kernel
theorem dL_styles_124 : decode cL_styles 124 = .ok (.iload_n 1, 1) := by decide +kernel
theorem dL_styles_125 : decode cL_styles 125 = .ok (.bipush 7, 2) := by decide +kernel
theorem dL_styles_127 : decode cL_styles 127 = .ok (.ishr, 1) := by decide +kernel
theorem dL_styles_128 : decode cL_styles 128 = .ok (.iconst 2, 1) := by decide +kernel
theorem dL_styles_129 : decode cL_styles 129 = .ok (.invokestatic 81, 3) := by decide +kernel
theorem dL_styles_132 : decode cL_styles 132 = .ok (.ifCond .ne 8, 3) := by decide +kernel
theorem dL_styles_135 : decode cL_styles 135 = .ok (.bipush 15, 2) := by decide +kernel
theorem dL_styles_137 : decode cL_styles 137 = .ok (.goto 4, 3) := by decide +kernel
theorem dL_styles_140 : decode cL_styles 140 = .ok (.iconst 0, 1) := by decide +kernel
theorem dL_styles_141 : decode cL_styles 141 = .ok (.isub, 1) := by decide +kernel
theorem dL_styles_142 : decode cL_styles 142 = .ok (.goto 27, 3) := by decide +kernel
theorem dL_styles_145 : decode cL_styles 145 = .ok (.iload_n 1, 1) := by decide +kernel
theorem dL_styles_146 : decode cL_styles 146 = .ok (.bipush 7, 2) := by decide +kernel
theorem dL_styles_148 : decode cL_styles 148 = .ok (.ishr, 1) := by decide +kernel
theorem dL_styles_149 : decode cL_styles 149 = .ok (.iconst 2, 1) := by decide +kernel
theorem dL_styles_150 : decode cL_styles 150 = .ok (.invokestatic 81, 3) := by decide +kernel
theorem dL_styles_153 : decode cL_styles 153 = .ok (.ifCond .ne 7, 3) := by decide +kernel
theorem dL_styles_156 : decode cL_styles 156 = .ok (.iconst 0, 1) := by decide +kernel
theorem dL_styles_157 : decode cL_styles 157 = .ok (.goto 12, 3) := by decide +kernel
theorem dL_styles_160 : decode cL_styles 160 = .ok (.iload_n 1, 1) := by decide +kernel
theorem dL_styles_161 : decode cL_styles 161 = .ok (.bipush 9, 2) := by decide +kernel
theorem dL_styles_163 : decode cL_styles 163 = .ok (.ishr, 1) := by decide +kernel
theorem dL_styles_164 : decode cL_styles 164 = .ok (.bipush 9, 2) := by decide +kernel
theorem dL_styles_166 : decode cL_styles 166 = .ok (.invokestatic 81, 3) := by decide +kernel
theorem dL_styles_169 : decode cL_styles 169 = .ok (.istore 9, 2) := by decide +kernel
theorem dL_styles_171 : decode cL_styles 171 = .ok (.iload 8, 2) := by decide +kernel
theorem dL_styles_173 : decode cL_styles 173 = .ok (.ifCond .ne 11, 3) := by decide +kernel
theorem dL_styles_176 : decode cL_styles 176 = .ok (.aload 5, 2) := by decide +kernel
theorem dL_styles_178 : decode cL_styles 178 = .ok (.iload 7, 2) := by decide +kernel
theorem dL_styles_180 : decode cL_styles 180 = .ok (.iaload, 1) := by decide +kernel
theorem dL_styles_181 : decode cL_styles 181 = .ok (.goto 54, 3) := by decide +kernel
theorem dL_styles_184 : decode cL_styles 184 = .ok (.iload 8, 2) := by decide +kernel
theorem dL_styles_186 : decode cL_styles 186 = .ok (.iconst 1, 1) := by decide +kernel
theorem dL_styles_187 : decode cL_styles 187 = .ok (.if_icmp .ne 14, 3) := by decide +kernel
theorem dL_styles_190 : decode cL_styles 190 = .ok (.aload 5, 2) := by decide +kernel
theorem dL_styles_192 : decode cL_styles 192 = .ok (.bipush 16, 2) := by decide +kernel
theorem dL_styles_194 : decode cL_styles 194 = .ok (.iload 7, 2) := by decide +kernel
theorem dL_styles_196 : decode cL_styles 196 = .ok (.iadd, 1) := by decide +kernel
theorem dL_styles_197 : decode cL_styles 197 = .ok (.iaload, 1) := by decide +kernel
theorem dL_styles_198 : decode cL_styles 198 = .ok (.goto 37, 3) := by decide +kernel
theorem dL_styles_201 : decode cL_styles 201 = .ok (.iload 8, 2) := by decide +kernel
theorem dL_styles_203 : decode cL_styles 203 = .ok (.bipush 6, 2) := by decide +kernel
theorem dL_styles_205 : decode cL_styles 205 = .ok (.if_icmp .ge 17, 3) := by decide +kernel
theorem dL_styles_208 : decode cL_styles 208 = .ok (.aload_n 3, 1) := by decide +kernel
theorem dL_styles_209 : decode cL_styles 209 = .ok (.iconst 4, 1) := by decide +kernel
theorem dL_styles_210 : decode cL_styles 210 = .ok (.iload 7, 2) := by decide +kernel
theorem dL_styles_212 : decode cL_styles 212 = .ok (.imul, 1) := by decide +kernel
theorem dL_styles_213 : decode cL_styles 213 = .ok (.iload 8, 2) := by decide +kernel
theorem dL_styles_215 : decode cL_styles 215 = .ok (.iadd, 1) := by decide +kernel
theorem dL_styles_216 : decode cL_styles 216 = .ok (.iconst 2, 1) := by decide +kernel
theorem dL_styles_217 : decode cL_styles 217 = .ok (.isub, 1) := by decide +kernel
theorem dL_styles_218 : decode cL_styles 218 = .ok (.iaload, 1) := by decide +kernel
theorem dL_styles_219 : decode cL_styles 219 = .ok (.goto 16, 3) := by decide +kernel
theorem dL_styles_222 : decode cL_styles 222 = .ok (.aload 4, 2) := by decide +kernel
theorem dL_styles_224 : decode cL_styles 224 = .ok (.iconst 4, 1) := by decide +kernel
theorem dL_styles_225 : decode cL_styles 225 = .ok (.iload 7, 2) := by decide +kernel
theorem dL_styles_227 : decode cL_styles 227 = .ok (.imul, 1) := by decide +kernel
theorem dL_styles_228 : decode cL_styles 228 = .ok (.iload 8, 2) := by decide +kernel
theorem dL_styles_230 : decode cL_styles 230 = .ok (.iadd, 1) := by decide +kernel
theorem dL_styles_231 : decode cL_styles 231 = .ok (.bipush 6, 2) := by decide +kernel
theorem dL_styles_233 : decode cL_styles 233 = .ok (.isub, 1) := by decide +kernel
theorem dL_styles_234 : decode cL_styles 234 = .ok (.iaload, 1) := by decide +kernel
theorem dL_styles_235 : decode cL_styles 235 = .ok (.istore 10, 2) := by decide +kernel
theorem dL_styles_237 : decode cL_styles 237 = .ok (.aload 5, 2) := by decide +kernel
theorem dL_styles_239 : decode cL_styles 239 = .ok (.iload 8, 2) := by decide +kernel
theorem dL_styles_241 : decode cL_styles 241 = .ok (.ifCond .ne 8, 3) := by decide +kernel
theorem dL_styles_244 : decode cL_styles 244 = .ok (.iload 7, 2) := by decide +kernel
theorem dL_styles_246 : decode cL_styles 246 = .ok (.goto 18, 3) := by decide +kernel
theorem dL_styles_249 : decode cL_styles 249 = .ok (.iload 8, 2) := by decide +kernel
theorem dL_styles_251 : decode cL_styles 251 = .ok (.iconst 1, 1) := by decide +kernel
theorem dL_styles_252 : decode cL_styles 252 = .ok (.if_icmp .ne 11, 3) := by decide +kernel
theorem dL_styles_255 : decode cL_styles 255 = .ok (.bipush 16, 2) := by decide +kernel
theorem dL_styles_257 : decode cL_styles 257 = .ok (.iload 7, 2) := by decide +kernel
theorem dL_styles_259 : decode cL_styles 259 = .ok (.iadd, 1) := by decide +kernel
theorem dL_styles_260 : decode cL_styles 260 = .ok (.goto 4, 3) := by decide +kernel
theorem dL_styles_263 : decode cL_styles 263 = .ok (.iconst 0, 1) := by decide +kernel
theorem dL_styles_264 : decode cL_styles 264 = .ok (.iload 8, 2) := by decide +kernel
theorem dL_styles_266 : decode cL_styles 266 = .ok (.iconst 2, 1) := by decide +kernel
theorem dL_styles_267 : decode cL_styles 267 = .ok (.if_icmp .ge 8, 3) := by decide +kernel
theorem dL_styles_270 : decode cL_styles 270 = .ok (.iload 9, 2) := by decide +kernel
theorem dL_styles_272 : decode cL_styles 272 = .ok (.goto 7, 3) := by decide +kernel
theorem dL_styles_275 : decode cL_styles 275 = .ok (.aload 5, 2) := by decide +kernel
theorem dL_styles_277 : decode cL_styles 277 = .ok (.iconst 0, 1) := by decide +kernel
theorem dL_styles_278 : decode cL_styles 278 = .ok (.iaload, 1) := by decide +kernel
theorem dL_styles_279 : decode cL_styles 279 = .ok (.iastore, 1) := by decide +kernel
theorem dL_styles_280 : decode cL_styles 280 = .ok (.aload_n 3, 1) := by decide +kernel
theorem dL_styles_281 : decode cL_styles 281 = .ok (.iload 8, 2) := by decide +kernel
theorem dL_styles_283 : decode cL_styles 283 = .ok (.iconst 1, 1) := by decide +kernel
theorem dL_styles_284 : decode cL_styles 284 = .ok (.if_icmp .le 22, 3) := by decide +kernel
theorem dL_styles_287 : decode cL_styles 287 = .ok (.iload 8, 2) := by decide +kernel
theorem dL_styles_289 : decode cL_styles 289 = .ok (.bipush 6, 2) := by decide +kernel
theorem dL_styles_291 : decode cL_styles 291 = .ok (.if_icmp .ge 15, 3) := by decide +kernel
theorem dL_styles_294 : decode cL_styles 294 = .ok (.iconst 4, 1) := by decide +kernel
theorem dL_styles_295 : decode cL_styles 295 = .ok (.iload 7, 2) := by decide +kernel
theorem dL_styles_297 : decode cL_styles 297 = .ok (.imul, 1) := by decide +kernel
theorem dL_styles_298 : decode cL_styles 298 = .ok (.iload 8, 2) := by decide +kernel
theorem dL_styles_300 : decode cL_styles 300 = .ok (.iadd, 1) := by decide +kernel
theorem dL_styles_301 : decode cL_styles 301 = .ok (.iconst 2, 1) := by decide +kernel
theorem dL_styles_302 : decode cL_styles 302 = .ok (.isub, 1) := by decide +kernel
theorem dL_styles_303 : decode cL_styles 303 = .ok (.goto 4, 3) := by decide +kernel
theorem dL_styles_306 : decode cL_styles 306 = .ok (.iconst 0, 1) := by decide +kernel
theorem dL_styles_307 : decode cL_styles 307 = .ok (.iload 8, 2) := by decide +kernel
theorem dL_styles_309 : decode cL_styles 309 = .ok (.iconst 1, 1) := by decide +kernel
theorem dL_styles_310 : decode cL_styles 310 = .ok (.if_icmp .le 15, 3) := by decide +kernel
theorem dL_styles_313 : decode cL_styles 313 = .ok (.iload 8, 2) := by decide +kernel
theorem dL_styles_315 : decode cL_styles 315 = .ok (.bipush 6, 2) := by decide +kernel
theorem dL_styles_317 : decode cL_styles 317 = .ok (.if_icmp .ge 8, 3) := by decide +kernel
theorem dL_styles_320 : decode cL_styles 320 = .ok (.iload 9, 2) := by decide +kernel
theorem dL_styles_322 : decode cL_styles 322 = .ok (.goto 6, 3) := by decide +kernel
theorem dL_styles_325 : decode cL_styles 325 = .ok (.aload_n 3, 1) := by decide +kernel
theorem dL_styles_326 : decode cL_styles 326 = .ok (.iconst 0, 1) := by decide +kernel
theorem dL_styles_327 : decode cL_styles 327 = .ok (.iaload, 1) := by decide +kernel
theorem dL_styles_328 : decode cL_styles 328 = .ok (.iastore, 1) := by decide +kernel
theorem dL_styles_329 : decode cL_styles 329 = .ok (.aload 4, 2) := by decide +kernel
theorem dL_styles_331 : decode cL_styles 331 = .ok (.iload 8, 2) := by decide +kernel
theorem dL_styles_333 : decode cL_styles 333 = .ok (.iconst 5, 1) := by decide +kernel
theorem dL_styles_334 : decode cL_styles 334 = .ok (.if_icmp .le 16, 3) := by decide +kernel
theorem dL_styles_337 : decode cL_styles 337 = .ok (.iconst 4, 1) := by decide +kernel
theorem dL_styles_338 : decode cL_styles 338 = .ok (.iload 7, 2) := by decide +kernel
theorem dL_styles_340 : decode cL_styles 340 = .ok (.imul, 1) := by decide +kernel
theorem dL_styles_341 : decode cL_styles 341 = .ok (.iload 8, 2) := by decide +kernel
theorem dL_styles_343 : decode cL_styles 343 = .ok (.iadd, 1) := by decide +kernel
theorem dL_styles_344 : decode cL_styles 344 = .ok (.bipush 6, 2) := by decide +kernel
theorem dL_styles_346 : decode cL_styles 346 = .ok (.isub, 1) := by decide +kernel
theorem dL_styles_347 : decode cL_styles 347 = .ok (.goto 4, 3) := by decide +kernel
theorem dL_styles_350 : decode cL_styles 350 = .ok (.iconst 0, 1) := by decide +kernel
theorem dL_styles_351 : decode cL_styles 351 = .ok (.iload 8, 2) := by decide +kernel
theorem dL_styles_353 : decode cL_styles 353 = .ok (.iconst 5, 1) := by decide +kernel
theorem dL_styles_354 : decode cL_styles 354 = .ok (.if_icmp .le 8, 3) := by decide +kernel
theorem dL_styles_357 : decode cL_styles 357 = .ok (.iload 9, 2) := by decide +kernel
theorem dL_styles_359 : decode cL_styles 359 = .ok (.goto 7, 3) := by decide +kernel
theorem dL_styles_362 : decode cL_styles 362 = .ok (.aload 4, 2) := by decide +kernel
theorem dL_styles_364 : decode cL_styles 364 = .ok (.iconst 0, 1) := by decide +kernel
theorem dL_styles_365 : decode cL_styles 365 = .ok (.iaload, 1) := by decide +kernel
theorem dL_styles_366 : decode cL_styles 366 = .ok (.iastore, 1) := by decide +kernel
theorem dL_styles_367 : decode cL_styles 367 = .ok (.aload_n 0, 1) := by decide +kernel
theorem dL_styles_368 : decode cL_styles 368 = .ok (.iload 7, 2) := by decide +kernel
theorem dL_styles_370 : decode cL_styles 370 = .ok (.iconst 4, 1) := by decide +kernel
theorem dL_styles_371 : decode cL_styles 371 = .ok (.iload 8, 2) := by decide +kernel
theorem dL_styles_373 : decode cL_styles 373 = .ok (.iadd, 1) := by decide +kernel
theorem dL_styles_374 : decode cL_styles 374 = .ok (.iload 9, 2) := by decide +kernel
theorem dL_styles_376 : decode cL_styles 376 = .ok (.invokevirtual 96, 3) := by decide +kernel
theorem dL_styles_379 : decode cL_styles 379 = .ok (.iload 10, 2) := by decide +kernel
theorem dL_styles_381 : decode cL_styles 381 = .ok (.if_icmp .ne 7, 3) := by decide +kernel
theorem dL_styles_384 : decode cL_styles 384 = .ok (.iconst 1, 1) := by decide +kernel
theorem dL_styles_385 : decode cL_styles 385 = .ok (.goto 4, 3) := by decide +kernel
theorem dL_styles_388 : decode cL_styles 388 = .ok (.iconst 0, 1) := by decide +kernel
theorem dL_styles_389 : decode cL_styles 389 = .ok (.ireturn, 1) := by decide +kernel
theorem dL_law_0 : decode cL_law 0 = .ok (.new 49, 3) := by decide +kernel
theorem dL_law_3 : decode cL_law 3 = .ok (.dup, 1) := by decide +kernel
theorem dL_law_4 : decode cL_law 4 = .ok (.invokespecial 99, 3) := by decide +kernel
theorem dL_law_7 : decode cL_law 7 = .ok (.astore_n 1, 1) := by decide +kernel
theorem dL_law_8 : decode cL_law 8 = .ok (.bipush 64, 2) := by decide +kernel
theorem dL_law_10 : decode cL_law 10 = .ok (.newarray .int, 2) := by decide +kernel
theorem dL_law_12 : decode cL_law 12 = .ok (.astore_n 2, 1) := by decide +kernel
theorem dL_law_13 : decode cL_law 13 = .ok (.bipush 48, 2) := by decide +kernel
theorem dL_law_15 : decode cL_law 15 = .ok (.newarray .int, 2) := by decide +kernel
theorem dL_law_17 : decode cL_law 17 = .ok (.astore_n 3, 1) := by decide +kernel
theorem dL_law_18 : decode cL_law 18 = .ok (.bipush 48, 2) := by decide +kernel
theorem dL_law_20 : decode cL_law 20 = .ok (.newarray .int, 2) := by decide +kernel
theorem dL_law_22 : decode cL_law 22 = .ok (.astore 4, 2) := by decide +kernel
theorem dL_law_24 : decode cL_law 24 = .ok (.bipush 32, 2) := by decide +kernel
theorem dL_law_26 : decode cL_law 26 = .ok (.newarray .int, 2) := by decide +kernel
theorem dL_law_28 : decode cL_law 28 = .ok (.astore 5, 2) := by decide +kernel
theorem dL_law_30 : decode cL_law 30 = .ok (.bipush 48, 2) := by decide +kernel
theorem dL_law_32 : decode cL_law 32 = .ok (.newarray .int, 2) := by decide +kernel
theorem dL_law_34 : decode cL_law 34 = .ok (.astore 6, 2) := by decide +kernel
theorem dL_law_36 : decode cL_law 36 = .ok (.bipush 64, 2) := by decide +kernel
theorem dL_law_38 : decode cL_law 38 = .ok (.newarray .int, 2) := by decide +kernel
theorem dL_law_40 : decode cL_law 40 = .ok (.astore 7, 2) := by decide +kernel
theorem dL_law_42 : decode cL_law 42 = .ok (.bipush 16, 2) := by decide +kernel
theorem dL_law_44 : decode cL_law 44 = .ok (.newarray .int, 2) := by decide +kernel
theorem dL_law_46 : decode cL_law 46 = .ok (.astore 8, 2) := by decide +kernel
theorem dL_law_48 : decode cL_law 48 = .ok (.bipush 8, 2) := by decide +kernel
theorem dL_law_50 : decode cL_law 50 = .ok (.newarray .int, 2) := by decide +kernel
theorem dL_law_52 : decode cL_law 52 = .ok (.astore 9, 2) := by decide +kernel
theorem dL_law_54 : decode cL_law 54 = .ok (.bipush 64, 2) := by decide +kernel
theorem dL_law_56 : decode cL_law 56 = .ok (.newarray .int, 2) := by decide +kernel
theorem dL_law_58 : decode cL_law 58 = .ok (.astore 10, 2) := by decide +kernel
theorem dL_law_60 : decode cL_law 60 = .ok (.aload 9, 2) := by decide +kernel
theorem dL_law_62 : decode cL_law 62 = .ok (.iconst 3, 1) := by decide +kernel
theorem dL_law_63 : decode cL_law 63 = .ok (.iconst 1, 1) := by decide +kernel
theorem dL_law_64 : decode cL_law 64 = .ok (.iastore, 1) := by decide +kernel
theorem dL_law_65 : decode cL_law 65 = .ok (.aload 9, 2) := by decide +kernel
theorem dL_law_67 : decode cL_law 67 = .ok (.iconst 4, 1) := by decide +kernel
theorem dL_law_68 : decode cL_law 68 = .ok (.bipush 60, 2) := by decide +kernel
theorem dL_law_70 : decode cL_law 70 = .ok (.iastore, 1) := by decide +kernel
theorem dL_law_71 : decode cL_law 71 = .ok (.aload 5, 2) := by decide +kernel
theorem dL_law_73 : decode cL_law 73 = .ok (.iconst 0, 1) := by decide +kernel
theorem dL_law_74 : decode cL_law 74 = .ok (.iconst (-1), 1) := by decide +kernel
theorem dL_law_75 : decode cL_law 75 = .ok (.iastore, 1) := by decide +kernel
theorem dL_law_76 : decode cL_law 76 = .ok (.aload 5, 2) := by decide +kernel
theorem dL_law_78 : decode cL_law 78 = .ok (.bipush 16, 2) := by decide +kernel
theorem dL_law_80 : decode cL_law 80 = .ok (.iconst (-1), 1) := by decide +kernel
theorem dL_law_81 : decode cL_law 81 = .ok (.iastore, 1) := by decide +kernel
theorem dL_law_82 : decode cL_law 82 = .ok (.iconst 0, 1) := by decide +kernel
theorem dL_law_83 : decode cL_law 83 = .ok (.istore 11, 2) := by decide +kernel
theorem dL_law_85 : decode cL_law 85 = .ok (.iload 11, 2) := by decide +kernel
theorem dL_law_87 : decode cL_law 87 = .ok (.bipush 60, 2) := by decide +kernel
theorem dL_law_89 : decode cL_law 89 = .ok (.if_icmp .ge 197, 3) := by decide +kernel
theorem dL_law_92 : decode cL_law 92 = .ok (.aload_n 0, 1) := by decide +kernel
theorem dL_law_93 : decode cL_law 93 = .ok (.iload 11, 2) := by decide +kernel
theorem dL_law_95 : decode cL_law 95 = .ok (.invokestatic 100, 3) := by decide +kernel
theorem dL_law_98 : decode cL_law 98 = .ok (.istore 12, 2) := by decide +kernel
theorem dL_law_100 : decode cL_law 100 = .ok (.iconst 1, 1) := by decide +kernel
theorem dL_law_101 : decode cL_law 101 = .ok (.istore 13, 2) := by decide +kernel
theorem dL_law_103 : decode cL_law 103 = .ok (.iload 11, 2) := by decide +kernel
theorem dL_law_105 : decode cL_law 105 = .ok (.iconst 5, 1) := by decide +kernel
theorem dL_law_106 : decode cL_law 106 = .ok (.if_icmp .lt 21, 3) := by decide +kernel
theorem dL_law_109 : decode cL_law 109 = .ok (.aload 9, 2) := by decide +kernel
theorem dL_law_111 : decode cL_law 111 = .ok (.iconst 3, 1) := by decide +kernel
theorem dL_law_112 : decode cL_law 112 = .ok (.iaload, 1) := by decide +kernel
theorem dL_law_113 : decode cL_law 113 = .ok (.bipush 12, 2) := by decide +kernel
theorem dL_law_115 : decode cL_law 115 = .ok (.if_icmp .ge 32, 3) := by decide +kernel
theorem dL_law_118 : decode cL_law 118 = .ok (.iload 12, 2) := by decide +kernel
theorem dL_law_120 : decode cL_law 120 = .ok (.iconst 4, 1) := by decide +kernel
theorem dL_law_121 : decode cL_law 121 = .ok (.invokestatic 81, 3) := by decide +kernel
theorem dL_law_124 : decode cL_law 124 = .ok (.ifCond .ne 23, 3) := by decide +kernel
theorem dL_law_127 : decode cL_law 127 = .ok (.aload_n 1, 1) := by decide +kernel
theorem dL_law_128 : decode cL_law 128 = .ok (.iload 12, 2) := by decide +kernel
theorem dL_law_130 : decode cL_law 130 = .ok (.iconst 3, 1) := by decide +kernel
theorem dL_law_131 : decode cL_law 131 = .ok (.ishr, 1) := by decide +kernel
theorem dL_law_132 : decode cL_law 132 = .ok (.aload_n 2, 1) := by decide +kernel
theorem dL_law_133 : decode cL_law 133 = .ok (.aload 5, 2) := by decide +kernel
theorem dL_law_135 : decode cL_law 135 = .ok (.aload 6, 2) := by decide +kernel
theorem dL_law_137 : decode cL_law 137 = .ok (.aload 9, 2) := by decide +kernel
theorem dL_law_139 : decode cL_law 139 = .ok (.invokestatic 104, 3) := by decide +kernel
theorem dL_law_142 : decode cL_law 142 = .ok (.istore 13, 2) := by decide +kernel
theorem dL_law_144 : decode cL_law 144 = .ok (.goto 94, 3) := by decide +kernel
theorem dL_law_147 : decode cL_law 147 = .ok (.iload 12, 2) := by decide +kernel
theorem dL_law_149 : decode cL_law 149 = .ok (.bipush 9, 2) := by decide +kernel
theorem dL_law_151 : decode cL_law 151 = .ok (.invokestatic 81, 3) := by decide +kernel
theorem dL_law_154 : decode cL_law 154 = .ok (.iconst 1, 1) := by decide +kernel
theorem dL_law_155 : decode cL_law 155 = .ok (.if_icmp .ne 65, 3) := by decide +kernel
theorem dL_law_158 : decode cL_law 158 = .ok (.aload 9, 2) := by decide +kernel
theorem dL_law_160 : decode cL_law 160 = .ok (.iconst 4, 1) := by decide +kernel
theorem dL_law_161 : decode cL_law 161 = .ok (.iaload, 1) := by decide +kernel
theorem dL_law_162 : decode cL_law 162 = .ok (.istore 14, 2) := by decide +kernel
theorem dL_law_164 : decode cL_law 164 = .ok (.aload 9, 2) := by decide +kernel
theorem dL_law_166 : decode cL_law 166 = .ok (.iconst 4, 1) := by decide +kernel
theorem dL_law_167 : decode cL_law 167 = .ok (.iconst 1, 1) := by decide +kernel
theorem dL_law_168 : decode cL_law 168 = .ok (.iload 12, 2) := by decide +kernel
theorem dL_law_170 : decode cL_law 170 = .ok (.iconst 5, 1) := by decide +kernel
theorem dL_law_171 : decode cL_law 171 = .ok (.ishr, 1) := by decide +kernel
theorem dL_law_172 : decode cL_law 172 = .ok (.iload 12, 2) := by decide +kernel
theorem dL_law_174 : decode cL_law 174 = .ok (.bipush 14, 2) := by decide +kernel
theorem dL_law_176 : decode cL_law 176 = .ok (.ishr, 1) := by decide +kernel
theorem dL_law_177 : decode cL_law 177 = .ok (.iconst 2, 1) := by decide +kernel
theorem dL_law_178 : decode cL_law 178 = .ok (.invokestatic 81, 3) := by decide +kernel
theorem dL_law_181 : decode cL_law 181 = .ok (.ifCond .ne 9, 3) := by decide +kernel
theorem dL_law_184 : decode cL_law 184 = .ok (.sipush 300, 3) := by decide +kernel
theorem dL_law_187 : decode cL_law 187 = .ok (.goto 5, 3) := by decide +kernel
theorem dL_law_190 : decode cL_law 190 = .ok (.bipush 60, 2) := by decide +kernel
theorem dL_law_192 : decode cL_law 192 = .ok (.invokestatic 81, 3) := by decide +kernel
theorem dL_law_195 : decode cL_law 195 = .ok (.iadd, 1) := by decide +kernel
theorem dL_law_196 : decode cL_law 196 = .ok (.iastore, 1) := by decide +kernel
theorem dL_law_197 : decode cL_law 197 = .ok (.aload_n 1, 1) := by decide +kernel
theorem dL_law_198 : decode cL_law 198 = .ok (.aload 9, 2) := by decide +kernel
theorem dL_law_200 : decode cL_law 200 = .ok (.iconst 4, 1) := by decide +kernel
theorem dL_law_201 : decode cL_law 201 = .ok (.iaload, 1) := by decide +kernel
theorem dL_law_202 : decode cL_law 202 = .ok (.invokevirtual 108, 3) := by decide +kernel
theorem dL_law_205 : decode cL_law 205 = .ok (.iload 14, 2) := by decide +kernel
theorem dL_law_207 : decode cL_law 207 = .ok (.if_icmp .ne 7, 3) := by decide +kernel
theorem dL_law_210 : decode cL_law 210 = .ok (.iconst 1, 1) := by decide +kernel
theorem dL_law_211 : decode cL_law 211 = .ok (.goto 4, 3) := by decide +kernel
theorem dL_law_214 : decode cL_law 214 = .ok (.iconst 0, 1) := by decide +kernel
theorem dL_law_215 : decode cL_law 215 = .ok (.istore 13, 2) := by decide +kernel
theorem dL_law_217 : decode cL_law 217 = .ok (.goto 21, 3) := by decide +kernel
theorem dL_law_220 : decode cL_law 220 = .ok (.aload_n 1, 1) := by decide +kernel
theorem dL_law_221 : decode cL_law 221 = .ok (.iload 12, 2) := by decide +kernel
theorem dL_law_223 : decode cL_law 223 = .ok (.iconst 5, 1) := by decide +kernel
theorem dL_law_224 : decode cL_law 224 = .ok (.ishr, 1) := by decide +kernel
theorem dL_law_225 : decode cL_law 225 = .ok (.aload_n 2, 1) := by decide +kernel
theorem dL_law_226 : decode cL_law 226 = .ok (.aload_n 3, 1) := by decide +kernel
theorem dL_law_227 : decode cL_law 227 = .ok (.aload 4, 2) := by decide +kernel
theorem dL_law_229 : decode cL_law 229 = .ok (.aload 5, 2) := by decide +kernel
theorem dL_law_231 : decode cL_law 231 = .ok (.aload 9, 2) := by decide +kernel
theorem dL_law_233 : decode cL_law 233 = .ok (.invokestatic 111, 3) := by decide +kernel
theorem dL_law_236 : decode cL_law 236 = .ok (.istore 13, 2) := by decide +kernel
theorem dL_law_238 : decode cL_law 238 = .ok (.aload_n 2, 1) := by decide +kernel
theorem dL_law_239 : decode cL_law 239 = .ok (.aload_n 3, 1) := by decide +kernel
theorem dL_law_240 : decode cL_law 240 = .ok (.aload 4, 2) := by decide +kernel
theorem dL_law_242 : decode cL_law 242 = .ok (.aload 5, 2) := by decide +kernel
theorem dL_law_244 : decode cL_law 244 = .ok (.aload 6, 2) := by decide +kernel
theorem dL_law_246 : decode cL_law 246 = .ok (.aload 7, 2) := by decide +kernel
theorem dL_law_248 : decode cL_law 248 = .ok (.aload 8, 2) := by decide +kernel
theorem dL_law_250 : decode cL_law 250 = .ok (.aload 9, 2) := by decide +kernel
theorem dL_law_252 : decode cL_law 252 = .ok (.aload 10, 2) := by decide +kernel
theorem dL_law_254 : decode cL_law 254 = .ok (.invokestatic 115, 3) := by decide +kernel
theorem dL_law_257 : decode cL_law 257 = .ok (.iload 13, 2) := by decide +kernel
theorem dL_law_259 : decode cL_law 259 = .ok (.ifCond .eq 19, 3) := by decide +kernel
theorem dL_law_262 : decode cL_law 262 = .ok (.aload_n 1, 1) := by decide +kernel
theorem dL_law_263 : decode cL_law 263 = .ok (.aload_n 2, 1) := by decide +kernel
theorem dL_law_264 : decode cL_law 264 = .ok (.aload 4, 2) := by decide +kernel
theorem dL_law_266 : decode cL_law 266 = .ok (.aload 7, 2) := by decide +kernel
theorem dL_law_268 : decode cL_law 268 = .ok (.aload 9, 2) := by decide +kernel
theorem dL_law_270 : decode cL_law 270 = .ok (.aload 10, 2) := by decide +kernel
theorem dL_law_272 : decode cL_law 272 = .ok (.invokestatic 119, 3) := by decide +kernel
theorem dL_law_275 : decode cL_law 275 = .ok (.ifCond .ne 5, 3) := by decide +kernel
theorem dL_law_278 : decode cL_law 278 = .ok (.iconst 0, 1) := by decide +kernel
theorem dL_law_279 : decode cL_law 279 = .ok (.ireturn, 1) := by decide +kernel
theorem dL_law_280 : decode cL_law 280 = .ok (.iinc 11 1, 3) := by decide +kernel
theorem dL_law_283 : decode cL_law 283 = .ok (.goto (-198), 3) := by decide +kernel
theorem dL_law_286 : decode cL_law 286 = .ok (.iconst 1, 1) := by decide +kernel
theorem dL_law_287 : decode cL_law 287 = .ok (.ireturn, 1) := by decide +kernel
end
section
/-! ROWS, fourth part: loads with names, booleans, options -/
theorem zp_aloado_n {l G d mc ms M pc lv st σ Q} {k0 : Fin 4} {i : Nat} {r : Option Nat} {v : Value} (hd : decode M.2.1 pc = .ok (.aload_n k0, 1)) (hi : (k0 : Nat) = i) (hv : v = va_rf r) (hk : (i, v) ∈ lv) (kk : Wp l G d mc ms M (pc + 1) lv (v :: st) σ Q) : Wp l G d mc ms M pc lv st σ Q := by
  intro p e R s m args below meth c H locs cells slots k n ls C K S P L r1 r2 r3 r4 r5 r6
  subst hv
  have kk' := kk p e R s m args below meth c H locs cells slots k n ls C K S P L r1 r2 r3 r4 r5 r6
  cases r with
  | none => exact lv_aload_nN C.1 C.2.1 hd hi (zl_at L hk) kk'
  | some a => exact lv_aload_n C.1 C.2.1 hd hi (zl_at L hk) kk'
theorem zp_aloado {l G d mc ms M pc lv st σ Q} {i : Nat} {r : Option Nat} {v : Value} (hd : decode M.2.1 pc = .ok (.aload i, 2)) (hv : v = va_rf r) (hk : (i, v) ∈ lv) (kk : Wp l G d mc ms M (pc + 2) lv (v :: st) σ Q) : Wp l G d mc ms M pc lv st σ Q := by
  intro p e R s m args below meth c H locs cells slots k n ls C K S P L r1 r2 r3 r4 r5 r6
  subst hv
  have kk' := kk p e R s m args below meth c H locs cells slots k n ls C K S P L r1 r2 r3 r4 r5 r6
  cases r with
  | none => exact lv_aloadN C.1 C.2.1 hd (zl_at L hk) kk'
  | some a => exact lv_aload C.1 C.2.1 hd (zl_at L hk) kk'
theorem zp_astoreo_n {l G d mc ms M pc lv st σ Q} {k0 : Fin 4} {i : Nat} {r : Option Nat} {v : Value} {lv2 : List (Nat × Value)} (hd : decode M.2.1 pc = .ok (.astore_n k0, 1)) (hi : (k0 : Nat) = i) (hn : i < M.2.2.1) (hv : v = va_rf r) (hl : (i, v) :: lv.filter (fun q => !(q.1 == i) && !(q.1 + 1 == i && q.2.category == 2)) = lv2) (kk : Wp l G d mc ms M (pc + 1) lv2 st σ Q) : Wp l G d mc ms M pc lv (v :: st) σ Q := by
  intro p e R s m args below meth c H locs cells slots k n ls C K S P L r1 r2 r3 r4 r5 r6
  subst hv
  cases r with
  | none => exact lv_astore_nN C.1 C.2.1 hd hi L hn hl (fun ls L => (kk p e R s m args below meth c H locs cells slots k n ls C K S P L r1 r2 r3 r4 r5 r6))
  | some a => exact lv_astore_n C.1 C.2.1 hd hi L hn hl (fun ls L => (kk p e R s m args below meth c H locs cells slots k n ls C K S P L r1 r2 r3 r4 r5 r6))
theorem zp_astoreo {l G d mc ms M pc lv st σ Q} {i : Nat} {r : Option Nat} {v : Value} {lv2 : List (Nat × Value)} (hd : decode M.2.1 pc = .ok (.astore i, 2)) (hn : i < M.2.2.1) (hv : v = va_rf r) (hl : (i, v) :: lv.filter (fun q => !(q.1 == i) && !(q.1 + 1 == i && q.2.category == 2)) = lv2) (kk : Wp l G d mc ms M (pc + 2) lv2 st σ Q) : Wp l G d mc ms M pc lv (v :: st) σ Q := by
  intro p e R s m args below meth c H locs cells slots k n ls C K S P L r1 r2 r3 r4 r5 r6
  subst hv
  cases r with
  | none => exact lv_astoreN C.1 C.2.1 hd L hn hl (fun ls L => (kk p e R s m args below meth c H locs cells slots k n ls C K S P L r1 r2 r3 r4 r5 r6))
  | some a => exact lv_astore C.1 C.2.1 hd L hn hl (fun ls L => (kk p e R s m args below meth c H locs cells slots k n ls C K S P L r1 r2 r3 r4 r5 r6))
theorem zp_getIn {l G d mc ms M pc lv st σ Q} {i kd f a n : Nat} {ty : FieldType} {fin x : Bool} (hd : decode M.2.1 pc = .ok (.getfield i, 3)) (h : zFL M.1 i kd f ty fin false x) (ht : zT σ a = (kd, n)) (kk : ∀ x, x = zI σ f a → Wp l G d mc ms M (pc + 3) lv (.int x :: st) σ Q) : Wp l G d mc ms M pc lv (.ref a :: st) σ Q := zp_getI hd h ht (kk _ rfl)
theorem zp_getIv {l G d mc ms M pc lv st σ Q} {i kd f a n : Nat} {ty : FieldType} {fin x : Bool} {v : Int32} (hd : decode M.2.1 pc = .ok (.getfield i, 3)) (h : zFL M.1 i kd f ty fin false x) (ht : zT σ a = (kd, n)) (hv : zI σ f a = v) (kk : Wp l G d mc ms M (pc + 3) lv (.int v :: st) σ Q) : Wp l G d mc ms M pc lv (.ref a :: st) σ Q := zp_getI hd h ht (by rw [hv]; exact kk)
theorem zp_getRn {l G d mc ms M pc lv st σ Q} {i kd f a n : Nat} {ty : FieldType} {fin x : Bool} (hd : decode M.2.1 pc = .ok (.getfield i, 3)) (h : zFL M.1 i kd f ty fin true x) (ht : zT σ a = (kd, n)) (kk : ∀ r, r = zR σ f a → Wp l G d mc ms M (pc + 3) lv (va_rf r :: st) σ Q) : Wp l G d mc ms M pc lv (.ref a :: st) σ Q := zp_getR hd h ht rfl (kk _ rfl)
theorem zp_getRv {l G d mc ms M pc lv st σ Q} {i kd f a n b : Nat} {ty : FieldType} {fin x : Bool} (hd : decode M.2.1 pc = .ok (.getfield i, 3)) (h : zFL M.1 i kd f ty fin true x) (ht : zT σ a = (kd, n)) (hv : zR σ f a = some b) (kk : Wp l G d mc ms M (pc + 3) lv (.ref b :: st) σ Q) : Wp l G d mc ms M pc lv (.ref a :: st) σ Q := zp_getR hd h ht (by rw [hv]; rfl) kk
theorem zp_getRo {l G d mc ms M pc lv st σ Q} {i kd f a n : Nat} {r : Option Nat} {ty : FieldType} {fin x : Bool} (hd : decode M.2.1 pc = .ok (.getfield i, 3)) (h : zFL M.1 i kd f ty fin true x) (ht : zT σ a = (kd, n)) (hv : zR σ f a = r) (kk : Wp l G d mc ms M (pc + 3) lv (va_rf r :: st) σ Q) : Wp l G d mc ms M pc lv (.ref a :: st) σ Q := zp_getR hd h ht (by rw [hv]) kk
theorem zp_iald_n {l G d mc ms M pc lv st σ Q} {a kd n j : Nat} {x : Int32} (hd : decode M.2.1 pc = .ok (.iaload, 1)) (ht : zT σ a = (kd, n)) (hk : kd = 20 ∨ kd = 25) (hj : x.toNatClampNeg = j) (hin : vp_in x n) (kk : ∀ y, y = zA σ a j → Wp l G d mc ms M (pc + 1) lv (.int y :: st) σ Q) : Wp l G d mc ms M pc lv (.int x :: .ref a :: st) σ Q := zp_iaload hd ht hk hj hin (kk _ rfl)
theorem zp_iald_v {l G d mc ms M pc lv st σ Q} {a kd n j : Nat} {x v : Int32} (hd : decode M.2.1 pc = .ok (.iaload, 1)) (ht : zT σ a = (kd, n)) (hk : kd = 20 ∨ kd = 25) (hj : x.toNatClampNeg = j) (hin : vp_in x n) (hv : zA σ a j = v) (kk : Wp l G d mc ms M (pc + 1) lv (.int v :: st) σ Q) : Wp l G d mc ms M pc lv (.int x :: .ref a :: st) σ Q := zp_iaload hd ht hk hj hin (by rw [hv]; exact kk)
/-- a truth value -/
def zb (c : Prop) [Decidable c] : Int32 := if c then 1 else 0
theorem zb_t {c : Prop} [Decidable c] (h : c) : zb c = 1 := if_pos h
theorem zb_f {c : Prop} [Decidable c] (h : ¬ c) : zb c = 0 := if_neg h
theorem zb_01 (c : Prop) [Decidable c] : zb c = 0 ∨ zb c = 1 := by
  by_cases h : c
  · exact Or.inr (zb_t h)
  · exact Or.inl (zb_f h)
theorem zb_0 {c : Prop} [Decidable c] : zb c = 0 ↔ ¬ c := by
  by_cases h : c
  · rw [zb_t h]; exact ⟨fun q => absurd q (by decide), fun q => absurd h q⟩
  · rw [zb_f h]; exact ⟨fun _ => h, fun _ => rfl⟩
theorem zb_congr {c e : Prop} [Decidable c] [Decidable e] (h : c ↔ e) : zb c = zb e := by
  by_cases hc : c
  · rw [zb_t hc, zb_t (h.mp hc)]
  · rw [zb_f hc, zb_f (fun q => hc (h.mpr q))]
theorem zp_ifb_eq {l G d mc ms M pc lv st σ Q} {c : Prop} [Decidable c] {off : Int} {tgt : Nat} (hd : decode M.2.1 pc = .ok (.ifCond .eq off, 3)) (ht : (pc : Int) + off = (tgt : Int)) (kt : ¬ c → Wp l G d mc ms M tgt lv st σ Q) (kf : c → Wp l G d mc ms M (pc + 3) lv st σ Q) : Wp l G d mc ms M pc lv (.int (zb c) :: st) σ Q :=
  zp_if_eq hd ht (fun q => kt (zb_0.mp q)) (fun q => kf (Decidable.byContradiction fun z => q (zb_0.mpr z)))
theorem zp_ifb_ne {l G d mc ms M pc lv st σ Q} {c : Prop} [Decidable c] {off : Int} {tgt : Nat} (hd : decode M.2.1 pc = .ok (.ifCond .ne off, 3)) (ht : (pc : Int) + off = (tgt : Int)) (kt : c → Wp l G d mc ms M tgt lv st σ Q) (kf : ¬ c → Wp l G d mc ms M (pc + 3) lv st σ Q) : Wp l G d mc ms M pc lv (.int (zb c) :: st) σ Q :=
  zp_if_ne hd ht (fun q => kt (Decidable.byContradiction fun z => q (zb_0.mpr z))) (fun q => kf (zb_0.mp q))
theorem zp_nullT {l G d mc ms M pc lv st σ Q} {off : Int} {tgt : Nat} (hd : decode M.2.1 pc = .ok (.ifnull off, 3)) (ht : (pc : Int) + off = (tgt : Int)) (kk : Wp l G d mc ms M tgt lv st σ Q) : Wp l G d mc ms M pc lv (.null :: st) σ Q := zp_ifnull (r := none) hd ht rfl (fun _ => kk) (fun a h => by cases h)
theorem zp_nullF {l G d mc ms M pc lv st σ Q} {off : Int} {tgt a : Nat} (hd : decode M.2.1 pc = .ok (.ifnull off, 3)) (ht : (pc : Int) + off = (tgt : Int)) (kk : Wp l G d mc ms M (pc + 3) lv st σ Q) : Wp l G d mc ms M pc lv (.ref a :: st) σ Q := zp_ifnull (r := some a) hd ht rfl (fun h => by cases h) (fun _ _ => kk)
theorem zp_nonnullT {l G d mc ms M pc lv st σ Q} {off : Int} {tgt a : Nat} (hd : decode M.2.1 pc = .ok (.ifnonnull off, 3)) (ht : (pc : Int) + off = (tgt : Int)) (kk : Wp l G d mc ms M tgt lv st σ Q) : Wp l G d mc ms M pc lv (.ref a :: st) σ Q := zp_ifnonnull (r := some a) hd ht rfl (fun _ _ => kk) (fun h => by cases h)
theorem zp_nonnullF {l G d mc ms M pc lv st σ Q} {off : Int} {tgt : Nat} (hd : decode M.2.1 pc = .ok (.ifnonnull off, 3)) (ht : (pc : Int) + off = (tgt : Int)) (kk : Wp l G d mc ms M (pc + 3) lv st σ Q) : Wp l G d mc ms M pc lv (.null :: st) σ Q := zp_ifnonnull (r := none) hd ht rfl (fun a h => by cases h) (fun _ => kk)
theorem zT_new {σ : Sto} {q b k n : Nat} {t : Nat × Nat} (h0 : (zT σ q).1 = 0) (h : zT σ b = (k + 1, n)) : zT (wT σ q t) b = (k + 1, n) := by
  rw [zT_wT, if_neg, h]
  intro e
  rw [← e, h] at h0
  cases h0
theorem zT_self {σ : Sto} {q : Nat} {t : Nat × Nat} : zT (wT σ q t) q = t := by rw [zT_wT, if_pos rfl]
end
section
/-! LEAVES: methods without loops (by wip/p27/gen_leaf1.py) -/
/-- the greater one, the lesser one -/
def mx (x y : Int32) : Int32 := if x < y then y else x
def mn (x y : Int32) : Int32 := if y < x then y else x
theorem zin {x : Int32} {n : Nat} (h : (!(decide (x < 0) || decide (n ≤ x.toNatClampNeg))) = true) : vp_in x n := fun q => by
  rcases q with q | q
  · rw [decide_eq_true q] at h; exact absurd h (by simp)
  · rw [decide_eq_true q] at h; exact absurd h (by simp)
/-- so many hundredths -/
def pt (w p : Int32) : Int32 := ((w.toInt64 * p.toInt64) / (100 : Int32).toInt64).toInt32
def wIn (g w left : Int32) : Int32 := if g < 1000 then (if g < 0 then mx 0 left else g) else pt w (g - 1000)
def hIn (g known : Int32) : Int32 := if g < 1000 then (if g < 0 then -1 else g) else (if known < 0 then -1 else pt known (g - 1000))
theorem c_X1_init (l : Launch) (G : Gb) (a : Nat) (σ : Sto) : Ct l G 1 0 0 yX1_init mX1_init [.ref a] σ (fun v s => v = none ∧ s = σ) := by
  refine Ct.of (by decide) rfl (Nat.le_of_ble_eq_true rfl) (fun _ => rfl) ?_
  show Wp l G 1 0 0 (RX1, cX1_init, 1, none, true) 0 [(0, .ref a)] [] σ _
  refine zp_aload_n dX1_init_0 rfl (a := a) (List.mem_of_getElem? (i := 0) rfl) ?_
  refine zp_objInit dX1_init_1 wd_50 wd_28 wd_29 (by decide) (Nat.le_of_ble_eq_true rfl) ?_
  refine zp_vret rfl dX1_init_4 ?_
  exact ⟨rfl, rfl⟩
theorem c_X2_init (l : Launch) (G : Gb) (a : Nat) (σ : Sto) : Ct l G 1 0 0 yX2_init mX2_init [.ref a] σ (fun v s => v = none ∧ s = σ) := by
  refine Ct.of (by decide) rfl (Nat.le_of_ble_eq_true rfl) (fun _ => rfl) ?_
  show Wp l G 1 0 0 (RX2, cX2_init, 1, none, true) 0 [(0, .ref a)] [] σ _
  refine zp_aload_n dX2_init_0 rfl (a := a) (List.mem_of_getElem? (i := 0) rfl) ?_
  refine zp_objInit dX2_init_1 wd_385 wd_28 wd_29 (by decide) (Nat.le_of_ble_eq_true rfl) ?_
  refine zp_vret rfl dX2_init_4 ?_
  exact ⟨rfl, rfl⟩
theorem c_X5_init (l : Launch) (G : Gb) (a : Nat) (σ : Sto) : Ct l G 1 0 0 yX5_init mX5_init [.ref a] σ (fun v s => v = none ∧ s = σ) := by
  refine Ct.of (by decide) rfl (Nat.le_of_ble_eq_true rfl) (fun _ => rfl) ?_
  show Wp l G 1 0 0 (RX5, cX5_init, 1, none, true) 0 [(0, .ref a)] [] σ _
  refine zp_aload_n dX5_init_0 rfl (a := a) (List.mem_of_getElem? (i := 0) rfl) ?_
  refine zp_objInit dX5_init_1 wd_734 wd_28 wd_29 (by decide) (Nat.le_of_ble_eq_true rfl) ?_
  refine zp_vret rfl dX5_init_4 ?_
  exact ⟨rfl, rfl⟩
theorem c_X11_init (l : Launch) (G : Gb) (a : Nat) (σ : Sto) : Ct l G 1 0 0 yX11_init mX11_init [.ref a] σ (fun v s => v = none ∧ s = σ) := by
  refine Ct.of (by decide) rfl (Nat.le_of_ble_eq_true rfl) (fun _ => rfl) ?_
  show Wp l G 1 0 0 (RX11, cX11_init, 1, none, true) 0 [(0, .ref a)] [] σ _
  refine zp_aload_n dX11_init_0 rfl (a := a) (List.mem_of_getElem? (i := 0) rfl) ?_
  refine zp_objInit dX11_init_1 wd_91 wd_28 wd_29 (by decide) (Nat.le_of_ble_eq_true rfl) ?_
  refine zp_vret rfl dX11_init_4 ?_
  exact ⟨rfl, rfl⟩
theorem c_X2_pend (l : Launch) (G : Gb) (F n : Nat) (m : Int32) (σ : Sto) (hF : zT σ F = (2, n)) : Ct l G 1 0 0 yX2_pend mX2_pend [.ref F, .int m] σ (fun v s => v = none ∧ s = wI (wI σ 201 F (mx (zI σ 201 F) m)) 202 F (mn (zI σ 202 F) m)) := by
  refine Ct.of (by decide) rfl (Nat.le_of_ble_eq_true rfl) (fun h => absurd h (by decide)) ?_
  show Wp l G 1 0 0 (RX2, cX2_pend, 2, none, false) 0 [(0, .ref F), (1, .int m)] [] σ _
  refine zp_aload_n dX2_pend_0 rfl (a := F) (List.mem_of_getElem? (i := 0) rfl) ?_
  refine zp_aload_n dX2_pend_1 rfl (a := F) (List.mem_of_getElem? (i := 0) rfl) ?_
  refine zp_getIv dX2_pend_2 fl_X2_15 hF (v := (zI σ 201 F)) rfl ?_
  refine zp_iload_n dX2_pend_5 rfl (x := m) (List.mem_of_getElem? (i := 1) rfl) ?_
  refine zp_max dX2_pend_6 wd_703 wd_515 wd_14 wd_516 (by decide) (Nat.le_of_ble_eq_true rfl) (v := mx (zI σ 201 F) m) rfl ?_
  refine zp_putI dX2_pend_9 fl_X2_15 hF ?_
  refine zp_aload_n dX2_pend_12 rfl (a := F) (List.mem_of_getElem? (i := 0) rfl) ?_
  refine zp_aload_n dX2_pend_13 rfl (a := F) (List.mem_of_getElem? (i := 0) rfl) ?_
  refine zp_getIv dX2_pend_14 fl_X2_18 hF (v := (zI σ 202 F)) (by simp [zI_wI, zI_wR]) ?_
  refine zp_iload_n dX2_pend_17 rfl (x := m) (List.mem_of_getElem? (i := 1) rfl) ?_
  refine zp_min dX2_pend_18 wd_708 wd_614 wd_14 wd_615 (by decide) (Nat.le_of_ble_eq_true rfl) (v := mn (zI σ 202 F) m) rfl ?_
  refine zp_putI dX2_pend_21 fl_X2_18 hF ?_
  refine zp_vret rfl dX2_pend_24 ?_
  exact ⟨rfl, rfl⟩
theorem c_X2_pendingY (l : Launch) (G : Gb) (F n : Nat) (σ : Sto) (hF : zT σ F = (2, n)) : Ct l G 1 0 0 yX2_pendingY mX2_pendingY [.ref F] σ (fun v s => v = some (.int ((zI σ 200 F + zI σ 201 F) + zI σ 202 F)) ∧ s = σ) := by
  refine Ct.of (by decide) rfl (Nat.le_of_ble_eq_true rfl) (fun h => absurd h (by decide)) ?_
  show Wp l G 1 0 0 (RX2, cX2_pendingY, 1, (some .int), false) 0 [(0, .ref F)] [] σ _
  refine zp_aload_n dX2_pendingY_0 rfl (a := F) (List.mem_of_getElem? (i := 0) rfl) ?_
  refine zp_getIv dX2_pendingY_1 fl_X2_9 hF (v := (zI σ 200 F)) rfl ?_
  refine zp_aload_n dX2_pendingY_4 rfl (a := F) (List.mem_of_getElem? (i := 0) rfl) ?_
  refine zp_getIv dX2_pendingY_5 fl_X2_15 hF (v := (zI σ 201 F)) rfl ?_
  refine zp_iadd dX2_pendingY_8 ?_
  refine zp_aload_n dX2_pendingY_9 rfl (a := F) (List.mem_of_getElem? (i := 0) rfl) ?_
  refine zp_getIv dX2_pendingY_10 fl_X2_18 hF (v := (zI σ 202 F)) rfl ?_
  refine zp_iadd dX2_pendingY_13 ?_
  refine zp_iret rfl dX2_pendingY_14 ?_
  exact ⟨rfl, rfl⟩
theorem c_X2_dropMargins (l : Launch) (G : Gb) (F n : Nat) (σ : Sto) (hF : zT σ F = (2, n)) : Ct l G 1 0 0 yX2_dropMargins mX2_dropMargins [.ref F] σ (fun v s => v = none ∧ s = wI (wI σ 201 F 0) 202 F 0) := by
  refine Ct.of (by decide) rfl (Nat.le_of_ble_eq_true rfl) (fun h => absurd h (by decide)) ?_
  show Wp l G 1 0 0 (RX2, cX2_dropMargins, 1, none, false) 0 [(0, .ref F)] [] σ _
  refine zp_aload_n dX2_dropMargins_0 rfl (a := F) (List.mem_of_getElem? (i := 0) rfl) ?_
  refine zp_iconst dX2_dropMargins_1 (v := 0) (by decide) ?_
  refine zp_putI dX2_dropMargins_2 fl_X2_15 hF ?_
  refine zp_aload_n dX2_dropMargins_5 rfl (a := F) (List.mem_of_getElem? (i := 0) rfl) ?_
  refine zp_iconst dX2_dropMargins_6 (v := 0) (by decide) ?_
  refine zp_putI dX2_dropMargins_7 fl_X2_18 hF ?_
  refine zp_vret rfl dX2_dropMargins_10 ?_
  exact ⟨rfl, rfl⟩
theorem c_X2_reachTo (l : Launch) (G : Gb) (F n : Nat) (m : Int32) (σ : Sto) (hF : zT σ F = (2, n)) : Ct l G 1 0 0 yX2_reachTo mX2_reachTo [.ref F, .int m] σ (fun v s => v = none ∧ s = wI σ 206 F (mx (zI σ 206 F) m)) := by
  refine Ct.of (by decide) rfl (Nat.le_of_ble_eq_true rfl) (fun h => absurd h (by decide)) ?_
  show Wp l G 1 0 0 (RX2, cX2_reachTo, 2, none, false) 0 [(0, .ref F), (1, .int m)] [] σ _
  refine zp_aload_n dX2_reachTo_0 rfl (a := F) (List.mem_of_getElem? (i := 0) rfl) ?_
  refine zp_aload_n dX2_reachTo_1 rfl (a := F) (List.mem_of_getElem? (i := 0) rfl) ?_
  refine zp_getIv dX2_reachTo_2 fl_X2_33 hF (v := (zI σ 206 F)) rfl ?_
  refine zp_iload_n dX2_reachTo_5 rfl (x := m) (List.mem_of_getElem? (i := 1) rfl) ?_
  refine zp_max dX2_reachTo_6 wd_703 wd_515 wd_14 wd_516 (by decide) (Nat.le_of_ble_eq_true rfl) (v := (if (zI σ 206 F) < m then m else (zI σ 206 F))) rfl ?_
  refine zp_putI dX2_reachTo_9 fl_X2_33 hF ?_
  refine zp_vret rfl dX2_reachTo_12 ?_
  exact ⟨rfl, rfl⟩
theorem c_X2_band (l : Launch) (G : Gb) (F n : Nat) (σ : Sto) (hF : zT σ F = (2, n)) : Ct l G 1 0 0 yX2_band mX2_band [.ref F] σ (fun v s => v = some (.int (zI σ 210 F - zI σ 209 F)) ∧ s = σ) := by
  refine Ct.of (by decide) rfl (Nat.le_of_ble_eq_true rfl) (fun h => absurd h (by decide)) ?_
  show Wp l G 1 0 0 (RX2, cX2_band, 1, (some .int), false) 0 [(0, .ref F)] [] σ _
  refine zp_aload_n dX2_band_0 rfl (a := F) (List.mem_of_getElem? (i := 0) rfl) ?_
  refine zp_getIv dX2_band_1 fl_X2_100 hF (v := (zI σ 210 F)) rfl ?_
  refine zp_aload_n dX2_band_4 rfl (a := F) (List.mem_of_getElem? (i := 0) rfl) ?_
  refine zp_getIv dX2_band_5 fl_X2_94 hF (v := (zI σ 209 F)) rfl ?_
  refine zp_isub dX2_band_8 ?_
  refine zp_iret rfl dX2_band_9 ?_
  exact ⟨rfl, rfl⟩
def zoff (σ : Sto) (F : Nat) : Int32 := if zI σ 213 F = 0 then 0 else zI σ 214 F + 1
theorem c_X2_nextOffset (l : Launch) (G : Gb) (F n : Nat) (σ : Sto) (hF : zT σ F = (2, n)) : Ct l G 1 0 0 yX2_nextOffset mX2_nextOffset [.ref F] σ (fun v s => v = some (.int (zoff σ F)) ∧ s = σ) := by
  refine Ct.of (by decide) rfl (Nat.le_of_ble_eq_true rfl) (fun h => absurd h (by decide)) ?_
  show Wp l G 1 0 0 (RX2, cX2_nextOffset, 1, (some .int), false) 0 [(0, .ref F)] [] σ _
  refine zp_aload_n dX2_nextOffset_0 rfl (a := F) (List.mem_of_getElem? (i := 0) rfl) ?_
  refine zp_getIv dX2_nextOffset_1 fl_X2_40 hF (v := (zI σ 213 F)) rfl ?_
  refine zp_if_ne dX2_nextOffset_4 (tgt := 11) rfl (fun h4 => ?_) (fun h4 => ?_)
  · skip
    refine zp_aload_n dX2_nextOffset_11 rfl (a := F) (List.mem_of_getElem? (i := 0) rfl) ?_
    refine zp_getIv dX2_nextOffset_12 fl_X2_43 hF (v := (zI σ 214 F)) rfl ?_
    refine zp_iconst dX2_nextOffset_15 (v := 1) (by decide) ?_
    refine zp_iadd dX2_nextOffset_16 ?_
    refine zp_iret rfl dX2_nextOffset_17 ?_
    exact ⟨by simp [zoff, h4], rfl⟩
  · skip
    refine zp_iconst dX2_nextOffset_7 (v := 0) (by decide) ?_
    refine zp_goto dX2_nextOffset_8 (tgt := 17) rfl ?_
    refine zp_iret rfl dX2_nextOffset_17 ?_
    exact ⟨by simp [zoff, h4], rfl⟩
theorem c_X2_fits (l : Launch) (G : Gb) (F n : Nat) (m : Int32) (σ : Sto) (hF : zT σ F = (2, n)) : Ct l G 2 0 0 yX2_fits mX2_fits [.ref F, .int m] σ (fun v s => v = some (.int (zb (zoff σ F + m ≤ zI σ 210 F - zI σ 209 F))) ∧ s = σ) := by
  refine Ct.of (by decide) rfl (Nat.le_of_ble_eq_true rfl) (fun h => absurd h (by decide)) ?_
  show Wp l G 2 0 0 (RX2, cX2_fits, 2, (some .boolean), false) 0 [(0, .ref F), (1, .int m)] [] σ _
  refine zp_aload_n dX2_fits_0 rfl (a := F) (List.mem_of_getElem? (i := 0) rfl) ?_
  refine zp_callV (c0 := 1) (st := []) (mc2 := 0) (ms2 := 0) dX2_fits_1 (c_X2_nextOffset l G F n _ hF) cl_X2_133 im_X2_nextOffset se_X2_nextOffset rfl rfl hF rfl rfl (by omega) (by omega) (by omega) (Nat.le_of_ble_eq_true rfl) ?_
  rintro _ s1 ⟨rfl, hs1⟩; obtain rfl := hs1.symm
  refine zp_iload_n dX2_fits_4 rfl (x := m) (List.mem_of_getElem? (i := 1) rfl) ?_
  refine zp_iadd dX2_fits_5 ?_
  refine zp_aload_n dX2_fits_6 rfl (a := F) (List.mem_of_getElem? (i := 0) rfl) ?_
  refine zp_callV (c0 := 1) (st := [.int ((zoff σ F) + m)]) (mc2 := 0) (ms2 := 0) dX2_fits_7 (c_X2_band l G F n _ hF) cl_X2_118 im_X2_band se_X2_band rfl rfl hF rfl rfl (by omega) (by omega) (by omega) (Nat.le_of_ble_eq_true rfl) ?_
  rintro _ s1 ⟨rfl, hs1⟩; obtain rfl := hs1.symm
  refine zp_icmp_gt dX2_fits_10 (tgt := 17) rfl (fun h10 => ?_) (fun h10 => ?_)
  · skip
    refine zp_iconst dX2_fits_17 (v := 0) (by decide) ?_
    refine zp_zret rfl (Or.inl rfl) dX2_fits_18 ?_
    exact ⟨by rw [zb_f]; exact Int32.not_le.mpr h10, rfl⟩
  · skip
    refine zp_iconst dX2_fits_13 (v := 1) (by decide) ?_
    refine zp_goto dX2_fits_14 (tgt := 18) rfl ?_
    refine zp_zret rfl (Or.inr rfl) dX2_fits_18 ?_
    exact ⟨by rw [zb_t]; exact Int32.not_lt.mp h10, rfl⟩
theorem c_X2_begin (l : Launch) (G : Gb) (F n : Nat) (σ : Sto) (hF : zT σ F = (2, n)) : Ct l G 1 0 0 yX2_begin mX2_begin [.ref F] σ (fun v s => v = none ∧ s = wR (wR (wI (wI (wR (wI (wR (wR (wR (wI (wI (wI σ 200 F 0) 201 F 0) 202 F 0) 203 F none) 204 F none) 205 F none) 206 F (-1000000)) 212 F none) 213 F 0) 214 F 0) 218 F none) 219 F none) := by
  refine Ct.of (by decide) rfl (Nat.le_of_ble_eq_true rfl) (fun h => absurd h (by decide)) ?_
  show Wp l G 1 0 0 (RX2, cX2_begin, 1, none, false) 0 [(0, .ref F)] [] σ _
  refine zp_aload_n dX2_begin_0 rfl (a := F) (List.mem_of_getElem? (i := 0) rfl) ?_
  refine zp_iconst dX2_begin_1 (v := 0) (by decide) ?_
  refine zp_putI dX2_begin_2 fl_X2_9 hF ?_
  refine zp_aload_n dX2_begin_5 rfl (a := F) (List.mem_of_getElem? (i := 0) rfl) ?_
  refine zp_iconst dX2_begin_6 (v := 0) (by decide) ?_
  refine zp_putI dX2_begin_7 fl_X2_15 hF ?_
  refine zp_aload_n dX2_begin_10 rfl (a := F) (List.mem_of_getElem? (i := 0) rfl) ?_
  refine zp_iconst dX2_begin_11 (v := 0) (by decide) ?_
  refine zp_putI dX2_begin_12 fl_X2_18 hF ?_
  refine zp_aload_n dX2_begin_15 rfl (a := F) (List.mem_of_getElem? (i := 0) rfl) ?_
  refine zp_null dX2_begin_16 ?_
  refine zp_putR dX2_begin_17 fl_X2_21 hF (r := none) rfl ?_
  refine zp_aload_n dX2_begin_20 rfl (a := F) (List.mem_of_getElem? (i := 0) rfl) ?_
  refine zp_null dX2_begin_21 ?_
  refine zp_putR dX2_begin_22 fl_X2_25 hF (r := none) rfl ?_
  refine zp_aload_n dX2_begin_25 rfl (a := F) (List.mem_of_getElem? (i := 0) rfl) ?_
  refine zp_null dX2_begin_26 ?_
  refine zp_putR dX2_begin_27 fl_X2_29 hF (r := none) rfl ?_
  refine zp_aload_n dX2_begin_30 rfl (a := F) (List.mem_of_getElem? (i := 0) rfl) ?_
  refine zp_ldc dX2_begin_31 wd_648 ?_
  refine zp_putI dX2_begin_33 fl_X2_33 hF ?_
  refine zp_aload_n dX2_begin_36 rfl (a := F) (List.mem_of_getElem? (i := 0) rfl) ?_
  refine zp_null dX2_begin_37 ?_
  refine zp_putR dX2_begin_38 fl_X2_36 hF (r := none) rfl ?_
  refine zp_aload_n dX2_begin_41 rfl (a := F) (List.mem_of_getElem? (i := 0) rfl) ?_
  refine zp_iconst dX2_begin_42 (v := 0) (by decide) ?_
  refine zp_putI dX2_begin_43 fl_X2_40 hF ?_
  refine zp_aload_n dX2_begin_46 rfl (a := F) (List.mem_of_getElem? (i := 0) rfl) ?_
  refine zp_iconst dX2_begin_47 (v := 0) (by decide) ?_
  refine zp_putI dX2_begin_48 fl_X2_43 hF ?_
  refine zp_aload_n dX2_begin_51 rfl (a := F) (List.mem_of_getElem? (i := 0) rfl) ?_
  refine zp_null dX2_begin_52 ?_
  refine zp_putR dX2_begin_53 fl_X2_46 hF (r := none) rfl ?_
  refine zp_aload_n dX2_begin_56 rfl (a := F) (List.mem_of_getElem? (i := 0) rfl) ?_
  refine zp_null dX2_begin_57 ?_
  refine zp_putR dX2_begin_58 fl_X2_49 hF (r := none) rfl ?_
  refine zp_vret rfl dX2_begin_61 ?_
  exact ⟨rfl, rfl⟩
theorem c_X2_look (l : Launch) (G : Gb) (F n : Nat) (a b : Int32) (σ : Sto) (hF : zT σ F = (2, n)) (h0 : zR σ 204 F = none) : Ct l G 1 0 0 yX2_look mX2_look [.ref F, .int a, .int b] σ (fun v s => v = none ∧ s = wI (wI (wI σ 209 F (zI σ 207 F)) 210 F (zI σ 207 F + zI σ 208 F)) 211 F 0) := by
  refine Ct.of (by decide) rfl (Nat.le_of_ble_eq_true rfl) (fun h => absurd h (by decide)) ?_
  show Wp l G 1 0 0 (RX2, cX2_look, 5, none, false) 0 [(0, .ref F), (1, .int a), (2, .int b)] [] σ _
  refine zp_iload_n dX2_look_0 rfl (x := b) (List.mem_of_getElem? (i := 2) rfl) ?_
  refine zp_iload_n dX2_look_1 rfl (x := a) (List.mem_of_getElem? (i := 1) rfl) ?_
  refine zp_iconst dX2_look_2 (v := 1) (by decide) ?_
  refine zp_iadd dX2_look_3 ?_
  refine zp_max dX2_look_4 wd_703 wd_515 wd_14 wd_516 (by decide) (Nat.le_of_ble_eq_true rfl) (v := (if b < (a + 1) then (a + 1) else b)) rfl ?_
  refine zp_topi (fun v7 hv7 => ?_)
  refine zp_istore_n dX2_look_7 rfl (Nat.le_of_ble_eq_true rfl) (lv2 := [(3, .int v7), (0, .ref F), (1, .int a), (2, .int b)]) rfl ?_
  refine zp_aload_n dX2_look_8 rfl (a := F) (List.mem_of_getElem? (i := 1) rfl) ?_
  refine zp_aload_n dX2_look_9 rfl (a := F) (List.mem_of_getElem? (i := 1) rfl) ?_
  refine zp_getIv dX2_look_10 fl_X2_91 hF (v := (zI σ 207 F)) rfl ?_
  refine zp_putI dX2_look_13 fl_X2_94 hF ?_
  refine zp_aload_n dX2_look_16 rfl (a := F) (List.mem_of_getElem? (i := 1) rfl) ?_
  refine zp_aload_n dX2_look_17 rfl (a := F) (List.mem_of_getElem? (i := 1) rfl) ?_
  refine zp_getIv dX2_look_18 fl_X2_91 hF (v := (zI σ 207 F)) (by simp [zI_wI, zI_wR]) ?_
  refine zp_aload_n dX2_look_21 rfl (a := F) (List.mem_of_getElem? (i := 1) rfl) ?_
  refine zp_getIv dX2_look_22 fl_X2_97 hF (v := (zI σ 208 F)) (by simp [zI_wI, zI_wR]) ?_
  refine zp_iadd dX2_look_25 ?_
  refine zp_putI dX2_look_26 fl_X2_100 hF ?_
  refine zp_aload_n dX2_look_29 rfl (a := F) (List.mem_of_getElem? (i := 1) rfl) ?_
  refine zp_iconst dX2_look_30 (v := 0) (by decide) ?_
  refine zp_putZ dX2_look_31 fl_X2_103 hF (Or.inl rfl) ?_
  refine zp_aload_n dX2_look_34 rfl (a := F) (List.mem_of_getElem? (i := 1) rfl) ?_
  refine zp_getRo dX2_look_35 fl_X2_25 hF (r := none) h0 ?_
  refine zp_astoreo dX2_look_38 (Nat.le_of_ble_eq_true rfl) (r := none) (v := .null) rfl (lv2 := [(4, .null), (3, .int v7), (0, .ref F), (1, .int a), (2, .int b)]) rfl ?_
  refine zp_aloado dX2_look_40 (r := none) (v := .null) rfl (List.mem_of_getElem? (i := 0) rfl) ?_
  refine zp_nullT dX2_look_42 (tgt := 121) rfl ?_
  refine zp_vret rfl dX2_look_121 ?_
  exact ⟨rfl, rfl⟩
theorem c_X2_contentHeight (l : Launch) (G : Gb) (F n : Nat) (σ : Sto) (hF : zT σ F = (2, n)) (h0 : zR σ 204 F = none) : Ct l G 1 0 0 yX2_contentHeight mX2_contentHeight [.ref F] σ (fun v s => v = some (.int (mx 0 (zI σ 200 F))) ∧ s = σ) := by
  refine Ct.of (by decide) rfl (Nat.le_of_ble_eq_true rfl) (fun h => absurd h (by decide)) ?_
  show Wp l G 1 0 0 (RX2, cX2_contentHeight, 3, (some .int), false) 0 [(0, .ref F)] [] σ _
  refine zp_iconst dX2_contentHeight_0 (v := 0) (by decide) ?_
  refine zp_aload_n dX2_contentHeight_1 rfl (a := F) (List.mem_of_getElem? (i := 0) rfl) ?_
  refine zp_getIv dX2_contentHeight_2 fl_X2_9 hF (v := (zI σ 200 F)) rfl ?_
  refine zp_max dX2_contentHeight_5 wd_703 wd_515 wd_14 wd_516 (by decide) (Nat.le_of_ble_eq_true rfl) (v := mx 0 (zI σ 200 F)) rfl ?_
  refine zp_istore_n dX2_contentHeight_8 rfl (Nat.le_of_ble_eq_true rfl) (lv2 := [(1, .int (mx 0 (zI σ 200 F))), (0, .ref F)]) rfl ?_
  refine zp_aload_n dX2_contentHeight_9 rfl (a := F) (List.mem_of_getElem? (i := 1) rfl) ?_
  refine zp_getRo dX2_contentHeight_10 fl_X2_25 hF (r := none) h0 ?_
  refine zp_astoreo_n dX2_contentHeight_13 rfl (Nat.le_of_ble_eq_true rfl) (r := none) (v := .null) rfl (lv2 := [(2, .null), (1, .int (mx 0 (zI σ 200 F))), (0, .ref F)]) rfl ?_
  refine zp_aloado_n dX2_contentHeight_14 rfl (r := none) (v := .null) rfl (List.mem_of_getElem? (i := 0) rfl) ?_
  refine zp_nullT dX2_contentHeight_15 (tgt := 35) rfl ?_
  refine zp_iload_n dX2_contentHeight_35 rfl (x := mx 0 (zI σ 200 F)) (List.mem_of_getElem? (i := 1) rfl) ?_
  refine zp_iret rfl dX2_contentHeight_36 ?_
  exact ⟨rfl, rfl⟩
theorem c_X2_clearFloats (l : Launch) (G : Gb) (F : Nat) (σ : Sto) : Ct l G 1 0 0 yX2_clearFloats mX2_clearFloats [.ref F, .int 0] σ (fun v s => v = none ∧ s = σ) := by
  refine Ct.of (by decide) rfl (Nat.le_of_ble_eq_true rfl) (fun h => absurd h (by decide)) ?_
  show Wp l G 1 0 0 (RX2, cX2_clearFloats, 5, none, false) 0 [(0, .ref F), (1, .int 0)] [] σ _
  refine zp_iload_n dX2_clearFloats_0 rfl (x := 0) (List.mem_of_getElem? (i := 1) rfl) ?_
  refine zp_if_ne dX2_clearFloats_1 (tgt := 5) rfl (fun q => absurd rfl q) (fun _ => ?_)
  refine zp_vret rfl dX2_clearFloats_4 ?_
  exact ⟨rfl, rfl⟩
theorem c_X3_isInLines (l : Launch) (G : Gb) (i : Nat) (hi : i < 9) (σ : Sto) : Ct l G 1 0 0 yX3_isInLines mX3_isInLines [.ref (G.2.2.1 i)] σ (fun v s => v = some (.int (zb (i = 7 ∨ i = 1 ∨ i = 2))) ∧ s = σ) := by
  refine Ct.of (by decide) rfl (Nat.le_of_ble_eq_true rfl) (fun h => absurd h (by decide)) ?_
  show Wp l G 1 0 0 (RX3, cX3_isInLines, 1, (some .boolean), false) 0 [(0, .ref (G.2.2.1 i))] [] σ _
  refine zp_kin (fun hkin => ?_)
  refine zp_aload_n dX3_isInLines_0 rfl (a := (G.2.2.1 i)) (List.mem_of_getElem? (i := 0) rfl) ?_
  refine zp_kind (i := 7) dX3_isInLines_1 (by decide) rfl wd_592 ?_
  refine zp_acmp_eq (rx := (some (G.2.2.1 i))) (ry := (some (G.2.2.1 7))) dX3_isInLines_4 (tgt := 21) rfl rfl rfl (fun h4 => ?_) (fun h4 => ?_)
  · skip
    refine zp_iconst dX3_isInLines_21 (v := 1) (by decide) ?_
    refine zp_goto dX3_isInLines_22 (tgt := 26) rfl ?_
    refine zp_zret rfl (Or.inr rfl) dX3_isInLines_26 ?_
    exact ⟨by rw [zb_t]; first | exact Or.inl (hkin _ _ hi (by decide) (Option.some.inj h4)) | exact Or.inr (Or.inl (hkin _ _ hi (by decide) (Option.some.inj h11))) | exact Or.inr (Or.inr (hkin _ _ hi (by decide) (Option.some.inj h18))), rfl⟩
  · skip
    refine zp_aload_n dX3_isInLines_7 rfl (a := (G.2.2.1 i)) (List.mem_of_getElem? (i := 0) rfl) ?_
    refine zp_kind (i := 1) dX3_isInLines_8 (by decide) rfl wd_593 ?_
    refine zp_acmp_eq (rx := (some (G.2.2.1 i))) (ry := (some (G.2.2.1 1))) dX3_isInLines_11 (tgt := 21) rfl rfl rfl (fun h11 => ?_) (fun h11 => ?_)
    · skip
      refine zp_iconst dX3_isInLines_21 (v := 1) (by decide) ?_
      refine zp_goto dX3_isInLines_22 (tgt := 26) rfl ?_
      refine zp_zret rfl (Or.inr rfl) dX3_isInLines_26 ?_
      exact ⟨by rw [zb_t]; first | exact Or.inl (hkin _ _ hi (by decide) (Option.some.inj h4)) | exact Or.inr (Or.inl (hkin _ _ hi (by decide) (Option.some.inj h11))) | exact Or.inr (Or.inr (hkin _ _ hi (by decide) (Option.some.inj h18))), rfl⟩
    · skip
      refine zp_aload_n dX3_isInLines_14 rfl (a := (G.2.2.1 i)) (List.mem_of_getElem? (i := 0) rfl) ?_
      refine zp_kind (i := 2) dX3_isInLines_15 (by decide) rfl wd_594 ?_
      refine zp_acmp_ne (rx := (some (G.2.2.1 i))) (ry := (some (G.2.2.1 2))) dX3_isInLines_18 (tgt := 25) rfl rfl rfl (fun h18 => ?_) (fun h18 => ?_)
      · skip
        refine zp_iconst dX3_isInLines_25 (v := 0) (by decide) ?_
        refine zp_zret rfl (Or.inl rfl) dX3_isInLines_26 ?_
        exact ⟨by rw [zb_f]; rintro (rfl | rfl | rfl) <;> first | exact h4 rfl | exact h11 rfl | exact h18 rfl, rfl⟩
      · skip
        refine zp_iconst dX3_isInLines_21 (v := 1) (by decide) ?_
        refine zp_goto dX3_isInLines_22 (tgt := 26) rfl ?_
        refine zp_zret rfl (Or.inr rfl) dX3_isInLines_26 ?_
        exact ⟨by rw [zb_t]; first | exact Or.inl (hkin _ _ hi (by decide) (Option.some.inj h4)) | exact Or.inr (Or.inl (hkin _ _ hi (by decide) (Option.some.inj h11))) | exact Or.inr (Or.inr (hkin _ _ hi (by decide) (Option.some.inj h18))), rfl⟩
theorem c_ordinal (l : Launch) (G : Gb) (i : Nat) (hi : i < 9) (σ : Sto) : Ct l G 1 0 0 yJx29ce0_ordinal_8abf5 mJx29ce0_ordinal_8abf5 [.ref (G.2.2.1 i)] σ (fun v s => v = some (.int (([0, 1, 2, 3, 4, 5, 6, 7, 8] : List Int32).getD i 0)) ∧ s = σ) := by
  refine Ct.of (by decide) rfl (Nat.le_of_ble_eq_true rfl) (fun h => absurd h (by decide)) ?_
  show Wp l G 1 0 0 (RJx29ce0, cJx29ce0_ordinal_8abf5, 1, (some .int), false) 0 [(0, .ref (G.2.2.1 i))] [] σ _
  refine zp_aload_n dJx29ce0_ordinal_8abf5_0 rfl (a := (G.2.2.1 i)) (List.mem_of_getElem? (i := 0) rfl) ?_
  refine zp_ord dJx29ce0_ordinal_8abf5_1 hi rfl wd_1308 ?_
  refine zp_iret rfl dJx29ce0_ordinal_8abf5_4 ?_
  exact ⟨rfl, rfl⟩
theorem c_X7_isText (l : Launch) (G : Gb) (a n : Nat) (σ : Sto) (hA : zT σ a = (5, n)) : Ct l G 1 0 0 yX7_isText mX7_isText [.ref a] σ (fun v s => v = some (.int (zb (0 < zI σ 503 a))) ∧ s = σ) := by
  refine Ct.of (by decide) rfl (Nat.le_of_ble_eq_true rfl) (fun h => absurd h (by decide)) ?_
  show Wp l G 1 0 0 (RX7, cX7_isText, 1, (some .boolean), false) 0 [(0, .ref a)] [] σ _
  refine zp_aload_n dX7_isText_0 rfl (a := a) (List.mem_of_getElem? (i := 0) rfl) ?_
  refine zp_getIv dX7_isText_1 fl_X7_22 hA (v := (zI σ 503 a)) rfl ?_
  refine zp_if_le dX7_isText_4 (tgt := 11) rfl (fun h4 => ?_) (fun h4 => ?_)
  · skip
    refine zp_iconst dX7_isText_11 (v := 0) (by decide) ?_
    refine zp_zret rfl (Or.inl rfl) dX7_isText_12 ?_
    exact ⟨by rw [zb_f]; exact Int32.not_lt.mpr h4, rfl⟩
  · skip
    refine zp_iconst dX7_isText_7 (v := 1) (by decide) ?_
    refine zp_goto dX7_isText_8 (tgt := 12) rfl ?_
    refine zp_zret rfl (Or.inr rfl) dX7_isText_12 ?_
    exact ⟨by rw [zb_t]; exact Int32.not_le.mp h4, rfl⟩
theorem c_X7_holdsLines (l : Launch) (G : Gb) (a n : Nat) (σ : Sto) (hA : zT σ a = (5, n)) (h1 : zI σ 503 a = 0) (h2 : zI σ 515 a = 0) (h3 : zR σ 514 a = some (G.2.2.1 0)) : Ct l G 2 0 0 yX7_holdsLines mX7_holdsLines [.ref a] σ (fun v s => v = some (.int 1) ∧ s = σ) := by
  refine Ct.of (by decide) rfl (Nat.le_of_ble_eq_true rfl) (fun h => absurd h (by decide)) ?_
  show Wp l G 2 0 0 (RX7, cX7_holdsLines, 1, (some .boolean), false) 0 [(0, .ref a)] [] σ _
  refine zp_kin (fun hkin => ?_)
  refine zp_aload_n dX7_holdsLines_0 rfl (a := a) (List.mem_of_getElem? (i := 0) rfl) ?_
  refine zp_callV (c0 := 4) (st := []) (mc2 := 0) (ms2 := 0) dX7_holdsLines_1 (c_X7_isText l G a n _ hA) cl_X7_66 im_X7_isText se_X7_isText rfl rfl hA rfl rfl (by omega) (by omega) (by omega) (Nat.le_of_ble_eq_true rfl) ?_
  rintro _ s1 ⟨rfl, hs1⟩; obtain rfl := hs1.symm
  refine zp_ifb_ne dX7_holdsLines_4 (tgt := 38) rfl (fun q => absurd q (by rw [h1]; decide)) (fun _ => ?_)
  refine zp_aload_n dX7_holdsLines_7 rfl (a := a) (List.mem_of_getElem? (i := 0) rfl) ?_
  refine zp_getIv dX7_holdsLines_8 fl_X7_70 hA (v := 0) h2 ?_
  refine zp_if_ne dX7_holdsLines_11 (tgt := 38) rfl (fun q => absurd rfl q) (fun _ => ?_)
  refine zp_aload_n dX7_holdsLines_14 rfl (a := a) (List.mem_of_getElem? (i := 0) rfl) ?_
  refine zp_getRv dX7_holdsLines_15 fl_X7_63 hA (b := (G.2.2.1 0)) h3 ?_
  refine zp_kind (i := 1) dX7_holdsLines_18 (by decide) rfl wd_345 ?_
  refine zp_acmp_eq (rx := (some (G.2.2.1 0))) (ry := (some (G.2.2.1 1))) dX7_holdsLines_21 (tgt := 38) rfl rfl rfl (fun q => absurd q (fun q => absurd (hkin 0 1 (by decide) (by decide) (Option.some.inj q)) (by decide))) (fun _ => ?_)
  refine zp_aload_n dX7_holdsLines_24 rfl (a := a) (List.mem_of_getElem? (i := 0) rfl) ?_
  refine zp_getRv dX7_holdsLines_25 fl_X7_63 hA (b := (G.2.2.1 0)) h3 ?_
  refine zp_kind (i := 3) dX7_holdsLines_28 (by decide) rfl wd_331 ?_
  refine zp_acmp_eq (rx := (some (G.2.2.1 0))) (ry := (some (G.2.2.1 3))) dX7_holdsLines_31 (tgt := 38) rfl rfl rfl (fun q => absurd q (fun q => absurd (hkin 0 3 (by decide) (by decide) (Option.some.inj q)) (by decide))) (fun _ => ?_)
  refine zp_iconst dX7_holdsLines_34 (v := 1) (by decide) ?_
  refine zp_goto dX7_holdsLines_35 (tgt := 39) rfl ?_
  refine zp_zret rfl (Or.inr rfl) dX7_holdsLines_39 ?_
  exact ⟨rfl, rfl⟩
theorem c_X7_flatEdges (l : Launch) (G : Gb) (a n c : Nat) (σ : Sto) (hA : zT σ a = (5, n)) (hc : zR σ 505 a = some c) (hC : zT σ c = (20, 21)) : Ct l G 1 0 0 yX7_flatEdges mX7_flatEdges [.ref a] σ (fun v s => v = some (.int (zA σ c 13 + zA σ c 11)) ∧ s = σ) := by
  refine Ct.of (by decide) rfl (Nat.le_of_ble_eq_true rfl) (fun h => absurd h (by decide)) ?_
  show Wp l G 1 0 0 (RX7, cX7_flatEdges, 1, (some .int), false) 0 [(0, .ref a)] [] σ _
  refine zp_aload_n dX7_flatEdges_0 rfl (a := a) (List.mem_of_getElem? (i := 0) rfl) ?_
  refine zp_getRv dX7_flatEdges_1 fl_X7_29 hA (b := c) hc ?_
  refine zp_bipush dX7_flatEdges_4 (v := 13) (by decide) ?_
  refine zp_iald_v dX7_flatEdges_6 hC (Or.inl rfl) (j := 13) (by decide) (zin (by decide)) (v := (zA σ c 13)) rfl ?_
  refine zp_aload_n dX7_flatEdges_7 rfl (a := a) (List.mem_of_getElem? (i := 0) rfl) ?_
  refine zp_getRv dX7_flatEdges_8 fl_X7_29 hA (b := c) hc ?_
  refine zp_bipush dX7_flatEdges_11 (v := 11) (by decide) ?_
  refine zp_iald_v dX7_flatEdges_13 hC (Or.inl rfl) (j := 11) (by decide) (zin (by decide)) (v := (zA σ c 11)) rfl ?_
  refine zp_iadd dX7_flatEdges_14 ?_
  refine zp_iret rfl dX7_flatEdges_15 ?_
  exact ⟨rfl, rfl⟩
theorem c_X7_uprightEdges (l : Launch) (G : Gb) (a n c : Nat) (σ : Sto) (hA : zT σ a = (5, n)) (hc : zR σ 505 a = some c) (hC : zT σ c = (20, 21)) : Ct l G 1 0 0 yX7_uprightEdges mX7_uprightEdges [.ref a] σ (fun v s => v = some (.int (zA σ c 10 + zA σ c 12)) ∧ s = σ) := by
  refine Ct.of (by decide) rfl (Nat.le_of_ble_eq_true rfl) (fun h => absurd h (by decide)) ?_
  show Wp l G 1 0 0 (RX7, cX7_uprightEdges, 1, (some .int), false) 0 [(0, .ref a)] [] σ _
  refine zp_aload_n dX7_uprightEdges_0 rfl (a := a) (List.mem_of_getElem? (i := 0) rfl) ?_
  refine zp_getRv dX7_uprightEdges_1 fl_X7_29 hA (b := c) hc ?_
  refine zp_bipush dX7_uprightEdges_4 (v := 10) (by decide) ?_
  refine zp_iald_v dX7_uprightEdges_6 hC (Or.inl rfl) (j := 10) (by decide) (zin (by decide)) (v := (zA σ c 10)) rfl ?_
  refine zp_aload_n dX7_uprightEdges_7 rfl (a := a) (List.mem_of_getElem? (i := 0) rfl) ?_
  refine zp_getRv dX7_uprightEdges_8 fl_X7_29 hA (b := c) hc ?_
  refine zp_bipush dX7_uprightEdges_11 (v := 12) (by decide) ?_
  refine zp_iald_v dX7_uprightEdges_13 hC (Or.inl rfl) (j := 12) (by decide) (zin (by decide)) (v := (zA σ c 12)) rfl ?_
  refine zp_iadd dX7_uprightEdges_14 ?_
  refine zp_iret rfl dX7_uprightEdges_15 ?_
  exact ⟨rfl, rfl⟩
theorem c_X7_flatRim (l : Launch) (G : Gb) (a n c : Nat) (σ : Sto) (hA : zT σ a = (5, n)) (hc : zR σ 505 a = some c) (hC : zT σ c = (20, 21)) : Ct l G 1 0 0 yX7_flatRim mX7_flatRim [.ref a] σ (fun v s => v = some (.int (((zA σ c 9 + zA σ c 13) + zA σ c 11) + zA σ c 7)) ∧ s = σ) := by
  refine Ct.of (by decide) rfl (Nat.le_of_ble_eq_true rfl) (fun h => absurd h (by decide)) ?_
  show Wp l G 1 0 0 (RX7, cX7_flatRim, 1, (some .int), false) 0 [(0, .ref a)] [] σ _
  refine zp_aload_n dX7_flatRim_0 rfl (a := a) (List.mem_of_getElem? (i := 0) rfl) ?_
  refine zp_getRv dX7_flatRim_1 fl_X7_29 hA (b := c) hc ?_
  refine zp_bipush dX7_flatRim_4 (v := 9) (by decide) ?_
  refine zp_iald_v dX7_flatRim_6 hC (Or.inl rfl) (j := 9) (by decide) (zin (by decide)) (v := (zA σ c 9)) rfl ?_
  refine zp_aload_n dX7_flatRim_7 rfl (a := a) (List.mem_of_getElem? (i := 0) rfl) ?_
  refine zp_getRv dX7_flatRim_8 fl_X7_29 hA (b := c) hc ?_
  refine zp_bipush dX7_flatRim_11 (v := 13) (by decide) ?_
  refine zp_iald_v dX7_flatRim_13 hC (Or.inl rfl) (j := 13) (by decide) (zin (by decide)) (v := (zA σ c 13)) rfl ?_
  refine zp_iadd dX7_flatRim_14 ?_
  refine zp_aload_n dX7_flatRim_15 rfl (a := a) (List.mem_of_getElem? (i := 0) rfl) ?_
  refine zp_getRv dX7_flatRim_16 fl_X7_29 hA (b := c) hc ?_
  refine zp_bipush dX7_flatRim_19 (v := 11) (by decide) ?_
  refine zp_iald_v dX7_flatRim_21 hC (Or.inl rfl) (j := 11) (by decide) (zin (by decide)) (v := (zA σ c 11)) rfl ?_
  refine zp_iadd dX7_flatRim_22 ?_
  refine zp_aload_n dX7_flatRim_23 rfl (a := a) (List.mem_of_getElem? (i := 0) rfl) ?_
  refine zp_getRv dX7_flatRim_24 fl_X7_29 hA (b := c) hc ?_
  refine zp_bipush dX7_flatRim_27 (v := 7) (by decide) ?_
  refine zp_iald_v dX7_flatRim_29 hC (Or.inl rfl) (j := 7) (by decide) (zin (by decide)) (v := (zA σ c 7)) rfl ?_
  refine zp_iadd dX7_flatRim_30 ?_
  refine zp_iret rfl dX7_flatRim_31 ?_
  exact ⟨rfl, rfl⟩
theorem c_X7_mayStandInRun (l : Launch) (G : Gb) (a n i : Nat) (hi : i = 0 ∨ i = 7) (σ : Sto) (hA : zT σ a = (5, n)) (hk : zR σ 514 a = some (G.2.2.1 i)) : Ct l G 2 0 0 yX7_mayStandInRun mX7_mayStandInRun [.ref a] σ (fun v s => v = some (.int (zb (i = 7))) ∧ s = σ) := by
  refine Ct.of (by decide) rfl (Nat.le_of_ble_eq_true rfl) (fun h => absurd h (by decide)) ?_
  show Wp l G 2 0 0 (RX7, cX7_mayStandInRun, 1, (some .boolean), false) 0 [(0, .ref a)] [] σ _
  refine zp_kin (fun hkin => ?_)
  have hi9 : i < 9 := by omega
  refine zp_aload_n dX7_mayStandInRun_0 rfl (a := a) (List.mem_of_getElem? (i := 0) rfl) ?_
  refine zp_getRv dX7_mayStandInRun_1 fl_X7_63 hA (b := (G.2.2.1 i)) hk ?_
  refine zp_callK (i := i) (st := []) (mc2 := 0) (ms2 := 0) hi9 rfl dX7_mayStandInRun_4 (c_X3_isInLines l G i hi9 _) cl_X7_89 im_X3_isInLines se_X3_isInLines rfl rfl (by omega) (by omega) (by omega) (Nat.le_of_ble_eq_true rfl) ?_
  rintro _ s1 ⟨rfl, hs1⟩; obtain rfl := hs1.symm
  refine zp_ifb_ne dX7_mayStandInRun_7 (tgt := 30) rfl (fun h7 => ?_) (fun h7 => ?_)
  · skip
    refine zp_iconst dX7_mayStandInRun_30 (v := 1) (by decide) ?_
    refine zp_goto dX7_mayStandInRun_31 (tgt := 35) rfl ?_
    refine zp_zret rfl (Or.inr rfl) dX7_mayStandInRun_35 ?_
    exact ⟨by rw [zb_t (by omega)], rfl⟩
  · skip
    refine zp_aload_n dX7_mayStandInRun_10 rfl (a := a) (List.mem_of_getElem? (i := 0) rfl) ?_
    refine zp_getRv dX7_mayStandInRun_11 fl_X7_63 hA (b := (G.2.2.1 i)) hk ?_
    refine zp_kind (i := 5) dX7_mayStandInRun_14 (by decide) rfl wd_343 ?_
    refine zp_acmp_eq (rx := (some (G.2.2.1 i))) (ry := (some (G.2.2.1 5))) dX7_mayStandInRun_17 (tgt := 30) rfl rfl rfl (fun q => absurd q (fun q => by have := hkin i 5 hi9 (by decide) (Option.some.inj q); omega)) (fun _ => ?_)
    refine zp_aload_n dX7_mayStandInRun_20 rfl (a := a) (List.mem_of_getElem? (i := 0) rfl) ?_
    refine zp_getRv dX7_mayStandInRun_21 fl_X7_63 hA (b := (G.2.2.1 i)) hk ?_
    refine zp_kind (i := 6) dX7_mayStandInRun_24 (by decide) rfl wd_341 ?_
    refine zp_acmp_ne (rx := (some (G.2.2.1 i))) (ry := (some (G.2.2.1 6))) dX7_mayStandInRun_27 (tgt := 34) rfl rfl rfl (fun _ => ?_) (fun q => absurd q (fun q => by have := hkin i 6 hi9 (by decide) (Option.some.inj q); omega))
    refine zp_iconst dX7_mayStandInRun_34 (v := 0) (by decide) ?_
    refine zp_zret rfl (Or.inl rfl) dX7_mayStandInRun_35 ?_
    exact ⟨by rw [zb_f (by omega)], rfl⟩
theorem c_X7_isStack (l : Launch) (G : Gb) (a n c : Nat) (σ : Sto) (hA : zT σ a = (5, n)) (hc : zR σ 505 a = some c) (hC : zT σ c = (20, 21)) : Ct l G 1 0 0 yX7_isStack mX7_isStack [.ref a] σ (fun v s => v = some (.int (zb (zR σ 501 a = none ∨ ¬ zA σ c 3 = 0))) ∧ s = σ) := by
  refine Ct.of (by decide) rfl (Nat.le_of_ble_eq_true rfl) (fun h => absurd h (by decide)) ?_
  show Wp l G 1 0 0 (RX7, cX7_isStack, 1, (some .boolean), false) 0 [(0, .ref a)] [] σ _
  refine zp_aload_n dX7_isStack_0 rfl (a := a) (List.mem_of_getElem? (i := 0) rfl) ?_
  refine zp_getRn dX7_isStack_1 fl_X7_15 hA (fun r hr => ?_)
  refine zp_ifnull (r := r) dX7_isStack_4 (tgt := 16) rfl rfl (fun h4 => ?_) (fun a4 h4 => ?_)
  · subst h4
    refine zp_iconst dX7_isStack_16 (v := 1) (by decide) ?_
    refine zp_goto dX7_isStack_17 (tgt := 21) rfl ?_
    refine zp_zret rfl (Or.inr rfl) dX7_isStack_21 ?_
    exact ⟨by rw [zb_t]; first | exact Or.inl hr.symm | exact Or.inr h13, rfl⟩
  · subst h4
    refine zp_aload_n dX7_isStack_7 rfl (a := a) (List.mem_of_getElem? (i := 0) rfl) ?_
    refine zp_getRv dX7_isStack_8 fl_X7_29 hA (b := c) hc ?_
    refine zp_iconst dX7_isStack_11 (v := 3) (by decide) ?_
    refine zp_iald_v dX7_isStack_12 hC (Or.inl rfl) (j := 3) (by decide) (zin (by decide)) (v := (zA σ c 3)) rfl ?_
    refine zp_if_eq dX7_isStack_13 (tgt := 20) rfl (fun h13 => ?_) (fun h13 => ?_)
    · skip
      refine zp_iconst dX7_isStack_20 (v := 0) (by decide) ?_
      refine zp_zret rfl (Or.inl rfl) dX7_isStack_21 ?_
      exact ⟨by rw [zb_f]; rintro (q | q) <;> first | exact q h13 | (rw [← hr] at q; cases q), rfl⟩
    · skip
      refine zp_iconst dX7_isStack_16 (v := 1) (by decide) ?_
      refine zp_goto dX7_isStack_17 (tgt := 21) rfl ?_
      refine zp_zret rfl (Or.inr rfl) dX7_isStack_21 ?_
      exact ⟨by rw [zb_t]; first | exact Or.inl hr.symm | exact Or.inr h13, rfl⟩
theorem c_X11_leftSide (l : Launch) (G : Gb) (a n b nb : Nat) (σ : Sto) (hA : zT σ a = (9, n)) (hl : zR σ 900 a = some b) (hB : zT σ b = (4, nb)) : Ct l G 1 0 0 yX11_leftSide mX11_leftSide [.ref a] σ (fun v s => v = some (.int (zI σ 400 b + zI σ 901 a)) ∧ s = σ) := by
  refine Ct.of (by decide) rfl (Nat.le_of_ble_eq_true rfl) (fun h => absurd h (by decide)) ?_
  show Wp l G 1 0 0 (RX11, cX11_leftSide, 1, (some .int), false) 0 [(0, .ref a)] [] σ _
  refine zp_aload_n dX11_leftSide_0 rfl (a := a) (List.mem_of_getElem? (i := 0) rfl) ?_
  refine zp_getRv dX11_leftSide_1 fl_X11_7 hA (b := b) hl ?_
  refine zp_nonnullT dX11_leftSide_4 (tgt := 11) rfl ?_
  refine zp_aload_n dX11_leftSide_11 rfl (a := a) (List.mem_of_getElem? (i := 0) rfl) ?_
  refine zp_getRv dX11_leftSide_12 fl_X11_7 hA (b := b) hl ?_
  refine zp_getIv dX11_leftSide_15 fl_X11_13 hB (v := (zI σ 400 b)) rfl ?_
  refine zp_aload_n dX11_leftSide_18 rfl (a := a) (List.mem_of_getElem? (i := 0) rfl) ?_
  refine zp_getIv dX11_leftSide_19 fl_X11_19 hA (v := (zI σ 901 a)) rfl ?_
  refine zp_iadd dX11_leftSide_22 ?_
  refine zp_iret rfl dX11_leftSide_23 ?_
  exact ⟨rfl, rfl⟩
theorem c_X9_pieceAt (l : Launch) (G : Gb) (a n c N i : Nat) (σ : Sto) (hA : zT σ a = (7, n)) (hc : zR σ 714 a = some c) (hC : zT σ c = (23, N)) (hN : N < 100) (hi : i < N) : Ct l G 1 0 0 yX9_pieceAt mX9_pieceAt [.ref a, .int (nI i)] σ (fun v s => v = some (va_rf (zQ σ c i)) ∧ s = σ) := by
  refine Ct.of (by decide) rfl (Nat.le_of_ble_eq_true rfl) (fun h => absurd h (by decide)) ?_
  show Wp l G 1 0 0 (RX9, cX9_pieceAt, 2, (some (.object "FlowBoxes$Thing")), false) 0 [(0, .ref a), (1, .int (nI i))] [] σ _
  refine zp_iload_n dX9_pieceAt_0 rfl (x := (nI i)) (List.mem_of_getElem? (i := 1) rfl) ?_
  refine zp_if_lt dX9_pieceAt_1 (tgt := 13) rfl (fun q => absurd q (nI_pos (by omega))) (fun _ => ?_)
  refine zp_iload_n dX9_pieceAt_4 rfl (x := (nI i)) (List.mem_of_getElem? (i := 1) rfl) ?_
  refine zp_aload_n dX9_pieceAt_5 rfl (a := a) (List.mem_of_getElem? (i := 0) rfl) ?_
  refine zp_getRv dX9_pieceAt_6 fl_X9_20 hA (b := c) hc ?_
  refine zp_alen dX9_pieceAt_9 hC (Or.inr (Or.inr (Or.inr (Or.inr rfl)))) (v := (nI N)) rfl ?_
  refine zp_icmp_lt dX9_pieceAt_10 (tgt := 17) rfl (fun _ => ?_) (fun q => absurd (nI_lt hi (by omega)) q)
  refine zp_aload_n dX9_pieceAt_17 rfl (a := a) (List.mem_of_getElem? (i := 0) rfl) ?_
  refine zp_getRv dX9_pieceAt_18 fl_X9_20 hA (b := c) hc ?_
  refine zp_iload_n dX9_pieceAt_21 rfl (x := (nI i)) (List.mem_of_getElem? (i := 1) rfl) ?_
  refine zp_aaload (j := 2) dX9_pieceAt_22 hC (by decide) rfl (i := i) (nI_clamp (by omega)) (vp_in_nI hi (by omega)) (v := va_rf (zQ σ c i)) (congrArg va_rf rfl) ?_
  refine zp_aret rfl (r := (zQ σ c i)) rfl dX9_pieceAt_23 ?_
  exact ⟨rfl, rfl⟩
/-- which place of a node: 509 (fresh) or 508 (kept) -/
def pfld (fresh : Bool) : Nat := if fresh then 509 else 508
theorem c_X4_placeOf (l : Launch) (G : Gb) (Ly n a m p : Nat) (b : Bool) (σ : Sto) (hL : zT σ Ly = (3, n)) (hA : zT σ a = (5, m)) (hb : zI σ 300 Ly = zb (b = true)) (hp : zR σ (pfld b) a = some p) : Ct l G 1 0 0 yX4_placeOf mX4_placeOf [.ref Ly, .ref a] σ (fun v s => v = some (.ref p) ∧ s = σ) := by
  refine Ct.of (by decide) rfl (Nat.le_of_ble_eq_true rfl) (fun h => absurd h (by decide)) ?_
  show Wp l G 1 0 0 (RX4, cX4_placeOf, 2, (some (.object "FlowBoxes$Place")), false) 0 [(0, .ref Ly), (1, .ref a)] [] σ _
  refine zp_aload_n dX4_placeOf_0 rfl (a := Ly) (List.mem_of_getElem? (i := 0) rfl) ?_
  refine zp_getIv dX4_placeOf_1 fl_X4_9 hL (v := zb (b = true)) hb ?_
  refine zp_ifb_eq dX4_placeOf_4 (tgt := 14) rfl (fun h4 => ?_) (fun h4 => ?_)
  · skip
    refine zp_aload_n dX4_placeOf_14 rfl (a := a) (List.mem_of_getElem? (i := 1) rfl) ?_
    refine zp_getRv dX4_placeOf_15 fl_X4_32 hA (b := p) (by rw [Bool.eq_false_iff.mpr h4] at hp; exact hp) ?_
    refine zp_aret rfl (r := some p) rfl dX4_placeOf_18 ?_
    exact ⟨rfl, rfl⟩
  · skip
    refine zp_aload_n dX4_placeOf_7 rfl (a := a) (List.mem_of_getElem? (i := 1) rfl) ?_
    refine zp_getRv dX4_placeOf_8 fl_X4_26 hA (b := p) (by rw [h4] at hp; exact hp) ?_
    refine zp_goto dX4_placeOf_11 (tgt := 18) rfl ?_
    refine zp_aret rfl (r := some p) rfl dX4_placeOf_18 ?_
    exact ⟨rfl, rfl⟩
theorem c_X4_offsetOf (l : Launch) (G : Gb) (x : Int32) (σ : Sto) : Ct l G 1 0 0 yX4_offsetOf mX4_offsetOf [.int x] σ (fun v s => v = some (.int (if x = -1000 then 0 else x)) ∧ s = σ) := by
  refine Ct.of (by decide) rfl (Nat.le_of_ble_eq_true rfl) (fun h => absurd h (by decide)) ?_
  show Wp l G 1 0 0 (RX4, cX4_offsetOf, 1, (some .int), false) 0 [(0, .int x)] [] σ _
  refine zp_iload_n dX4_offsetOf_0 rfl (x := x) (List.mem_of_getElem? (i := 0) rfl) ?_
  refine zp_sipush dX4_offsetOf_1 (v := (-1000)) (by decide) ?_
  refine zp_icmp_ne dX4_offsetOf_4 (tgt := 11) rfl (fun h4 => ?_) (fun h4 => ?_)
  · skip
    refine zp_iload_n dX4_offsetOf_11 rfl (x := x) (List.mem_of_getElem? (i := 0) rfl) ?_
    refine zp_iret rfl dX4_offsetOf_12 ?_
    exact ⟨by simp [h4], rfl⟩
  · skip
    refine zp_iconst dX4_offsetOf_7 (v := 0) (by decide) ?_
    refine zp_goto dX4_offsetOf_8 (tgt := 12) rfl ?_
    refine zp_iret rfl dX4_offsetOf_12 ?_
    exact ⟨by simp [h4], rfl⟩
theorem c_X4_partOf (l : Launch) (G : Gb) (x y : Int32) (σ : Sto) : Ct l G 1 0 0 yX4_partOf mX4_partOf [.int x, .int y, .int 100] σ (fun v s => v = some (.int (pt x y)) ∧ s = σ) := by
  refine Ct.of (by decide) rfl (Nat.le_of_ble_eq_true rfl) (fun h => absurd h (by decide)) ?_
  show Wp l G 1 0 0 (RX4, cX4_partOf, 3, (some .int), false) 0 [(0, .int x), (1, .int y), (2, .int 100)] [] σ _
  refine zp_iload_n dX4_partOf_0 rfl (x := 100) (List.mem_of_getElem? (i := 2) rfl) ?_
  refine zp_if_gt dX4_partOf_1 (tgt := 8) rfl (fun _ => ?_) (fun q => absurd (by decide) q)
  refine zp_iload_n dX4_partOf_8 rfl (x := x) (List.mem_of_getElem? (i := 0) rfl) ?_
  refine zp_i2l dX4_partOf_9 ?_
  refine zp_iload_n dX4_partOf_10 rfl (x := y) (List.mem_of_getElem? (i := 1) rfl) ?_
  refine zp_i2l dX4_partOf_11 ?_
  refine zp_lmul dX4_partOf_12 ?_
  refine zp_iload_n dX4_partOf_13 rfl (x := 100) (List.mem_of_getElem? (i := 2) rfl) ?_
  refine zp_i2l dX4_partOf_14 ?_
  refine zp_ldiv dX4_partOf_15 (by decide) ?_
  refine zp_l2i dX4_partOf_16 ?_
  refine zp_iret rfl dX4_partOf_17 ?_
  exact ⟨rfl, rfl⟩
theorem c_X4_heightIn (l : Launch) (G : Gb) (a n c : Nat) (σ : Sto) (hA : zT σ a = (5, n)) (hc : zR σ 505 a = some c) (hC : zT σ c = (20, 21)) (k : Int32) : Ct l G 2 0 0 yX4_heightIn mX4_heightIn [.ref a, .int k] σ (fun v s => v = some (.int (hIn (zA σ c 5) k)) ∧ s = σ) := by
  refine Ct.of (by decide) rfl (Nat.le_of_ble_eq_true rfl) (fun h => absurd h (by decide)) ?_
  show Wp l G 2 0 0 (RX4, cX4_heightIn, 3, (some .int), false) 0 [(0, .ref a), (1, .int k)] [] σ _
  refine zp_aload_n dX4_heightIn_0 rfl (a := a) (List.mem_of_getElem? (i := 0) rfl) ?_
  refine zp_getRv dX4_heightIn_1 fl_X4_127 hA (b := c) hc ?_
  refine zp_iconst dX4_heightIn_4 (v := 5) (by decide) ?_
  refine zp_iald_v dX4_heightIn_5 hC (Or.inl rfl) (j := 5) (by decide) (zin (by decide)) (v := (zA σ c 5)) rfl ?_
  refine zp_istore_n dX4_heightIn_6 rfl (Nat.le_of_ble_eq_true rfl) (lv2 := [(2, .int (zA σ c 5)), (0, .ref a), (1, .int k)]) rfl ?_
  refine zp_iload_n dX4_heightIn_7 rfl (x := (zA σ c 5)) (List.mem_of_getElem? (i := 0) rfl) ?_
  refine zp_sipush dX4_heightIn_8 (v := 1000) (by decide) ?_
  refine zp_icmp_lt dX4_heightIn_11 (tgt := 34) rfl (fun h11 => ?_) (fun h11 => ?_)
  · skip
    refine zp_iload_n dX4_heightIn_34 rfl (x := (zA σ c 5)) (List.mem_of_getElem? (i := 0) rfl) ?_
    refine zp_if_lt dX4_heightIn_35 (tgt := 42) rfl (fun h35 => ?_) (fun h35 => ?_)
    · skip
      refine zp_iconst dX4_heightIn_42 (v := (-1)) (by decide) ?_
      refine zp_iret rfl dX4_heightIn_43 ?_
      exact ⟨by first | (simp [hIn, *]; done) | (have h15n := Int32.not_lt.mpr h15; simp [hIn, *]; done), rfl⟩
    · skip
      refine zp_iload_n dX4_heightIn_38 rfl (x := (zA σ c 5)) (List.mem_of_getElem? (i := 0) rfl) ?_
      refine zp_goto dX4_heightIn_39 (tgt := 43) rfl ?_
      refine zp_iret rfl dX4_heightIn_43 ?_
      exact ⟨by first | (simp [hIn, *]; done) | (have h15n := Int32.not_lt.mpr h15; simp [hIn, *]; done), rfl⟩
  · skip
    refine zp_iload_n dX4_heightIn_14 rfl (x := k) (List.mem_of_getElem? (i := 2) rfl) ?_
    refine zp_if_ge dX4_heightIn_15 (tgt := 22) rfl (fun h15 => ?_) (fun h15 => ?_)
    · skip
      refine zp_iload_n dX4_heightIn_22 rfl (x := k) (List.mem_of_getElem? (i := 2) rfl) ?_
      refine zp_iload_n dX4_heightIn_23 rfl (x := (zA σ c 5)) (List.mem_of_getElem? (i := 0) rfl) ?_
      refine zp_sipush dX4_heightIn_24 (v := 1000) (by decide) ?_
      refine zp_isub dX4_heightIn_27 ?_
      refine zp_bipush dX4_heightIn_28 (v := 100) (by decide) ?_
      refine zp_callS (st := []) (mc2 := 0) (ms2 := 0) dX4_heightIn_30 (c_X4_partOf l G _ _ _) cl_X4_166 st_X4_partOf rfl rfl (by omega) (by omega) (by omega) (Nat.le_of_ble_eq_true rfl) ?_
      rintro _ s1 ⟨rfl, hs1⟩; obtain rfl := hs1.symm
      refine zp_iret rfl dX4_heightIn_33 ?_
      exact ⟨by first | (simp [hIn, *]; done) | (have h15n := Int32.not_lt.mpr h15; simp [hIn, *]; done), rfl⟩
    · skip
      refine zp_iconst dX4_heightIn_18 (v := (-1)) (by decide) ?_
      refine zp_goto dX4_heightIn_19 (tgt := 33) rfl ?_
      refine zp_iret rfl dX4_heightIn_33 ?_
      exact ⟨by first | (simp [hIn, *]; done) | (have h15n := Int32.not_lt.mpr h15; simp [hIn, *]; done), rfl⟩
theorem c_X4_widthIn (l : Launch) (G : Gb) (a n c : Nat) (σ : Sto) (hA : zT σ a = (5, n)) (hc : zR σ 505 a = some c) (hC : zT σ c = (20, 21)) (W left : Int32) (hg : -1 ≤ zA σ c 4) (h2 : zI σ 515 a = 0) (h3 : zR σ 514 a = some (G.2.2.1 0)) : Ct l G 2 0 0 yX4_widthIn mX4_widthIn [.ref a, .int W, .int left] σ (fun v s => v = some (.int (wIn (zA σ c 4) W left)) ∧ s = σ) := by
  refine Ct.of (by decide) rfl (Nat.le_of_ble_eq_true rfl) (fun h => absurd h (by decide)) ?_
  show Wp l G 2 0 0 (RX4, cX4_widthIn, 4, (some .int), false) 0 [(0, .ref a), (1, .int W), (2, .int left)] [] σ _
  refine zp_kin (fun hkin => ?_)
  refine zp_aload_n dX4_widthIn_0 rfl (a := a) (List.mem_of_getElem? (i := 0) rfl) ?_
  refine zp_getRv dX4_widthIn_1 fl_X4_127 hA (b := c) hc ?_
  refine zp_iconst dX4_widthIn_4 (v := 4) (by decide) ?_
  refine zp_iald_v dX4_widthIn_5 hC (Or.inl rfl) (j := 4) (by decide) (zin (by decide)) (v := (zA σ c 4)) rfl ?_
  refine zp_istore_n dX4_widthIn_6 rfl (Nat.le_of_ble_eq_true rfl) (lv2 := [(3, .int (zA σ c 4)), (0, .ref a), (1, .int W), (2, .int left)]) rfl ?_
  refine zp_iload_n dX4_widthIn_7 rfl (x := (zA σ c 4)) (List.mem_of_getElem? (i := 0) rfl) ?_
  refine zp_sipush dX4_widthIn_8 (v := 1000) (by decide) ?_
  refine zp_icmp_lt dX4_widthIn_11 (tgt := 26) rfl (fun h11 => ?_) (fun h11 => ?_)
  · skip
    refine zp_iload_n dX4_widthIn_26 rfl (x := (zA σ c 4)) (List.mem_of_getElem? (i := 0) rfl) ?_
    refine zp_if_lt dX4_widthIn_27 (tgt := 32) rfl (fun h27 => ?_) (fun h27 => ?_)
    · skip
      have hm : zA σ c 4 = -1 := by
        have h27' := Int32.lt_iff_toInt_lt.mp h27
        have hg' := Int32.le_iff_toInt_le.mp hg
        apply Int32.toInt_inj.mp
        rw [show (0 : Int32).toInt = 0 from rfl] at h27'
        rw [show (-1 : Int32).toInt = -1 from rfl] at hg' ⊢
        omega
      refine zp_iload_n dX4_widthIn_32 rfl (x := (zA σ c 4)) (List.mem_of_getElem? (i := 0) rfl) ?_
      refine zp_bipush dX4_widthIn_33 (v := (-2)) (by decide) ?_
      refine zp_icmp_ne dX4_widthIn_35 (tgt := 43) rfl (fun _ => ?_) (fun q => absurd q (by rw [hm]; decide))
      refine zp_iload_n dX4_widthIn_43 rfl (x := (zA σ c 4)) (List.mem_of_getElem? (i := 0) rfl) ?_
      refine zp_bipush dX4_widthIn_44 (v := (-3)) (by decide) ?_
      refine zp_icmp_ne dX4_widthIn_46 (tgt := 54) rfl (fun _ => ?_) (fun q => absurd q (by rw [hm]; decide))
      refine zp_iload_n dX4_widthIn_54 rfl (x := (zA σ c 4)) (List.mem_of_getElem? (i := 0) rfl) ?_
      refine zp_iconst dX4_widthIn_55 (v := (-1)) (by decide) ?_
      refine zp_icmp_ne dX4_widthIn_56 (tgt := 82) rfl (fun q => absurd hm q) (fun _ => ?_)
      refine zp_aload_n dX4_widthIn_59 rfl (a := a) (List.mem_of_getElem? (i := 1) rfl) ?_
      refine zp_getRv dX4_widthIn_60 fl_X4_59 hA (b := (G.2.2.1 0)) h3 ?_
      refine zp_kind (i := 0) dX4_widthIn_63 (by decide) rfl wd_783 ?_
      refine zp_acmp_ne (rx := (some (G.2.2.1 0))) (ry := (some (G.2.2.1 0))) dX4_widthIn_66 (tgt := 82) rfl rfl rfl (fun q => absurd rfl q) (fun _ => ?_)
      refine zp_aload_n dX4_widthIn_69 rfl (a := a) (List.mem_of_getElem? (i := 1) rfl) ?_
      refine zp_getIv dX4_widthIn_70 fl_X4_182 hA (v := 0) h2 ?_
      refine zp_if_ne dX4_widthIn_73 (tgt := 82) rfl (fun q => absurd rfl q) (fun _ => ?_)
      refine zp_iconst dX4_widthIn_76 (v := 0) (by decide) ?_
      refine zp_iload_n dX4_widthIn_77 rfl (x := left) (List.mem_of_getElem? (i := 3) rfl) ?_
      refine zp_max dX4_widthIn_78 wd_517 wd_515 wd_14 wd_516 (by decide) (Nat.le_of_ble_eq_true rfl) (v := mx 0 left) rfl ?_
      refine zp_iret rfl dX4_widthIn_81 ?_
      exact ⟨by simp [wIn, *], rfl⟩
    · skip
      refine zp_iload_n dX4_widthIn_30 rfl (x := (zA σ c 4)) (List.mem_of_getElem? (i := 0) rfl) ?_
      refine zp_iret rfl dX4_widthIn_31 ?_
      exact ⟨by simp [wIn, *], rfl⟩
  · skip
    refine zp_iload_n dX4_widthIn_14 rfl (x := W) (List.mem_of_getElem? (i := 2) rfl) ?_
    refine zp_iload_n dX4_widthIn_15 rfl (x := (zA σ c 4)) (List.mem_of_getElem? (i := 0) rfl) ?_
    refine zp_sipush dX4_widthIn_16 (v := 1000) (by decide) ?_
    refine zp_isub dX4_widthIn_19 ?_
    refine zp_bipush dX4_widthIn_20 (v := 100) (by decide) ?_
    refine zp_callS (st := []) (mc2 := 0) (ms2 := 0) dX4_widthIn_22 (c_X4_partOf l G _ _ _) cl_X4_166 st_X4_partOf rfl rfl (by omega) (by omega) (by omega) (Nat.le_of_ble_eq_true rfl) ?_
    rintro _ s1 ⟨rfl, hs1⟩; obtain rfl := hs1.symm
    refine zp_iret rfl dX4_widthIn_25 ?_
    exact ⟨by simp [wIn, *], rfl⟩
theorem c_X12_isPercentage (l : Launch) (G : Gb) (x : Int32) (σ : Sto) : Ct l G 1 0 0 yX12_isPercentage mX12_isPercentage [.int x] σ (fun v s => v = some (.int (zb (1000 ≤ x ∧ x ≤ 1100))) ∧ s = σ) := by
  refine Ct.of (by decide) rfl (Nat.le_of_ble_eq_true rfl) (fun h => absurd h (by decide)) ?_
  show Wp l G 1 0 0 (RX12, cX12_isPercentage, 1, (some .boolean), false) 0 [(0, .int x)] [] σ _
  refine zp_iload_n dX12_isPercentage_0 rfl (x := x) (List.mem_of_getElem? (i := 0) rfl) ?_
  refine zp_sipush dX12_isPercentage_1 (v := 1000) (by decide) ?_
  refine zp_icmp_lt dX12_isPercentage_4 (tgt := 18) rfl (fun h4 => ?_) (fun h4 => ?_)
  · skip
    refine zp_iconst dX12_isPercentage_18 (v := 0) (by decide) ?_
    refine zp_zret rfl (Or.inl rfl) dX12_isPercentage_19 ?_
    exact ⟨by rw [zb_f]; rintro ⟨q1, q2⟩; first | exact Int32.not_le.mpr h4 q1 | exact Int32.not_le.mpr h11 q2, rfl⟩
  · skip
    refine zp_iload_n dX12_isPercentage_7 rfl (x := x) (List.mem_of_getElem? (i := 0) rfl) ?_
    refine zp_sipush dX12_isPercentage_8 (v := 1100) (by decide) ?_
    refine zp_icmp_gt dX12_isPercentage_11 (tgt := 18) rfl (fun h11 => ?_) (fun h11 => ?_)
    · skip
      refine zp_iconst dX12_isPercentage_18 (v := 0) (by decide) ?_
      refine zp_zret rfl (Or.inl rfl) dX12_isPercentage_19 ?_
      exact ⟨by rw [zb_f]; rintro ⟨q1, q2⟩; first | exact Int32.not_le.mpr h4 q1 | exact Int32.not_le.mpr h11 q2, rfl⟩
    · skip
      refine zp_iconst dX12_isPercentage_14 (v := 1) (by decide) ?_
      refine zp_goto dX12_isPercentage_15 (tgt := 19) rfl ?_
      refine zp_zret rfl (Or.inr rfl) dX12_isPercentage_19 ?_
      exact ⟨by rw [zb_t]; exact ⟨Int32.not_lt.mp h4, Int32.not_lt.mp h11⟩, rfl⟩
theorem c_X12_reachesInside (l : Launch) (G : Gb) (x : Int32) (σ : Sto) (h0 : ¬ x = 0) (h1 : ¬ x = 1) (h3 : ¬ x = 3) (h14 : ¬ x = 14) (h17 : ¬ x = 17) : Ct l G 1 0 0 yX12_reachesInside mX12_reachesInside [.int x] σ (fun v s => v = some (.int 0) ∧ s = σ) := by
  refine Ct.of (by decide) rfl (Nat.le_of_ble_eq_true rfl) (fun h => absurd h (by decide)) ?_
  show Wp l G 1 0 0 (RX12, cX12_reachesInside, 1, (some .boolean), false) 0 [(0, .int x)] [] σ _
  refine zp_iload_n dX12_reachesInside_0 rfl (x := x) (List.mem_of_getElem? (i := 0) rfl) ?_
  refine zp_if_eq dX12_reachesInside_1 (tgt := 26) rfl (fun q => absurd q h0) (fun _ => ?_)
  refine zp_iload_n dX12_reachesInside_4 rfl (x := x) (List.mem_of_getElem? (i := 0) rfl) ?_
  refine zp_iconst dX12_reachesInside_5 (v := 1) (by decide) ?_
  refine zp_icmp_eq dX12_reachesInside_6 (tgt := 26) rfl (fun q => absurd q h1) (fun _ => ?_)
  refine zp_iload_n dX12_reachesInside_9 rfl (x := x) (List.mem_of_getElem? (i := 0) rfl) ?_
  refine zp_iconst dX12_reachesInside_10 (v := 3) (by decide) ?_
  refine zp_icmp_eq dX12_reachesInside_11 (tgt := 26) rfl (fun q => absurd q h3) (fun _ => ?_)
  refine zp_iload_n dX12_reachesInside_14 rfl (x := x) (List.mem_of_getElem? (i := 0) rfl) ?_
  refine zp_bipush dX12_reachesInside_15 (v := 14) (by decide) ?_
  refine zp_icmp_eq dX12_reachesInside_17 (tgt := 26) rfl (fun q => absurd q h14) (fun _ => ?_)
  refine zp_iload_n dX12_reachesInside_20 rfl (x := x) (List.mem_of_getElem? (i := 0) rfl) ?_
  refine zp_bipush dX12_reachesInside_21 (v := 17) (by decide) ?_
  refine zp_icmp_ne dX12_reachesInside_23 (tgt := 30) rfl (fun _ => ?_) (fun q => absurd q h17)
  refine zp_iconst dX12_reachesInside_30 (v := 0) (by decide) ?_
  refine zp_zret rfl (Or.inl rfl) dX12_reachesInside_31 ?_
  exact ⟨rfl, rfl⟩
theorem c_X12_hasRoom (l : Launch) (G : Gb) (b nb a n : Nat) (σ : Sto) (hB : zT σ b = (10, nb)) (hA : zT σ a = (5, n)) (h1 : zI σ 1005 b < 60) (h2 : zI σ 502 a < 20) : Ct l G 1 0 0 yX12_hasRoom mX12_hasRoom [.ref b, .ref a] σ (fun v s => v = some (.int 1) ∧ s = σ) := by
  refine Ct.of (by decide) rfl (Nat.le_of_ble_eq_true rfl) (fun h => absurd h (by decide)) ?_
  show Wp l G 1 0 0 (RX12, cX12_hasRoom, 2, (some .boolean), false) 0 [(0, .ref b), (1, .ref a)] [] σ _
  refine zp_aload_n dX12_hasRoom_0 rfl (a := b) (List.mem_of_getElem? (i := 0) rfl) ?_
  refine zp_getIv dX12_hasRoom_1 fl_X12_29 hB (v := (zI σ 1005 b)) rfl ?_
  refine zp_bipush dX12_hasRoom_4 (v := 60) (by decide) ?_
  refine zp_icmp_ge dX12_hasRoom_6 (tgt := 22) rfl (fun q => absurd q (Int32.not_le.mpr h1)) (fun _ => ?_)
  refine zp_aload_n dX12_hasRoom_9 rfl (a := a) (List.mem_of_getElem? (i := 1) rfl) ?_
  refine zp_getIv dX12_hasRoom_10 fl_X12_248 hA (v := (zI σ 502 a)) rfl ?_
  refine zp_bipush dX12_hasRoom_13 (v := 20) (by decide) ?_
  refine zp_icmp_ge dX12_hasRoom_15 (tgt := 22) rfl (fun q => absurd q (Int32.not_le.mpr h2)) (fun _ => ?_)
  refine zp_iconst dX12_hasRoom_18 (v := 1) (by decide) ?_
  refine zp_goto dX12_hasRoom_19 (tgt := 23) rfl ?_
  refine zp_zret rfl (Or.inr rfl) dX12_hasRoom_23 ?_
  exact ⟨rfl, rfl⟩
theorem c_X12_painted (l : Launch) (G : Gb) (b nb p np : Nat) (σ : Sto) (hB : zT σ b = (10, nb)) (hp : zR σ 1004 b = some p) (hP : zT σ p = (6, np)) : Ct l G 1 0 0 yX12_painted mX12_painted [.ref b] σ (fun v s => v = some (.int (zI σ 601 p)) ∧ s = σ) := by
  refine Ct.of (by decide) rfl (Nat.le_of_ble_eq_true rfl) (fun h => absurd h (by decide)) ?_
  show Wp l G 1 0 0 (RX12, cX12_painted, 1, (some .int), false) 0 [(0, .ref b)] [] σ _
  refine zp_aload_n dX12_painted_0 rfl (a := b) (List.mem_of_getElem? (i := 0) rfl) ?_
  refine zp_getRv dX12_painted_1 fl_X12_51 hB (b := p) hp ?_
  refine zp_getIv dX12_painted_4 fl_X12_232 hP (v := (zI σ 601 p)) rfl ?_
  refine zp_iret rfl dX12_painted_7 ?_
  exact ⟨rfl, rfl⟩
end
section
/-! THE LAYOUT, as one mathematical value that class and law both come to: a tree of boxes and texts, numbered so that a parent is less than its children -/
/-- how many nodes; the parent; is it a text; how many words; their lengths; a text's size; a box's styles -/
abbrev Dt : Type := Nat × (Nat → Nat) × (Nat → Bool) × (Nat → Nat) × (Nat → Nat → Int32) × (Nat → Int32) × (Nat → Nat → Int32)
abbrev dn (D : Dt) : Nat := D.1
abbrev dpar (D : Dt) : Nat → Nat := D.2.1
abbrev dtx (D : Dt) : Nat → Bool := D.2.2.1
abbrev dwc (D : Dt) : Nat → Nat := D.2.2.2.1
abbrev dln (D : Dt) : Nat → Nat → Int32 := D.2.2.2.2.1
abbrev dsz (D : Dt) : Nat → Int32 := D.2.2.2.2.2.1
abbrev dst (D : Dt) : Nat → Nat → Int32 := D.2.2.2.2.2.2
/-- the next child of a box behind a node -/
def nx (D : Dt) (box at_ : Nat) : Option Nat := (List.range (dn D)).find? (fun k => decide (at_ < k) && decide (dpar D k = box))
theorem nx_some {D : Dt} {box at_ c : Nat} : nx D box at_ = some c ↔ (c < dn D ∧ at_ < c ∧ dpar D c = box ∧ ∀ j, at_ < j → j < c → dpar D j ≠ box) := by
  unfold nx
  rw [List.find?_range_eq_some]
  constructor
  · rintro ⟨h1, h2, h3⟩
    simp only [Bool.and_eq_true, decide_eq_true_eq] at h1
    refine ⟨List.mem_range.mp h2, h1.1, h1.2, fun j h4 h5 h6 => ?_⟩
    have := h3 j h5
    simp [h4, h6] at this
  · rintro ⟨h1, h2, h3, h4⟩
    refine ⟨by simp [h2, h3], List.mem_range.mpr h1, fun j hj => ?_⟩
    by_cases h5 : at_ < j
    · have := h4 j h5 hj
      simp [this]
    · simp [h5]
theorem nx_none {D : Dt} {box at_ : Nat} : nx D box at_ = none ↔ ∀ j, at_ < j → j < dn D → dpar D j ≠ box := by
  unfold nx
  rw [List.find?_eq_none]
  constructor
  · intro h j h1 h2 h3
    have := h j (List.mem_range.mpr h2)
    simp [h1, h3] at this
  · intro h j hj
    simp only [Bool.and_eq_true, decide_eq_true_eq, not_and]
    exact fun h1 => h j h1 (List.mem_range.mp hj)
/-- what a layout has reached: y, above, below; who waits; places (left, 16 + top, 32 + width, 48 + height); known heights; lines; what is entered, begun, closed -/
abbrev FS : Type := Int32 × Int32 × Int32 × (Nat → Bool) × (Nat → Int32) × (Nat → Int32) × List (Nat × Int32 × Int32) × (Nat → Bool) × (Nat → Bool) × (Nat → Bool)
def setB (f : Nat → Bool) (k : Nat) (b : Bool) : Nat → Bool := fun j => if j = k then b else f j
def setI (f : Nat → Int32) (k : Nat) (x : Int32) : Nat → Int32 := fun j => if j = k then x else f j
def pendP (m : Int32) : FS → FS
  | (y, ab, be, w, a, h, ls, vi, lv, cl) => (y, mx ab m, mn be m, w, a, h, ls, vi, lv, cl)
/-- the tops of those that wait -/
def topsP (w : Nat → Bool) (a : Nat → Int32) (y : Int32) : Nat → Int32 := fun i => if 17 ≤ i ∧ i ≤ 27 ∧ w (i - 16) = true then y else a i
def endP : FS → FS
  | (y, ab, be, w, a, h, ls, vi, lv, cl) => ((y + ab) + be, 0, 0, (fun _ => false), topsP w a ((y + ab) + be), h, ls, vi, lv, cl)
def inP (D : Dt) (box : Nat) (a : Nat → Int32) : Int32 := if box = 0 then 0 else a box + dst D box 13
def rimP (D : Dt) (c : Nat) : Int32 := ((dst D c 9 + dst D c 13) + dst D c 11) + dst D c 7
/-- a box's margin at the top is pending, it waits; with an edge there the margins end -/
def ent1P (D : Dt) (c : Nat) (S : FS) : FS := match pendP (dst D c 6) S with
  | (y, ab, be, w, a, h, ls, vi, lv, cl) => (y, ab, be, setB w c true, a, h, ls, vi, lv, cl)
def addY (e : Int32) : FS → FS
  | (y, ab, be, w, a, h, ls, vi, lv, cl) => (y + e, ab, be, w, a, h, ls, vi, lv, cl)
def ent2P (D : Dt) (c : Nat) (S : FS) : FS := if 0 < dst D c 10 then addY (dst D c 10) (endP S) else S
def ent3P (D : Dt) (c : Nat) (a0 h0 : Nat → Int32) : FS → FS
  | (y, ab, be, w, a, h, ls, vi, lv, cl) => (y, ab, be, w, setI (setI a c (inP D (dpar D c) a0 + dst D c 9)) (32 + c) (wIn (dst D c 4) (a0 (32 + dpar D c)) (a0 (32 + dpar D c) - rimP D c)), setI h c (hIn (dst D c 5) (h0 (dpar D c))), ls, setB vi c true, lv, cl)
def sa (S : FS) : Nat → Int32 := S.2.2.2.2.1
def sh (S : FS) : Nat → Int32 := S.2.2.2.2.2.1
def enterP (D : Dt) (c : Nat) (S : FS) : FS := ent3P D c (sa S) (sh S) (ent2P D c (ent1P D c S))
def begP (c : Nat) : FS → FS
  | (y, ab, be, w, a, h, ls, vi, lv, cl) => (y, ab, be, w, a, h, ls, vi, setB lv c true, cl)
def setA (k : Nat) (x : Int32) : FS → FS
  | (y, ab, be, w, a, h, ls, vi, lv, cl) => (y, ab, be, w, setI a k x, h, ls, vi, lv, cl)
def setY (x : Int32) : FS → FS
  | (_, ab, be, w, a, h, ls, vi, lv, cl) => (x, ab, be, w, a, h, ls, vi, lv, cl)
def dropP : FS → FS
  | (y, _, _, w, a, h, ls, vi, lv, cl) => (y, 0, 0, w, a, h, ls, vi, lv, cl)
def unwP (c : Nat) : FS → FS
  | (y, ab, be, w, a, h, ls, vi, lv, cl) => (y, ab, be, setB w c false, a, h, ls, vi, lv, cl)
def clP (c : Nat) : FS → FS
  | (y, ab, be, w, a, h, ls, vi, lv, cl) => (y, ab, be, w, a, h, ls, vi, lv, setB cl c true)
def pendY : FS → Int32
  | (y, ab, be, _, _, _, _, _, _, _) => (y + ab) + be
def sy (S : FS) : Int32 := S.1
def sw (S : FS) : Nat → Bool := S.2.2.2.1
/-- the lower end of a box that still waits -/
def leaveW (D : Dt) (c : Nat) (S : FS) : FS :=
  if 0 < mx 0 (sh S c) ∨ 0 < dst D c 12 then addY (dst D c 12 + mx 0 (sh S c)) (endP (setA (48 + c) (mx 0 (sh S c)) S))
  else unwP c (setA (16 + c) (pendY S) (setA (48 + c) (mx 0 (sh S c)) S))
/-- of one whose top is held -/
def leaveH (D : Dt) (c : Nat) (S : FS) : FS :=
  if 0 ≤ sh S c then setY (((sa S (16 + c) + dst D c 10) + sh S c) + dst D c 12) (setA (48 + c) (sh S c) (dropP S))
  else if 0 < dst D c 12 then setY (((sa S (16 + c) + dst D c 10) + mx 0 (pendY S - (sa S (16 + c) + dst D c 10))) + dst D c 12) (setA (48 + c) (mx 0 (pendY S - (sa S (16 + c) + dst D c 10))) (endP S))
  else setA (48 + c) (mx 0 (sy S - (sa S (16 + c) + dst D c 10))) S
def leaveP (D : Dt) (c : Nat) (S : FS) : FS := clP c (pendP (dst D c 8) (if sw S c = true then leaveW D c S else leaveH D c S))
/-- a line: what is in it, its ascent, its descent -/
abbrev RS : Type := FS × Int32 × Int32 × Int32
def ascP (D : Dt) (c : Nat) : Int32 := (dsz D c * 3) / 4
def shutP (box : Nat) : RS → FS
  | ((y, ab, be, w, a, h, ls, vi, lv, cl), fl, up, dw) => (y + mx 0 (up + dw), ab, be, w, a, h, ls ++ [(box, y, fl)], vi, lv, cl)
def wordP (D : Dt) (box c i : Nat) (X : RS) : RS :=
  let Y : RS := if X.2.1 ≠ 0 ∧ ¬ ((X.2.1 + 1) + dln D c i ≤ sa X.1 (32 + box)) then (shutP box X, 0, 0, 0) else X
  let off : Int32 := if Y.2.1 = 0 then 0 else Y.2.1 + 1
  ((if i = 0 then setA c (inP D box (sa Y.1) + off) Y.1 else Y.1), off + dln D c i, mx Y.2.2.1 (ascP D c), mx Y.2.2.2 (dsz D c - ascP D c))
def wordsP (D : Dt) (box c : Nat) : Nat → RS → RS
  | 0, X => X
  | i + 1, X => wordP D box c i (wordsP D box c i X)
def visP (c : Nat) : FS → FS
  | (y, ab, be, w, a, h, ls, vi, lv, cl) => (y, ab, be, w, a, h, ls, setB vi c true, lv, cl)
def textP (D : Dt) (box c : Nat) (X : RS) : RS := match wordsP D box c (dwc D c) X with
  | (S, r) => (visP c S, r)
/-- the texts of a run, from one on -/
def runL (D : Dt) (box : Nat) : Nat → Nat → List Nat
  | 0, c => [c]
  | f + 1, c => c :: (match nx D box c with
    | some k => if dtx D k = true then runL D box f k else []
    | none => [])
def runW (D : Dt) (r : List Nat) : Nat := (r.map (dwc D)).sum
def runT (D : Dt) (box : Nat) (r : List Nat) (X : RS) : RS := r.foldl (fun X c => textP D box c X) X
def visL (r : List Nat) (S : FS) : FS := r.foldl (fun S c => visP c S) S
def runP (D : Dt) (box : Nat) (r : List Nat) (S : FS) : FS :=
  if runW D r = 0 then visL r S else shutP box (runT D box r (endP S, 0, 0, 0))
/-- the children of a box behind a node -/
def flowP (D : Dt) : Nat → Nat → Nat → FS → FS
  | 0, _, _, S => S
  | f + 1, box, at_, S => match nx D box at_ with
    | none => S
    | some c =>
      if dtx D c = true then flowP D f box ((runL D box f c).getLastD c) (runP D box (runL D box f c) S)
      else flowP D f box c (leaveP D c (flowP D f c c (begP c (enterP D c S))))
/-- a whole layout, from what lay in the law's rows before -/
def laysP (D : Dt) (W : Int32) (a h : Nat → Int32) : FS := endP (flowP D (dn D) 0 0 (begP 0 (0, 0, 0, (fun _ => false), setI a 32 W, setI h 0 (-1), [], setB (fun _ => false) 0 true, (fun _ => false), (fun _ => false))))
/-- the numbers that may stand there -/
def DW (D : Dt) : Prop := 1 ≤ dn D ∧ dn D ≤ 12 ∧ dpar D 0 = 0 ∧ dtx D 0 = false ∧ (∀ k, 0 < k → k < dn D → dpar D k < k ∧ dtx D (dpar D k) = false) ∧
  (∀ k, dwc D k ≤ 4) ∧ (∀ k i, 1 ≤ (dln D k i).toInt ∧ (dln D k i).toInt ≤ 30) ∧ (∀ k, 1 ≤ (dsz D k).toInt ∧ (dsz D k).toInt ≤ 20) ∧
  (∀ k, ((-1 ≤ (dst D k 4).toInt ∧ (dst D k 4).toInt ≤ 60) ∨ (1000 ≤ (dst D k 4).toInt ∧ (dst D k 4).toInt ≤ 1100)) ∧ ((-1 ≤ (dst D k 5).toInt ∧ (dst D k 5).toInt ≤ 20) ∨ (1000 ≤ (dst D k 5).toInt ∧ (dst D k 5).toInt ≤ 1100))) ∧
  (∀ k s, 6 ≤ s → s ≤ 9 → -15 ≤ (dst D k s).toInt ∧ (dst D k s).toInt ≤ 30) ∧ (∀ k s, 10 ≤ s → s ≤ 13 → 0 ≤ (dst D k s).toInt ∧ (dst D k s).toInt ≤ 8) ∧
  (∀ k, dst D k 0 = 0 ∧ dst D k 1 = 0 ∧ dst D k 2 = 0 ∧ dst D k 3 = 0 ∧ dst D k 14 = 0 ∧ dst D k 15 = 0 ∧ dst D k 16 = 0 ∧ dst D k 17 = 1 ∧ dst D k 18 = -1000 ∧ dst D k 19 = -1000 ∧ dst D k 20 = 0)
end
section
/-! FLOW: margins that end, places that wait, the lower end of a block (by wip/p27/gen_flow1.py) -/
/-- the places that wait, from one on -/
def Wt (σ : Sto) : Option Nat → List Nat → Prop
  | o, [] => o = none
  | o, p :: ps => o = some p ∧ (∃ n, zT σ p = (7, n)) ∧ Wt σ (zR σ 710 p) ps
theorem Wt.to {σ σ' : Sto} : ∀ {ws : List Nat} {o : Option Nat}, Wt σ o ws → (∀ p ∈ ws, zT σ' p = zT σ p ∧ zR σ' 710 p = zR σ 710 p) → Wt σ' o ws
  | [], _, h, _ => h
  | p :: ps, _, h, hq => by
    obtain ⟨h1, ⟨n, h2⟩, h3⟩ := h
    obtain ⟨q1, q2⟩ := hq p List.mem_cons_self
    exact ⟨h1, ⟨n, by rw [q1]; exact h2⟩, by rw [q2]; exact Wt.to h3 (fun p hp => hq p (List.mem_cons_of_mem _ hp))⟩
def hdS (yy : Int32) (ws : List Nat) (σ : Sto) : Sto := ws.foldl (fun s p => wI (wI s 701 p yy) 709 p 1) σ
def emS (F : Nat) (ws : List Nat) (yy : Int32) (σ : Sto) : Sto := wR (hdS yy ws (wI (wI (wI σ 200 F yy) 201 F 0) 202 F 0)) 203 F none
theorem hdS_T {yy ws σ} : (hdS yy ws σ).1 = σ.1 := by
  induction ws generalizing σ with
  | nil => rfl
  | cons p ps ih => exact ih
theorem hdS_R {yy ws σ} : (hdS yy ws σ).2.2 = σ.2.2 := by
  induction ws generalizing σ with
  | nil => rfl
  | cons p ps ih => exact ih
theorem hdS_I {yy : Int32} {ws : List Nat} {σ : Sto} {f a : Nat} : zI (hdS yy ws σ) f a = if a ∈ ws ∧ f = 701 then yy else if a ∈ ws ∧ f = 709 then 1 else zI σ f a := by
  induction ws generalizing σ with
  | nil => simp [hdS]
  | cons p ps ih =>
    show zI (hdS yy ps (wI (wI σ 701 p yy) 709 p 1)) f a = _
    rw [ih]
    simp only [zI_wI, List.mem_cons]
    by_cases h1 : a ∈ ps
    · by_cases h2 : f = 701
      · simp [h1, h2]
      · by_cases h3 : f = 709
        · simp [h1, h3]
        · simp [h1, h2, h3]
    · by_cases h0 : a = p
      · by_cases h2 : f = 701
        · simp [h1, h2, h0]
        · by_cases h3 : f = 709
          · simp [h1, h3, h0]
          · simp [h1, h2, h3, h0]
      · simp [h1, h0]
theorem emS_T {F ws yy σ a} : zT (emS F ws yy σ) a = zT σ a := congrFun (hdS_T (yy := yy) (ws := ws)) a
theorem emS_R {F ws yy σ f a} : zR (emS F ws yy σ) f a = if f = 203 ∧ a = F then none else zR σ f a := by
  unfold emS
  rw [zR_wR]
  split
  · rfl
  · have := hdS_R (yy := yy) (ws := ws) (σ := wI (wI (wI σ 200 F yy) 201 F 0) 202 F 0)
    exact congrFun (congrFun (congrArg (fun x => x.1) this) f) a
theorem emS_A {F ws yy σ} : zA (emS F ws yy σ) = zA σ := congrArg (fun x => x.2.1) (hdS_R (yy := yy) (ws := ws) (σ := wI (wI (wI σ 200 F yy) 201 F 0) 202 F 0))
theorem emS_Q {F ws yy σ} : zQ (emS F ws yy σ) = zQ σ := congrArg (fun x => x.2.2) (hdS_R (yy := yy) (ws := ws) (σ := wI (wI (wI σ 200 F yy) 201 F 0) 202 F 0))
theorem emS_I {F : Nat} {ws : List Nat} {yy : Int32} {σ : Sto} {f a : Nat} : zI (emS F ws yy σ) f a = if a ∈ ws ∧ f = 701 then yy else if a ∈ ws ∧ f = 709 then 1 else if f = 200 ∧ a = F then yy else if f = 201 ∧ a = F then 0 else if f = 202 ∧ a = F then 0 else zI σ f a := by
  unfold emS
  rw [zI_wR, hdS_I]
  simp only [zI_wI]
  by_cases h0 : a = F
  · by_cases h1 : f = 200
    · simp [h0, h1]
    · by_cases h2 : f = 201
      · simp [h0, h2]
      · by_cases h3 : f = 202
        · simp [h0, h3]
        · simp [h0, h1, h2, h3]
  · simp [h0]
theorem emS_y {F ws yy σ} : zI (emS F ws yy σ) 200 F = yy := by rw [emS_I]; simp
theorem l_X2_endMargins (l : Launch) (G : Gb) (F n : Nat) (yy : Int32) : ∀ (ws : List Nat) (σ : Sto) (r : Option Nat), Wt σ r ws → zT σ F = (2, n) → zI σ 200 F = yy → Wp l G 1 0 0 (RX2, cX2_endMargins, 2, none, false) 17 [(1, va_rf r), (0, .ref F)] [] σ (fun v s => v = none ∧ s = wR (hdS yy ws σ) 203 F none) := by
  intro ws
  induction ws with
  | nil =>
    intro σ r hW hF hy
    obtain rfl : r = none := hW
    show Wp l G 1 0 0 (RX2, cX2_endMargins, 2, none, false) 17 [(1, .null), (0, .ref F)] [] σ _
    refine zp_aloado_n dX2_endMargins_17 rfl (r := none) (v := .null) rfl (List.mem_of_getElem? (i := 0) rfl) ?_
    refine zp_nullT dX2_endMargins_18 (tgt := 42) rfl ?_
    refine zp_aload_n dX2_endMargins_42 rfl (a := F) (List.mem_of_getElem? (i := 1) rfl) ?_
    refine zp_null dX2_endMargins_43 ?_
    refine zp_putR dX2_endMargins_44 fl_X2_21 hF (r := none) rfl ?_
    refine zp_vret rfl dX2_endMargins_47 ?_
    exact ⟨rfl, rfl⟩
  | cons p ps ih =>
    intro σ r hW hF hy
    obtain ⟨rfl, ⟨np, hp⟩, hW⟩ := hW
    show Wp l G 1 0 0 (RX2, cX2_endMargins, 2, none, false) 17 [(1, .ref p), (0, .ref F)] [] σ _
    refine zp_aload_n dX2_endMargins_17 rfl (a := p) (List.mem_of_getElem? (i := 0) rfl) ?_
    refine zp_nullF dX2_endMargins_18 (tgt := 42) rfl ?_
    refine zp_aload_n dX2_endMargins_21 rfl (a := p) (List.mem_of_getElem? (i := 0) rfl) ?_
    refine zp_aload_n dX2_endMargins_22 rfl (a := F) (List.mem_of_getElem? (i := 1) rfl) ?_
    refine zp_getIv dX2_endMargins_23 fl_X2_9 hF (v := yy) hy ?_
    refine zp_putI dX2_endMargins_26 fl_X2_68 hp ?_
    refine zp_aload_n dX2_endMargins_29 rfl (a := p) (List.mem_of_getElem? (i := 0) rfl) ?_
    refine zp_iconst dX2_endMargins_30 (v := 1) (by decide) ?_
    refine zp_putZ dX2_endMargins_31 fl_X2_73 hp (Or.inr rfl) ?_
    refine zp_aload_n dX2_endMargins_34 rfl (a := p) (List.mem_of_getElem? (i := 0) rfl) ?_
    refine zp_getRn dX2_endMargins_35 fl_X2_77 hp (fun x35 hx35 => ?_)
    refine zp_astoreo_n dX2_endMargins_38 rfl (Nat.le_of_ble_eq_true rfl) (r := x35) (v := va_rf x35) rfl (lv2 := [(1, va_rf x35), (0, .ref F)]) rfl ?_
    refine zp_goto dX2_endMargins_39 (tgt := 17) rfl ?_
    subst hx35
    exact ih _ _ (hW.to (fun q _ => ⟨rfl, rfl⟩)) hF (by simpa [zI_wI] using hy)
theorem c_X2_endMargins (l : Launch) (G : Gb) (F n : Nat) (ws : List Nat) (yy : Int32) (σ : Sto) (hF : zT σ F = (2, n)) (hW : Wt σ (zR σ 203 F) ws) (hy : (zI σ 200 F + zI σ 201 F) + zI σ 202 F = yy) : Ct l G 2 0 0 yX2_endMargins mX2_endMargins [.ref F] σ (fun v s => v = none ∧ s = emS F ws yy σ) := by
  refine Ct.of (by decide) rfl (Nat.le_of_ble_eq_true rfl) (fun h => absurd h (by decide)) ?_
  show Wp l G 2 0 0 (RX2, cX2_endMargins, 2, none, false) 0 [(0, .ref F)] [] σ _
  refine zp_aload_n dX2_endMargins_0 rfl (a := F) (List.mem_of_getElem? (i := 0) rfl) ?_
  refine zp_aload_n dX2_endMargins_1 rfl (a := F) (List.mem_of_getElem? (i := 0) rfl) ?_
  refine zp_callV (c0 := 1) (st := [.ref F]) (mc2 := 0) (ms2 := 0) dX2_endMargins_2 (c_X2_pendingY l G F n _ hF) cl_X2_61 im_X2_pendingY se_X2_pendingY rfl rfl hF rfl rfl (by omega) (by omega) (by omega) (Nat.le_of_ble_eq_true rfl) ?_
  rintro _ s1 ⟨rfl, hs1⟩; obtain rfl := hs1.symm
  rw [hy]
  refine zp_putI dX2_endMargins_5 fl_X2_9 hF ?_
  refine zp_aload_n dX2_endMargins_8 rfl (a := F) (List.mem_of_getElem? (i := 0) rfl) ?_
  refine zp_callV (c0 := 1) (st := []) (mc2 := 0) (ms2 := 0) dX2_endMargins_9 (c_X2_dropMargins l G F n _ hF) cl_X2_65 im_X2_dropMargins se_X2_dropMargins rfl rfl hF rfl rfl (by omega) (by omega) (by omega) (Nat.le_of_ble_eq_true rfl) ?_
  rintro _ s1 ⟨rfl, hs1⟩; obtain rfl := hs1.symm
  refine zp_aload_n dX2_endMargins_12 rfl (a := F) (List.mem_of_getElem? (i := 0) rfl) ?_
  refine zp_getRn dX2_endMargins_13 fl_X2_21 hF (fun r hr => ?_)
  refine zp_astoreo_n dX2_endMargins_16 rfl (Nat.le_of_ble_eq_true rfl) (r := r) (v := va_rf r) rfl (lv2 := [(1, va_rf r), (0, .ref F)]) rfl ?_
  subst hr
  exact Wp.widen (by decide) (by decide) (by decide) (l_X2_endMargins l G F n yy ws _ _ (hW.to (fun q _ => ⟨rfl, rfl⟩)) hF (by simp [zI_wI]))
def ewS (c p F : Nat) (ws : List Nat) (σ : Sto) : Sto :=
  if 0 < mx 0 (zI σ 704 p) ∨ 0 < zA σ c 12 then wI (emS F ws ((zI σ 200 F + zI σ 201 F) + zI σ 202 F) (wI σ 703 p (mx 0 (zI σ 704 p)))) 200 F (((zI σ 200 F + zI σ 201 F) + zI σ 202 F) + (zA σ c 12 + mx 0 (zI σ 704 p)))
  else wI (wR (wI σ 703 p (mx 0 (zI σ 704 p))) 203 F (zR σ 710 p)) 701 p ((zI σ 200 F + zI σ 201 F) + zI σ 202 F)
theorem c_X4_endWaitingBlock (l : Launch) (G : Gb) (c p F np nF : Nat) (ws : List Nat) (σ : Sto) (hc : zT σ c = (20, 21)) (hp : zT σ p = (7, np)) (hF : zT σ F = (2, nF)) (hW : Wt σ (zR σ 203 F) ws) (hq : p ∉ ws ∨ True) : Ct l G 3 0 0 yX4_endWaitingBlock mX4_endWaitingBlock [.ref c, .ref p, .ref F] σ (fun v s => v = none ∧ s = ewS c p F ws σ) := by
  refine Ct.of (by decide) rfl (Nat.le_of_ble_eq_true rfl) (fun h => absurd h (by decide)) ?_
  show Wp l G 3 0 0 (RX4, cX4_endWaitingBlock, 3, none, false) 0 [(0, .ref c), (1, .ref p), (2, .ref F)] [] σ _
  refine zp_aload_n dX4_endWaitingBlock_0 rfl (a := p) (List.mem_of_getElem? (i := 1) rfl) ?_
  refine zp_iconst dX4_endWaitingBlock_1 (v := 0) (by decide) ?_
  refine zp_aload_n dX4_endWaitingBlock_2 rfl (a := p) (List.mem_of_getElem? (i := 1) rfl) ?_
  refine zp_getIv dX4_endWaitingBlock_3 fl_X4_98 hp (v := (zI σ 704 p)) rfl ?_
  refine zp_max dX4_endWaitingBlock_6 wd_517 wd_515 wd_14 wd_516 (by decide) (Nat.le_of_ble_eq_true rfl) (v := (mx 0 (zI σ 704 p))) rfl ?_
  refine zp_putI dX4_endWaitingBlock_9 fl_X4_200 hp ?_
  refine zp_aload_n dX4_endWaitingBlock_12 rfl (a := p) (List.mem_of_getElem? (i := 1) rfl) ?_
  refine zp_getIv dX4_endWaitingBlock_13 fl_X4_200 hp (v := (mx 0 (zI σ 704 p))) (by simp [zI_wI, zI_wR]) ?_
  refine zp_if_gt dX4_endWaitingBlock_16 (tgt := 26) rfl (fun h16 => ?_) (fun h16 => ?_)
  · skip
    refine zp_aload_n dX4_endWaitingBlock_26 rfl (a := F) (List.mem_of_getElem? (i := 2) rfl) ?_
    refine zp_callV (c0 := 1) (st := []) (mc2 := 0) (ms2 := 0) dX4_endWaitingBlock_27 (c_X2_endMargins l G F nF ws ((zI σ 200 F + zI σ 201 F) + zI σ 202 F) _ hF (hW.to (fun q _ => ⟨rfl, rfl⟩)) (by simp only [zI_wI]; simp)) cl_X4_241 im_X2_endMargins se_X2_endMargins rfl rfl hF rfl rfl (by omega) (by omega) (by omega) (Nat.le_of_ble_eq_true rfl) ?_
    rintro _ s1 ⟨rfl, hs1⟩; obtain rfl := hs1.symm
    refine zp_aload_n dX4_endWaitingBlock_30 rfl (a := F) (List.mem_of_getElem? (i := 2) rfl) ?_
    refine zp_dup dX4_endWaitingBlock_31 rfl ?_
    refine zp_getIv dX4_endWaitingBlock_32 fl_X4_322 ((emS_T).trans hF) (v := ((zI σ 200 F + zI σ 201 F) + zI σ 202 F)) emS_y ?_
    refine zp_aload_n dX4_endWaitingBlock_35 rfl (a := c) (List.mem_of_getElem? (i := 0) rfl) ?_
    refine zp_bipush dX4_endWaitingBlock_36 (v := 12) (by decide) ?_
    refine zp_iald_v dX4_endWaitingBlock_38 ((emS_T).trans hc) (Or.inl rfl) (j := 12) (by decide) (zin (by decide)) (v := (zA σ c 12)) (by rw [emS_A]; rfl) ?_
    refine zp_aload_n dX4_endWaitingBlock_39 rfl (a := p) (List.mem_of_getElem? (i := 1) rfl) ?_
    refine zp_getIv dX4_endWaitingBlock_40 fl_X4_200 ((emS_T).trans hp) (v := (mx 0 (zI σ 704 p))) (by rw [emS_I]; simp [zI_wI]) ?_
    refine zp_iadd dX4_endWaitingBlock_43 ?_
    refine zp_iadd dX4_endWaitingBlock_44 ?_
    refine zp_putI dX4_endWaitingBlock_45 fl_X4_322 ((emS_T).trans hF) ?_
    refine zp_goto dX4_endWaitingBlock_48 (tgt := 67) rfl ?_
    refine zp_vret rfl dX4_endWaitingBlock_67 ?_
    exact ⟨rfl, by unfold ewS; rw [if_pos (by first | exact Or.inl h16 | exact Or.inr (Int32.not_le.mp h23))]⟩
  · skip
    refine zp_aload_n dX4_endWaitingBlock_19 rfl (a := c) (List.mem_of_getElem? (i := 0) rfl) ?_
    refine zp_bipush dX4_endWaitingBlock_20 (v := 12) (by decide) ?_
    refine zp_iald_v dX4_endWaitingBlock_22 hc (Or.inl rfl) (j := 12) (by decide) (zin (by decide)) (v := (zA σ c 12)) rfl ?_
    refine zp_if_le dX4_endWaitingBlock_23 (tgt := 51) rfl (fun h23 => ?_) (fun h23 => ?_)
    · skip
      refine zp_aload_n dX4_endWaitingBlock_51 rfl (a := F) (List.mem_of_getElem? (i := 2) rfl) ?_
      refine zp_aload_n dX4_endWaitingBlock_52 rfl (a := p) (List.mem_of_getElem? (i := 1) rfl) ?_
      refine zp_getRo dX4_endWaitingBlock_53 fl_X4_319 hp (r := (zR σ 710 p)) rfl ?_
      refine zp_putR dX4_endWaitingBlock_56 fl_X4_316 hF (r := (zR σ 710 p)) rfl ?_
      refine zp_aload_n dX4_endWaitingBlock_59 rfl (a := p) (List.mem_of_getElem? (i := 1) rfl) ?_
      refine zp_aload_n dX4_endWaitingBlock_60 rfl (a := F) (List.mem_of_getElem? (i := 2) rfl) ?_
      refine zp_callV (c0 := 1) (st := [.ref p]) (mc2 := 0) (ms2 := 0) dX4_endWaitingBlock_61 (c_X2_pendingY l G F nF _ hF) cl_X4_296 im_X2_pendingY se_X2_pendingY rfl rfl hF rfl rfl (by omega) (by omega) (by omega) (Nat.le_of_ble_eq_true rfl) ?_
      rintro _ s1 ⟨rfl, hs1⟩; obtain rfl := hs1.symm
      simp only [zI_wI, zI_wR]
      simp only [show (200 = 703 ∧ F = p) = False by simp, show (201 = 703 ∧ F = p) = False by simp, show (202 = 703 ∧ F = p) = False by simp, if_false]
      refine zp_putI dX4_endWaitingBlock_64 fl_X4_148 hp ?_
      refine zp_vret rfl dX4_endWaitingBlock_67 ?_
      exact ⟨rfl, by unfold ewS; rw [if_neg (by rintro (q | q) <;> first | exact h16 q | exact absurd q (Int32.not_lt.mpr h23))]⟩
    · skip
      refine zp_aload_n dX4_endWaitingBlock_26 rfl (a := F) (List.mem_of_getElem? (i := 2) rfl) ?_
      refine zp_callV (c0 := 1) (st := []) (mc2 := 0) (ms2 := 0) dX4_endWaitingBlock_27 (c_X2_endMargins l G F nF ws ((zI σ 200 F + zI σ 201 F) + zI σ 202 F) _ hF (hW.to (fun q _ => ⟨rfl, rfl⟩)) (by simp only [zI_wI]; simp)) cl_X4_241 im_X2_endMargins se_X2_endMargins rfl rfl hF rfl rfl (by omega) (by omega) (by omega) (Nat.le_of_ble_eq_true rfl) ?_
      rintro _ s1 ⟨rfl, hs1⟩; obtain rfl := hs1.symm
      refine zp_aload_n dX4_endWaitingBlock_30 rfl (a := F) (List.mem_of_getElem? (i := 2) rfl) ?_
      refine zp_dup dX4_endWaitingBlock_31 rfl ?_
      refine zp_getIv dX4_endWaitingBlock_32 fl_X4_322 ((emS_T).trans hF) (v := ((zI σ 200 F + zI σ 201 F) + zI σ 202 F)) emS_y ?_
      refine zp_aload_n dX4_endWaitingBlock_35 rfl (a := c) (List.mem_of_getElem? (i := 0) rfl) ?_
      refine zp_bipush dX4_endWaitingBlock_36 (v := 12) (by decide) ?_
      refine zp_iald_v dX4_endWaitingBlock_38 ((emS_T).trans hc) (Or.inl rfl) (j := 12) (by decide) (zin (by decide)) (v := (zA σ c 12)) (by rw [emS_A]; rfl) ?_
      refine zp_aload_n dX4_endWaitingBlock_39 rfl (a := p) (List.mem_of_getElem? (i := 1) rfl) ?_
      refine zp_getIv dX4_endWaitingBlock_40 fl_X4_200 ((emS_T).trans hp) (v := (mx 0 (zI σ 704 p))) (by rw [emS_I]; simp [zI_wI]) ?_
      refine zp_iadd dX4_endWaitingBlock_43 ?_
      refine zp_iadd dX4_endWaitingBlock_44 ?_
      refine zp_putI dX4_endWaitingBlock_45 fl_X4_322 ((emS_T).trans hF) ?_
      refine zp_goto dX4_endWaitingBlock_48 (tgt := 67) rfl ?_
      refine zp_vret rfl dX4_endWaitingBlock_67 ?_
      exact ⟨rfl, by unfold ewS; rw [if_pos (by first | exact Or.inl h16 | exact Or.inr (Int32.not_le.mp h23))]⟩
def inS (c p : Nat) (σ : Sto) : Int32 := zI σ 701 p + zA σ c 10
def ehS (c p F : Nat) (ws : List Nat) (σ : Sto) : Sto :=
  if 0 ≤ zI σ 704 p then wI (wI (wI (wI σ 201 F 0) 202 F 0) 703 p (zI σ 704 p)) 200 F ((inS c p σ + zI σ 704 p) + zA σ c 12)
  else if 0 < zA σ c 12 then wI (wI (emS F ws ((zI σ 200 F + zI σ 201 F) + zI σ 202 F) σ) 703 p (mx 0 (((zI σ 200 F + zI σ 201 F) + zI σ 202 F) - inS c p σ))) 200 F ((inS c p σ + mx 0 (((zI σ 200 F + zI σ 201 F) + zI σ 202 F) - inS c p σ)) + zA σ c 12)
  else wI σ 703 p (mx 0 (zI σ 200 F - inS c p σ))
theorem c_X4_endHeldBlock (l : Launch) (G : Gb) (c p F np nF : Nat) (ws : List Nat) (σ : Sto) (hc : zT σ c = (20, 21)) (hp : zT σ p = (7, np)) (hF : zT σ F = (2, nF)) (hW : Wt σ (zR σ 203 F) ws) : Ct l G 3 0 0 yX4_endHeldBlock mX4_endHeldBlock [.ref c, .ref p, .ref F] σ (fun v s => v = none ∧ s = ehS c p F ws σ) := by
  refine Ct.of (by decide) rfl (Nat.le_of_ble_eq_true rfl) (fun h => absurd h (by decide)) ?_
  show Wp l G 3 0 0 (RX4, cX4_endHeldBlock, 4, none, false) 0 [(0, .ref c), (1, .ref p), (2, .ref F)] [] σ _
  refine zp_aload_n dX4_endHeldBlock_0 rfl (a := p) (List.mem_of_getElem? (i := 1) rfl) ?_
  refine zp_getIv dX4_endHeldBlock_1 fl_X4_148 hp (v := (zI σ 701 p)) rfl ?_
  refine zp_aload_n dX4_endHeldBlock_4 rfl (a := c) (List.mem_of_getElem? (i := 0) rfl) ?_
  refine zp_bipush dX4_endHeldBlock_5 (v := 10) (by decide) ?_
  refine zp_iald_v dX4_endHeldBlock_7 hc (Or.inl rfl) (j := 10) (by decide) (zin (by decide)) (v := (zA σ c 10)) rfl ?_
  refine zp_iadd dX4_endHeldBlock_8 ?_
  refine zp_istore_n dX4_endHeldBlock_9 rfl (Nat.le_of_ble_eq_true rfl) (lv2 := [(3, .int ((zI σ 701 p) + (zA σ c 10))), (0, .ref c), (1, .ref p), (2, .ref F)]) rfl ?_
  refine zp_aload_n dX4_endHeldBlock_10 rfl (a := p) (List.mem_of_getElem? (i := 2) rfl) ?_
  refine zp_getIv dX4_endHeldBlock_11 fl_X4_98 hp (v := (zI σ 704 p)) rfl ?_
  refine zp_if_lt dX4_endHeldBlock_14 (tgt := 47) rfl (fun h14 => ?_) (fun h14 => ?_)
  · skip
    refine zp_aload_n dX4_endHeldBlock_47 rfl (a := c) (List.mem_of_getElem? (i := 1) rfl) ?_
    refine zp_bipush dX4_endHeldBlock_48 (v := 12) (by decide) ?_
    refine zp_iald_v dX4_endHeldBlock_50 hc (Or.inl rfl) (j := 12) (by decide) (zin (by decide)) (v := (zA σ c 12)) rfl ?_
    refine zp_if_le dX4_endHeldBlock_51 (tgt := 90) rfl (fun h51 => ?_) (fun h51 => ?_)
    · skip
      refine zp_aload_n dX4_endHeldBlock_90 rfl (a := p) (List.mem_of_getElem? (i := 2) rfl) ?_
      refine zp_iconst dX4_endHeldBlock_91 (v := 0) (by decide) ?_
      refine zp_aload_n dX4_endHeldBlock_92 rfl (a := F) (List.mem_of_getElem? (i := 3) rfl) ?_
      refine zp_getIv dX4_endHeldBlock_93 fl_X4_322 hF (v := (zI σ 200 F)) rfl ?_
      refine zp_iload_n dX4_endHeldBlock_96 rfl (x := ((zI σ 701 p) + (zA σ c 10))) (List.mem_of_getElem? (i := 0) rfl) ?_
      refine zp_isub dX4_endHeldBlock_97 ?_
      refine zp_max dX4_endHeldBlock_98 wd_517 wd_515 wd_14 wd_516 (by decide) (Nat.le_of_ble_eq_true rfl) (v := (mx 0 (zI σ 200 F - (zI σ 701 p + zA σ c 10)))) rfl ?_
      refine zp_putI dX4_endHeldBlock_101 fl_X4_200 hp ?_
      refine zp_vret rfl dX4_endHeldBlock_104 ?_
      exact ⟨rfl, by unfold ehS inS; first | (rw [if_pos (Int32.not_lt.mp h14)]; done) | (rw [if_neg (Int32.not_le.mpr h14), if_pos (Int32.not_le.mp h51)]; done) | (rw [if_neg (Int32.not_le.mpr h14), if_neg (Int32.not_lt.mpr h51)]; done)⟩
    · skip
      refine zp_aload_n dX4_endHeldBlock_54 rfl (a := F) (List.mem_of_getElem? (i := 3) rfl) ?_
      refine zp_callV (c0 := 1) (st := []) (mc2 := 0) (ms2 := 0) dX4_endHeldBlock_55 (c_X2_endMargins l G F nF ws ((zI σ 200 F + zI σ 201 F) + zI σ 202 F) _ hF hW rfl) cl_X4_241 im_X2_endMargins se_X2_endMargins rfl rfl hF rfl rfl (by omega) (by omega) (by omega) (Nat.le_of_ble_eq_true rfl) ?_
      rintro _ s1 ⟨rfl, hs1⟩; obtain rfl := hs1.symm
      refine zp_aload_n dX4_endHeldBlock_58 rfl (a := p) (List.mem_of_getElem? (i := 2) rfl) ?_
      refine zp_iconst dX4_endHeldBlock_59 (v := 0) (by decide) ?_
      refine zp_aload_n dX4_endHeldBlock_60 rfl (a := F) (List.mem_of_getElem? (i := 3) rfl) ?_
      refine zp_getIv dX4_endHeldBlock_61 fl_X4_322 ((emS_T).trans hF) (v := ((zI σ 200 F + zI σ 201 F) + zI σ 202 F)) emS_y ?_
      refine zp_iload_n dX4_endHeldBlock_64 rfl (x := ((zI σ 701 p) + (zA σ c 10))) (List.mem_of_getElem? (i := 0) rfl) ?_
      refine zp_isub dX4_endHeldBlock_65 ?_
      refine zp_max dX4_endHeldBlock_66 wd_517 wd_515 wd_14 wd_516 (by decide) (Nat.le_of_ble_eq_true rfl) (v := (mx 0 (((zI σ 200 F + zI σ 201 F) + zI σ 202 F) - (zI σ 701 p + zA σ c 10)))) rfl ?_
      refine zp_putI dX4_endHeldBlock_69 fl_X4_200 ((emS_T).trans hp) ?_
      refine zp_aload_n dX4_endHeldBlock_72 rfl (a := F) (List.mem_of_getElem? (i := 3) rfl) ?_
      refine zp_iload_n dX4_endHeldBlock_73 rfl (x := ((zI σ 701 p) + (zA σ c 10))) (List.mem_of_getElem? (i := 0) rfl) ?_
      refine zp_aload_n dX4_endHeldBlock_74 rfl (a := p) (List.mem_of_getElem? (i := 2) rfl) ?_
      refine zp_getIv dX4_endHeldBlock_75 fl_X4_200 ((emS_T).trans hp) (v := (mx 0 (((zI σ 200 F + zI σ 201 F) + zI σ 202 F) - (zI σ 701 p + zA σ c 10)))) (by simp [zI_wI]) ?_
      refine zp_iadd dX4_endHeldBlock_78 ?_
      refine zp_aload_n dX4_endHeldBlock_79 rfl (a := c) (List.mem_of_getElem? (i := 1) rfl) ?_
      refine zp_bipush dX4_endHeldBlock_80 (v := 12) (by decide) ?_
      refine zp_iald_v dX4_endHeldBlock_82 ((emS_T).trans hc) (Or.inl rfl) (j := 12) (by decide) (zin (by decide)) (v := (zA σ c 12)) (by rw [zA_wI, emS_A]) ?_
      refine zp_iadd dX4_endHeldBlock_83 ?_
      refine zp_putI dX4_endHeldBlock_84 fl_X4_322 ((emS_T).trans hF) ?_
      refine zp_goto dX4_endHeldBlock_87 (tgt := 104) rfl ?_
      refine zp_vret rfl dX4_endHeldBlock_104 ?_
      exact ⟨rfl, by unfold ehS inS; first | (rw [if_pos (Int32.not_lt.mp h14)]; done) | (rw [if_neg (Int32.not_le.mpr h14), if_pos (Int32.not_le.mp h51)]; done) | (rw [if_neg (Int32.not_le.mpr h14), if_neg (Int32.not_lt.mpr h51)]; done)⟩
  · skip
    refine zp_aload_n dX4_endHeldBlock_17 rfl (a := F) (List.mem_of_getElem? (i := 3) rfl) ?_
    refine zp_callV (c0 := 1) (st := []) (mc2 := 0) (ms2 := 0) dX4_endHeldBlock_18 (c_X2_dropMargins l G F nF _ hF) cl_X4_338 im_X2_dropMargins se_X2_dropMargins rfl rfl hF rfl rfl (by omega) (by omega) (by omega) (Nat.le_of_ble_eq_true rfl) ?_
    rintro _ s1 ⟨rfl, hs1⟩; obtain rfl := hs1.symm
    refine zp_aload_n dX4_endHeldBlock_21 rfl (a := p) (List.mem_of_getElem? (i := 2) rfl) ?_
    refine zp_aload_n dX4_endHeldBlock_22 rfl (a := p) (List.mem_of_getElem? (i := 2) rfl) ?_
    refine zp_getIv dX4_endHeldBlock_23 fl_X4_98 hp (v := (zI σ 704 p)) (by simp [zI_wI]) ?_
    refine zp_putI dX4_endHeldBlock_26 fl_X4_200 hp ?_
    refine zp_aload_n dX4_endHeldBlock_29 rfl (a := F) (List.mem_of_getElem? (i := 3) rfl) ?_
    refine zp_iload_n dX4_endHeldBlock_30 rfl (x := ((zI σ 701 p) + (zA σ c 10))) (List.mem_of_getElem? (i := 0) rfl) ?_
    refine zp_aload_n dX4_endHeldBlock_31 rfl (a := p) (List.mem_of_getElem? (i := 2) rfl) ?_
    refine zp_getIv dX4_endHeldBlock_32 fl_X4_200 hp (v := (zI σ 704 p)) (by simp [zI_wI]) ?_
    refine zp_iadd dX4_endHeldBlock_35 ?_
    refine zp_aload_n dX4_endHeldBlock_36 rfl (a := c) (List.mem_of_getElem? (i := 1) rfl) ?_
    refine zp_bipush dX4_endHeldBlock_37 (v := 12) (by decide) ?_
    refine zp_iald_v dX4_endHeldBlock_39 hc (Or.inl rfl) (j := 12) (by decide) (zin (by decide)) (v := (zA σ c 12)) rfl ?_
    refine zp_iadd dX4_endHeldBlock_40 ?_
    refine zp_putI dX4_endHeldBlock_41 fl_X4_322 hF ?_
    refine zp_goto dX4_endHeldBlock_44 (tgt := 104) rfl ?_
    refine zp_vret rfl dX4_endHeldBlock_104 ?_
    exact ⟨rfl, by unfold ehS inS; first | (rw [if_pos (Int32.not_lt.mp h14)]; done) | (rw [if_neg (Int32.not_le.mpr h14), if_pos (Int32.not_le.mp h51)]; done) | (rw [if_neg (Int32.not_le.mpr h14), if_neg (Int32.not_lt.mpr h51)]; done)⟩
theorem c_X4_knownHeight (l : Launch) (G : Gb) (Ly nL a n c r nr P nP : Nat) (b : Bool) (σ : Sto) (hL : zT σ Ly = (3, nL)) (hA : zT σ a = (5, n)) (hb : zI σ 300 Ly = zb (b = true)) (hc : zR σ 505 a = some c) (hC : zT σ c = (20, 21)) (hr : zR σ 501 a = some r) (hR : zT σ r = (5, nr)) (hk : zR σ 514 r = some (G.2.2.1 0)) (hP : zR σ (pfld b) r = some P) (hp : zT σ P = (7, nP)) : Ct l G 3 0 0 yX4_knownHeight mX4_knownHeight [.ref Ly, .ref a] σ (fun v s => v = some (.int (hIn (zA σ c 5) (zI σ 704 P))) ∧ s = σ) := by
  refine Ct.of (by decide) rfl (Nat.le_of_ble_eq_true rfl) (fun h => absurd h (by decide)) ?_
  show Wp l G 3 0 0 (RX4, cX4_knownHeight, 3, (some .int), false) 0 [(0, .ref Ly), (1, .ref a)] [] σ _
  refine zp_kin (fun hkin => ?_)
  refine zp_aload_n dX4_knownHeight_0 rfl (a := a) (List.mem_of_getElem? (i := 1) rfl) ?_
  refine zp_getRv dX4_knownHeight_1 fl_X4_75 hA (b := r) hr ?_
  refine zp_astore_n dX4_knownHeight_4 rfl (Nat.le_of_ble_eq_true rfl) (lv2 := [(2, .ref r), (0, .ref Ly), (1, .ref a)]) rfl ?_
  refine zp_aload_n dX4_knownHeight_5 rfl (a := r) (List.mem_of_getElem? (i := 0) rfl) ?_
  refine zp_nullF dX4_knownHeight_6 (tgt := 27) rfl ?_
  refine zp_aload_n dX4_knownHeight_9 rfl (a := r) (List.mem_of_getElem? (i := 0) rfl) ?_
  refine zp_getRv dX4_knownHeight_10 fl_X4_59 hR (b := (G.2.2.1 0)) hk ?_
  refine zp_kind (i := 1) dX4_knownHeight_13 (by decide) rfl wd_690 ?_
  refine zp_acmp_ne (rx := (some (G.2.2.1 0))) (ry := (some (G.2.2.1 1))) dX4_knownHeight_16 (tgt := 27) rfl rfl rfl (fun _ => ?_) (fun q => absurd q (fun q => absurd (hkin 0 1 (by decide) (by decide) (Option.some.inj q)) (by decide)))
  refine zp_aload_n dX4_knownHeight_27 rfl (a := a) (List.mem_of_getElem? (i := 2) rfl) ?_
  refine zp_aload_n dX4_knownHeight_28 rfl (a := r) (List.mem_of_getElem? (i := 0) rfl) ?_
  refine zp_nonnullT dX4_knownHeight_29 (tgt := 36) rfl ?_
  refine zp_aload_n dX4_knownHeight_36 rfl (a := Ly) (List.mem_of_getElem? (i := 1) rfl) ?_
  refine zp_aload_n dX4_knownHeight_37 rfl (a := r) (List.mem_of_getElem? (i := 0) rfl) ?_
  refine zp_callV (c0 := 2) (st := [.ref a]) (mc2 := 0) (ms2 := 0) dX4_knownHeight_38 (c_X4_placeOf l G Ly nL r nr P b _ hL hR hb hP) cl_X4_35 im_X4_placeOf se_X4_placeOf rfl rfl hL rfl rfl (by omega) (by omega) (by omega) (Nat.le_of_ble_eq_true rfl) ?_
  rintro _ s1 ⟨rfl, hs1⟩; obtain rfl := hs1.symm
  refine zp_getIv dX4_knownHeight_41 fl_X4_98 hp (v := (zI σ 704 P)) rfl ?_
  refine zp_callS (st := []) (mc2 := 0) (ms2 := 0) dX4_knownHeight_44 (c_X4_heightIn l G a n c _ hA hc hC _) cl_X4_101 st_X4_heightIn rfl rfl (by omega) (by omega) (by omega) (Nat.le_of_ble_eq_true rfl) ?_
  rintro _ s1 ⟨rfl, hs1⟩; obtain rfl := hs1.symm
  refine zp_iret rfl dX4_knownHeight_47 ?_
  exact ⟨rfl, rfl⟩
end
