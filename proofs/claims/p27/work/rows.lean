section
-- ===== PART A: goes FIRST, ahead of the names: the tables' words, and 'selects' of the private methods out of them =====
/-- a private method of a class that the tables say can be made, by its rows of tables_1 -/
def lw_okq (q : MethodName × Nat) : Prop := (q.1.cls ≠ "java/lang/invoke/MethodHandle" ∧ q.1.cls ≠ "java/lang/invoke/VarHandle") ∧ Cond.instantiable q.1.cls q.2 ∈ tables_1 ∧ Cond.privateMethod q.1 ∈ tables_1 ∧ Cond.instanceMethod q.1 ∈ tables_1
theorem lw_p0 : lw_okq (⟨"FlowBoxes$Node", "assignRole", "()V"⟩, 20) := ⟨⟨by decide +kernel, by decide +kernel⟩, List.mem_of_getElem? (i := 31) (by decide +kernel), List.mem_of_getElem? (i := 324) (by decide +kernel), List.mem_of_getElem? (i := 325) (by decide +kernel)⟩
theorem lw_p1 : lw_okq (⟨"FlowBoxes$Node", "findKind", "()LFlowBoxes$Kind;"⟩, 20) := ⟨⟨by decide +kernel, by decide +kernel⟩, List.mem_of_getElem? (i := 31) (by decide +kernel), List.mem_of_getElem? (i := 328) (by decide +kernel), List.mem_of_getElem? (i := 329) (by decide +kernel)⟩
theorem lw_p2 : lw_okq (⟨"FlowBoxes$Node", "isText", "()Z"⟩, 20) := ⟨⟨by decide +kernel, by decide +kernel⟩, List.mem_of_getElem? (i := 31) (by decide +kernel), List.mem_of_getElem? (i := 334) (by decide +kernel), List.mem_of_getElem? (i := 335) (by decide +kernel)⟩
theorem lw_p3 : lw_okq (⟨"FlowBoxes$Node", "countsFor", "(I)Z"⟩, 20) := ⟨⟨by decide +kernel, by decide +kernel⟩, List.mem_of_getElem? (i := 31) (by decide +kernel), List.mem_of_getElem? (i := 350) (by decide +kernel), List.mem_of_getElem? (i := 351) (by decide +kernel)⟩
theorem lw_p4 : lw_okq (⟨"FlowBoxes$Node", "isInColumns", "()Z"⟩, 20) := ⟨⟨by decide +kernel, by decide +kernel⟩, List.mem_of_getElem? (i := 31) (by decide +kernel), List.mem_of_getElem? (i := 362) (by decide +kernel), List.mem_of_getElem? (i := 363) (by decide +kernel)⟩
theorem lw_p5 : lw_okq (⟨"FlowBoxes$Node", "countScrollsAround", "()I"⟩, 20) := ⟨⟨by decide +kernel, by decide +kernel⟩, List.mem_of_getElem? (i := 31) (by decide +kernel), List.mem_of_getElem? (i := 366) (by decide +kernel), List.mem_of_getElem? (i := 367) (by decide +kernel)⟩
theorem lw_p6 : lw_okq (⟨"FlowBoxes$Layout", "layAll", "(LFlowBoxes$Node;II)I"⟩, 6) := ⟨⟨by decide +kernel, by decide +kernel⟩, List.mem_of_getElem? (i := 374) (by decide +kernel), List.mem_of_getElem? (i := 495) (by decide +kernel), List.mem_of_getElem? (i := 496) (by decide +kernel)⟩
theorem lw_p7 : lw_okq (⟨"FlowBoxes$Layout", "layOut", "(LFlowBoxes$Node;II)V"⟩, 6) := ⟨⟨by decide +kernel, by decide +kernel⟩, List.mem_of_getElem? (i := 374) (by decide +kernel), List.mem_of_getElem? (i := 499) (by decide +kernel), List.mem_of_getElem? (i := 500) (by decide +kernel)⟩
theorem lw_p8 : lw_okq (⟨"FlowBoxes$Layout", "placeOf", "(LFlowBoxes$Node;)LFlowBoxes$Place;"⟩, 6) := ⟨⟨by decide +kernel, by decide +kernel⟩, List.mem_of_getElem? (i := 374) (by decide +kernel), List.mem_of_getElem? (i := 503) (by decide +kernel), List.mem_of_getElem? (i := 504) (by decide +kernel)⟩
theorem lw_p9 : lw_okq (⟨"FlowBoxes$Layout", "layTable", "(LFlowBoxes$Node;LFlowBoxes$Place;)I"⟩, 6) := ⟨⟨by decide +kernel, by decide +kernel⟩, List.mem_of_getElem? (i := 374) (by decide +kernel), List.mem_of_getElem? (i := 507) (by decide +kernel), List.mem_of_getElem? (i := 508) (by decide +kernel)⟩
theorem lw_p10 : lw_okq (⟨"FlowBoxes$Layout", "placeEvenly", "(LFlowBoxes$Node;II)V"⟩, 6) := ⟨⟨by decide +kernel, by decide +kernel⟩, List.mem_of_getElem? (i := 374) (by decide +kernel), List.mem_of_getElem? (i := 519) (by decide +kernel), List.mem_of_getElem? (i := 520) (by decide +kernel)⟩
theorem lw_p11 : lw_okq (⟨"FlowBoxes$Layout", "placeColumn", "(LFlowBoxes$Node;III)V"⟩, 6) := ⟨⟨by decide +kernel, by decide +kernel⟩, List.mem_of_getElem? (i := 374) (by decide +kernel), List.mem_of_getElem? (i := 523) (by decide +kernel), List.mem_of_getElem? (i := 524) (by decide +kernel)⟩
theorem lw_p12 : lw_okq (⟨"FlowBoxes$Node", "flatEdges", "()I"⟩, 20) := ⟨⟨by decide +kernel, by decide +kernel⟩, List.mem_of_getElem? (i := 31) (by decide +kernel), List.mem_of_getElem? (i := 530) (by decide +kernel), List.mem_of_getElem? (i := 531) (by decide +kernel)⟩
theorem lw_p13 : lw_okq (⟨"FlowBoxes$Layout", "placeByContent", "(LFlowBoxes$Node;II)V"⟩, 6) := ⟨⟨by decide +kernel, by decide +kernel⟩, List.mem_of_getElem? (i := 374) (by decide +kernel), List.mem_of_getElem? (i := 534) (by decide +kernel), List.mem_of_getElem? (i := 535) (by decide +kernel)⟩
theorem lw_p14 : lw_okq (⟨"FlowBoxes$Node", "flatRim", "()I"⟩, 20) := ⟨⟨by decide +kernel, by decide +kernel⟩, List.mem_of_getElem? (i := 31) (by decide +kernel), List.mem_of_getElem? (i := 581) (by decide +kernel), List.mem_of_getElem? (i := 582) (by decide +kernel)⟩
theorem lw_p15 : lw_okq (⟨"FlowBoxes$Kind", "isInLines", "()Z"⟩, 3) := ⟨⟨by decide +kernel, by decide +kernel⟩, List.mem_of_getElem? (i := 590) (by decide +kernel), List.mem_of_getElem? (i := 588) (by decide +kernel), List.mem_of_getElem? (i := 589) (by decide +kernel)⟩
def lw_privs_1 : List (MethodName × Nat) := [(⟨"FlowBoxes$Node", "assignRole", "()V"⟩, 20), (⟨"FlowBoxes$Node", "findKind", "()LFlowBoxes$Kind;"⟩, 20), (⟨"FlowBoxes$Node", "isText", "()Z"⟩, 20), (⟨"FlowBoxes$Node", "countsFor", "(I)Z"⟩, 20), (⟨"FlowBoxes$Node", "isInColumns", "()Z"⟩, 20), (⟨"FlowBoxes$Node", "countScrollsAround", "()I"⟩, 20), (⟨"FlowBoxes$Layout", "layAll", "(LFlowBoxes$Node;II)I"⟩, 6), (⟨"FlowBoxes$Layout", "layOut", "(LFlowBoxes$Node;II)V"⟩, 6), (⟨"FlowBoxes$Layout", "placeOf", "(LFlowBoxes$Node;)LFlowBoxes$Place;"⟩, 6), (⟨"FlowBoxes$Layout", "layTable", "(LFlowBoxes$Node;LFlowBoxes$Place;)I"⟩, 6), (⟨"FlowBoxes$Layout", "placeEvenly", "(LFlowBoxes$Node;II)V"⟩, 6), (⟨"FlowBoxes$Layout", "placeColumn", "(LFlowBoxes$Node;III)V"⟩, 6), (⟨"FlowBoxes$Node", "flatEdges", "()I"⟩, 20), (⟨"FlowBoxes$Layout", "placeByContent", "(LFlowBoxes$Node;II)V"⟩, 6), (⟨"FlowBoxes$Node", "flatRim", "()I"⟩, 20), (⟨"FlowBoxes$Kind", "isInLines", "()Z"⟩, 3)]
theorem lw_r1 : ∀ q ∈ lw_privs_1, lw_okq q := List.forall_mem_cons.mpr ⟨lw_p0, List.forall_mem_cons.mpr ⟨lw_p1, List.forall_mem_cons.mpr ⟨lw_p2, List.forall_mem_cons.mpr ⟨lw_p3, List.forall_mem_cons.mpr ⟨lw_p4, List.forall_mem_cons.mpr ⟨lw_p5, List.forall_mem_cons.mpr ⟨lw_p6, List.forall_mem_cons.mpr ⟨lw_p7, List.forall_mem_cons.mpr ⟨lw_p8, List.forall_mem_cons.mpr ⟨lw_p9, List.forall_mem_cons.mpr ⟨lw_p10, List.forall_mem_cons.mpr ⟨lw_p11, List.forall_mem_cons.mpr ⟨lw_p12, List.forall_mem_cons.mpr ⟨lw_p13, List.forall_mem_cons.mpr ⟨lw_p14, List.forall_mem_cons.mpr ⟨lw_p15, fun _ h => absurd h List.not_mem_nil⟩⟩⟩⟩⟩⟩⟩⟩⟩⟩⟩⟩⟩⟩⟩⟩
theorem lw_p16 : lw_okq (⟨"FlowBoxes$Node", "mayStandInRun", "()Z"⟩, 20) := ⟨⟨by decide +kernel, by decide +kernel⟩, List.mem_of_getElem? (i := 31) (by decide +kernel), List.mem_of_getElem? (i := 599) (by decide +kernel), List.mem_of_getElem? (i := 600) (by decide +kernel)⟩
theorem lw_p17 : lw_okq (⟨"FlowBoxes$Layout", "layRow", "(LFlowBoxes$Node;I)I"⟩, 6) := ⟨⟨by decide +kernel, by decide +kernel⟩, List.mem_of_getElem? (i := 374) (by decide +kernel), List.mem_of_getElem? (i := 621) (by decide +kernel), List.mem_of_getElem? (i := 622) (by decide +kernel)⟩
theorem lw_p18 : lw_okq (⟨"FlowBoxes$Node", "uprightEdges", "()I"⟩, 20) := ⟨⟨by decide +kernel, by decide +kernel⟩, List.mem_of_getElem? (i := 31) (by decide +kernel), List.mem_of_getElem? (i := 629) (by decide +kernel), List.mem_of_getElem? (i := 630) (by decide +kernel)⟩
theorem lw_p19 : lw_okq (⟨"FlowBoxes$Layout", "layWithBars", "(LFlowBoxes$Node;LFlowBoxes$Place;)I"⟩, 6) := ⟨⟨by decide +kernel, by decide +kernel⟩, List.mem_of_getElem? (i := 374) (by decide +kernel), List.mem_of_getElem? (i := 633) (by decide +kernel), List.mem_of_getElem? (i := 634) (by decide +kernel)⟩
theorem lw_p20 : lw_okq (⟨"FlowBoxes$Layout", "flowContext", "(LFlowBoxes$Node;I)I"⟩, 6) := ⟨⟨by decide +kernel, by decide +kernel⟩, List.mem_of_getElem? (i := 374) (by decide +kernel), List.mem_of_getElem? (i := 637) (by decide +kernel), List.mem_of_getElem? (i := 638) (by decide +kernel)⟩
theorem lw_p21 : lw_okq (⟨"FlowBoxes$Layout", "flowOf", "(LFlowBoxes$Node;)LFlowBoxes$Flow;"⟩, 6) := ⟨⟨by decide +kernel, by decide +kernel⟩, List.mem_of_getElem? (i := 374) (by decide +kernel), List.mem_of_getElem? (i := 641) (by decide +kernel), List.mem_of_getElem? (i := 642) (by decide +kernel)⟩
theorem lw_p22 : lw_okq (⟨"FlowBoxes$Flow", "begin", "()V"⟩, 20) := ⟨⟨by decide +kernel, by decide +kernel⟩, List.mem_of_getElem? (i := 381) (by decide +kernel), List.mem_of_getElem? (i := 645) (by decide +kernel), List.mem_of_getElem? (i := 646) (by decide +kernel)⟩
theorem lw_p23 : lw_okq (⟨"FlowBoxes$Layout", "flowContainer", "(LFlowBoxes$Node;LFlowBoxes$Flow;II)V"⟩, 6) := ⟨⟨by decide +kernel, by decide +kernel⟩, List.mem_of_getElem? (i := 374) (by decide +kernel), List.mem_of_getElem? (i := 650) (by decide +kernel), List.mem_of_getElem? (i := 651) (by decide +kernel)⟩
theorem lw_p24 : lw_okq (⟨"FlowBoxes$Layout", "freeLines", "(LFlowBoxes$Place;)V"⟩, 6) := ⟨⟨by decide +kernel, by decide +kernel⟩, List.mem_of_getElem? (i := 374) (by decide +kernel), List.mem_of_getElem? (i := 654) (by decide +kernel), List.mem_of_getElem? (i := 655) (by decide +kernel)⟩
theorem lw_p25 : lw_okq (⟨"FlowBoxes$Layout", "flowLines", "(LFlowBoxes$Node;LFlowBoxes$Flow;LFlowBoxes$Node;LFlowBoxes$Node;)V"⟩, 6) := ⟨⟨by decide +kernel, by decide +kernel⟩, List.mem_of_getElem? (i := 374) (by decide +kernel), List.mem_of_getElem? (i := 665) (by decide +kernel), List.mem_of_getElem? (i := 666) (by decide +kernel)⟩
theorem lw_p26 : lw_okq (⟨"FlowBoxes$Flow", "endMargins", "()V"⟩, 20) := ⟨⟨by decide +kernel, by decide +kernel⟩, List.mem_of_getElem? (i := 381) (by decide +kernel), List.mem_of_getElem? (i := 669) (by decide +kernel), List.mem_of_getElem? (i := 670) (by decide +kernel)⟩
theorem lw_p27 : lw_okq (⟨"FlowBoxes$Flow", "pendingY", "()I"⟩, 20) := ⟨⟨by decide +kernel, by decide +kernel⟩, List.mem_of_getElem? (i := 381) (by decide +kernel), List.mem_of_getElem? (i := 673) (by decide +kernel), List.mem_of_getElem? (i := 674) (by decide +kernel)⟩
theorem lw_p28 : lw_okq (⟨"FlowBoxes$Flow", "dropMargins", "()V"⟩, 20) := ⟨⟨by decide +kernel, by decide +kernel⟩, List.mem_of_getElem? (i := 381) (by decide +kernel), List.mem_of_getElem? (i := 677) (by decide +kernel), List.mem_of_getElem? (i := 678) (by decide +kernel)⟩
theorem lw_p29 : lw_okq (⟨"FlowBoxes$Layout", "addWords", "(LFlowBoxes$Node;LFlowBoxes$Flow;LFlowBoxes$Node;)V"⟩, 6) := ⟨⟨by decide +kernel, by decide +kernel⟩, List.mem_of_getElem? (i := 374) (by decide +kernel), List.mem_of_getElem? (i := 683) (by decide +kernel), List.mem_of_getElem? (i := 684) (by decide +kernel)⟩
theorem lw_p30 : lw_okq (⟨"FlowBoxes$Place", "pieceAt", "(I)LFlowBoxes$Thing;"⟩, 20) := ⟨⟨by decide +kernel, by decide +kernel⟩, List.mem_of_getElem? (i := 40) (by decide +kernel), List.mem_of_getElem? (i := 692) (by decide +kernel), List.mem_of_getElem? (i := 693) (by decide +kernel)⟩
theorem lw_p31 : lw_okq (⟨"FlowBoxes$Layout", "addThing", "(LFlowBoxes$Node;LFlowBoxes$Flow;LFlowBoxes$Thing;LFlowBoxes$Thing;I)V"⟩, 6) := ⟨⟨by decide +kernel, by decide +kernel⟩, List.mem_of_getElem? (i := 374) (by decide +kernel), List.mem_of_getElem? (i := 696) (by decide +kernel), List.mem_of_getElem? (i := 697) (by decide +kernel)⟩
def lw_privs_2 : List (MethodName × Nat) := [(⟨"FlowBoxes$Node", "mayStandInRun", "()Z"⟩, 20), (⟨"FlowBoxes$Layout", "layRow", "(LFlowBoxes$Node;I)I"⟩, 6), (⟨"FlowBoxes$Node", "uprightEdges", "()I"⟩, 20), (⟨"FlowBoxes$Layout", "layWithBars", "(LFlowBoxes$Node;LFlowBoxes$Place;)I"⟩, 6), (⟨"FlowBoxes$Layout", "flowContext", "(LFlowBoxes$Node;I)I"⟩, 6), (⟨"FlowBoxes$Layout", "flowOf", "(LFlowBoxes$Node;)LFlowBoxes$Flow;"⟩, 6), (⟨"FlowBoxes$Flow", "begin", "()V"⟩, 20), (⟨"FlowBoxes$Layout", "flowContainer", "(LFlowBoxes$Node;LFlowBoxes$Flow;II)V"⟩, 6), (⟨"FlowBoxes$Layout", "freeLines", "(LFlowBoxes$Place;)V"⟩, 6), (⟨"FlowBoxes$Layout", "flowLines", "(LFlowBoxes$Node;LFlowBoxes$Flow;LFlowBoxes$Node;LFlowBoxes$Node;)V"⟩, 6), (⟨"FlowBoxes$Flow", "endMargins", "()V"⟩, 20), (⟨"FlowBoxes$Flow", "pendingY", "()I"⟩, 20), (⟨"FlowBoxes$Flow", "dropMargins", "()V"⟩, 20), (⟨"FlowBoxes$Layout", "addWords", "(LFlowBoxes$Node;LFlowBoxes$Flow;LFlowBoxes$Node;)V"⟩, 6), (⟨"FlowBoxes$Place", "pieceAt", "(I)LFlowBoxes$Thing;"⟩, 20), (⟨"FlowBoxes$Layout", "addThing", "(LFlowBoxes$Node;LFlowBoxes$Flow;LFlowBoxes$Thing;LFlowBoxes$Thing;I)V"⟩, 6)]
theorem lw_r2 : ∀ q ∈ lw_privs_2, lw_okq q := List.forall_mem_cons.mpr ⟨lw_p16, List.forall_mem_cons.mpr ⟨lw_p17, List.forall_mem_cons.mpr ⟨lw_p18, List.forall_mem_cons.mpr ⟨lw_p19, List.forall_mem_cons.mpr ⟨lw_p20, List.forall_mem_cons.mpr ⟨lw_p21, List.forall_mem_cons.mpr ⟨lw_p22, List.forall_mem_cons.mpr ⟨lw_p23, List.forall_mem_cons.mpr ⟨lw_p24, List.forall_mem_cons.mpr ⟨lw_p25, List.forall_mem_cons.mpr ⟨lw_p26, List.forall_mem_cons.mpr ⟨lw_p27, List.forall_mem_cons.mpr ⟨lw_p28, List.forall_mem_cons.mpr ⟨lw_p29, List.forall_mem_cons.mpr ⟨lw_p30, List.forall_mem_cons.mpr ⟨lw_p31, fun _ h => absurd h List.not_mem_nil⟩⟩⟩⟩⟩⟩⟩⟩⟩⟩⟩⟩⟩⟩⟩⟩
theorem lw_p32 : lw_okq (⟨"FlowBoxes$Flow", "look", "(II)V"⟩, 20) := ⟨⟨by decide +kernel, by decide +kernel⟩, List.mem_of_getElem? (i := 381) (by decide +kernel), List.mem_of_getElem? (i := 700) (by decide +kernel), List.mem_of_getElem? (i := 701) (by decide +kernel)⟩
theorem lw_p33 : lw_okq (⟨"FlowBoxes$Floated", "reachesInto", "(IIII)Z"⟩, 7) := ⟨⟨by decide +kernel, by decide +kernel⟩, List.mem_of_getElem? (i := 46) (by decide +kernel), List.mem_of_getElem? (i := 705) (by decide +kernel), List.mem_of_getElem? (i := 706) (by decide +kernel)⟩
theorem lw_p34 : lw_okq (⟨"FlowBoxes$Flow", "fits", "(I)Z"⟩, 20) := ⟨⟨by decide +kernel, by decide +kernel⟩, List.mem_of_getElem? (i := 381) (by decide +kernel), List.mem_of_getElem? (i := 710) (by decide +kernel), List.mem_of_getElem? (i := 711) (by decide +kernel)⟩
theorem lw_p35 : lw_okq (⟨"FlowBoxes$Flow", "nextOffset", "()I"⟩, 20) := ⟨⟨by decide +kernel, by decide +kernel⟩, List.mem_of_getElem? (i := 381) (by decide +kernel), List.mem_of_getElem? (i := 714) (by decide +kernel), List.mem_of_getElem? (i := 715) (by decide +kernel)⟩
theorem lw_p36 : lw_okq (⟨"FlowBoxes$Flow", "band", "()I"⟩, 20) := ⟨⟨by decide +kernel, by decide +kernel⟩, List.mem_of_getElem? (i := 381) (by decide +kernel), List.mem_of_getElem? (i := 718) (by decide +kernel), List.mem_of_getElem? (i := 719) (by decide +kernel)⟩
theorem lw_p37 : lw_okq (⟨"FlowBoxes$Layout", "putThing", "(LFlowBoxes$Node;LFlowBoxes$Flow;LFlowBoxes$Thing;)V"⟩, 6) := ⟨⟨by decide +kernel, by decide +kernel⟩, List.mem_of_getElem? (i := 374) (by decide +kernel), List.mem_of_getElem? (i := 722) (by decide +kernel), List.mem_of_getElem? (i := 723) (by decide +kernel)⟩
theorem lw_p38 : lw_okq (⟨"FlowBoxes$Layout", "addLine", "(LFlowBoxes$Place;)LFlowBoxes$Line;"⟩, 6) := ⟨⟨by decide +kernel, by decide +kernel⟩, List.mem_of_getElem? (i := 374) (by decide +kernel), List.mem_of_getElem? (i := 726) (by decide +kernel), List.mem_of_getElem? (i := 727) (by decide +kernel)⟩
theorem lw_p39 : lw_okq (⟨"FlowBoxes$Layout", "endLine", "(LFlowBoxes$Flow;)V"⟩, 6) := ⟨⟨by decide +kernel, by decide +kernel⟩, List.mem_of_getElem? (i := 374) (by decide +kernel), List.mem_of_getElem? (i := 766) (by decide +kernel), List.mem_of_getElem? (i := 767) (by decide +kernel)⟩
theorem lw_p40 : lw_okq (⟨"FlowBoxes$Flow", "reachTo", "(I)V"⟩, 20) := ⟨⟨by decide +kernel, by decide +kernel⟩, List.mem_of_getElem? (i := 381) (by decide +kernel), List.mem_of_getElem? (i := 770) (by decide +kernel), List.mem_of_getElem? (i := 771) (by decide +kernel)⟩
theorem lw_p41 : lw_okq (⟨"FlowBoxes$Layout", "putFloat", "(LFlowBoxes$Node;LFlowBoxes$Flow;I)V"⟩, 6) := ⟨⟨by decide +kernel, by decide +kernel⟩, List.mem_of_getElem? (i := 374) (by decide +kernel), List.mem_of_getElem? (i := 774) (by decide +kernel), List.mem_of_getElem? (i := 775) (by decide +kernel)⟩
theorem lw_p42 : lw_okq (⟨"FlowBoxes$Layout", "knownHeight", "(LFlowBoxes$Node;)I"⟩, 6) := ⟨⟨by decide +kernel, by decide +kernel⟩, List.mem_of_getElem? (i := 374) (by decide +kernel), List.mem_of_getElem? (i := 785) (by decide +kernel), List.mem_of_getElem? (i := 786) (by decide +kernel)⟩
theorem lw_p43 : lw_okq (⟨"FlowBoxes$Node", "uprightRim", "()I"⟩, 20) := ⟨⟨by decide +kernel, by decide +kernel⟩, List.mem_of_getElem? (i := 31) (by decide +kernel), List.mem_of_getElem? (i := 789) (by decide +kernel), List.mem_of_getElem? (i := 790) (by decide +kernel)⟩
theorem lw_p44 : lw_okq (⟨"FlowBoxes$Flow", "floatTop", "(I)I"⟩, 20) := ⟨⟨by decide +kernel, by decide +kernel⟩, List.mem_of_getElem? (i := 381) (by decide +kernel), List.mem_of_getElem? (i := 793) (by decide +kernel), List.mem_of_getElem? (i := 794) (by decide +kernel)⟩
theorem lw_p45 : lw_okq (⟨"FlowBoxes$Flow", "findHeight", "(III)I"⟩, 20) := ⟨⟨by decide +kernel, by decide +kernel⟩, List.mem_of_getElem? (i := 381) (by decide +kernel), List.mem_of_getElem? (i := 797) (by decide +kernel), List.mem_of_getElem? (i := 798) (by decide +kernel)⟩
theorem lw_p46 : lw_okq (⟨"FlowBoxes$Flow", "nextLow", "(I)I"⟩, 20) := ⟨⟨by decide +kernel, by decide +kernel⟩, List.mem_of_getElem? (i := 381) (by decide +kernel), List.mem_of_getElem? (i := 802) (by decide +kernel), List.mem_of_getElem? (i := 803) (by decide +kernel)⟩
theorem lw_p47 : lw_okq (⟨"FlowBoxes$Flow", "addFloat", "(LFlowBoxes$Floated;)V"⟩, 20) := ⟨⟨by decide +kernel, by decide +kernel⟩, List.mem_of_getElem? (i := 381) (by decide +kernel), List.mem_of_getElem? (i := 806) (by decide +kernel), List.mem_of_getElem? (i := 807) (by decide +kernel)⟩
def lw_privs_3 : List (MethodName × Nat) := [(⟨"FlowBoxes$Flow", "look", "(II)V"⟩, 20), (⟨"FlowBoxes$Floated", "reachesInto", "(IIII)Z"⟩, 7), (⟨"FlowBoxes$Flow", "fits", "(I)Z"⟩, 20), (⟨"FlowBoxes$Flow", "nextOffset", "()I"⟩, 20), (⟨"FlowBoxes$Flow", "band", "()I"⟩, 20), (⟨"FlowBoxes$Layout", "putThing", "(LFlowBoxes$Node;LFlowBoxes$Flow;LFlowBoxes$Thing;)V"⟩, 6), (⟨"FlowBoxes$Layout", "addLine", "(LFlowBoxes$Place;)LFlowBoxes$Line;"⟩, 6), (⟨"FlowBoxes$Layout", "endLine", "(LFlowBoxes$Flow;)V"⟩, 6), (⟨"FlowBoxes$Flow", "reachTo", "(I)V"⟩, 20), (⟨"FlowBoxes$Layout", "putFloat", "(LFlowBoxes$Node;LFlowBoxes$Flow;I)V"⟩, 6), (⟨"FlowBoxes$Layout", "knownHeight", "(LFlowBoxes$Node;)I"⟩, 6), (⟨"FlowBoxes$Node", "uprightRim", "()I"⟩, 20), (⟨"FlowBoxes$Flow", "floatTop", "(I)I"⟩, 20), (⟨"FlowBoxes$Flow", "findHeight", "(III)I"⟩, 20), (⟨"FlowBoxes$Flow", "nextLow", "(I)I"⟩, 20), (⟨"FlowBoxes$Flow", "addFloat", "(LFlowBoxes$Floated;)V"⟩, 20)]
theorem lw_r3 : ∀ q ∈ lw_privs_3, lw_okq q := List.forall_mem_cons.mpr ⟨lw_p32, List.forall_mem_cons.mpr ⟨lw_p33, List.forall_mem_cons.mpr ⟨lw_p34, List.forall_mem_cons.mpr ⟨lw_p35, List.forall_mem_cons.mpr ⟨lw_p36, List.forall_mem_cons.mpr ⟨lw_p37, List.forall_mem_cons.mpr ⟨lw_p38, List.forall_mem_cons.mpr ⟨lw_p39, List.forall_mem_cons.mpr ⟨lw_p40, List.forall_mem_cons.mpr ⟨lw_p41, List.forall_mem_cons.mpr ⟨lw_p42, List.forall_mem_cons.mpr ⟨lw_p43, List.forall_mem_cons.mpr ⟨lw_p44, List.forall_mem_cons.mpr ⟨lw_p45, List.forall_mem_cons.mpr ⟨lw_p46, List.forall_mem_cons.mpr ⟨lw_p47, fun _ h => absurd h List.not_mem_nil⟩⟩⟩⟩⟩⟩⟩⟩⟩⟩⟩⟩⟩⟩⟩⟩
theorem lw_p48 : lw_okq (⟨"FlowBoxes$Layout", "addInlineBlock", "(LFlowBoxes$Node;LFlowBoxes$Flow;LFlowBoxes$Node;)V"⟩, 6) := ⟨⟨by decide +kernel, by decide +kernel⟩, List.mem_of_getElem? (i := 374) (by decide +kernel), List.mem_of_getElem? (i := 812) (by decide +kernel), List.mem_of_getElem? (i := 813) (by decide +kernel)⟩
theorem lw_p49 : lw_okq (⟨"FlowBoxes$Layout", "meetFloat", "(LFlowBoxes$Flow;LFlowBoxes$Node;)V"⟩, 6) := ⟨⟨by decide +kernel, by decide +kernel⟩, List.mem_of_getElem? (i := 374) (by decide +kernel), List.mem_of_getElem? (i := 816) (by decide +kernel), List.mem_of_getElem? (i := 817) (by decide +kernel)⟩
theorem lw_p50 : lw_okq (⟨"FlowBoxes$Flow", "addLate", "(LFlowBoxes$Floated;LFlowBoxes$Node;)V"⟩, 20) := ⟨⟨by decide +kernel, by decide +kernel⟩, List.mem_of_getElem? (i := 381) (by decide +kernel), List.mem_of_getElem? (i := 821) (by decide +kernel), List.mem_of_getElem? (i := 822) (by decide +kernel)⟩
theorem lw_p51 : lw_okq (⟨"FlowBoxes$Layout", "meetAbsolute", "(LFlowBoxes$Flow;LFlowBoxes$Node;)V"⟩, 6) := ⟨⟨by decide +kernel, by decide +kernel⟩, List.mem_of_getElem? (i := 374) (by decide +kernel), List.mem_of_getElem? (i := 825) (by decide +kernel), List.mem_of_getElem? (i := 826) (by decide +kernel)⟩
theorem lw_p52 : lw_okq (⟨"FlowBoxes$Layout", "flowWithoutLines", "(LFlowBoxes$Flow;LFlowBoxes$Node;LFlowBoxes$Node;)V"⟩, 6) := ⟨⟨by decide +kernel, by decide +kernel⟩, List.mem_of_getElem? (i := 374) (by decide +kernel), List.mem_of_getElem? (i := 829) (by decide +kernel), List.mem_of_getElem? (i := 830) (by decide +kernel)⟩
theorem lw_p53 : lw_okq (⟨"FlowBoxes$Layout", "flowOutside", "(LFlowBoxes$Node;LFlowBoxes$Flow;)V"⟩, 6) := ⟨⟨by decide +kernel, by decide +kernel⟩, List.mem_of_getElem? (i := 374) (by decide +kernel), List.mem_of_getElem? (i := 833) (by decide +kernel), List.mem_of_getElem? (i := 834) (by decide +kernel)⟩
theorem lw_p54 : lw_okq (⟨"FlowBoxes$Layout", "flowContextBlock", "(LFlowBoxes$Node;LFlowBoxes$Flow;)V"⟩, 6) := ⟨⟨by decide +kernel, by decide +kernel⟩, List.mem_of_getElem? (i := 374) (by decide +kernel), List.mem_of_getElem? (i := 840) (by decide +kernel), List.mem_of_getElem? (i := 841) (by decide +kernel)⟩
theorem lw_p55 : lw_okq (⟨"FlowBoxes$Flow", "pend", "(I)V"⟩, 20) := ⟨⟨by decide +kernel, by decide +kernel⟩, List.mem_of_getElem? (i := 381) (by decide +kernel), List.mem_of_getElem? (i := 844) (by decide +kernel), List.mem_of_getElem? (i := 845) (by decide +kernel)⟩
theorem lw_p56 : lw_okq (⟨"FlowBoxes$Flow", "clearFloats", "(I)V"⟩, 20) := ⟨⟨by decide +kernel, by decide +kernel⟩, List.mem_of_getElem? (i := 381) (by decide +kernel), List.mem_of_getElem? (i := 848) (by decide +kernel), List.mem_of_getElem? (i := 849) (by decide +kernel)⟩
theorem lw_p57 : lw_okq (⟨"FlowBoxes$Layout", "flowPlainBlock", "(LFlowBoxes$Node;LFlowBoxes$Flow;)V"⟩, 6) := ⟨⟨by decide +kernel, by decide +kernel⟩, List.mem_of_getElem? (i := 374) (by decide +kernel), List.mem_of_getElem? (i := 853) (by decide +kernel), List.mem_of_getElem? (i := 854) (by decide +kernel)⟩
theorem lw_p58 : lw_okq (⟨"FlowBoxes$Flow", "contentHeight", "()I"⟩, 20) := ⟨⟨by decide +kernel, by decide +kernel⟩, List.mem_of_getElem? (i := 381) (by decide +kernel), List.mem_of_getElem? (i := 864) (by decide +kernel), List.mem_of_getElem? (i := 865) (by decide +kernel)⟩
theorem lw_p59 : lw_okq (⟨"FlowBoxes$Layout", "layInColumns", "(LFlowBoxes$Node;LFlowBoxes$Place;)I"⟩, 6) := ⟨⟨by decide +kernel, by decide +kernel⟩, List.mem_of_getElem? (i := 374) (by decide +kernel), List.mem_of_getElem? (i := 868) (by decide +kernel), List.mem_of_getElem? (i := 869) (by decide +kernel)⟩
theorem lw_p60 : lw_okq (⟨"FlowBoxes$Layout", "gatherItems", "(LFlowBoxes$Node;)V"⟩, 6) := ⟨⟨by decide +kernel, by decide +kernel⟩, List.mem_of_getElem? (i := 374) (by decide +kernel), List.mem_of_getElem? (i := 872) (by decide +kernel), List.mem_of_getElem? (i := 873) (by decide +kernel)⟩
theorem lw_p61 : lw_okq (⟨"FlowBoxes$Layout", "gatherLines", "(LFlowBoxes$Place;)V"⟩, 6) := ⟨⟨by decide +kernel, by decide +kernel⟩, List.mem_of_getElem? (i := 374) (by decide +kernel), List.mem_of_getElem? (i := 876) (by decide +kernel), List.mem_of_getElem? (i := 877) (by decide +kernel)⟩
theorem lw_p62 : lw_okq (⟨"FlowBoxes$Strip", "add", "(II)V"⟩, 7) := ⟨⟨by decide +kernel, by decide +kernel⟩, List.mem_of_getElem? (i := 292) (by decide +kernel), List.mem_of_getElem? (i := 880) (by decide +kernel), List.mem_of_getElem? (i := 881) (by decide +kernel)⟩
theorem lw_p63 : lw_okq (⟨"FlowBoxes$Thing", "topSide", "()I"⟩, 5) := ⟨⟨by decide +kernel, by decide +kernel⟩, List.mem_of_getElem? (i := 87) (by decide +kernel), List.mem_of_getElem? (i := 887) (by decide +kernel), List.mem_of_getElem? (i := 888) (by decide +kernel)⟩
def lw_privs_4 : List (MethodName × Nat) := [(⟨"FlowBoxes$Layout", "addInlineBlock", "(LFlowBoxes$Node;LFlowBoxes$Flow;LFlowBoxes$Node;)V"⟩, 6), (⟨"FlowBoxes$Layout", "meetFloat", "(LFlowBoxes$Flow;LFlowBoxes$Node;)V"⟩, 6), (⟨"FlowBoxes$Flow", "addLate", "(LFlowBoxes$Floated;LFlowBoxes$Node;)V"⟩, 20), (⟨"FlowBoxes$Layout", "meetAbsolute", "(LFlowBoxes$Flow;LFlowBoxes$Node;)V"⟩, 6), (⟨"FlowBoxes$Layout", "flowWithoutLines", "(LFlowBoxes$Flow;LFlowBoxes$Node;LFlowBoxes$Node;)V"⟩, 6), (⟨"FlowBoxes$Layout", "flowOutside", "(LFlowBoxes$Node;LFlowBoxes$Flow;)V"⟩, 6), (⟨"FlowBoxes$Layout", "flowContextBlock", "(LFlowBoxes$Node;LFlowBoxes$Flow;)V"⟩, 6), (⟨"FlowBoxes$Flow", "pend", "(I)V"⟩, 20), (⟨"FlowBoxes$Flow", "clearFloats", "(I)V"⟩, 20), (⟨"FlowBoxes$Layout", "flowPlainBlock", "(LFlowBoxes$Node;LFlowBoxes$Flow;)V"⟩, 6), (⟨"FlowBoxes$Flow", "contentHeight", "()I"⟩, 20), (⟨"FlowBoxes$Layout", "layInColumns", "(LFlowBoxes$Node;LFlowBoxes$Place;)I"⟩, 6), (⟨"FlowBoxes$Layout", "gatherItems", "(LFlowBoxes$Node;)V"⟩, 6), (⟨"FlowBoxes$Layout", "gatherLines", "(LFlowBoxes$Place;)V"⟩, 6), (⟨"FlowBoxes$Strip", "add", "(II)V"⟩, 7), (⟨"FlowBoxes$Thing", "topSide", "()I"⟩, 5)]
theorem lw_r4 : ∀ q ∈ lw_privs_4, lw_okq q := List.forall_mem_cons.mpr ⟨lw_p48, List.forall_mem_cons.mpr ⟨lw_p49, List.forall_mem_cons.mpr ⟨lw_p50, List.forall_mem_cons.mpr ⟨lw_p51, List.forall_mem_cons.mpr ⟨lw_p52, List.forall_mem_cons.mpr ⟨lw_p53, List.forall_mem_cons.mpr ⟨lw_p54, List.forall_mem_cons.mpr ⟨lw_p55, List.forall_mem_cons.mpr ⟨lw_p56, List.forall_mem_cons.mpr ⟨lw_p57, List.forall_mem_cons.mpr ⟨lw_p58, List.forall_mem_cons.mpr ⟨lw_p59, List.forall_mem_cons.mpr ⟨lw_p60, List.forall_mem_cons.mpr ⟨lw_p61, List.forall_mem_cons.mpr ⟨lw_p62, List.forall_mem_cons.mpr ⟨lw_p63, fun _ h => absurd h List.not_mem_nil⟩⟩⟩⟩⟩⟩⟩⟩⟩⟩⟩⟩⟩⟩⟩⟩
theorem lw_p64 : lw_okq (⟨"FlowBoxes$Strip", "findBreaks", "(I)V"⟩, 7) := ⟨⟨by decide +kernel, by decide +kernel⟩, List.mem_of_getElem? (i := 292) (by decide +kernel), List.mem_of_getElem? (i := 895) (by decide +kernel), List.mem_of_getElem? (i := 896) (by decide +kernel)⟩
theorem lw_p65 : lw_okq (⟨"FlowBoxes$Strip", "addPlace", "(II)V"⟩, 7) := ⟨⟨by decide +kernel, by decide +kernel⟩, List.mem_of_getElem? (i := 292) (by decide +kernel), List.mem_of_getElem? (i := 899) (by decide +kernel), List.mem_of_getElem? (i := 900) (by decide +kernel)⟩
theorem lw_p66 : lw_okq (⟨"FlowBoxes$Strip", "keepWholeItems", "()V"⟩, 7) := ⟨⟨by decide +kernel, by decide +kernel⟩, List.mem_of_getElem? (i := 292) (by decide +kernel), List.mem_of_getElem? (i := 903) (by decide +kernel), List.mem_of_getElem? (i := 904) (by decide +kernel)⟩
theorem lw_p67 : lw_okq (⟨"FlowBoxes$Strip", "leastHeight", "(I)I"⟩, 7) := ⟨⟨by decide +kernel, by decide +kernel⟩, List.mem_of_getElem? (i := 292) (by decide +kernel), List.mem_of_getElem? (i := 908) (by decide +kernel), List.mem_of_getElem? (i := 909) (by decide +kernel)⟩
theorem lw_p68 : lw_okq (⟨"FlowBoxes$Strip", "split", "(I)I"⟩, 7) := ⟨⟨by decide +kernel, by decide +kernel⟩, List.mem_of_getElem? (i := 292) (by decide +kernel), List.mem_of_getElem? (i := 913) (by decide +kernel), List.mem_of_getElem? (i := 914) (by decide +kernel)⟩
theorem lw_p69 : lw_okq (⟨"FlowBoxes$Layout", "moveToColumns", "(LFlowBoxes$Node;I)V"⟩, 6) := ⟨⟨by decide +kernel, by decide +kernel⟩, List.mem_of_getElem? (i := 374) (by decide +kernel), List.mem_of_getElem? (i := 918) (by decide +kernel), List.mem_of_getElem? (i := 919) (by decide +kernel)⟩
theorem lw_p70 : lw_okq (⟨"FlowBoxes$Layout", "moveLines", "(LFlowBoxes$Place;I)V"⟩, 6) := ⟨⟨by decide +kernel, by decide +kernel⟩, List.mem_of_getElem? (i := 374) (by decide +kernel), List.mem_of_getElem? (i := 922) (by decide +kernel), List.mem_of_getElem? (i := 923) (by decide +kernel)⟩
theorem lw_p71 : lw_okq (⟨"FlowBoxes$Strip", "columnAt", "(I)I"⟩, 7) := ⟨⟨by decide +kernel, by decide +kernel⟩, List.mem_of_getElem? (i := 292) (by decide +kernel), List.mem_of_getElem? (i := 926) (by decide +kernel), List.mem_of_getElem? (i := 927) (by decide +kernel)⟩
theorem lw_p72 : lw_okq (⟨"FlowBoxes$Strip", "beginOf", "(I)I"⟩, 7) := ⟨⟨by decide +kernel, by decide +kernel⟩, List.mem_of_getElem? (i := 292) (by decide +kernel), List.mem_of_getElem? (i := 930) (by decide +kernel), List.mem_of_getElem? (i := 931) (by decide +kernel)⟩
theorem lw_p73 : lw_okq (⟨"FlowBoxes$Layout", "layAbsolute", "(LFlowBoxes$Node;)V"⟩, 6) := ⟨⟨by decide +kernel, by decide +kernel⟩, List.mem_of_getElem? (i := 374) (by decide +kernel), List.mem_of_getElem? (i := 934) (by decide +kernel), List.mem_of_getElem? (i := 935) (by decide +kernel)⟩
theorem lw_p74 : lw_okq (⟨"FlowBoxes$Node", "isStack", "()Z"⟩, 20) := ⟨⟨by decide +kernel, by decide +kernel⟩, List.mem_of_getElem? (i := 31) (by decide +kernel), List.mem_of_getElem? (i := 941) (by decide +kernel), List.mem_of_getElem? (i := 942) (by decide +kernel)⟩
theorem lw_p75 : lw_okq (⟨"FlowBoxes$Layout", "settle", "(LFlowBoxes$Node;)V"⟩, 6) := ⟨⟨by decide +kernel, by decide +kernel⟩, List.mem_of_getElem? (i := 374) (by decide +kernel), List.mem_of_getElem? (i := 945) (by decide +kernel), List.mem_of_getElem? (i := 946) (by decide +kernel)⟩
theorem lw_p76 : lw_okq (⟨"FlowBoxes$Layout", "settleAbsolute", "(LFlowBoxes$Node;LFlowBoxes$Place;LFlowBoxes$Place;)V"⟩, 6) := ⟨⟨by decide +kernel, by decide +kernel⟩, List.mem_of_getElem? (i := 374) (by decide +kernel), List.mem_of_getElem? (i := 949) (by decide +kernel), List.mem_of_getElem? (i := 950) (by decide +kernel)⟩
theorem lw_p77 : lw_okq (⟨"FlowBoxes$Layout", "settleInFlow", "(LFlowBoxes$Node;LFlowBoxes$Place;LFlowBoxes$Place;)V"⟩, 6) := ⟨⟨by decide +kernel, by decide +kernel⟩, List.mem_of_getElem? (i := 374) (by decide +kernel), List.mem_of_getElem? (i := 953) (by decide +kernel), List.mem_of_getElem? (i := 954) (by decide +kernel)⟩
theorem lw_p78 : lw_okq (⟨"FlowBoxes$Thing", "leftSide", "()I"⟩, 5) := ⟨⟨by decide +kernel, by decide +kernel⟩, List.mem_of_getElem? (i := 87) (by decide +kernel), List.mem_of_getElem? (i := 963) (by decide +kernel), List.mem_of_getElem? (i := 964) (by decide +kernel)⟩
theorem lw_p79 : lw_okq (⟨"FlowBoxes$Painter", "arrange", "(LFlowBoxes$Node;)V"⟩, 2) := ⟨⟨by decide +kernel, by decide +kernel⟩, List.mem_of_getElem? (i := 480) (by decide +kernel), List.mem_of_getElem? (i := 967) (by decide +kernel), List.mem_of_getElem? (i := 968) (by decide +kernel)⟩
def lw_privs_5 : List (MethodName × Nat) := [(⟨"FlowBoxes$Strip", "findBreaks", "(I)V"⟩, 7), (⟨"FlowBoxes$Strip", "addPlace", "(II)V"⟩, 7), (⟨"FlowBoxes$Strip", "keepWholeItems", "()V"⟩, 7), (⟨"FlowBoxes$Strip", "leastHeight", "(I)I"⟩, 7), (⟨"FlowBoxes$Strip", "split", "(I)I"⟩, 7), (⟨"FlowBoxes$Layout", "moveToColumns", "(LFlowBoxes$Node;I)V"⟩, 6), (⟨"FlowBoxes$Layout", "moveLines", "(LFlowBoxes$Place;I)V"⟩, 6), (⟨"FlowBoxes$Strip", "columnAt", "(I)I"⟩, 7), (⟨"FlowBoxes$Strip", "beginOf", "(I)I"⟩, 7), (⟨"FlowBoxes$Layout", "layAbsolute", "(LFlowBoxes$Node;)V"⟩, 6), (⟨"FlowBoxes$Node", "isStack", "()Z"⟩, 20), (⟨"FlowBoxes$Layout", "settle", "(LFlowBoxes$Node;)V"⟩, 6), (⟨"FlowBoxes$Layout", "settleAbsolute", "(LFlowBoxes$Node;LFlowBoxes$Place;LFlowBoxes$Place;)V"⟩, 6), (⟨"FlowBoxes$Layout", "settleInFlow", "(LFlowBoxes$Node;LFlowBoxes$Place;LFlowBoxes$Place;)V"⟩, 6), (⟨"FlowBoxes$Thing", "leftSide", "()I"⟩, 5), (⟨"FlowBoxes$Painter", "arrange", "(LFlowBoxes$Node;)V"⟩, 2)]
theorem lw_r5 : ∀ q ∈ lw_privs_5, lw_okq q := List.forall_mem_cons.mpr ⟨lw_p64, List.forall_mem_cons.mpr ⟨lw_p65, List.forall_mem_cons.mpr ⟨lw_p66, List.forall_mem_cons.mpr ⟨lw_p67, List.forall_mem_cons.mpr ⟨lw_p68, List.forall_mem_cons.mpr ⟨lw_p69, List.forall_mem_cons.mpr ⟨lw_p70, List.forall_mem_cons.mpr ⟨lw_p71, List.forall_mem_cons.mpr ⟨lw_p72, List.forall_mem_cons.mpr ⟨lw_p73, List.forall_mem_cons.mpr ⟨lw_p74, List.forall_mem_cons.mpr ⟨lw_p75, List.forall_mem_cons.mpr ⟨lw_p76, List.forall_mem_cons.mpr ⟨lw_p77, List.forall_mem_cons.mpr ⟨lw_p78, List.forall_mem_cons.mpr ⟨lw_p79, fun _ h => absurd h List.not_mem_nil⟩⟩⟩⟩⟩⟩⟩⟩⟩⟩⟩⟩⟩⟩⟩⟩
theorem lw_p80 : lw_okq (⟨"FlowBoxes$Painter", "paintStack", "(LFlowBoxes$Node;)V"⟩, 2) := ⟨⟨by decide +kernel, by decide +kernel⟩, List.mem_of_getElem? (i := 480) (by decide +kernel), List.mem_of_getElem? (i := 971) (by decide +kernel), List.mem_of_getElem? (i := 972) (by decide +kernel)⟩
theorem lw_p81 : lw_okq (⟨"FlowBoxes$Painter", "add", "(LFlowBoxes$Node;)V"⟩, 2) := ⟨⟨by decide +kernel, by decide +kernel⟩, List.mem_of_getElem? (i := 480) (by decide +kernel), List.mem_of_getElem? (i := 975) (by decide +kernel), List.mem_of_getElem? (i := 976) (by decide +kernel)⟩
theorem lw_p82 : lw_okq (⟨"FlowBoxes$Painter", "paintStacksIn", "(LFlowBoxes$Node;I)V"⟩, 2) := ⟨⟨by decide +kernel, by decide +kernel⟩, List.mem_of_getElem? (i := 480) (by decide +kernel), List.mem_of_getElem? (i := 979) (by decide +kernel), List.mem_of_getElem? (i := 980) (by decide +kernel)⟩
theorem lw_p83 : lw_okq (⟨"FlowBoxes$Painter", "paintInside", "(LFlowBoxes$Node;)V"⟩, 2) := ⟨⟨by decide +kernel, by decide +kernel⟩, List.mem_of_getElem? (i := 480) (by decide +kernel), List.mem_of_getElem? (i := 985) (by decide +kernel), List.mem_of_getElem? (i := 986) (by decide +kernel)⟩
theorem lw_p84 : lw_okq (⟨"java/lang/Throwable", "fillInStackTrace", "(I)Ljava/lang/Throwable;"⟩, 6) := ⟨⟨by decide +kernel, by decide +kernel⟩, List.mem_of_getElem? (i := 1069) (by decide +kernel), List.mem_of_getElem? (i := 1067) (by decide +kernel), List.mem_of_getElem? (i := 1068) (by decide +kernel)⟩
theorem lw_p85 : lw_okq (⟨"FlowBoxes", "layAgain", "()V"⟩, 10) := ⟨⟨by decide +kernel, by decide +kernel⟩, List.mem_of_getElem? (i := 23) (by decide +kernel), List.mem_of_getElem? (i := 1094) (by decide +kernel), List.mem_of_getElem? (i := 1095) (by decide +kernel)⟩
theorem lw_p86 : lw_okq (⟨"FlowBoxes", "placedAt", "(I)LFlowBoxes$Node;"⟩, 10) := ⟨⟨by decide +kernel, by decide +kernel⟩, List.mem_of_getElem? (i := 23) (by decide +kernel), List.mem_of_getElem? (i := 1144) (by decide +kernel), List.mem_of_getElem? (i := 1145) (by decide +kernel)⟩
theorem lw_p87 : lw_okq (⟨"FlowBoxes", "nodeAt", "(I)LFlowBoxes$Node;"⟩, 10) := ⟨⟨by decide +kernel, by decide +kernel⟩, List.mem_of_getElem? (i := 23) (by decide +kernel), List.mem_of_getElem? (i := 1148) (by decide +kernel), List.mem_of_getElem? (i := 1149) (by decide +kernel)⟩
theorem lw_p88 : lw_okq (⟨"FlowBoxes", "boxAt", "(I)LFlowBoxes$Node;"⟩, 10) := ⟨⟨by decide +kernel, by decide +kernel⟩, List.mem_of_getElem? (i := 23) (by decide +kernel), List.mem_of_getElem? (i := 1217) (by decide +kernel), List.mem_of_getElem? (i := 1218) (by decide +kernel)⟩
theorem lw_p89 : lw_okq (⟨"FlowBoxes$Layout", "forgetAll", "(LFlowBoxes$Node;)V"⟩, 6) := ⟨⟨by decide +kernel, by decide +kernel⟩, List.mem_of_getElem? (i := 374) (by decide +kernel), List.mem_of_getElem? (i := 1225) (by decide +kernel), List.mem_of_getElem? (i := 1226) (by decide +kernel)⟩
theorem lw_p90 : lw_okq (⟨"FlowBoxes$Node", "holdsLines", "()Z"⟩, 20) := ⟨⟨by decide +kernel, by decide +kernel⟩, List.mem_of_getElem? (i := 31) (by decide +kernel), List.mem_of_getElem? (i := 1233) (by decide +kernel), List.mem_of_getElem? (i := 1234) (by decide +kernel)⟩
theorem lw_p91 : lw_okq (⟨"FlowBoxes$Node", "countChildren", "()I"⟩, 20) := ⟨⟨by decide +kernel, by decide +kernel⟩, List.mem_of_getElem? (i := 31) (by decide +kernel), List.mem_of_getElem? (i := 1251) (by decide +kernel), List.mem_of_getElem? (i := 1252) (by decide +kernel)⟩
theorem lw_p92 : lw_okq (⟨"FlowBoxes", "hasRoom", "(LFlowBoxes$Node;)Z"⟩, 10) := ⟨⟨by decide +kernel, by decide +kernel⟩, List.mem_of_getElem? (i := 23) (by decide +kernel), List.mem_of_getElem? (i := 1259) (by decide +kernel), List.mem_of_getElem? (i := 1260) (by decide +kernel)⟩
theorem lw_p93 : lw_okq (⟨"FlowBoxes", "insertNode", "(LFlowBoxes$Node;II)I"⟩, 10) := ⟨⟨by decide +kernel, by decide +kernel⟩, List.mem_of_getElem? (i := 23) (by decide +kernel), List.mem_of_getElem? (i := 1263) (by decide +kernel), List.mem_of_getElem? (i := 1264) (by decide +kernel)⟩
theorem lw_p94 : lw_okq (⟨"FlowBoxes$Node", "putIn", "(LFlowBoxes$Node;I)V"⟩, 20) := ⟨⟨by decide +kernel, by decide +kernel⟩, List.mem_of_getElem? (i := 31) (by decide +kernel), List.mem_of_getElem? (i := 1267) (by decide +kernel), List.mem_of_getElem? (i := 1268) (by decide +kernel)⟩
theorem lw_p95 : lw_okq (⟨"FlowBoxes", "noteChange", "(LFlowBoxes$Node;)V"⟩, 10) := ⟨⟨by decide +kernel, by decide +kernel⟩, List.mem_of_getElem? (i := 23) (by decide +kernel), List.mem_of_getElem? (i := 1271) (by decide +kernel), List.mem_of_getElem? (i := 1272) (by decide +kernel)⟩
def lw_privs_6 : List (MethodName × Nat) := [(⟨"FlowBoxes$Painter", "paintStack", "(LFlowBoxes$Node;)V"⟩, 2), (⟨"FlowBoxes$Painter", "add", "(LFlowBoxes$Node;)V"⟩, 2), (⟨"FlowBoxes$Painter", "paintStacksIn", "(LFlowBoxes$Node;I)V"⟩, 2), (⟨"FlowBoxes$Painter", "paintInside", "(LFlowBoxes$Node;)V"⟩, 2), (⟨"java/lang/Throwable", "fillInStackTrace", "(I)Ljava/lang/Throwable;"⟩, 6), (⟨"FlowBoxes", "layAgain", "()V"⟩, 10), (⟨"FlowBoxes", "placedAt", "(I)LFlowBoxes$Node;"⟩, 10), (⟨"FlowBoxes", "nodeAt", "(I)LFlowBoxes$Node;"⟩, 10), (⟨"FlowBoxes", "boxAt", "(I)LFlowBoxes$Node;"⟩, 10), (⟨"FlowBoxes$Layout", "forgetAll", "(LFlowBoxes$Node;)V"⟩, 6), (⟨"FlowBoxes$Node", "holdsLines", "()Z"⟩, 20), (⟨"FlowBoxes$Node", "countChildren", "()I"⟩, 20), (⟨"FlowBoxes", "hasRoom", "(LFlowBoxes$Node;)Z"⟩, 10), (⟨"FlowBoxes", "insertNode", "(LFlowBoxes$Node;II)I"⟩, 10), (⟨"FlowBoxes$Node", "putIn", "(LFlowBoxes$Node;I)V"⟩, 20), (⟨"FlowBoxes", "noteChange", "(LFlowBoxes$Node;)V"⟩, 10)]
theorem lw_r6 : ∀ q ∈ lw_privs_6, lw_okq q := List.forall_mem_cons.mpr ⟨lw_p80, List.forall_mem_cons.mpr ⟨lw_p81, List.forall_mem_cons.mpr ⟨lw_p82, List.forall_mem_cons.mpr ⟨lw_p83, List.forall_mem_cons.mpr ⟨lw_p84, List.forall_mem_cons.mpr ⟨lw_p85, List.forall_mem_cons.mpr ⟨lw_p86, List.forall_mem_cons.mpr ⟨lw_p87, List.forall_mem_cons.mpr ⟨lw_p88, List.forall_mem_cons.mpr ⟨lw_p89, List.forall_mem_cons.mpr ⟨lw_p90, List.forall_mem_cons.mpr ⟨lw_p91, List.forall_mem_cons.mpr ⟨lw_p92, List.forall_mem_cons.mpr ⟨lw_p93, List.forall_mem_cons.mpr ⟨lw_p94, List.forall_mem_cons.mpr ⟨lw_p95, fun _ h => absurd h List.not_mem_nil⟩⟩⟩⟩⟩⟩⟩⟩⟩⟩⟩⟩⟩⟩⟩⟩
theorem lw_p96 : lw_okq (⟨"FlowBoxes", "textAt", "(I)LFlowBoxes$Node;"⟩, 10) := ⟨⟨by decide +kernel, by decide +kernel⟩, List.mem_of_getElem? (i := 23) (by decide +kernel), List.mem_of_getElem? (i := 1283) (by decide +kernel), List.mem_of_getElem? (i := 1284) (by decide +kernel)⟩
theorem lw_p97 : lw_okq (⟨"FlowBoxes", "noteChangeInside", "(LFlowBoxes$Node;)V"⟩, 10) := ⟨⟨by decide +kernel, by decide +kernel⟩, List.mem_of_getElem? (i := 23) (by decide +kernel), List.mem_of_getElem? (i := 1303) (by decide +kernel), List.mem_of_getElem? (i := 1304) (by decide +kernel)⟩
def lw_privs_7 : List (MethodName × Nat) := [(⟨"FlowBoxes", "textAt", "(I)LFlowBoxes$Node;"⟩, 10), (⟨"FlowBoxes", "noteChangeInside", "(LFlowBoxes$Node;)V"⟩, 10)]
theorem lw_r7 : ∀ q ∈ lw_privs_7, lw_okq q := List.forall_mem_cons.mpr ⟨lw_p96, List.forall_mem_cons.mpr ⟨lw_p97, fun _ h => absurd h List.not_mem_nil⟩⟩
def lw_privs : List (MethodName × Nat) := lw_privs_1 ++ (lw_privs_2 ++ (lw_privs_3 ++ (lw_privs_4 ++ (lw_privs_5 ++ (lw_privs_6 ++ (lw_privs_7))))))
def lw_tbl : List Cond := k2_sels lw_privs ++ tables_1
theorem lw_privs_ok : ∀ q ∈ lw_privs, lw_okq q := by
  show ∀ q ∈ lw_privs_1 ++ (lw_privs_2 ++ (lw_privs_3 ++ (lw_privs_4 ++ (lw_privs_5 ++ (lw_privs_6 ++ (lw_privs_7)))))), lw_okq q
  exact List.forall_mem_append.mpr ⟨lw_r1, List.forall_mem_append.mpr ⟨lw_r2, List.forall_mem_append.mpr ⟨lw_r3, List.forall_mem_append.mpr ⟨lw_r4, List.forall_mem_append.mpr ⟨lw_r5, List.forall_mem_append.mpr ⟨lw_r6, lw_r7⟩⟩⟩⟩⟩⟩
-- ===== end of PART A; then your names; then what follows =====
end
section
def RX0 : String := "FlowBoxes$1"
def TX0 : u_T := fun k => match k with
  | _ => ("", "", "", false)
def tyX0 : Nat → FieldType := fun k => match k with
  | _ => .int
abbrev wsX00 : List Cond := u_ws RX0 TX0 0
theorem nmX0 : ∀ a, a < 0 → ∀ b, b < 0 → a ≠ b → (TX0 a).2.1 ≠ (TX0 b).2.1 := by decide +kernel
theorem tyX0_ok : ∀ k, k < 0 → parseFieldDescriptor (TX0 k).2.2.1 = some (tyX0 k) := by decide +kernel
def RX1 : String := "FlowBoxes$Floated"
def TX1 : u_T := fun k => match k with
  | 0 => ("FlowBoxes$Floated", "left", "I", false)
  | 1 => ("FlowBoxes$Floated", "top", "I", false)
  | 2 => ("FlowBoxes$Floated", "right", "I", false)
  | 3 => ("FlowBoxes$Floated", "low", "I", false)
  | 4 => ("FlowBoxes$Floated", "isLeft", "Z", false)
  | 5 => ("FlowBoxes$Floated", "next", "LFlowBoxes$Floated;", false)
  | _ => ("FlowBoxes$Floated", "waiting", "LFlowBoxes$Node;", false)
def tyX1 : Nat → FieldType := fun k => match k with
  | 0 => .int
  | 1 => .int
  | 2 => .int
  | 3 => .int
  | 4 => .boolean
  | 5 => .object "FlowBoxes$Floated"
  | _ => .object "FlowBoxes$Node"
abbrev wsX10 : List Cond := u_ws RX1 TX1 7
theorem nmX1 : ∀ a, a < 7 → ∀ b, b < 7 → a ≠ b → (TX1 a).2.1 ≠ (TX1 b).2.1 := by decide +kernel
theorem tyX1_ok : ∀ k, k < 7 → parseFieldDescriptor (TX1 k).2.2.1 = some (tyX1 k) := by decide +kernel
abbrev cX1_init : ByteArray := prog_3_method_1_code
def yX1_init : MethodName := ⟨RX1, "<init>", "()V"⟩
abbrev cX1_reachesInto : ByteArray := prog_3_method_2_code
def yX1_reachesInto : MethodName := ⟨RX1, "reachesInto", "(IIII)Z"⟩
def RX2 : String := "FlowBoxes$Flow"
def TX2 : u_T := fun k => match k with
  | 0 => ("FlowBoxes$Flow", "y", "I", false)
  | 1 => ("FlowBoxes$Flow", "above", "I", false)
  | 2 => ("FlowBoxes$Flow", "below", "I", false)
  | 3 => ("FlowBoxes$Flow", "waiting", "LFlowBoxes$Place;", false)
  | 4 => ("FlowBoxes$Flow", "firstFloat", "LFlowBoxes$Floated;", false)
  | 5 => ("FlowBoxes$Flow", "lastFloat", "LFlowBoxes$Floated;", false)
  | 6 => ("FlowBoxes$Flow", "reach", "I", false)
  | 7 => ("FlowBoxes$Flow", "left", "I", false)
  | 8 => ("FlowBoxes$Flow", "wide", "I", false)
  | 9 => ("FlowBoxes$Flow", "bandLeft", "I", false)
  | 10 => ("FlowBoxes$Flow", "bandRight", "I", false)
  | 11 => ("FlowBoxes$Flow", "reached", "Z", false)
  | 12 => ("FlowBoxes$Flow", "line", "LFlowBoxes$Line;", false)
  | 13 => ("FlowBoxes$Flow", "things", "I", false)
  | 14 => ("FlowBoxes$Flow", "filled", "I", false)
  | 15 => ("FlowBoxes$Flow", "ascent", "I", false)
  | 16 => ("FlowBoxes$Flow", "descent", "I", false)
  | 17 => ("FlowBoxes$Flow", "thingReach", "I", false)
  | 18 => ("FlowBoxes$Flow", "firstLate", "LFlowBoxes$Floated;", false)
  | _ => ("FlowBoxes$Flow", "lastLate", "LFlowBoxes$Floated;", false)
def tyX2 : Nat → FieldType := fun k => match k with
  | 0 => .int
  | 1 => .int
  | 2 => .int
  | 3 => .object "FlowBoxes$Place"
  | 4 => .object "FlowBoxes$Floated"
  | 5 => .object "FlowBoxes$Floated"
  | 6 => .int
  | 7 => .int
  | 8 => .int
  | 9 => .int
  | 10 => .int
  | 11 => .boolean
  | 12 => .object "FlowBoxes$Line"
  | 13 => .int
  | 14 => .int
  | 15 => .int
  | 16 => .int
  | 17 => .int
  | 18 => .object "FlowBoxes$Floated"
  | _ => .object "FlowBoxes$Floated"
abbrev wsX20 : List Cond := u_ws RX2 TX2 20
theorem nmX2 : ∀ a, a < 20 → ∀ b, b < 20 → a ≠ b → (TX2 a).2.1 ≠ (TX2 b).2.1 := by decide +kernel
theorem tyX2_ok : ∀ k, k < 20 → parseFieldDescriptor (TX2 k).2.2.1 = some (tyX2 k) := by decide +kernel
abbrev cX2_init : ByteArray := prog_4_method_1_code
def yX2_init : MethodName := ⟨RX2, "<init>", "()V"⟩
abbrev cX2_begin : ByteArray := prog_4_method_2_code
def yX2_begin : MethodName := ⟨RX2, "begin", "()V"⟩
abbrev cX2_pend : ByteArray := prog_4_method_3_code
def yX2_pend : MethodName := ⟨RX2, "pend", "(I)V"⟩
abbrev cX2_pendingY : ByteArray := prog_4_method_4_code
def yX2_pendingY : MethodName := ⟨RX2, "pendingY", "()I"⟩
abbrev cX2_dropMargins : ByteArray := prog_4_method_5_code
def yX2_dropMargins : MethodName := ⟨RX2, "dropMargins", "()V"⟩
abbrev cX2_endMargins : ByteArray := prog_4_method_6_code
def yX2_endMargins : MethodName := ⟨RX2, "endMargins", "()V"⟩
abbrev cX2_clearFloats : ByteArray := prog_4_method_7_code
def yX2_clearFloats : MethodName := ⟨RX2, "clearFloats", "(I)V"⟩
abbrev cX2_reachTo : ByteArray := prog_4_method_8_code
def yX2_reachTo : MethodName := ⟨RX2, "reachTo", "(I)V"⟩
abbrev cX2_look : ByteArray := prog_4_method_9_code
def yX2_look : MethodName := ⟨RX2, "look", "(II)V"⟩
abbrev cX2_band : ByteArray := prog_4_method_10_code
def yX2_band : MethodName := ⟨RX2, "band", "()I"⟩
abbrev cX2_nextLow : ByteArray := prog_4_method_11_code
def yX2_nextLow : MethodName := ⟨RX2, "nextLow", "(I)I"⟩
abbrev cX2_findHeight : ByteArray := prog_4_method_12_code
def yX2_findHeight : MethodName := ⟨RX2, "findHeight", "(III)I"⟩
abbrev cX2_floatTop : ByteArray := prog_4_method_13_code
def yX2_floatTop : MethodName := ⟨RX2, "floatTop", "(I)I"⟩
abbrev cX2_addFloat : ByteArray := prog_4_method_14_code
def yX2_addFloat : MethodName := ⟨RX2, "addFloat", "(LFlowBoxes$Floated;)V"⟩
abbrev cX2_addLate : ByteArray := prog_4_method_15_code
def yX2_addLate : MethodName := ⟨RX2, "addLate", "(LFlowBoxes$Floated;LFlowBoxes$Node;)V"⟩
abbrev cX2_nextOffset : ByteArray := prog_4_method_16_code
def yX2_nextOffset : MethodName := ⟨RX2, "nextOffset", "()I"⟩
abbrev cX2_fits : ByteArray := prog_4_method_17_code
def yX2_fits : MethodName := ⟨RX2, "fits", "(I)Z"⟩
abbrev cX2_contentHeight : ByteArray := prog_4_method_18_code
def yX2_contentHeight : MethodName := ⟨RX2, "contentHeight", "()I"⟩
def RX3 : String := "FlowBoxes$Kind"
def TX3 : u_T := fun k => match k with
  | _ => ("", "", "", false)
def tyX3 : Nat → FieldType := fun k => match k with
  | _ => .int
abbrev wsX30 : List Cond := u_ws RX3 TX3 0
theorem nmX3 : ∀ a, a < 0 → ∀ b, b < 0 → a ≠ b → (TX3 a).2.1 ≠ (TX3 b).2.1 := by decide +kernel
theorem tyX3_ok : ∀ k, k < 0 → parseFieldDescriptor (TX3 k).2.2.1 = some (tyX3 k) := by decide +kernel
abbrev cX3_isInLines : ByteArray := prog_5_method_4_code
def yX3_isInLines : MethodName := ⟨RX3, "isInLines", "()Z"⟩
def RX4 : String := "FlowBoxes$Layout"
def TX4 : u_T := fun k => match k with
  | 0 => ("FlowBoxes$Layout", "isFresh", "Z", true)
  | 1 => ("FlowBoxes$Layout", "strip", "LFlowBoxes$Strip;", true)
  | 2 => ("FlowBoxes$Layout", "flows", "[LFlowBoxes$Flow;", true)
  | 3 => ("FlowBoxes$Layout", "freeLine", "LFlowBoxes$Line;", false)
  | 4 => ("FlowBoxes$Layout", "turn", "I", false)
  | _ => ("FlowBoxes$Layout", "count", "I", false)
def tyX4 : Nat → FieldType := fun k => match k with
  | 0 => .boolean
  | 1 => .object "FlowBoxes$Strip"
  | 2 => .array (.object "FlowBoxes$Flow")
  | 3 => .object "FlowBoxes$Line"
  | 4 => .int
  | _ => .int
abbrev wsX40 : List Cond := u_ws RX4 TX4 6
theorem nmX4 : ∀ a, a < 6 → ∀ b, b < 6 → a ≠ b → (TX4 a).2.1 ≠ (TX4 b).2.1 := by decide +kernel
theorem tyX4_ok : ∀ k, k < 6 → parseFieldDescriptor (TX4 k).2.2.1 = some (tyX4 k) := by decide +kernel
abbrev cX4_init : ByteArray := prog_6_method_1_code
def yX4_init : MethodName := ⟨RX4, "<init>", "(ZLFlowBoxes$Strip;)V"⟩
abbrev cX4_placeOf : ByteArray := prog_6_method_2_code
def yX4_placeOf : MethodName := ⟨RX4, "placeOf", "(LFlowBoxes$Node;)LFlowBoxes$Place;"⟩
abbrev cX4_forgetAll : ByteArray := prog_6_method_3_code
def yX4_forgetAll : MethodName := ⟨RX4, "forgetAll", "(LFlowBoxes$Node;)V"⟩
abbrev cX4_layAll : ByteArray := prog_6_method_4_code
def yX4_layAll : MethodName := ⟨RX4, "layAll", "(LFlowBoxes$Node;II)I"⟩
abbrev cX4_stackAround : ByteArray := prog_6_method_5_code
def yX4_stackAround : MethodName := ⟨RX4, "stackAround", "(LFlowBoxes$Node;)LFlowBoxes$Node;"⟩
abbrev cX4_layAbsolute : ByteArray := prog_6_method_6_code
def yX4_layAbsolute : MethodName := ⟨RX4, "layAbsolute", "(LFlowBoxes$Node;)V"⟩
abbrev cX4_settle : ByteArray := prog_6_method_7_code
def yX4_settle : MethodName := ⟨RX4, "settle", "(LFlowBoxes$Node;)V"⟩
abbrev cX4_settleInFlow : ByteArray := prog_6_method_8_code
def yX4_settleInFlow : MethodName := ⟨RX4, "settleInFlow", "(LFlowBoxes$Node;LFlowBoxes$Place;LFlowBoxes$Place;)V"⟩
abbrev cX4_settleAbsolute : ByteArray := prog_6_method_9_code
def yX4_settleAbsolute : MethodName := ⟨RX4, "settleAbsolute", "(LFlowBoxes$Node;LFlowBoxes$Place;LFlowBoxes$Place;)V"⟩
abbrev cX4_offsetOf : ByteArray := prog_6_method_10_code
def yX4_offsetOf : MethodName := ⟨RX4, "offsetOf", "(I)I"⟩
abbrev cX4_inlineLeft : ByteArray := prog_6_method_11_code
def yX4_inlineLeft : MethodName := ⟨RX4, "inlineLeft", "(LFlowBoxes$Node;LFlowBoxes$Place;)I"⟩
abbrev cX4_inlineTop : ByteArray := prog_6_method_12_code
def yX4_inlineTop : MethodName := ⟨RX4, "inlineTop", "(LFlowBoxes$Node;LFlowBoxes$Place;)I"⟩
abbrev cX4_widthIn : ByteArray := prog_6_method_13_code
def yX4_widthIn : MethodName := ⟨RX4, "widthIn", "(LFlowBoxes$Node;II)I"⟩
abbrev cX4_heightIn : ByteArray := prog_6_method_14_code
def yX4_heightIn : MethodName := ⟨RX4, "heightIn", "(LFlowBoxes$Node;I)I"⟩
abbrev cX4_partOf : ByteArray := prog_6_method_15_code
def yX4_partOf : MethodName := ⟨RX4, "partOf", "(III)I"⟩
abbrev cX4_knownHeight : ByteArray := prog_6_method_16_code
def yX4_knownHeight : MethodName := ⟨RX4, "knownHeight", "(LFlowBoxes$Node;)I"⟩
abbrev cX4_layOut : ByteArray := prog_6_method_17_code
def yX4_layOut : MethodName := ⟨RX4, "layOut", "(LFlowBoxes$Node;II)V"⟩
abbrev cX4_flowOf : ByteArray := prog_6_method_18_code
def yX4_flowOf : MethodName := ⟨RX4, "flowOf", "(LFlowBoxes$Node;)LFlowBoxes$Flow;"⟩
abbrev cX4_flowContext : ByteArray := prog_6_method_19_code
def yX4_flowContext : MethodName := ⟨RX4, "flowContext", "(LFlowBoxes$Node;I)I"⟩
abbrev cX4_layWithBars : ByteArray := prog_6_method_20_code
def yX4_layWithBars : MethodName := ⟨RX4, "layWithBars", "(LFlowBoxes$Node;LFlowBoxes$Place;)I"⟩
abbrev cX4_flowContainer : ByteArray := prog_6_method_21_code
def yX4_flowContainer : MethodName := ⟨RX4, "flowContainer", "(LFlowBoxes$Node;LFlowBoxes$Flow;II)V"⟩
abbrev cX4_flowOutside : ByteArray := prog_6_method_22_code
def yX4_flowOutside : MethodName := ⟨RX4, "flowOutside", "(LFlowBoxes$Node;LFlowBoxes$Flow;)V"⟩
abbrev cX4_flowPlainBlock : ByteArray := prog_6_method_23_code
def yX4_flowPlainBlock : MethodName := ⟨RX4, "flowPlainBlock", "(LFlowBoxes$Node;LFlowBoxes$Flow;)V"⟩
abbrev cX4_endWaitingBlock : ByteArray := prog_6_method_24_code
def yX4_endWaitingBlock : MethodName := ⟨RX4, "endWaitingBlock", "([ILFlowBoxes$Place;LFlowBoxes$Flow;)V"⟩
abbrev cX4_endHeldBlock : ByteArray := prog_6_method_25_code
def yX4_endHeldBlock : MethodName := ⟨RX4, "endHeldBlock", "([ILFlowBoxes$Place;LFlowBoxes$Flow;)V"⟩
abbrev cX4_flowContextBlock : ByteArray := prog_6_method_26_code
def yX4_flowContextBlock : MethodName := ⟨RX4, "flowContextBlock", "(LFlowBoxes$Node;LFlowBoxes$Flow;)V"⟩
abbrev cX4_putFloat : ByteArray := prog_6_method_27_code
def yX4_putFloat : MethodName := ⟨RX4, "putFloat", "(LFlowBoxes$Node;LFlowBoxes$Flow;I)V"⟩
abbrev cX4_hasThings : ByteArray := prog_6_method_28_code
def yX4_hasThings : MethodName := ⟨RX4, "hasThings", "(LFlowBoxes$Node;LFlowBoxes$Node;)Z"⟩
abbrev cX4_flowWithoutLines : ByteArray := prog_6_method_29_code
def yX4_flowWithoutLines : MethodName := ⟨RX4, "flowWithoutLines", "(LFlowBoxes$Flow;LFlowBoxes$Node;LFlowBoxes$Node;)V"⟩
abbrev cX4_flowLines : ByteArray := prog_6_method_30_code
def yX4_flowLines : MethodName := ⟨RX4, "flowLines", "(LFlowBoxes$Node;LFlowBoxes$Flow;LFlowBoxes$Node;LFlowBoxes$Node;)V"⟩
abbrev cX4_shiftOf : ByteArray := prog_6_method_31_code
def yX4_shiftOf : MethodName := ⟨RX4, "shiftOf", "(LFlowBoxes$Node;)I"⟩
abbrev cX4_addWords : ByteArray := prog_6_method_32_code
def yX4_addWords : MethodName := ⟨RX4, "addWords", "(LFlowBoxes$Node;LFlowBoxes$Flow;LFlowBoxes$Node;)V"⟩
abbrev cX4_addInlineBlock : ByteArray := prog_6_method_33_code
def yX4_addInlineBlock : MethodName := ⟨RX4, "addInlineBlock", "(LFlowBoxes$Node;LFlowBoxes$Flow;LFlowBoxes$Node;)V"⟩
abbrev cX4_addThing : ByteArray := prog_6_method_34_code
def yX4_addThing : MethodName := ⟨RX4, "addThing", "(LFlowBoxes$Node;LFlowBoxes$Flow;LFlowBoxes$Thing;LFlowBoxes$Thing;I)V"⟩
abbrev cX4_putThing : ByteArray := prog_6_method_35_code
def yX4_putThing : MethodName := ⟨RX4, "putThing", "(LFlowBoxes$Node;LFlowBoxes$Flow;LFlowBoxes$Thing;)V"⟩
abbrev cX4_endLine : ByteArray := prog_6_method_36_code
def yX4_endLine : MethodName := ⟨RX4, "endLine", "(LFlowBoxes$Flow;)V"⟩
abbrev cX4_meetFloat : ByteArray := prog_6_method_37_code
def yX4_meetFloat : MethodName := ⟨RX4, "meetFloat", "(LFlowBoxes$Flow;LFlowBoxes$Node;)V"⟩
abbrev cX4_meetAbsolute : ByteArray := prog_6_method_38_code
def yX4_meetAbsolute : MethodName := ⟨RX4, "meetAbsolute", "(LFlowBoxes$Flow;LFlowBoxes$Node;)V"⟩
abbrev cX4_addLine : ByteArray := prog_6_method_39_code
def yX4_addLine : MethodName := ⟨RX4, "addLine", "(LFlowBoxes$Place;)LFlowBoxes$Line;"⟩
abbrev cX4_freeLines : ByteArray := prog_6_method_40_code
def yX4_freeLines : MethodName := ⟨RX4, "freeLines", "(LFlowBoxes$Place;)V"⟩
abbrev cX4_layTable : ByteArray := prog_6_method_41_code
def yX4_layTable : MethodName := ⟨RX4, "layTable", "(LFlowBoxes$Node;LFlowBoxes$Place;)I"⟩
abbrev cX4_layRow : ByteArray := prog_6_method_42_code
def yX4_layRow : MethodName := ⟨RX4, "layRow", "(LFlowBoxes$Node;I)I"⟩
abbrev cX4_placeEvenly : ByteArray := prog_6_method_43_code
def yX4_placeEvenly : MethodName := ⟨RX4, "placeEvenly", "(LFlowBoxes$Node;II)V"⟩
abbrev cX4_placeByContent : ByteArray := prog_6_method_44_code
def yX4_placeByContent : MethodName := ⟨RX4, "placeByContent", "(LFlowBoxes$Node;II)V"⟩
abbrev cX4_lackOf : ByteArray := prog_6_method_45_code
def yX4_lackOf : MethodName := ⟨RX4, "lackOf", "(LFlowBoxes$Node;I)I"⟩
abbrev cX4_placeColumn : ByteArray := prog_6_method_46_code
def yX4_placeColumn : MethodName := ⟨RX4, "placeColumn", "(LFlowBoxes$Node;III)V"⟩
abbrev cX4_layInColumns : ByteArray := prog_6_method_47_code
def yX4_layInColumns : MethodName := ⟨RX4, "layInColumns", "(LFlowBoxes$Node;LFlowBoxes$Place;)I"⟩
abbrev cX4_isFlownThrough : ByteArray := prog_6_method_48_code
def yX4_isFlownThrough : MethodName := ⟨RX4, "isFlownThrough", "(LFlowBoxes$Node;)Z"⟩
abbrev cX4_gatherItems : ByteArray := prog_6_method_49_code
def yX4_gatherItems : MethodName := ⟨RX4, "gatherItems", "(LFlowBoxes$Node;)V"⟩
abbrev cX4_gatherLines : ByteArray := prog_6_method_50_code
def yX4_gatherLines : MethodName := ⟨RX4, "gatherLines", "(LFlowBoxes$Place;)V"⟩
abbrev cX4_moveToColumns : ByteArray := prog_6_method_51_code
def yX4_moveToColumns : MethodName := ⟨RX4, "moveToColumns", "(LFlowBoxes$Node;I)V"⟩
abbrev cX4_moveLines : ByteArray := prog_6_method_52_code
def yX4_moveLines : MethodName := ⟨RX4, "moveLines", "(LFlowBoxes$Place;I)V"⟩
def RX5 : String := "FlowBoxes$Line"
def TX5 : u_T := fun k => match k with
  | 0 => ("FlowBoxes$Line", "left", "I", false)
  | 1 => ("FlowBoxes$Line", "top", "I", false)
  | 2 => ("FlowBoxes$Line", "filled", "I", false)
  | 3 => ("FlowBoxes$Line", "high", "I", false)
  | 4 => ("FlowBoxes$Line", "ascent", "I", false)
  | _ => ("FlowBoxes$Line", "next", "LFlowBoxes$Line;", false)
def tyX5 : Nat → FieldType := fun k => match k with
  | 0 => .int
  | 1 => .int
  | 2 => .int
  | 3 => .int
  | 4 => .int
  | _ => .object "FlowBoxes$Line"
abbrev wsX50 : List Cond := u_ws RX5 TX5 6
theorem nmX5 : ∀ a, a < 6 → ∀ b, b < 6 → a ≠ b → (TX5 a).2.1 ≠ (TX5 b).2.1 := by decide +kernel
theorem tyX5_ok : ∀ k, k < 6 → parseFieldDescriptor (TX5 k).2.2.1 = some (tyX5 k) := by decide +kernel
abbrev cX5_init : ByteArray := prog_7_method_1_code
def yX5_init : MethodName := ⟨RX5, "<init>", "()V"⟩
def RX6 : String := "FlowBoxes$Measures"
def TX6 : u_T := fun k => match k with
  | _ => ("", "", "", false)
def tyX6 : Nat → FieldType := fun k => match k with
  | _ => .int
abbrev wsX60 : List Cond := u_ws RX6 TX6 0
theorem nmX6 : ∀ a, a < 0 → ∀ b, b < 0 → a ≠ b → (TX6 a).2.1 ≠ (TX6 b).2.1 := by decide +kernel
theorem tyX6_ok : ∀ k, k < 0 → parseFieldDescriptor (TX6 k).2.2.1 = some (tyX6 k) := by decide +kernel
abbrev cX6_leastOf : ByteArray := prog_8_method_2_code
def yX6_leastOf : MethodName := ⟨RX6, "leastOf", "(LFlowBoxes$Node;)I"⟩
abbrev cX6_mostOf : ByteArray := prog_8_method_3_code
def yX6_mostOf : MethodName := ⟨RX6, "mostOf", "(LFlowBoxes$Node;)I"⟩
abbrev cX6_inColumns : ByteArray := prog_8_method_4_code
def yX6_inColumns : MethodName := ⟨RX6, "inColumns", "(LFlowBoxes$Node;I)I"⟩
abbrev cX6_outerLeast : ByteArray := prog_8_method_5_code
def yX6_outerLeast : MethodName := ⟨RX6, "outerLeast", "(LFlowBoxes$Node;)I"⟩
abbrev cX6_outerMost : ByteArray := prog_8_method_6_code
def yX6_outerMost : MethodName := ⟨RX6, "outerMost", "(LFlowBoxes$Node;)I"⟩
abbrev cX6_leastInside : ByteArray := prog_8_method_7_code
def yX6_leastInside : MethodName := ⟨RX6, "leastInside", "(LFlowBoxes$Node;)I"⟩
abbrev cX6_leastOfWords : ByteArray := prog_8_method_8_code
def yX6_leastOfWords : MethodName := ⟨RX6, "leastOfWords", "(LFlowBoxes$Node;)I"⟩
abbrev cX6_mostInside : ByteArray := prog_8_method_9_code
def yX6_mostInside : MethodName := ⟨RX6, "mostInside", "(LFlowBoxes$Node;)I"⟩
abbrev cX6_mostOfRun : ByteArray := prog_8_method_10_code
def yX6_mostOfRun : MethodName := ⟨RX6, "mostOfRun", "(LFlowBoxes$Node;LFlowBoxes$Node;)I"⟩
abbrev cX6_countColumns : ByteArray := prog_8_method_11_code
def yX6_countColumns : MethodName := ⟨RX6, "countColumns", "(LFlowBoxes$Node;)I"⟩
abbrev cX6_cellAt : ByteArray := prog_8_method_12_code
def yX6_cellAt : MethodName := ⟨RX6, "cellAt", "(LFlowBoxes$Node;I)LFlowBoxes$Node;"⟩
abbrev cX6_leastOfColumn : ByteArray := prog_8_method_13_code
def yX6_leastOfColumn : MethodName := ⟨RX6, "leastOfColumn", "(LFlowBoxes$Node;I)I"⟩
abbrev cX6_mostOfColumn : ByteArray := prog_8_method_14_code
def yX6_mostOfColumn : MethodName := ⟨RX6, "mostOfColumn", "(LFlowBoxes$Node;I)I"⟩
abbrev cX6_leastOfTable : ByteArray := prog_8_method_15_code
def yX6_leastOfTable : MethodName := ⟨RX6, "leastOfTable", "(LFlowBoxes$Node;)I"⟩
abbrev cX6_mostOfTable : ByteArray := prog_8_method_16_code
def yX6_mostOfTable : MethodName := ⟨RX6, "mostOfTable", "(LFlowBoxes$Node;)I"⟩
abbrev cX6_besideEachOther : ByteArray := prog_8_method_17_code
def yX6_besideEachOther : MethodName := ⟨RX6, "besideEachOther", "(LFlowBoxes$Node;III)I"⟩
def RX7 : String := "FlowBoxes$Node"
def TX7 : u_T := fun k => match k with
  | 0 => ("FlowBoxes$Node", "number", "I", true)
  | 1 => ("FlowBoxes$Node", "parent", "LFlowBoxes$Node;", true)
  | 2 => ("FlowBoxes$Node", "depth", "I", true)
  | 3 => ("FlowBoxes$Node", "size", "I", true)
  | 4 => ("FlowBoxes$Node", "styles", "[I", true)
  | 5 => ("FlowBoxes$Node", "counted", "[I", true)
  | 6 => ("FlowBoxes$Node", "lengths", "[I", true)
  | 7 => ("FlowBoxes$Node", "cuts", "[I", true)
  | 8 => ("FlowBoxes$Node", "kept", "LFlowBoxes$Place;", true)
  | 9 => ("FlowBoxes$Node", "fresh", "LFlowBoxes$Place;", true)
  | 10 => ("FlowBoxes$Node", "first", "LFlowBoxes$Node;", false)
  | 11 => ("FlowBoxes$Node", "next", "LFlowBoxes$Node;", false)
  | 12 => ("FlowBoxes$Node", "wordCount", "I", false)
  | 13 => ("FlowBoxes$Node", "changedAt", "I", false)
  | 14 => ("FlowBoxes$Node", "kind", "LFlowBoxes$Kind;", false)
  | 15 => ("FlowBoxes$Node", "isTable", "Z", false)
  | 16 => ("FlowBoxes$Node", "isContext", "Z", false)
  | 17 => ("FlowBoxes$Node", "scrolls", "Z", false)
  | 18 => ("FlowBoxes$Node", "leastWidth", "I", false)
  | _ => ("FlowBoxes$Node", "mostWidth", "I", false)
def tyX7 : Nat → FieldType := fun k => match k with
  | 0 => .int
  | 1 => .object "FlowBoxes$Node"
  | 2 => .int
  | 3 => .int
  | 4 => .array .int
  | 5 => .array .int
  | 6 => .array .int
  | 7 => .array .int
  | 8 => .object "FlowBoxes$Place"
  | 9 => .object "FlowBoxes$Place"
  | 10 => .object "FlowBoxes$Node"
  | 11 => .object "FlowBoxes$Node"
  | 12 => .int
  | 13 => .int
  | 14 => .object "FlowBoxes$Kind"
  | 15 => .boolean
  | 16 => .boolean
  | 17 => .boolean
  | 18 => .int
  | _ => .int
abbrev wsX70 : List Cond := u_ws RX7 TX7 20
theorem nmX7 : ∀ a, a < 20 → ∀ b, b < 20 → a ≠ b → (TX7 a).2.1 ≠ (TX7 b).2.1 := by decide +kernel
theorem tyX7_ok : ∀ k, k < 20 → parseFieldDescriptor (TX7 k).2.2.1 = some (tyX7 k) := by decide +kernel
abbrev cX7_init : ByteArray := prog_9_method_1_code
def yX7_init : MethodName := ⟨RX7, "<init>", "(ILFlowBoxes$Node;I)V"⟩
abbrev cX7_firstValue : ByteArray := prog_9_method_2_code
def yX7_firstValue : MethodName := ⟨RX7, "firstValue", "(I)I"⟩
abbrev cX7_isText : ByteArray := prog_9_method_3_code
def yX7_isText : MethodName := ⟨RX7, "isText", "()Z"⟩
abbrev cX7_holdsLines : ByteArray := prog_9_method_4_code
def yX7_holdsLines : MethodName := ⟨RX7, "holdsLines", "()Z"⟩
abbrev cX7_flatEdges : ByteArray := prog_9_method_5_code
def yX7_flatEdges : MethodName := ⟨RX7, "flatEdges", "()I"⟩
abbrev cX7_uprightEdges : ByteArray := prog_9_method_6_code
def yX7_uprightEdges : MethodName := ⟨RX7, "uprightEdges", "()I"⟩
abbrev cX7_flatRim : ByteArray := prog_9_method_7_code
def yX7_flatRim : MethodName := ⟨RX7, "flatRim", "()I"⟩
abbrev cX7_uprightRim : ByteArray := prog_9_method_8_code
def yX7_uprightRim : MethodName := ⟨RX7, "uprightRim", "()I"⟩
abbrev cX7_countChildren : ByteArray := prog_9_method_9_code
def yX7_countChildren : MethodName := ⟨RX7, "countChildren", "()I"⟩
abbrev cX7_putIn : ByteArray := prog_9_method_10_code
def yX7_putIn : MethodName := ⟨RX7, "putIn", "(LFlowBoxes$Node;I)V"⟩
abbrev cX7_onward : ByteArray := prog_9_method_12_code
def yX7_onward : MethodName := ⟨RX7, "onward", "(LFlowBoxes$Node;LFlowBoxes$Node;Z)LFlowBoxes$Node;"⟩
abbrev cX7_onwardInRun : ByteArray := prog_9_method_13_code
def yX7_onwardInRun : MethodName := ⟨RX7, "onwardInRun", "(LFlowBoxes$Node;LFlowBoxes$Node;)LFlowBoxes$Node;"⟩
abbrev cX7_endOfRun : ByteArray := prog_9_method_14_code
def yX7_endOfRun : MethodName := ⟨RX7, "endOfRun", "(LFlowBoxes$Node;)LFlowBoxes$Node;"⟩
abbrev cX7_mayStandInRun : ByteArray := prog_9_method_15_code
def yX7_mayStandInRun : MethodName := ⟨RX7, "mayStandInRun", "()Z"⟩
abbrev cX7_isStack : ByteArray := prog_9_method_16_code
def yX7_isStack : MethodName := ⟨RX7, "isStack", "()Z"⟩
abbrev cX7_assignRoles : ByteArray := prog_9_method_17_code
def yX7_assignRoles : MethodName := ⟨RX7, "assignRoles", "(LFlowBoxes$Node;)V"⟩
abbrev cX7_assignRole : ByteArray := prog_9_method_18_code
def yX7_assignRole : MethodName := ⟨RX7, "assignRole", "()V"⟩
abbrev cX7_findKind : ByteArray := prog_9_method_19_code
def yX7_findKind : MethodName := ⟨RX7, "findKind", "()LFlowBoxes$Kind;"⟩
abbrev cX7_countsFor : ByteArray := prog_9_method_20_code
def yX7_countsFor : MethodName := ⟨RX7, "countsFor", "(I)Z"⟩
abbrev cX7_isInColumns : ByteArray := prog_9_method_21_code
def yX7_isInColumns : MethodName := ⟨RX7, "isInColumns", "()Z"⟩
abbrev cX7_countScrollsAround : ByteArray := prog_9_method_22_code
def yX7_countScrollsAround : MethodName := ⟨RX7, "countScrollsAround", "()I"⟩
def RX8 : String := "FlowBoxes$Painter"
def TX8 : u_T := fun k => match k with
  | 0 => ("FlowBoxes$Painter", "order", "[LFlowBoxes$Node;", true)
  | _ => ("FlowBoxes$Painter", "count", "I", false)
def tyX8 : Nat → FieldType := fun k => match k with
  | 0 => .array (.object "FlowBoxes$Node")
  | _ => .int
abbrev wsX80 : List Cond := u_ws RX8 TX8 2
theorem nmX8 : ∀ a, a < 2 → ∀ b, b < 2 → a ≠ b → (TX8 a).2.1 ≠ (TX8 b).2.1 := by decide +kernel
theorem tyX8_ok : ∀ k, k < 2 → parseFieldDescriptor (TX8 k).2.2.1 = some (tyX8 k) := by decide +kernel
abbrev cX8_init : ByteArray := prog_10_method_1_code
def yX8_init : MethodName := ⟨RX8, "<init>", "()V"⟩
abbrev cX8_arrange : ByteArray := prog_10_method_3_code
def yX8_arrange : MethodName := ⟨RX8, "arrange", "(LFlowBoxes$Node;)V"⟩
abbrev cX8_add : ByteArray := prog_10_method_4_code
def yX8_add : MethodName := ⟨RX8, "add", "(LFlowBoxes$Node;)V"⟩
abbrev cX8_paintStack : ByteArray := prog_10_method_5_code
def yX8_paintStack : MethodName := ⟨RX8, "paintStack", "(LFlowBoxes$Node;)V"⟩
abbrev cX8_paintStacksIn : ByteArray := prog_10_method_6_code
def yX8_paintStacksIn : MethodName := ⟨RX8, "paintStacksIn", "(LFlowBoxes$Node;I)V"⟩
abbrev cX8_paintInside : ByteArray := prog_10_method_7_code
def yX8_paintInside : MethodName := ⟨RX8, "paintInside", "(LFlowBoxes$Node;)V"⟩
abbrev cX8_stepOf : ByteArray := prog_10_method_8_code
def yX8_stepOf : MethodName := ⟨RX8, "stepOf", "(LFlowBoxes$Node;)I"⟩
def RX9 : String := "FlowBoxes$Place"
def TX9 : u_T := fun k => match k with
  | 0 => ("FlowBoxes$Place", "left", "I", false)
  | 1 => ("FlowBoxes$Place", "top", "I", false)
  | 2 => ("FlowBoxes$Place", "wide", "I", false)
  | 3 => ("FlowBoxes$Place", "high", "I", false)
  | 4 => ("FlowBoxes$Place", "known", "I", false)
  | 5 => ("FlowBoxes$Place", "rootX", "I", false)
  | 6 => ("FlowBoxes$Place", "rootY", "I", false)
  | 7 => ("FlowBoxes$Place", "baseX", "I", false)
  | 8 => ("FlowBoxes$Place", "baseY", "I", false)
  | 9 => ("FlowBoxes$Place", "held", "Z", false)
  | 10 => ("FlowBoxes$Place", "waitingAround", "LFlowBoxes$Place;", false)
  | 11 => ("FlowBoxes$Place", "firstLine", "LFlowBoxes$Line;", false)
  | 12 => ("FlowBoxes$Place", "lastLine", "LFlowBoxes$Line;", false)
  | 13 => ("FlowBoxes$Place", "floated", "LFlowBoxes$Floated;", true)
  | 14 => ("FlowBoxes$Place", "pieces", "[LFlowBoxes$Thing;", true)
  | 15 => ("FlowBoxes$Place", "laidAt", "I", false)
  | 16 => ("FlowBoxes$Place", "toldWidth", "I", false)
  | 17 => ("FlowBoxes$Place", "toldHeight", "I", false)
  | 18 => ("FlowBoxes$Place", "laidHigh", "I", false)
  | _ => ("FlowBoxes$Place", "bars", "I", false)
def tyX9 : Nat → FieldType := fun k => match k with
  | 0 => .int
  | 1 => .int
  | 2 => .int
  | 3 => .int
  | 4 => .int
  | 5 => .int
  | 6 => .int
  | 7 => .int
  | 8 => .int
  | 9 => .boolean
  | 10 => .object "FlowBoxes$Place"
  | 11 => .object "FlowBoxes$Line"
  | 12 => .object "FlowBoxes$Line"
  | 13 => .object "FlowBoxes$Floated"
  | 14 => .array (.object "FlowBoxes$Thing")
  | 15 => .int
  | 16 => .int
  | 17 => .int
  | 18 => .int
  | _ => .int
abbrev wsX90 : List Cond := u_ws RX9 TX9 20
theorem nmX9 : ∀ a, a < 20 → ∀ b, b < 20 → a ≠ b → (TX9 a).2.1 ≠ (TX9 b).2.1 := by decide +kernel
theorem tyX9_ok : ∀ k, k < 20 → parseFieldDescriptor (TX9 k).2.2.1 = some (tyX9 k) := by decide +kernel
abbrev cX9_init : ByteArray := prog_11_method_1_code
def yX9_init : MethodName := ⟨RX9, "<init>", "(I)V"⟩
abbrev cX9_pieceAt : ByteArray := prog_11_method_2_code
def yX9_pieceAt : MethodName := ⟨RX9, "pieceAt", "(I)LFlowBoxes$Thing;"⟩
def RX10 : String := "FlowBoxes$Strip"
def TX10 : u_T := fun k => match k with
  | 0 => ("FlowBoxes$Strip", "tops", "[I", true)
  | 1 => ("FlowBoxes$Strip", "lows", "[I", true)
  | 2 => ("FlowBoxes$Strip", "items", "I", false)
  | 3 => ("FlowBoxes$Strip", "breaks", "[I", true)
  | 4 => ("FlowBoxes$Strip", "breakCount", "I", false)
  | 5 => ("FlowBoxes$Strip", "begins", "[I", true)
  | _ => ("FlowBoxes$Strip", "columns", "I", false)
def tyX10 : Nat → FieldType := fun k => match k with
  | 0 => .array .int
  | 1 => .array .int
  | 2 => .int
  | 3 => .array .int
  | 4 => .int
  | 5 => .array .int
  | _ => .int
abbrev wsX100 : List Cond := u_ws RX10 TX10 7
theorem nmX10 : ∀ a, a < 7 → ∀ b, b < 7 → a ≠ b → (TX10 a).2.1 ≠ (TX10 b).2.1 := by decide +kernel
theorem tyX10_ok : ∀ k, k < 7 → parseFieldDescriptor (TX10 k).2.2.1 = some (tyX10 k) := by decide +kernel
abbrev cX10_init : ByteArray := prog_12_method_1_code
def yX10_init : MethodName := ⟨RX10, "<init>", "()V"⟩
abbrev cX10_add : ByteArray := prog_12_method_2_code
def yX10_add : MethodName := ⟨RX10, "add", "(II)V"⟩
abbrev cX10_addPlace : ByteArray := prog_12_method_3_code
def yX10_addPlace : MethodName := ⟨RX10, "addPlace", "(II)V"⟩
abbrev cX10_findBreaks : ByteArray := prog_12_method_4_code
def yX10_findBreaks : MethodName := ⟨RX10, "findBreaks", "(I)V"⟩
abbrev cX10_keepWholeItems : ByteArray := prog_12_method_5_code
def yX10_keepWholeItems : MethodName := ⟨RX10, "keepWholeItems", "()V"⟩
abbrev cX10_split : ByteArray := prog_12_method_6_code
def yX10_split : MethodName := ⟨RX10, "split", "(I)I"⟩
abbrev cX10_leastHeight : ByteArray := prog_12_method_7_code
def yX10_leastHeight : MethodName := ⟨RX10, "leastHeight", "(I)I"⟩
abbrev cX10_columnAt : ByteArray := prog_12_method_8_code
def yX10_columnAt : MethodName := ⟨RX10, "columnAt", "(I)I"⟩
abbrev cX10_beginOf : ByteArray := prog_12_method_9_code
def yX10_beginOf : MethodName := ⟨RX10, "beginOf", "(I)I"⟩
def RX11 : String := "FlowBoxes$Thing"
def TX11 : u_T := fun k => match k with
  | 0 => ("FlowBoxes$Thing", "line", "LFlowBoxes$Line;", false)
  | 1 => ("FlowBoxes$Thing", "offset", "I", false)
  | 2 => ("FlowBoxes$Thing", "length", "I", false)
  | 3 => ("FlowBoxes$Thing", "ascent", "I", false)
  | _ => ("FlowBoxes$Thing", "descent", "I", false)
def tyX11 : Nat → FieldType := fun k => match k with
  | 0 => .object "FlowBoxes$Line"
  | 1 => .int
  | 2 => .int
  | 3 => .int
  | _ => .int
abbrev wsX110 : List Cond := u_ws RX11 TX11 5
theorem nmX11 : ∀ a, a < 5 → ∀ b, b < 5 → a ≠ b → (TX11 a).2.1 ≠ (TX11 b).2.1 := by decide +kernel
theorem tyX11_ok : ∀ k, k < 5 → parseFieldDescriptor (TX11 k).2.2.1 = some (tyX11 k) := by decide +kernel
abbrev cX11_init : ByteArray := prog_13_method_1_code
def yX11_init : MethodName := ⟨RX11, "<init>", "()V"⟩
abbrev cX11_leftSide : ByteArray := prog_13_method_2_code
def yX11_leftSide : MethodName := ⟨RX11, "leftSide", "()I"⟩
abbrev cX11_topSide : ByteArray := prog_13_method_3_code
def yX11_topSide : MethodName := ⟨RX11, "topSide", "()I"⟩
def RX12 : String := "FlowBoxes"
def TX12 : u_T := fun k => match k with
  | 0 => ("FlowBoxes", "nodes", "[LFlowBoxes$Node;", true)
  | 1 => ("FlowBoxes", "root", "LFlowBoxes$Node;", true)
  | 2 => ("FlowBoxes", "kept", "LFlowBoxes$Layout;", true)
  | 3 => ("FlowBoxes", "fresh", "LFlowBoxes$Layout;", true)
  | 4 => ("FlowBoxes", "painter", "LFlowBoxes$Painter;", true)
  | 5 => ("FlowBoxes", "made", "I", false)
  | 6 => ("FlowBoxes", "pageWidth", "I", false)
  | 7 => ("FlowBoxes", "turn", "I", false)
  | 8 => ("FlowBoxes", "workDone", "I", false)
  | _ => ("FlowBoxes", "latestWork", "I", false)
def tyX12 : Nat → FieldType := fun k => match k with
  | 0 => .array (.object "FlowBoxes$Node")
  | 1 => .object "FlowBoxes$Node"
  | 2 => .object "FlowBoxes$Layout"
  | 3 => .object "FlowBoxes$Layout"
  | 4 => .object "FlowBoxes$Painter"
  | 5 => .int
  | 6 => .int
  | 7 => .int
  | 8 => .int
  | _ => .int
abbrev wsX120 : List Cond := u_ws RX12 TX12 10
theorem nmX12 : ∀ a, a < 10 → ∀ b, b < 10 → a ≠ b → (TX12 a).2.1 ≠ (TX12 b).2.1 := by decide +kernel
theorem tyX12_ok : ∀ k, k < 10 → parseFieldDescriptor (TX12 k).2.2.1 = some (tyX12 k) := by decide +kernel
abbrev cX12_init : ByteArray := prog_1_method_1_code
def yX12_init : MethodName := ⟨RX12, "<init>", "()V"⟩
abbrev cX12_box : ByteArray := prog_1_method_2_code
def yX12_box : MethodName := ⟨RX12, "box", "(II)I"⟩
abbrev cX12_text : ByteArray := prog_1_method_3_code
def yX12_text : MethodName := ⟨RX12, "text", "(III)I"⟩
abbrev cX12_word : ByteArray := prog_1_method_4_code
def yX12_word : MethodName := ⟨RX12, "word", "(III)I"⟩
abbrev cX12_children : ByteArray := prog_1_method_7_code
def yX12_children : MethodName := ⟨RX12, "children", "(I)I"⟩
abbrev cX12_style : ByteArray := prog_1_method_8_code
def yX12_style : MethodName := ⟨RX12, "style", "(III)I"⟩
abbrev cX12_page : ByteArray := prog_1_method_9_code
def yX12_page : MethodName := ⟨RX12, "page", "(I)I"⟩
abbrev cX12_x : ByteArray := prog_1_method_10_code
def yX12_x : MethodName := ⟨RX12, "x", "(I)I"⟩
abbrev cX12_y : ByteArray := prog_1_method_11_code
def yX12_y : MethodName := ⟨RX12, "y", "(I)I"⟩
abbrev cX12_width : ByteArray := prog_1_method_12_code
def yX12_width : MethodName := ⟨RX12, "width", "(I)I"⟩
abbrev cX12_height : ByteArray := prog_1_method_13_code
def yX12_height : MethodName := ⟨RX12, "height", "(I)I"⟩
abbrev cX12_fromNothing : ByteArray := prog_1_method_14_code
def yX12_fromNothing : MethodName := ⟨RX12, "fromNothing", "(II)I"⟩
abbrev cX12_bars : ByteArray := prog_1_method_17_code
def yX12_bars : MethodName := ⟨RX12, "bars", "(I)I"⟩
abbrev cX12_lines : ByteArray := prog_1_method_18_code
def yX12_lines : MethodName := ⟨RX12, "lines", "(I)I"⟩
abbrev cX12_line : ByteArray := prog_1_method_19_code
def yX12_line : MethodName := ⟨RX12, "line", "(III)I"⟩
abbrev cX12_painted : ByteArray := prog_1_method_21_code
def yX12_painted : MethodName := ⟨RX12, "painted", "()I"⟩
abbrev cX12_nodeAt : ByteArray := prog_1_method_26_code
def yX12_nodeAt : MethodName := ⟨RX12, "nodeAt", "(I)LFlowBoxes$Node;"⟩
abbrev cX12_boxAt : ByteArray := prog_1_method_27_code
def yX12_boxAt : MethodName := ⟨RX12, "boxAt", "(I)LFlowBoxes$Node;"⟩
abbrev cX12_textAt : ByteArray := prog_1_method_28_code
def yX12_textAt : MethodName := ⟨RX12, "textAt", "(I)LFlowBoxes$Node;"⟩
abbrev cX12_placedAt : ByteArray := prog_1_method_29_code
def yX12_placedAt : MethodName := ⟨RX12, "placedAt", "(I)LFlowBoxes$Node;"⟩
abbrev cX12_lineAt : ByteArray := prog_1_method_31_code
def yX12_lineAt : MethodName := ⟨RX12, "lineAt", "(LFlowBoxes$Node;I)LFlowBoxes$Line;"⟩
abbrev cX12_hasRoom : ByteArray := prog_1_method_32_code
def yX12_hasRoom : MethodName := ⟨RX12, "hasRoom", "(LFlowBoxes$Node;)Z"⟩
abbrev cX12_insertNode : ByteArray := prog_1_method_33_code
def yX12_insertNode : MethodName := ⟨RX12, "insertNode", "(LFlowBoxes$Node;II)I"⟩
abbrev cX12_allows : ByteArray := prog_1_method_34_code
def yX12_allows : MethodName := ⟨RX12, "allows", "(II)Z"⟩
abbrev cX12_isPercentage : ByteArray := prog_1_method_35_code
def yX12_isPercentage : MethodName := ⟨RX12, "isPercentage", "(I)Z"⟩
abbrev cX12_reachesInside : ByteArray := prog_1_method_36_code
def yX12_reachesInside : MethodName := ⟨RX12, "reachesInside", "(I)Z"⟩
abbrev cX12_noteChange : ByteArray := prog_1_method_37_code
def yX12_noteChange : MethodName := ⟨RX12, "noteChange", "(LFlowBoxes$Node;)V"⟩
abbrev cX12_noteChangeInside : ByteArray := prog_1_method_38_code
def yX12_noteChangeInside : MethodName := ⟨RX12, "noteChangeInside", "(LFlowBoxes$Node;)V"⟩
abbrev cX12_layAgain : ByteArray := prog_1_method_39_code
def yX12_layAgain : MethodName := ⟨RX12, "layAgain", "()V"⟩
abbrev cX12_sideOf : ByteArray := prog_1_method_40_code
def yX12_sideOf : MethodName := ⟨RX12, "sideOf", "(LFlowBoxes$Node;ILFlowBoxes$Layout;)I"⟩
abbrev cX12_pieceSide : ByteArray := prog_1_method_41_code
def yX12_pieceSide : MethodName := ⟨RX12, "pieceSide", "(LFlowBoxes$Node;IILFlowBoxes$Layout;)I"⟩
def RX13 : String := "FlowBoxesModel$Flow"
def TX13 : u_T := fun k => match k with
  | _ => ("", "", "", false)
def tyX13 : Nat → FieldType := fun k => match k with
  | _ => .int
abbrev wsX130 : List Cond := u_ws RX13 TX13 0
theorem nmX13 : ∀ a, a < 0 → ∀ b, b < 0 → a ≠ b → (TX13 a).2.1 ≠ (TX13 b).2.1 := by decide +kernel
theorem tyX13_ok : ∀ k, k < 0 → parseFieldDescriptor (TX13 k).2.2.1 = some (tyX13 k) := by decide +kernel
def RX14 : String := "FlowBoxesModel$Lines"
def TX14 : u_T := fun k => match k with
  | _ => ("", "", "", false)
def tyX14 : Nat → FieldType := fun k => match k with
  | _ => .int
abbrev wsX140 : List Cond := u_ws RX14 TX14 0
theorem nmX14 : ∀ a, a < 0 → ∀ b, b < 0 → a ≠ b → (TX14 a).2.1 ≠ (TX14 b).2.1 := by decide +kernel
theorem tyX14_ok : ∀ k, k < 0 → parseFieldDescriptor (TX14 k).2.2.1 = some (tyX14 k) := by decide +kernel
def RX15 : String := "FlowBoxesModel"
def TX15 : u_T := fun k => match k with
  | _ => ("", "", "", false)
def tyX15 : Nat → FieldType := fun k => match k with
  | _ => .int
abbrev wsX150 : List Cond := u_ws RX15 TX15 0
theorem nmX15 : ∀ a, a < 0 → ∀ b, b < 0 → a ≠ b → (TX15 a).2.1 ≠ (TX15 b).2.1 := by decide +kernel
theorem tyX15_ok : ∀ k, k < 0 → parseFieldDescriptor (TX15 k).2.2.1 = some (tyX15 k) := by decide +kernel
def RJx29ce0 : String := "java/lang/Enum"
abbrev cJx29ce0_ordinal_8abf5 : ByteArray := prog_18_method_2_code
def yJx29ce0_ordinal_8abf5 : MethodName := ⟨RJx29ce0, "ordinal", "()I"⟩
def RL : String := "FlowBoxesLaw"
abbrev cL_cell : ByteArray := method_2_code
def yL_cell : MethodName := ⟨RL, "cell", "([II)I"⟩
abbrev cL_low : ByteArray := method_3_code
def yL_low : MethodName := ⟨RL, "low", "(II)I"⟩
abbrev cL_pends : ByteArray := method_4_code
def yL_pends : MethodName := ⟨RL, "pends", "(I[I)V"⟩
abbrev cL_ends : ByteArray := method_5_code
def yL_ends : MethodName := ⟨RL, "ends", "([I[I)V"⟩
abbrev cL_next : ByteArray := method_6_code
def yL_next : MethodName := ⟨RL, "next", "(II[I[I)I"⟩
abbrev cL_known : ByteArray := method_7_code
def yL_known : MethodName := ⟨RL, "known", "(I[I[I[I)I"⟩
abbrev cL_inside : ByteArray := method_8_code
def yL_inside : MethodName := ⟨RL, "inside", "(I[I[I)I"⟩
abbrev cL_enters : ByteArray := method_9_code
def yL_enters : MethodName := ⟨RL, "enters", "(I[I[I[I[I[I[I[I)V"⟩
abbrev cL_leaves : ByteArray := method_10_code
def yL_leaves : MethodName := ⟨RL, "leaves", "(I[I[I[I[I[I)V"⟩
abbrev cL_shuts : ByteArray := method_11_code
def yL_shuts : MethodName := ⟨RL, "shuts", "(IIII[I[I)V"⟩
abbrev cL_runs : ByteArray := method_12_code
def yL_runs : MethodName := ⟨RL, "runs", "(II[I[I[I[I[I[I)I"⟩
abbrev cL_lays : ByteArray := method_13_code
def yL_lays : MethodName := ⟨RL, "lays", "([I[I[I[I[I[I[I[I[I)V"⟩
abbrev cL_same : ByteArray := method_14_code
def yL_same : MethodName := ⟨RL, "same", "(LFlowBoxes;[I[I[I[I[I)Z"⟩
abbrev cL_makes : ByteArray := method_15_code
def yL_makes : MethodName := ⟨RL, "makes", "(LFlowBoxes;I[I[I[I[I)Z"⟩
abbrev cL_styles : ByteArray := method_16_code
def yL_styles : MethodName := ⟨RL, "styles", "(LFlowBoxes;I[I[I[I[I[I)Z"⟩
abbrev cL_law : ByteArray := code
def yL_law : MethodName := ⟨RL, "law", "([I)Z"⟩
end
section
/-! THE STORE: what lies in the heap, by kind of cell, field and address; a method's walk (Wp) and contract (Ct) over it. -/
abbrev Sto : Type := (Nat → Nat × Nat) × (Nat → Nat → Int32) × (Nat → Nat → Option Nat) × (Nat → Nat → Int32) × (Nat → Nat → Option Nat)
/-- the kind of the cell a: 0 none; 1 to 10 an object; 20 int[]; 21 to 23 an array of references; 25 an int[] that is only read; 30 a constant of Kind; and its length (or number) -/
def zT (σ : Sto) (a : Nat) : Nat × Nat := σ.1 a
def zI (σ : Sto) (f a : Nat) : Int32 := σ.2.1 f a
def zR (σ : Sto) (f a : Nat) : Option Nat := σ.2.2.1 f a
def zA (σ : Sto) (a i : Nat) : Int32 := σ.2.2.2.1 a i
def zQ (σ : Sto) (a i : Nat) : Option Nat := σ.2.2.2.2 a i
def wI (σ : Sto) (f a : Nat) (x : Int32) : Sto := (σ.1, fun f' a' => if f' = f ∧ a' = a then x else σ.2.1 f' a', σ.2.2)
def wR (σ : Sto) (f a : Nat) (x : Option Nat) : Sto := (σ.1, σ.2.1, fun f' a' => if f' = f ∧ a' = a then x else σ.2.2.1 f' a', σ.2.2.2)
def wA (σ : Sto) (a i : Nat) (x : Int32) : Sto := (σ.1, σ.2.1, σ.2.2.1, fun a' i' => if a' = a ∧ i' = i then x else σ.2.2.2.1 a' i', σ.2.2.2.2)
def wQ (σ : Sto) (a i : Nat) (x : Option Nat) : Sto := (σ.1, σ.2.1, σ.2.2.1, σ.2.2.2.1, fun a' i' => if a' = a ∧ i' = i then x else σ.2.2.2.2 a' i')
def wT (σ : Sto) (a : Nat) (t : Nat × Nat) : Sto := (fun a' => if a' = a then t else σ.1 a', σ.2)
theorem zT_wI {σ f a x b} : zT (wI σ f a x) b = zT σ b := rfl
theorem zT_wR {σ f a x b} : zT (wR σ f a x) b = zT σ b := rfl
theorem zT_wA {σ f a x b} : zT (wA σ f a x) b = zT σ b := rfl
theorem zT_wQ {σ f a x b} : zT (wQ σ f a x) b = zT σ b := rfl
theorem zT_wT {σ a t b} : zT (wT σ a t) b = if b = a then t else zT σ b := rfl
theorem zI_wI {σ f a x g b} : zI (wI σ f a x) g b = if g = f ∧ b = a then x else zI σ g b := rfl
theorem zI_wR {σ f a x g b} : zI (wR σ f a x) g b = zI σ g b := rfl
theorem zI_wA {σ f a x g b} : zI (wA σ f a x) g b = zI σ g b := rfl
theorem zI_wQ {σ f a x g b} : zI (wQ σ f a x) g b = zI σ g b := rfl
theorem zI_wT {σ a t g b} : zI (wT σ a t) g b = zI σ g b := rfl
theorem zR_wI {σ f a x g b} : zR (wI σ f a x) g b = zR σ g b := rfl
theorem zR_wR {σ f a x g b} : zR (wR σ f a x) g b = if g = f ∧ b = a then x else zR σ g b := rfl
theorem zR_wA {σ f a x g b} : zR (wA σ f a x) g b = zR σ g b := rfl
theorem zR_wQ {σ f a x g b} : zR (wQ σ f a x) g b = zR σ g b := rfl
theorem zR_wT {σ a t g b} : zR (wT σ a t) g b = zR σ g b := rfl
theorem zA_wI {σ f a x b i} : zA (wI σ f a x) b i = zA σ b i := rfl
theorem zA_wR {σ f a x b i} : zA (wR σ f a x) b i = zA σ b i := rfl
theorem zA_wA {σ a j x b i} : zA (wA σ a j x) b i = if b = a ∧ i = j then x else zA σ b i := rfl
theorem zA_wQ {σ a j x b i} : zA (wQ σ a j x) b i = zA σ b i := rfl
theorem zA_wT {σ a t b i} : zA (wT σ a t) b i = zA σ b i := rfl
theorem zQ_wI {σ f a x b i} : zQ (wI σ f a x) b i = zQ σ b i := rfl
theorem zQ_wR {σ f a x b i} : zQ (wR σ f a x) b i = zQ σ b i := rfl
theorem zQ_wA {σ a j x b i} : zQ (wA σ a j x) b i = zQ σ b i := rfl
theorem zQ_wQ {σ a j x b i} : zQ (wQ σ a j x) b i = if b = a ∧ i = j then x else zQ σ b i := rfl
theorem zQ_wT {σ a t b i} : zQ (wT σ a t) b i = zQ σ b i := rfl
/-- the classes whose objects lie in the store; the kind of an object is its place here and 1 -/
def zcl : List vw_C := [(RX1, TX1, 7), (RX2, TX2, 20), (RX4, TX4, 6), (RX5, TX5, 6), (RX7, TX7, 20), (RX8, TX8, 2), (RX9, TX9, 20), (RX10, TX10, 7), (RX11, TX11, 5), (RX12, TX12, 10)]
/-- is the field 100 * kind + slot one of references? -/
def zref (f : Nat) : Bool := match zcl[f / 100 - 1]? with
  | some r => match parseFieldDescriptor (r.2.1 (f % 100)).2.2.1 with
    | some .int => false
    | some .boolean => false
    | _ => true
  | none => false
def zval (b : Bool) (σ : Sto) (f a : Nat) : Value := match b with
  | true => va_rf (zR σ f a)
  | false => .int (zI σ f a)
def zV (σ : Sto) (c a k : Nat) : Value := zval (zref (100 * c + k)) σ (100 * c + k) a
/-- fixed for a whole script: the tables' numbers; the first address that is the script's run's own; the constants of Kind; the switch's array; the classes of arrays -/
abbrev Gb : Type := va_G × Nat × (Nat → Nat) × Nat × (Nat → ClassId)
def gP (G : Gb) : Nat → Prop := fun q => G.2.1 ≤ q
def gwl : List Cond := lw_tbl.filter goodWord
def isNW (w : Cond) : Bool := match w with
  | .fieldLinkNest .. => true
  | .methodLinkNest .. => true
  | _ => false
def gnl : List Cond := lw_tbl.filter isNW
def ztys (G : Gb) : List (ClassId × FieldType) := [(G.2.2.2.2 0, .int), (G.2.2.2.2 1, .object "FlowBoxes$Node"), (G.2.2.2.2 2, .object "FlowBoxes$Flow"), (G.2.2.2.2 3, .object "FlowBoxes$Thing")]
def znm : List String := ["BLOCK", "SPAN", "INLINE", "ROW", "CELL", "FLOATING", "ABSOLUTE", "TEXT", "OUT"]
def zen : List (String × String × String × List Int32) := [("java/lang/Enum", "ordinal", "I", [0, 1, 2, 3, 4, 5, 6, 7, 8])]
/-- what the tables and the statics give, in any state of the run -/
def zK (G : Gb) (U : State) (H : Heap) : Prop :=
  va_K G.1 zcl (ztys G) U ∧ (∀ w ∈ gnl, va_Nw w U) ∧ (va_AO "FlowBoxes$Node" U ∧ va_AO "FlowBoxes$Flow" U ∧ va_AO "FlowBoxes$Thing" U) ∧
  va_En RX3 "LFlowBoxes$Kind;" znm zen G.2.2.1 (gP G) U H ∧ va_Z RX0 "$SwitchMap$FlowBoxes$Kind" "[I" (.ref G.2.2.2.1) (gP G) U H ∧ G.2.1 ≤ H.size
def zP0 (σ : Sto) : Prop := ∀ a, (zT σ a).1 = 0 → (∀ f, zI σ f a = 0 ∧ zR σ f a = none) ∧ (∀ i, zA σ a i = 0 ∧ zQ σ a i = none)
def zP1 (G : Gb) (σ : Sto) (H : Heap) : Prop := ∀ a c n, zT σ a = (c + 1, n) → c < 10 → G.2.1 ≤ a ∧ ∃ r : vw_C, zcl[c]? = some r ∧ t_OB a (G.1.1 c) r.2.2 (G.1.2 c) H (zV σ (c + 1) a)
def zP2 (G : Gb) (σ : Sto) (H : Heap) : Prop := ∀ a n, zT σ a = (20, n) → G.2.1 ≤ a ∧ H[a]? = some (arrV (G.2.2.2.2 0) n (fun j => .int (zA σ a j)))
def zP3 (G : Gb) (σ : Sto) (H : Heap) : Prop := ∀ a j n, zT σ a = (21 + j, n) → j < 3 → G.2.1 ≤ a ∧ H[a]? = some (arrV (G.2.2.2.2 (j + 1)) n (fun i => va_rf (zQ σ a i)))
def zP4 (G : Gb) (σ : Sto) (U : State) (H : Heap) : Prop := ∀ a n, zT σ a = (25, n) → a < G.2.1 ∧ va_X a n (fun j => zA σ a j) U H
def zP5 (G : Gb) (σ : Sto) : Prop := ∀ a n, zT σ a = (30, n) → n < 9 ∧ a = G.2.2.1 n
def zP6 (σ : Sto) (H : Heap) : Prop := ∀ a, (zT σ a).1 ≠ 0 → a < H.size
/-- the heap holds the store -/
def zP (G : Gb) (σ : Sto) (U : State) (H : Heap) : Prop := zP0 σ ∧ zP1 G σ H ∧ zP2 G σ H ∧ zP3 G σ H ∧ zP4 G σ U H ∧ zP5 G σ ∧ zP6 σ H
theorem zK.warm {G : Gb} {u U : State} {H : Heap} (hW : u.WarmedH U.vm) (h : zK G u H) : zK G U H := by
  obtain ⟨h1, h2, h3, h4, h5, h6⟩ := h
  refine ⟨va_K.moved hW.alike h1, fun w hw => ?_, ⟨h3.1.moved hW.alike, h3.2.1.moved hW.alike, h3.2.2.moved hW.alike⟩, va_En.moved hW.alike h4, va_Z.moved hW.alike h5, h6⟩
  have hn := (List.mem_filter.mp hw).2
  cases w <;> first | exact va_Nw.warmF hW (h2 _ hw) | exact va_Nw.warmM hW (h2 _ hw) | exact absurd hn (by simp [isNW])
theorem zK.kept {G : Gb} {U : State} {H H1 : Heap} (h : zK G U H) (hz : H.size ≤ H1.size) (hq : ∀ a : Nat, a < H.size → ¬ gP G a → H1[a]? = H[a]?) : zK G U H1 := by
  obtain ⟨h1, h2, h3, h4, h5, h6⟩ := h
  exact ⟨h1, h2, h3, va_En.kept h4 hq, va_Z.kept h5 hq, Nat.le_trans h6 hz⟩
theorem zK.same {G : Gb} {u U : State} {H : Heap} (e : u.vm = U.vm) (h : zK G u H) : zK G U H := by
  obtain ⟨h1, h2, h3, h4, h5, h6⟩ := h
  have hv : u.vm.Alike U.vm := by rw [e]; exact Vm.Alike.refl _
  refine ⟨va_K.moved hv h1, fun w hw => ?_, ⟨h3.1.moved hv, h3.2.1.moved hv, h3.2.2.moved hv⟩, va_En.moved hv h4, va_Z.moved hv h5, h6⟩
  have hn := (List.mem_filter.mp hw).2
  cases w <;> first | (exfalso; simp [isNW] at hn; done) | exact va_Nw.same rfl e (h2 _ hw)
theorem zP.moved {G : Gb} {σ : Sto} {u U : State} {H : Heap} (hvm : u.vm.Alike U.vm) (h : zP G σ u H) : zP G σ U H := by
  obtain ⟨h0, h1, h2, h3, h4, h5, h6⟩ := h
  exact ⟨h0, h1, h2, h3, fun a n e => ⟨(h4 a n e).1, va_X.moved hvm (h4 a n e).2⟩, h5, h6⟩
/-- a method's code: its class, bytes, locals, what it returns; is it a constructor -/
abbrev Mth : Type := String × ByteArray × Nat × Option FieldType × Bool
/-- how a method ends -/
def zQC (G : Gb) (Q : Option Value → Sto → Prop) : Array Value → State → Outcome → State → Prop := fun _ st o t =>
  (∃ v σ', o = .returned v ∧ Q v σ' ∧ zP G σ' t t.heap) ∧ va_F (gP G) st t
def zCX (M : Mth) (p : Program) (s : State) (m : MethodId) (args : Array Value) (meth : Method) (c : Code) : Prop :=
  p.tables.exec = Jvm.exec ∧ c.code = M.2.1 ∧ c.maxLocals = M.2.2.1 ∧ s.vm.findClass M.1 = some m.cls ∧ (∀ w ∈ gwl, w.before args s = true) ∧ meth.sig.returnType = M.2.2.2.1 ∧ meth.locks = false ∧ (M.2.2.2.2 = true → meth.name = "<init>")
/-- from here, with the store σ and at most mc cells of ms slots still to be made, d frames above: the method comes to its end, with Q -/
def Wp (l : Launch) (G : Gb) (d mc ms : Nat) (M : Mth) (pc : Nat) (lv : List (Nat × Value)) (st : List Value) (σ : Sto) (Q : Option Value → Sto → Prop) : Prop :=
  ∀ (p : Program) (e : Env) (R : Room) (s : State) (m : MethodId) (args : Array Value) (below : List Frame) (meth : Method) (c : Code) (H : Heap) (locs : List Loc) (cells slots k n : Nat) (ls : Array Slot),
    zCX M p s m args meth c → zK G s s.heap → va_S (gP G) s.heap H locs → zP G σ s H → lv_has ls M.2.2.1 lv →
    d ≤ R.frames → 40 * d ≤ R.locals → cells + mc ≤ k → slots + ms ≤ n → k ≤ R.cells → n ≤ R.slots →
    W p l e R s m args below meth c H locs cells slots (MQ below (zQC G Q) args s k n (gP G)) (F0 m pc ls st)
/-- a method's contract: called with av over the store σ it returns, with Q -/
def Ct (l : Launch) (G : Gb) (d mc ms : Nat) (y : MethodName) (M : Mth) (av : List Value) (σ : Sto) (Q : Option Value → Sto → Prop) : Prop :=
  Met l y (.code y M.2.1 M.2.2.1 M.2.2.2.1 :: gwl) { frames := d, cells := mc, slots := ms, locals := 40 * d } (va_Pc av (fun U => zK G U U.heap ∧ zP G σ U U.heap)) (zQC G Q) mc ms (gP G)
theorem Wp.mono {l G d mc ms M pc lv st σ} {Q Q2 : Option Value → Sto → Prop} {d2 mc2 ms2 : Nat} (h : Wp l G d mc ms M pc lv st σ Q) (hd : d ≤ d2) (h1 : mc ≤ mc2) (h2 : ms ≤ ms2) (hQ : ∀ v s, Q v s → Q2 v s) : Wp l G d2 mc2 ms2 M pc lv st σ Q2 := by
  intro p e R s m args below meth c H locs cells slots k n ls C K S P L r1 r2 r3 r4 r5 r6 T hT X
  obtain ⟨t, a, o, b1, b2, ⟨⟨v, s', e1, e2, e3⟩, hF⟩, b4⟩ := h p e R s m args below meth c H locs cells slots k n ls C K S P L (Nat.le_trans hd r1) (Nat.le_trans (Nat.mul_le_mul_left 40 hd) r2) (by omega) (by omega) r5 r6 T hT X
  exact ⟨t, a, o, b1, b2, ⟨⟨v, s', e1, hQ _ _ e2, e3⟩, hF⟩, b4⟩
theorem Ct.of {l G d mc ms} {y : MethodName} {M : Mth} {av : List Value} {σ Q} (hy : plainName y.cls = true) (hc : y.cls = M.1) (hn : (lg_sl av).length ≤ M.2.2.1) (hi : M.2.2.2.2 = true → y.name = "<init>")
    (h : Wp l G d mc ms M 0 (lv_args 0 av) [] σ Q) : Ct l G d mc ms y M av σ Q := by
  refine Met.ofW (cc := M.2.1) (maxL := M.2.2.1) (ret := M.2.2.2.1) hy rfl ?_
  intro p e s m args below meth c s₁ B hml hv
  obtain ⟨rfl, hK, hP⟩ := hv
  have hts := atoms_spec (ws := (.code y M.2.1 M.2.2.1 M.2.2.2.1 :: gwl)) B.pre
  have hown : s.vm.findClass y.cls = some m.cls := findClass_of_methodNamed B.named
  have hl := lv_entry av hn
  rw [lg_entry_eq]
  exact h p e _ s m _ below meth c s.heap [] 0 0 mc ms _ ⟨B.exec, B.bytes, hml, by rw [← hc]; exact hown, fun w hw => hts w (List.mem_cons_of_mem _ hw), B.returns, B.notSynchronized, fun q => (name_of_methodNamed B.named B.method).1.trans (hi q)⟩ hK va_S.rf hP hl (Nat.le_refl _) (Nat.le_refl _) (by omega) (by omega) (Nat.le_refl _) (Nat.le_refl _)
end
section
/-! ROWS: an instruction that leaves the heap as it is, over Wp (by wip/p27/gen_rows.py) -/
theorem zp_iconst {l G d mc ms M pc lv st σ Q} {z : Int} {v : Int32} (hd : decode M.2.1 pc = .ok (.iconst z, 1)) (hv : Int32.ofInt z = v) (kk : Wp l G d mc ms M (pc + 1) lv (.int v :: st) σ Q) : Wp l G d mc ms M pc lv (st) σ Q := by
  intro p e R s m args below meth c H locs cells slots k n ls C K S P L r1 r2 r3 r4 r5 r6
  exact lv_iconst C.1 C.2.1 hd hv (kk p e R s m args below meth c H locs cells slots k n ls C K S P L r1 r2 r3 r4 r5 r6)
theorem zp_bipush {l G d mc ms M pc lv st σ Q} {z : Int} {v : Int32} (hd : decode M.2.1 pc = .ok (.bipush z, 2)) (hv : (Int8.ofInt z).toInt32 = v) (kk : Wp l G d mc ms M (pc + 2) lv (.int v :: st) σ Q) : Wp l G d mc ms M pc lv (st) σ Q := by
  intro p e R s m args below meth c H locs cells slots k n ls C K S P L r1 r2 r3 r4 r5 r6
  exact lv_bipush C.1 C.2.1 hd hv (kk p e R s m args below meth c H locs cells slots k n ls C K S P L r1 r2 r3 r4 r5 r6)
theorem zp_sipush {l G d mc ms M pc lv st σ Q} {z : Int} {v : Int32} (hd : decode M.2.1 pc = .ok (.sipush z, 3)) (hv : (Int16.ofInt z).toInt32 = v) (kk : Wp l G d mc ms M (pc + 3) lv (.int v :: st) σ Q) : Wp l G d mc ms M pc lv (st) σ Q := by
  intro p e R s m args below meth c H locs cells slots k n ls C K S P L r1 r2 r3 r4 r5 r6
  exact lv_sipush C.1 C.2.1 hd hv (kk p e R s m args below meth c H locs cells slots k n ls C K S P L r1 r2 r3 r4 r5 r6)
theorem zp_null {l G d mc ms M pc lv st σ Q}  (hd : decode M.2.1 pc = .ok (.aconst_null, 1)) (kk : Wp l G d mc ms M (pc + 1) lv (.null :: st) σ Q) : Wp l G d mc ms M pc lv (st) σ Q := by
  intro p e R s m args below meth c H locs cells slots k n ls C K S P L r1 r2 r3 r4 r5 r6
  exact lv_null C.1 C.2.1 hd (kk p e R s m args below meth c H locs cells slots k n ls C K S P L r1 r2 r3 r4 r5 r6)
theorem zl_at {ls : Array Slot} {nL : Nat} {lv : List (Nat × Value)} {i : Nat} {v : Value} (h : lv_has ls nL lv) (hk : (i, v) ∈ lv) : ls[i]? = some (.val v) := h.2.2 (i, v) hk
theorem zp_iload_n {l G d mc ms M pc lv st σ Q} {k0 : Fin 4} {i : Nat} {x : Int32} (hd : decode M.2.1 pc = .ok (.iload_n k0, 1)) (hi : (k0 : Nat) = i) (hk : (i, Value.int x) ∈ lv) (kk : Wp l G d mc ms M (pc + 1) lv (.int x :: st) σ Q) : Wp l G d mc ms M pc lv st σ Q := by
  intro p e R s m args below meth c H locs cells slots k n ls C K S P L r1 r2 r3 r4 r5 r6
  exact lv_iload_n C.1 C.2.1 hd hi (zl_at L hk) (kk p e R s m args below meth c H locs cells slots k n ls C K S P L r1 r2 r3 r4 r5 r6)
theorem zp_iload {l G d mc ms M pc lv st σ Q} {i : Nat} {x : Int32} (hd : decode M.2.1 pc = .ok (.iload i, 2)) (hk : (i, Value.int x) ∈ lv) (kk : Wp l G d mc ms M (pc + 2) lv (.int x :: st) σ Q) : Wp l G d mc ms M pc lv st σ Q := by
  intro p e R s m args below meth c H locs cells slots k n ls C K S P L r1 r2 r3 r4 r5 r6
  exact lv_iload C.1 C.2.1 hd (zl_at L hk) (kk p e R s m args below meth c H locs cells slots k n ls C K S P L r1 r2 r3 r4 r5 r6)
theorem zp_aload_n {l G d mc ms M pc lv st σ Q} {k0 : Fin 4} {i : Nat} {a : Nat} (hd : decode M.2.1 pc = .ok (.aload_n k0, 1)) (hi : (k0 : Nat) = i) (hk : (i, Value.ref a) ∈ lv) (kk : Wp l G d mc ms M (pc + 1) lv (.ref a :: st) σ Q) : Wp l G d mc ms M pc lv st σ Q := by
  intro p e R s m args below meth c H locs cells slots k n ls C K S P L r1 r2 r3 r4 r5 r6
  exact lv_aload_n C.1 C.2.1 hd hi (zl_at L hk) (kk p e R s m args below meth c H locs cells slots k n ls C K S P L r1 r2 r3 r4 r5 r6)
theorem zp_aload {l G d mc ms M pc lv st σ Q} {i : Nat} {a : Nat} (hd : decode M.2.1 pc = .ok (.aload i, 2)) (hk : (i, Value.ref a) ∈ lv) (kk : Wp l G d mc ms M (pc + 2) lv (.ref a :: st) σ Q) : Wp l G d mc ms M pc lv st σ Q := by
  intro p e R s m args below meth c H locs cells slots k n ls C K S P L r1 r2 r3 r4 r5 r6
  exact lv_aload C.1 C.2.1 hd (zl_at L hk) (kk p e R s m args below meth c H locs cells slots k n ls C K S P L r1 r2 r3 r4 r5 r6)
theorem zp_istore_n {l G d mc ms M pc lv st σ Q} {k0 : Fin 4} {i : Nat} {x : Int32} {lv2 : List (Nat × Value)} (hd : decode M.2.1 pc = .ok (.istore_n k0, 1)) (hi : (k0 : Nat) = i) (hn : i < M.2.2.1) (hl : (i, Value.int x) :: lv.filter (fun q => !(q.1 == i) && !(q.1 + 1 == i && q.2.category == 2)) = lv2) (kk : Wp l G d mc ms M (pc + 1) lv2 st σ Q) : Wp l G d mc ms M pc lv (Value.int x :: st) σ Q := by
  intro p e R s m args below meth c H locs cells slots k n ls C K S P L r1 r2 r3 r4 r5 r6
  exact lv_istore_n C.1 C.2.1 hd hi L hn hl (fun ls L => (kk p e R s m args below meth c H locs cells slots k n ls C K S P L r1 r2 r3 r4 r5 r6))
theorem zp_istore {l G d mc ms M pc lv st σ Q} {i : Nat} {x : Int32} {lv2 : List (Nat × Value)} (hd : decode M.2.1 pc = .ok (.istore i, 2)) (hn : i < M.2.2.1) (hl : (i, Value.int x) :: lv.filter (fun q => !(q.1 == i) && !(q.1 + 1 == i && q.2.category == 2)) = lv2) (kk : Wp l G d mc ms M (pc + 2) lv2 st σ Q) : Wp l G d mc ms M pc lv (Value.int x :: st) σ Q := by
  intro p e R s m args below meth c H locs cells slots k n ls C K S P L r1 r2 r3 r4 r5 r6
  exact lv_istore C.1 C.2.1 hd L hn hl (fun ls L => (kk p e R s m args below meth c H locs cells slots k n ls C K S P L r1 r2 r3 r4 r5 r6))
theorem zp_astore_n {l G d mc ms M pc lv st σ Q} {k0 : Fin 4} {i : Nat} {x : Nat} {lv2 : List (Nat × Value)} (hd : decode M.2.1 pc = .ok (.astore_n k0, 1)) (hi : (k0 : Nat) = i) (hn : i < M.2.2.1) (hl : (i, Value.ref x) :: lv.filter (fun q => !(q.1 == i) && !(q.1 + 1 == i && q.2.category == 2)) = lv2) (kk : Wp l G d mc ms M (pc + 1) lv2 st σ Q) : Wp l G d mc ms M pc lv (Value.ref x :: st) σ Q := by
  intro p e R s m args below meth c H locs cells slots k n ls C K S P L r1 r2 r3 r4 r5 r6
  exact lv_astore_n C.1 C.2.1 hd hi L hn hl (fun ls L => (kk p e R s m args below meth c H locs cells slots k n ls C K S P L r1 r2 r3 r4 r5 r6))
theorem zp_astore {l G d mc ms M pc lv st σ Q} {i : Nat} {x : Nat} {lv2 : List (Nat × Value)} (hd : decode M.2.1 pc = .ok (.astore i, 2)) (hn : i < M.2.2.1) (hl : (i, Value.ref x) :: lv.filter (fun q => !(q.1 == i) && !(q.1 + 1 == i && q.2.category == 2)) = lv2) (kk : Wp l G d mc ms M (pc + 2) lv2 st σ Q) : Wp l G d mc ms M pc lv (Value.ref x :: st) σ Q := by
  intro p e R s m args below meth c H locs cells slots k n ls C K S P L r1 r2 r3 r4 r5 r6
  exact lv_astore C.1 C.2.1 hd L hn hl (fun ls L => (kk p e R s m args below meth c H locs cells slots k n ls C K S P L r1 r2 r3 r4 r5 r6))
theorem zp_iinc {l G d mc ms M pc lv st σ Q} {i k1 : Nat} {z : Int} {x v : Int32} {lv2 : List (Nat × Value)} (hd : decode M.2.1 pc = .ok (.iinc i z, 3)) (hk : lv[k1]? = some (i, .int x)) (hv : x + Int32.ofInt z = v) (hn : i < M.2.2.1) (hl : (i, Value.int v) :: lv.filter (fun q => !(q.1 == i) && !(q.1 + 1 == i && q.2.category == 2)) = lv2) (kk : Wp l G d mc ms M (pc + 3) lv2 st σ Q) : Wp l G d mc ms M pc lv st σ Q := by
  intro p e R s m args below meth c H locs cells slots k n ls C K S P L r1 r2 r3 r4 r5 r6
  exact lv_iinc C.1 C.2.1 hd L hk hv hn hl (fun ls L => (kk p e R s m args below meth c H locs cells slots k n ls C K S P L r1 r2 r3 r4 r5 r6))
theorem zp_goto {l G d mc ms M pc lv st σ Q} {off : Int} {tgt : Nat} (hd : decode M.2.1 pc = .ok (.goto off, 3)) (ht : (pc : Int) + off = (tgt : Int)) (kk : Wp l G d mc ms M tgt lv st σ Q) : Wp l G d mc ms M pc lv st σ Q := by
  intro p e R s m args below meth c H locs cells slots k n ls C K S P L r1 r2 r3 r4 r5 r6
  exact lv_goto C.1 C.2.1 hd ht (kk p e R s m args below meth c H locs cells slots k n ls C K S P L r1 r2 r3 r4 r5 r6)
theorem zp_dup {l G d mc ms M pc lv st σ Q} {v : Value} (hd : decode M.2.1 pc = .ok (.dup, 1)) (hv : v.category = 1) (kk : Wp l G d mc ms M (pc + 1) lv (v :: v :: st) σ Q) : Wp l G d mc ms M pc lv (v :: st) σ Q := by
  intro p e R s m args below meth c H locs cells slots k n ls C K S P L r1 r2 r3 r4 r5 r6
  exact lv_dup C.1 C.2.1 hd hv (kk p e R s m args below meth c H locs cells slots k n ls C K S P L r1 r2 r3 r4 r5 r6)
theorem zp_dup2 {l G d mc ms M pc lv st σ Q} {v w : Value} (hd : decode M.2.1 pc = .ok (.dup2, 1)) (hv : v.category = 1) (hw : w.category = 1) (kk : Wp l G d mc ms M (pc + 1) lv (v :: w :: v :: w :: st) σ Q) : Wp l G d mc ms M pc lv (v :: w :: st) σ Q := by
  intro p e R s m args below meth c H locs cells slots k n ls C K S P L r1 r2 r3 r4 r5 r6
  exact lv_dup2_11 C.1 C.2.1 hd hv hw (kk p e R s m args below meth c H locs cells slots k n ls C K S P L r1 r2 r3 r4 r5 r6)
theorem zp_pop {l G d mc ms M pc lv st σ Q} {v : Value} (hd : decode M.2.1 pc = .ok (.pop, 1)) (hv : v.category = 1) (kk : Wp l G d mc ms M (pc + 1) lv (st) σ Q) : Wp l G d mc ms M pc lv (v :: st) σ Q := by
  intro p e R s m args below meth c H locs cells slots k n ls C K S P L r1 r2 r3 r4 r5 r6
  exact lv_pop C.1 C.2.1 hd hv (kk p e R s m args below meth c H locs cells slots k n ls C K S P L r1 r2 r3 r4 r5 r6)
theorem zp_iadd {l G d mc ms M pc lv st σ Q} {x y : Int32} (hd : decode M.2.1 pc = .ok (.iadd, 1)) (kk : Wp l G d mc ms M (pc + 1) lv (.int (x + y) :: st) σ Q) : Wp l G d mc ms M pc lv (.int y :: .int x :: st) σ Q := by
  intro p e R s m args below meth c H locs cells slots k n ls C K S P L r1 r2 r3 r4 r5 r6
  exact lv_iadd C.1 C.2.1 hd (kk p e R s m args below meth c H locs cells slots k n ls C K S P L r1 r2 r3 r4 r5 r6)
theorem zp_isub {l G d mc ms M pc lv st σ Q} {x y : Int32} (hd : decode M.2.1 pc = .ok (.isub, 1)) (kk : Wp l G d mc ms M (pc + 1) lv (.int (x - y) :: st) σ Q) : Wp l G d mc ms M pc lv (.int y :: .int x :: st) σ Q := by
  intro p e R s m args below meth c H locs cells slots k n ls C K S P L r1 r2 r3 r4 r5 r6
  exact lv_isub C.1 C.2.1 hd (kk p e R s m args below meth c H locs cells slots k n ls C K S P L r1 r2 r3 r4 r5 r6)
theorem zp_imul {l G d mc ms M pc lv st σ Q} {x y : Int32} (hd : decode M.2.1 pc = .ok (.imul, 1)) (kk : Wp l G d mc ms M (pc + 1) lv (.int (x * y) :: st) σ Q) : Wp l G d mc ms M pc lv (.int y :: .int x :: st) σ Q := by
  intro p e R s m args below meth c H locs cells slots k n ls C K S P L r1 r2 r3 r4 r5 r6
  exact lv_imul C.1 C.2.1 hd (kk p e R s m args below meth c H locs cells slots k n ls C K S P L r1 r2 r3 r4 r5 r6)
theorem zp_iand {l G d mc ms M pc lv st σ Q} {x y : Int32} (hd : decode M.2.1 pc = .ok (.iand, 1)) (kk : Wp l G d mc ms M (pc + 1) lv (.int (x &&& y) :: st) σ Q) : Wp l G d mc ms M pc lv (.int y :: .int x :: st) σ Q := by
  intro p e R s m args below meth c H locs cells slots k n ls C K S P L r1 r2 r3 r4 r5 r6
  exact lv_iand C.1 C.2.1 hd (kk p e R s m args below meth c H locs cells slots k n ls C K S P L r1 r2 r3 r4 r5 r6)
theorem zp_ior {l G d mc ms M pc lv st σ Q} {x y : Int32} (hd : decode M.2.1 pc = .ok (.ior, 1)) (kk : Wp l G d mc ms M (pc + 1) lv (.int (x ||| y) :: st) σ Q) : Wp l G d mc ms M pc lv (.int y :: .int x :: st) σ Q := by
  intro p e R s m args below meth c H locs cells slots k n ls C K S P L r1 r2 r3 r4 r5 r6
  exact lv_ior C.1 C.2.1 hd (kk p e R s m args below meth c H locs cells slots k n ls C K S P L r1 r2 r3 r4 r5 r6)
theorem zp_ixor {l G d mc ms M pc lv st σ Q} {x y : Int32} (hd : decode M.2.1 pc = .ok (.ixor, 1)) (kk : Wp l G d mc ms M (pc + 1) lv (.int (x ^^^ y) :: st) σ Q) : Wp l G d mc ms M pc lv (.int y :: .int x :: st) σ Q := by
  intro p e R s m args below meth c H locs cells slots k n ls C K S P L r1 r2 r3 r4 r5 r6
  exact lv_ixor C.1 C.2.1 hd (kk p e R s m args below meth c H locs cells slots k n ls C K S P L r1 r2 r3 r4 r5 r6)
theorem zp_idiv {l G d mc ms M pc lv st σ Q} {x y : Int32} (hd : decode M.2.1 pc = .ok (.idiv, 1)) (hne : ¬ y = 0) (kk : Wp l G d mc ms M (pc + 1) lv (.int (x / y) :: st) σ Q) : Wp l G d mc ms M pc lv (.int y :: .int x :: st) σ Q := by
  intro p e R s m args below meth c H locs cells slots k n ls C K S P L r1 r2 r3 r4 r5 r6
  exact lv_idiv C.1 C.2.1 hd hne (kk p e R s m args below meth c H locs cells slots k n ls C K S P L r1 r2 r3 r4 r5 r6)
theorem zp_irem {l G d mc ms M pc lv st σ Q} {x y : Int32} (hd : decode M.2.1 pc = .ok (.irem, 1)) (hne : ¬ y = 0) (kk : Wp l G d mc ms M (pc + 1) lv (.int (x - x / y * y) :: st) σ Q) : Wp l G d mc ms M pc lv (.int y :: .int x :: st) σ Q := by
  intro p e R s m args below meth c H locs cells slots k n ls C K S P L r1 r2 r3 r4 r5 r6
  exact lv_irem C.1 C.2.1 hd hne (kk p e R s m args below meth c H locs cells slots k n ls C K S P L r1 r2 r3 r4 r5 r6)
theorem zp_ishr {l G d mc ms M pc lv st σ Q} {x y : Int32} (hd : decode M.2.1 pc = .ok (.ishr, 1)) (kk : Wp l G d mc ms M (pc + 1) lv (.int (x >>> (y &&& 31)) :: st) σ Q) : Wp l G d mc ms M pc lv (.int y :: .int x :: st) σ Q := by
  intro p e R s m args below meth c H locs cells slots k n ls C K S P L r1 r2 r3 r4 r5 r6
  exact lv_ishr C.1 C.2.1 hd (kk p e R s m args below meth c H locs cells slots k n ls C K S P L r1 r2 r3 r4 r5 r6)
theorem zp_ishl {l G d mc ms M pc lv st σ Q} {x y : Int32} (hd : decode M.2.1 pc = .ok (.ishl, 1)) (kk : Wp l G d mc ms M (pc + 1) lv (.int (x <<< (y &&& 31)) :: st) σ Q) : Wp l G d mc ms M pc lv (.int y :: .int x :: st) σ Q := by
  intro p e R s m args below meth c H locs cells slots k n ls C K S P L r1 r2 r3 r4 r5 r6
  exact lv_ishl C.1 C.2.1 hd (kk p e R s m args below meth c H locs cells slots k n ls C K S P L r1 r2 r3 r4 r5 r6)
theorem zp_ineg {l G d mc ms M pc lv st σ Q} {x : Int32} (hd : decode M.2.1 pc = .ok (.ineg, 1)) (kk : Wp l G d mc ms M (pc + 1) lv (.int (-x) :: st) σ Q) : Wp l G d mc ms M pc lv (.int x :: st) σ Q := by
  intro p e R s m args below meth c H locs cells slots k n ls C K S P L r1 r2 r3 r4 r5 r6
  exact lv_ineg C.1 C.2.1 hd (kk p e R s m args below meth c H locs cells slots k n ls C K S P L r1 r2 r3 r4 r5 r6)
theorem zp_i2l {l G d mc ms M pc lv st σ Q} {x : Int32} (hd : decode M.2.1 pc = .ok (.i2l, 1)) (kk : Wp l G d mc ms M (pc + 1) lv (.long x.toInt64 :: st) σ Q) : Wp l G d mc ms M pc lv (.int x :: st) σ Q := by
  intro p e R s m args below meth c H locs cells slots k n ls C K S P L r1 r2 r3 r4 r5 r6
  exact lv_i2l C.1 C.2.1 hd rfl (kk p e R s m args below meth c H locs cells slots k n ls C K S P L r1 r2 r3 r4 r5 r6)
theorem zp_lmul {l G d mc ms M pc lv st σ Q} {x y : Int64} (hd : decode M.2.1 pc = .ok (.lmul, 1)) (kk : Wp l G d mc ms M (pc + 1) lv (.long (x * y) :: st) σ Q) : Wp l G d mc ms M pc lv (.long y :: .long x :: st) σ Q := by
  intro p e R s m args below meth c H locs cells slots k n ls C K S P L r1 r2 r3 r4 r5 r6
  exact lv_lmul C.1 C.2.1 hd (kk p e R s m args below meth c H locs cells slots k n ls C K S P L r1 r2 r3 r4 r5 r6)
theorem zp_ldiv {l G d mc ms M pc lv st σ Q} {x y : Int64} (hd : decode M.2.1 pc = .ok (.ldiv, 1)) (hne : ¬ y = 0) (kk : Wp l G d mc ms M (pc + 1) lv (.long (x / y) :: st) σ Q) : Wp l G d mc ms M pc lv (.long y :: .long x :: st) σ Q := by
  intro p e R s m args below meth c H locs cells slots k n ls C K S P L r1 r2 r3 r4 r5 r6
  exact lv_ldiv C.1 C.2.1 hd hne (kk p e R s m args below meth c H locs cells slots k n ls C K S P L r1 r2 r3 r4 r5 r6)
theorem zp_l2i {l G d mc ms M pc lv st σ Q} {x : Int64} (hd : decode M.2.1 pc = .ok (.l2i, 1)) (kk : Wp l G d mc ms M (pc + 1) lv (.int x.toInt32 :: st) σ Q) : Wp l G d mc ms M pc lv (.long x :: st) σ Q := by
  intro p e R s m args below meth c H locs cells slots k n ls C K S P L r1 r2 r3 r4 r5 r6
  exact lv_l2i C.1 C.2.1 hd rfl (kk p e R s m args below meth c H locs cells slots k n ls C K S P L r1 r2 r3 r4 r5 r6)
theorem zp_icmp_eq {l G d mc ms M pc lv st σ Q} {x y : Int32} {off : Int} {tgt : Nat} (hd : decode M.2.1 pc = .ok (.if_icmp .eq off, 3)) (ht : (pc : Int) + off = (tgt : Int)) (kt : x = y → Wp l G d mc ms M tgt lv st σ Q) (kf : ¬ (x = y) → Wp l G d mc ms M (pc + 3) lv st σ Q) : Wp l G d mc ms M pc lv (.int y :: .int x :: st) σ Q := by
  intro p e R s m args below meth c H locs cells slots k n ls C K S P L r1 r2 r3 r4 r5 r6
  exact lv_icmp_eq C.1 C.2.1 hd ht (fun q => (kt q p e R s m args below meth c H locs cells slots k n ls C K S P L r1 r2 r3 r4 r5 r6)) (fun q => (kf q p e R s m args below meth c H locs cells slots k n ls C K S P L r1 r2 r3 r4 r5 r6))
theorem zp_icmp_ne {l G d mc ms M pc lv st σ Q} {x y : Int32} {off : Int} {tgt : Nat} (hd : decode M.2.1 pc = .ok (.if_icmp .ne off, 3)) (ht : (pc : Int) + off = (tgt : Int)) (kt : ¬ x = y → Wp l G d mc ms M tgt lv st σ Q) (kf : x = y → Wp l G d mc ms M (pc + 3) lv st σ Q) : Wp l G d mc ms M pc lv (.int y :: .int x :: st) σ Q := by
  intro p e R s m args below meth c H locs cells slots k n ls C K S P L r1 r2 r3 r4 r5 r6
  exact lv_icmp_ne C.1 C.2.1 hd ht (fun q => (kt q p e R s m args below meth c H locs cells slots k n ls C K S P L r1 r2 r3 r4 r5 r6)) (fun q => (kf q p e R s m args below meth c H locs cells slots k n ls C K S P L r1 r2 r3 r4 r5 r6))
theorem zp_icmp_lt {l G d mc ms M pc lv st σ Q} {x y : Int32} {off : Int} {tgt : Nat} (hd : decode M.2.1 pc = .ok (.if_icmp .lt off, 3)) (ht : (pc : Int) + off = (tgt : Int)) (kt : x < y → Wp l G d mc ms M tgt lv st σ Q) (kf : ¬ (x < y) → Wp l G d mc ms M (pc + 3) lv st σ Q) : Wp l G d mc ms M pc lv (.int y :: .int x :: st) σ Q := by
  intro p e R s m args below meth c H locs cells slots k n ls C K S P L r1 r2 r3 r4 r5 r6
  exact lv_icmp_lt C.1 C.2.1 hd ht (fun q => (kt q p e R s m args below meth c H locs cells slots k n ls C K S P L r1 r2 r3 r4 r5 r6)) (fun q => (kf q p e R s m args below meth c H locs cells slots k n ls C K S P L r1 r2 r3 r4 r5 r6))
theorem zp_icmp_ge {l G d mc ms M pc lv st σ Q} {x y : Int32} {off : Int} {tgt : Nat} (hd : decode M.2.1 pc = .ok (.if_icmp .ge off, 3)) (ht : (pc : Int) + off = (tgt : Int)) (kt : y ≤ x → Wp l G d mc ms M tgt lv st σ Q) (kf : ¬ (y ≤ x) → Wp l G d mc ms M (pc + 3) lv st σ Q) : Wp l G d mc ms M pc lv (.int y :: .int x :: st) σ Q := by
  intro p e R s m args below meth c H locs cells slots k n ls C K S P L r1 r2 r3 r4 r5 r6
  exact lv_icmp_ge C.1 C.2.1 hd ht (fun q => (kt q p e R s m args below meth c H locs cells slots k n ls C K S P L r1 r2 r3 r4 r5 r6)) (fun q => (kf q p e R s m args below meth c H locs cells slots k n ls C K S P L r1 r2 r3 r4 r5 r6))
theorem zp_icmp_gt {l G d mc ms M pc lv st σ Q} {x y : Int32} {off : Int} {tgt : Nat} (hd : decode M.2.1 pc = .ok (.if_icmp .gt off, 3)) (ht : (pc : Int) + off = (tgt : Int)) (kt : y < x → Wp l G d mc ms M tgt lv st σ Q) (kf : ¬ (y < x) → Wp l G d mc ms M (pc + 3) lv st σ Q) : Wp l G d mc ms M pc lv (.int y :: .int x :: st) σ Q := by
  intro p e R s m args below meth c H locs cells slots k n ls C K S P L r1 r2 r3 r4 r5 r6
  exact lv_icmp_gt C.1 C.2.1 hd ht (fun q => (kt q p e R s m args below meth c H locs cells slots k n ls C K S P L r1 r2 r3 r4 r5 r6)) (fun q => (kf q p e R s m args below meth c H locs cells slots k n ls C K S P L r1 r2 r3 r4 r5 r6))
theorem zp_icmp_le {l G d mc ms M pc lv st σ Q} {x y : Int32} {off : Int} {tgt : Nat} (hd : decode M.2.1 pc = .ok (.if_icmp .le off, 3)) (ht : (pc : Int) + off = (tgt : Int)) (kt : x ≤ y → Wp l G d mc ms M tgt lv st σ Q) (kf : ¬ (x ≤ y) → Wp l G d mc ms M (pc + 3) lv st σ Q) : Wp l G d mc ms M pc lv (.int y :: .int x :: st) σ Q := by
  intro p e R s m args below meth c H locs cells slots k n ls C K S P L r1 r2 r3 r4 r5 r6
  exact lv_icmp_le C.1 C.2.1 hd ht (fun q => (kt q p e R s m args below meth c H locs cells slots k n ls C K S P L r1 r2 r3 r4 r5 r6)) (fun q => (kf q p e R s m args below meth c H locs cells slots k n ls C K S P L r1 r2 r3 r4 r5 r6))
theorem zp_if_eq {l G d mc ms M pc lv st σ Q} {x : Int32} {off : Int} {tgt : Nat} (hd : decode M.2.1 pc = .ok (.ifCond .eq off, 3)) (ht : (pc : Int) + off = (tgt : Int)) (kt : x = 0 → Wp l G d mc ms M tgt lv st σ Q) (kf : ¬ (x = 0) → Wp l G d mc ms M (pc + 3) lv st σ Q) : Wp l G d mc ms M pc lv (.int x :: st) σ Q := by
  intro p e R s m args below meth c H locs cells slots k n ls C K S P L r1 r2 r3 r4 r5 r6
  exact lv_if_eq C.1 C.2.1 hd ht (fun q => (kt q p e R s m args below meth c H locs cells slots k n ls C K S P L r1 r2 r3 r4 r5 r6)) (fun q => (kf q p e R s m args below meth c H locs cells slots k n ls C K S P L r1 r2 r3 r4 r5 r6))
theorem zp_if_ne {l G d mc ms M pc lv st σ Q} {x : Int32} {off : Int} {tgt : Nat} (hd : decode M.2.1 pc = .ok (.ifCond .ne off, 3)) (ht : (pc : Int) + off = (tgt : Int)) (kt : ¬ x = 0 → Wp l G d mc ms M tgt lv st σ Q) (kf : x = 0 → Wp l G d mc ms M (pc + 3) lv st σ Q) : Wp l G d mc ms M pc lv (.int x :: st) σ Q := by
  intro p e R s m args below meth c H locs cells slots k n ls C K S P L r1 r2 r3 r4 r5 r6
  exact lv_if_ne C.1 C.2.1 hd ht (fun q => (kt q p e R s m args below meth c H locs cells slots k n ls C K S P L r1 r2 r3 r4 r5 r6)) (fun q => (kf q p e R s m args below meth c H locs cells slots k n ls C K S P L r1 r2 r3 r4 r5 r6))
theorem zp_if_lt {l G d mc ms M pc lv st σ Q} {x : Int32} {off : Int} {tgt : Nat} (hd : decode M.2.1 pc = .ok (.ifCond .lt off, 3)) (ht : (pc : Int) + off = (tgt : Int)) (kt : x < 0 → Wp l G d mc ms M tgt lv st σ Q) (kf : ¬ (x < 0) → Wp l G d mc ms M (pc + 3) lv st σ Q) : Wp l G d mc ms M pc lv (.int x :: st) σ Q := by
  intro p e R s m args below meth c H locs cells slots k n ls C K S P L r1 r2 r3 r4 r5 r6
  exact lv_if_lt C.1 C.2.1 hd ht (fun q => (kt q p e R s m args below meth c H locs cells slots k n ls C K S P L r1 r2 r3 r4 r5 r6)) (fun q => (kf q p e R s m args below meth c H locs cells slots k n ls C K S P L r1 r2 r3 r4 r5 r6))
theorem zp_if_ge {l G d mc ms M pc lv st σ Q} {x : Int32} {off : Int} {tgt : Nat} (hd : decode M.2.1 pc = .ok (.ifCond .ge off, 3)) (ht : (pc : Int) + off = (tgt : Int)) (kt : 0 ≤ x → Wp l G d mc ms M tgt lv st σ Q) (kf : ¬ (0 ≤ x) → Wp l G d mc ms M (pc + 3) lv st σ Q) : Wp l G d mc ms M pc lv (.int x :: st) σ Q := by
  intro p e R s m args below meth c H locs cells slots k n ls C K S P L r1 r2 r3 r4 r5 r6
  exact lv_if_ge C.1 C.2.1 hd ht (fun q => (kt q p e R s m args below meth c H locs cells slots k n ls C K S P L r1 r2 r3 r4 r5 r6)) (fun q => (kf q p e R s m args below meth c H locs cells slots k n ls C K S P L r1 r2 r3 r4 r5 r6))
theorem zp_if_gt {l G d mc ms M pc lv st σ Q} {x : Int32} {off : Int} {tgt : Nat} (hd : decode M.2.1 pc = .ok (.ifCond .gt off, 3)) (ht : (pc : Int) + off = (tgt : Int)) (kt : 0 < x → Wp l G d mc ms M tgt lv st σ Q) (kf : ¬ (0 < x) → Wp l G d mc ms M (pc + 3) lv st σ Q) : Wp l G d mc ms M pc lv (.int x :: st) σ Q := by
  intro p e R s m args below meth c H locs cells slots k n ls C K S P L r1 r2 r3 r4 r5 r6
  exact lv_if_gt C.1 C.2.1 hd ht (fun q => (kt q p e R s m args below meth c H locs cells slots k n ls C K S P L r1 r2 r3 r4 r5 r6)) (fun q => (kf q p e R s m args below meth c H locs cells slots k n ls C K S P L r1 r2 r3 r4 r5 r6))
theorem zp_if_le {l G d mc ms M pc lv st σ Q} {x : Int32} {off : Int} {tgt : Nat} (hd : decode M.2.1 pc = .ok (.ifCond .le off, 3)) (ht : (pc : Int) + off = (tgt : Int)) (kt : x ≤ 0 → Wp l G d mc ms M tgt lv st σ Q) (kf : ¬ (x ≤ 0) → Wp l G d mc ms M (pc + 3) lv st σ Q) : Wp l G d mc ms M pc lv (.int x :: st) σ Q := by
  intro p e R s m args below meth c H locs cells slots k n ls C K S P L r1 r2 r3 r4 r5 r6
  exact lv_if_le C.1 C.2.1 hd ht (fun q => (kt q p e R s m args below meth c H locs cells slots k n ls C K S P L r1 r2 r3 r4 r5 r6)) (fun q => (kf q p e R s m args below meth c H locs cells slots k n ls C K S P L r1 r2 r3 r4 r5 r6))
theorem zp_acmp_eq {l G d mc ms M pc lv st σ Q} {rx ry : Option Nat} {vx vy : Value} {off : Int} {tgt : Nat} (hd : decode M.2.1 pc = .ok (.if_acmp .eq off, 3)) (ht : (pc : Int) + off = (tgt : Int)) (hx : vx = va_rf rx) (hy : vy = va_rf ry) (kt : rx = ry → Wp l G d mc ms M tgt lv st σ Q) (kf : ¬ (rx = ry) → Wp l G d mc ms M (pc + 3) lv st σ Q) : Wp l G d mc ms M pc lv (vy :: vx :: st) σ Q := by
  intro p e R s m args below meth c H locs cells slots k n ls C K S P L r1 r2 r3 r4 r5 r6
  subst hx; subst hy
  exact lv_acmp_eq C.1 C.2.1 hd ht (fun q => (kt q p e R s m args below meth c H locs cells slots k n ls C K S P L r1 r2 r3 r4 r5 r6)) (fun q => (kf q p e R s m args below meth c H locs cells slots k n ls C K S P L r1 r2 r3 r4 r5 r6))
theorem zp_acmp_ne {l G d mc ms M pc lv st σ Q} {rx ry : Option Nat} {vx vy : Value} {off : Int} {tgt : Nat} (hd : decode M.2.1 pc = .ok (.if_acmp .ne off, 3)) (ht : (pc : Int) + off = (tgt : Int)) (hx : vx = va_rf rx) (hy : vy = va_rf ry) (kt : ¬ rx = ry → Wp l G d mc ms M tgt lv st σ Q) (kf : rx = ry → Wp l G d mc ms M (pc + 3) lv st σ Q) : Wp l G d mc ms M pc lv (vy :: vx :: st) σ Q := by
  intro p e R s m args below meth c H locs cells slots k n ls C K S P L r1 r2 r3 r4 r5 r6
  subst hx; subst hy
  exact lv_acmp_ne C.1 C.2.1 hd ht (fun q => (kt q p e R s m args below meth c H locs cells slots k n ls C K S P L r1 r2 r3 r4 r5 r6)) (fun q => (kf q p e R s m args below meth c H locs cells slots k n ls C K S P L r1 r2 r3 r4 r5 r6))
theorem zp_ifnull {l G d mc ms M pc lv st σ Q} {r : Option Nat} {v : Value} {off : Int} {tgt : Nat} (hd : decode M.2.1 pc = .ok (.ifnull off, 3)) (ht : (pc : Int) + off = (tgt : Int)) (hv : v = va_rf r) (kt : r = none → Wp l G d mc ms M tgt lv st σ Q) (kf : ∀ a, r = some a → Wp l G d mc ms M (pc + 3) lv st σ Q) : Wp l G d mc ms M pc lv (v :: st) σ Q := by
  intro p e R s m args below meth c H locs cells slots k n ls C K S P L r1 r2 r3 r4 r5 r6
  subst hv
  cases r with
  | none => exact lv_ifnullN C.1 C.2.1 hd ht (kt rfl p e R s m args below meth c H locs cells slots k n ls C K S P L r1 r2 r3 r4 r5 r6)
  | some a => exact lv_ifnull C.1 C.2.1 hd (kf a rfl p e R s m args below meth c H locs cells slots k n ls C K S P L r1 r2 r3 r4 r5 r6)
theorem zp_ifnonnull {l G d mc ms M pc lv st σ Q} {r : Option Nat} {v : Value} {off : Int} {tgt : Nat} (hd : decode M.2.1 pc = .ok (.ifnonnull off, 3)) (ht : (pc : Int) + off = (tgt : Int)) (hv : v = va_rf r) (kt : ∀ a, r = some a → Wp l G d mc ms M tgt lv st σ Q) (kf : r = none → Wp l G d mc ms M (pc + 3) lv st σ Q) : Wp l G d mc ms M pc lv (v :: st) σ Q := by
  intro p e R s m args below meth c H locs cells slots k n ls C K S P L r1 r2 r3 r4 r5 r6
  subst hv
  cases r with
  | none => exact lv_ifnonnullN C.1 C.2.1 hd (kf rfl p e R s m args below meth c H locs cells slots k n ls C K S P L r1 r2 r3 r4 r5 r6)
  | some a => exact lv_ifnonnull C.1 C.2.1 hd ht (kt a rfl p e R s m args below meth c H locs cells slots k n ls C K S P L r1 r2 r3 r4 r5 r6)
theorem zp_tableIn {l G d mc ms M pc lv st σ Q} {dflt lo hi : Int} {offs : Array Int} {len : Nat} {x : Int32} {off : Int} {tgt : Nat} (hd : decode M.2.1 pc = .ok (.tableswitch dflt lo hi offs, len)) (h1 : ¬ x.toInt < lo) (h2 : ¬ hi < x.toInt) (ho : offs[(x.toInt - lo).toNat]? = some off) (ht : (pc : Int) + off = (tgt : Int)) (kk : Wp l G d mc ms M tgt lv st σ Q) : Wp l G d mc ms M pc lv (.int x :: st) σ Q := by
  intro p e R s m args below meth c H locs cells slots k n ls C K S P L r1 r2 r3 r4 r5 r6
  exact lv_tableIn C.1 C.2.1 hd h1 h2 ho ht (kk p e R s m args below meth c H locs cells slots k n ls C K S P L r1 r2 r3 r4 r5 r6)
theorem zp_tableOut {l G d mc ms M pc lv st σ Q} {dflt lo hi : Int} {offs : Array Int} {len : Nat} {x : Int32} {tgt : Nat} (hd : decode M.2.1 pc = .ok (.tableswitch dflt lo hi offs, len)) (h : x.toInt < lo ∨ hi < x.toInt) (ht : (pc : Int) + dflt = (tgt : Int)) (kk : Wp l G d mc ms M tgt lv st σ Q) : Wp l G d mc ms M pc lv (.int x :: st) σ Q := by
  intro p e R s m args below meth c H locs cells slots k n ls C K S P L r1 r2 r3 r4 r5 r6
  exact lv_tableOut C.1 C.2.1 hd h ht (kk p e R s m args below meth c H locs cells slots k n ls C K S P L r1 r2 r3 r4 r5 r6)
theorem zp_lookup {l G d mc ms M pc lv st σ Q} {dflt : Int} {ps : Array (Int × Int)} {len : Nat} {x : Int32} {off : Int} {tgt : Nat} (hd : decode M.2.1 pc = .ok (.lookupswitch dflt ps, len)) (hp : (ps.toList.zip (ps.toList.drop 1)).all (fun (a, next) => a.1 < next.1) = true) (ho : Op.lookupswitch.offset ps.toList dflt x.toInt = off) (ht : (pc : Int) + off = (tgt : Int)) (kk : Wp l G d mc ms M tgt lv st σ Q) : Wp l G d mc ms M pc lv (.int x :: st) σ Q := by
  intro p e R s m args below meth c H locs cells slots k n ls C K S P L r1 r2 r3 r4 r5 r6
  exact lv_lookup C.1 C.2.1 hd hp ho ht (kk p e R s m args below meth c H locs cells slots k n ls C K S P L r1 r2 r3 r4 r5 r6)
theorem zp_ldc {l G d mc ms M pc lv st σ Q} {i : Nat} {v : Int32} (hd : decode M.2.1 pc = .ok (.ldc i, 2)) (hw : Cond.constant M.1 i v ∈ gwl) (kk : Wp l G d mc ms M (pc + 2) lv (.int v :: st) σ Q) : Wp l G d mc ms M pc lv st σ Q := by
  intro p e R s m args below meth c H locs cells slots k n ls C K S P L r1 r2 r3 r4 r5 r6
  exact lv_ldc C.1 C.2.1 C.2.2.2.1 (C.2.2.2.2.1 _ hw) hd (kk p e R s m args below meth c H locs cells slots k n ls C K S P L r1 r2 r3 r4 r5 r6)
end
section
/-! ROWS that read or change the heap, over Wp -/
/-- a field's link: own reads it at the place i of its pool: kind kd, number f, its type, final or not, of references or not -/
def zFL (own : String) (i kd f : Nat) (ty : FieldType) (fin b x : Bool) : Prop :=
  ∃ (c k : Nat) (r : vw_C), kd = c + 1 ∧ c < 10 ∧ f = 100 * kd + k ∧ zcl[c]? = some r ∧ k < r.2.2 ∧ parseFieldDescriptor (r.2.1 k).2.2.1 = some ty ∧ (r.2.1 k).2.2.2 = fin ∧ zref f = b ∧ (r.2.1 k).1 = r.1 ∧
    ((x = false ∧ Cond.fieldLink own i (r.2.1 k).1 (r.2.1 k).2.1 (r.2.1 k).2.2.1 ∈ gwl) ∨ (x = true ∧ Cond.fieldLinkNest own i (r.2.1 k).1 (r.2.1 k).2.1 (r.2.1 k).2.2.1 "FlowBoxes" ∈ gnl))
theorem gw_of {i : Nat} {w : Cond} (h : tables_1[i]? = some w) (hg : goodWord w = true) : w ∈ gwl := List.mem_filter.mpr ⟨List.mem_append_right _ (List.mem_of_getElem? h), hg⟩
theorem gs_of {q : MethodName × Nat} (h : q ∈ lw_privs) : Cond.selects q.1.cls q.1 q.1 ∈ gwl := List.mem_filter.mpr ⟨List.mem_append_left _ (List.mem_map.mpr ⟨q, h, rfl⟩), rfl⟩
theorem gn_of {i : Nat} {w : Cond} (h : tables_1[i]? = some w) (hg : isNW w = true) : w ∈ gnl := List.mem_filter.mpr ⟨List.mem_append_right _ (List.mem_of_getElem? h), hg⟩
/-- what the tables say of a class: its fields' words; their types; their names apart; what a new object's fields hold -/
def zCl (c : Nat) (r : vw_C) (ty : Nat → FieldType) : Prop := (∀ w ∈ u_ws r.1 r.2.1 r.2.2, w ∈ gwl) ∧ (∀ k, k < r.2.2 → parseFieldDescriptor (r.2.1 k).2.2.1 = some (ty k)) ∧ (∀ a, a < r.2.2 → ∀ b, b < r.2.2 → a ≠ b → (r.2.1 a).2.1 ≠ (r.2.1 b).2.1) ∧
  (∀ k, k < r.2.2 → defaultValue (ty k) = cond (zref (100 * (c + 1) + k)) Value.null (Value.int 0)) ∧ r.2.2 ≤ 20
theorem gw_all {ws : List Cond} (h : ∀ w ∈ ws, w ∈ lw_tbl) (hg : ws.all goodWord = true) : ∀ w ∈ ws, w ∈ gwl := fun w hw => List.mem_filter.mpr ⟨h w hw, List.all_eq_true.mp hg w hw⟩
theorem zCl_0 : zCl 0 (RX1, TX1, 7) tyX1 := ⟨gw_all (by decide +kernel) (by decide +kernel), tyX1_ok, nmX1, by decide +kernel, by decide⟩
theorem zCl_1 : zCl 1 (RX2, TX2, 20) tyX2 := ⟨gw_all (by decide +kernel) (by decide +kernel), tyX2_ok, nmX2, by decide +kernel, by decide⟩
theorem zCl_2 : zCl 2 (RX4, TX4, 6) tyX4 := ⟨gw_all (by decide +kernel) (by decide +kernel), tyX4_ok, nmX4, by decide +kernel, by decide⟩
theorem zCl_3 : zCl 3 (RX5, TX5, 6) tyX5 := ⟨gw_all (by decide +kernel) (by decide +kernel), tyX5_ok, nmX5, by decide +kernel, by decide⟩
theorem zCl_4 : zCl 4 (RX7, TX7, 20) tyX7 := ⟨gw_all (by decide +kernel) (by decide +kernel), tyX7_ok, nmX7, by decide +kernel, by decide⟩
theorem zCl_5 : zCl 5 (RX8, TX8, 2) tyX8 := ⟨gw_all (by decide +kernel) (by decide +kernel), tyX8_ok, nmX8, by decide +kernel, by decide⟩
theorem zCl_6 : zCl 6 (RX9, TX9, 20) tyX9 := ⟨gw_all (by decide +kernel) (by decide +kernel), tyX9_ok, nmX9, by decide +kernel, by decide⟩
theorem zCl_7 : zCl 7 (RX10, TX10, 7) tyX10 := ⟨gw_all (by decide +kernel) (by decide +kernel), tyX10_ok, nmX10, by decide +kernel, by decide⟩
theorem zCl_8 : zCl 8 (RX11, TX11, 5) tyX11 := ⟨gw_all (by decide +kernel) (by decide +kernel), tyX11_ok, nmX11, by decide +kernel, by decide⟩
theorem zCl_9 : zCl 9 (RX12, TX12, 10) tyX12 := ⟨gw_all (by decide +kernel) (by decide +kernel), tyX12_ok, nmX12, by decide +kernel, by decide⟩
theorem zCl_ok {c : Nat} {r : vw_C} (h : zcl[c]? = some r) : ∃ ty, zCl c r ty := by
  match c, h with
  | 0, h => cases h; exact ⟨_, zCl_0⟩
  | 1, h => cases h; exact ⟨_, zCl_1⟩
  | 2, h => cases h; exact ⟨_, zCl_2⟩
  | 3, h => cases h; exact ⟨_, zCl_3⟩
  | 4, h => cases h; exact ⟨_, zCl_4⟩
  | 5, h => cases h; exact ⟨_, zCl_5⟩
  | 6, h => cases h; exact ⟨_, zCl_6⟩
  | 7, h => cases h; exact ⟨_, zCl_7⟩
  | 8, h => cases h; exact ⟨_, zCl_8⟩
  | 9, h => cases h; exact ⟨_, zCl_9⟩
  | c + 10, h => simp [zcl] at h
theorem zP.lt {G σ U H a} (h : zP G σ U H) (ha : (zT σ a).1 ≠ 0) : a < H.size := h.2.2.2.2.2.2 a ha
theorem zV_same {σ σ' : Sto} {c a : Nat} (hI : ∀ f, zI σ' f a = zI σ f a) (hR : ∀ f, zR σ' f a = zR σ f a) : zV σ' c a = zV σ c a := by
  funext k
  unfold zV zval
  cases zref (100 * c + k)
  · show Value.int _ = Value.int _; rw [hI]
  · show va_rf _ = va_rf _; rw [hR]
/-- a store that differs from one that the heap holds at the cell a alone -/
theorem zP.change {G : Gb} {σ σ' : Sto} {U : State} {H H1 : Heap} {a : Nat} (h : zP G σ U H) (hT : ∀ b, zT σ' b = zT σ b) (ha : (zT σ a).1 ≠ 0) (hb : G.2.1 ≤ a)
    (hI : ∀ f b, b ≠ a → zI σ' f b = zI σ f b) (hR : ∀ f b, b ≠ a → zR σ' f b = zR σ f b) (hA : ∀ b, b ≠ a → zA σ' b = zA σ b) (hQ : ∀ b, b ≠ a → zQ σ' b = zQ σ b) (hz : H1.size = H.size) (ho : ∀ q, q ≠ a → H1[q]? = H[q]?)
    (h1 : ∀ c n, zT σ a = (c + 1, n) → c < 10 → ∃ r : vw_C, zcl[c]? = some r ∧ t_OB a (G.1.1 c) r.2.2 (G.1.2 c) H1 (zV σ' (c + 1) a))
    (h2 : ∀ n, zT σ a = (20, n) → H1[a]? = some (arrV (G.2.2.2.2 0) n (fun j => .int (zA σ' a j))))
    (h3 : ∀ j n, zT σ a = (21 + j, n) → j < 3 → H1[a]? = some (arrV (G.2.2.2.2 (j + 1)) n (fun i => va_rf (zQ σ' a i)))) : zP G σ' U H1 := by
  obtain ⟨p0, p1, p2, p3, p4, p5, p6⟩ := h
  refine ⟨fun b e => ?_, fun b c n e hc => ?_, fun b n e => ?_, fun b j n e hj => ?_, fun b n e => ?_, fun b n e => ?_, fun b e => ?_⟩
  · rw [hT] at e
    have hne : b ≠ a := fun q => ha (by rw [← q]; exact e)
    exact ⟨fun f => by rw [hI f b hne, hR f b hne]; exact (p0 b e).1 f, fun i => by rw [hA b hne, hQ b hne]; exact (p0 b e).2 i⟩
  · rw [hT] at e
    by_cases hne : b = a
    · subst hne
      exact ⟨hb, h1 c n e hc⟩
    · obtain ⟨g1, r, g2, g3⟩ := p1 b c n e hc
      exact ⟨g1, r, g2, by rw [zV_same (fun f => hI f b hne) (fun f => hR f b hne)]; exact g3.kept (ho b hne)⟩
  · rw [hT] at e
    by_cases hne : b = a
    · subst hne
      exact ⟨hb, h2 n e⟩
    · exact ⟨(p2 b n e).1, by rw [ho b hne, hA b hne]; exact (p2 b n e).2⟩
  · rw [hT] at e
    by_cases hne : b = a
    · subst hne
      exact ⟨hb, h3 j n e hj⟩
    · exact ⟨(p3 b j n e hj).1, by rw [ho b hne, hQ b hne]; exact (p3 b j n e hj).2⟩
  · rw [hT] at e
    have hne : b ≠ a := fun q => by have := (p4 b n e).1; omega
    exact ⟨(p4 b n e).1, by rw [hA b hne]; exact va_X.kept (p4 b n e).2 (ho b hne)⟩
  · rw [hT] at e
    exact p5 b n e
  · rw [hT] at e
    rw [hz]
    exact p6 b e
/-- a store with one cell more -/
theorem zP.push {G : Gb} {σ : Sto} {U : State} {H H1 : Heap} {t : Nat × Nat} (h : zP G σ U H) (hb : G.2.1 ≤ H.size) (hz : H1.size = H.size + 1) (ho : ∀ q, q < H.size → H1[q]? = H[q]?) (ht : t.1 ≠ 0 ∧ t.1 ≠ 25 ∧ t.1 ≠ 30)
    (h1 : ∀ c, t.1 = c + 1 → c < 10 → ∃ r : vw_C, zcl[c]? = some r ∧ t_OB H.size (G.1.1 c) r.2.2 (G.1.2 c) H1 (zV σ (c + 1) H.size))
    (h2 : t.1 = 20 → H1[H.size]? = some (arrV (G.2.2.2.2 0) t.2 (fun j => .int (zA σ H.size j))))
    (h3 : ∀ j, t.1 = 21 + j → j < 3 → H1[H.size]? = some (arrV (G.2.2.2.2 (j + 1)) t.2 (fun i => va_rf (zQ σ H.size i)))) : zP G (wT σ H.size t) U H1 := by
  have hlt : ∀ b, (zT σ b).1 ≠ 0 → b < H.size := fun b e => h.lt e
  obtain ⟨p0, p1, p2, p3, p4, p5, p6⟩ := h
  have hT : ∀ b x, zT (wT σ H.size t) b = x → (b = H.size ∧ t = x) ∨ (b ≠ H.size ∧ zT σ b = x) := fun b x e => by
    rw [zT_wT] at e
    by_cases q : b = H.size
    · rw [if_pos q] at e; exact Or.inl ⟨q, e⟩
    · rw [if_neg q] at e; exact Or.inr ⟨q, e⟩
  refine ⟨fun b e => ?_, fun b c n e hc => ?_, fun b n e => ?_, fun b j n e hj => ?_, fun b n e => ?_, fun b n e => ?_, fun b e => ?_⟩
  · rcases hT b _ rfl with ⟨q1, q2⟩ | ⟨q1, q2⟩
    · rw [← q2] at e; exact absurd e ht.1
    · rw [← q2] at e; exact p0 b e
  · rcases hT b _ e with ⟨q1, q2⟩ | ⟨q1, q2⟩
    · subst q1
      exact ⟨hb, h1 c (by rw [q2]) hc⟩
    · obtain ⟨g1, r, g2, g3⟩ := p1 b c n q2 hc
      exact ⟨g1, r, g2, g3.kept (ho b (hlt b (by rw [q2]; exact Nat.succ_ne_zero c)))⟩
  · rcases hT b _ e with ⟨q1, q2⟩ | ⟨q1, q2⟩
    · subst q1
      have := h2 (by rw [q2])
      rw [q2] at this
      exact ⟨hb, this⟩
    · exact ⟨(p2 b n q2).1, by rw [ho b (hlt b (by rw [q2]; exact fun z => by cases z))]; exact (p2 b n q2).2⟩
  · rcases hT b _ e with ⟨q1, q2⟩ | ⟨q1, q2⟩
    · subst q1
      have := h3 j (by rw [q2]) hj
      rw [q2] at this
      exact ⟨hb, this⟩
    · exact ⟨(p3 b j n q2 hj).1, by rw [ho b (hlt b (by rw [q2]; show 21 + j ≠ 0; omega))]; exact (p3 b j n q2 hj).2⟩
  · rcases hT b _ e with ⟨q1, q2⟩ | ⟨q1, q2⟩
    · rw [q2] at ht; exact absurd rfl ht.2.1
    · exact ⟨(p4 b n q2).1, va_X.kept (p4 b n q2).2 (ho b (hlt b (by rw [q2]; exact fun z => by cases z)))⟩
  · rcases hT b _ e with ⟨q1, q2⟩ | ⟨q1, q2⟩
    · rw [q2] at ht; exact absurd rfl ht.2.2
    · exact p5 b n q2
  · rcases hT b _ rfl with ⟨q1, q2⟩ | ⟨q1, q2⟩
    · omega
    · rw [← q2] at e; have := hlt b e; omega
theorem zp_get {l G d mc ms M pc lv st σ Q} {i kd f a n : Nat} {ty : FieldType} {fin b x : Bool} (hd : decode M.2.1 pc = .ok (.getfield i, 3)) (h : zFL M.1 i kd f ty fin b x) (ht : zT σ a = (kd, n)) (kk : Wp l G d mc ms M (pc + 3) lv (zval b σ f a :: st) σ Q) : Wp l G d mc ms M pc lv (.ref a :: st) σ Q := by
  intro p e R s m args below meth c H locs cells slots k n ls C K S P L r1 r2 r3 r4 r5 r6
  obtain ⟨c0, k0, r0, rfl, hc10, rfl, hr, hk, hty, hfin, rfl, -, hl⟩ := h
  obtain ⟨hbase, r, h1, cell, q1, q2, q3, q4⟩ := P.2.1 a c0 _ ht hc10
  cases h1.symm.trans hr
  obtain ⟨ty0, hC, -⟩ := zCl_ok hr
  obtain ⟨hS, hfc, kC, hkC, hkind⟩ := K.1.1 c0 _ hr
  obtain ⟨cf, kf, fi, fd, hi, hsl⟩ := hS k0 hk
  have hfs := (u_facts hfc hkC (u_lays C.2.2.2.2.1 hC hk) hi).1
  rcases hl with ⟨-, hl⟩ | ⟨-, hl⟩
  · exact W.getf C.1 C.2.1 C.2.2.2.1 (C.2.2.2.2.1 _ hl) hi hfs q1 (by rw [q3]; exact fun h => by cases h) (v := zV σ (c0 + 1) a k0) (by rw [hsl, q4 k0 hk]) rfl rfl hd (kk p e R s m args below meth c H locs cells slots k n ls C K S P L r1 r2 r3 r4 r5 r6)
  · exact va_Wgetf C.1 C.2.1 C.2.2.2.1 (va_Nw.use rfl (K.2.1 _ hl)) hi hfs q1 (by rw [q3]; exact fun h => by cases h) (v := zV σ (c0 + 1) a k0) (by rw [hsl, q4 k0 hk]) rfl rfl hd (kk p e R s m args below meth c H locs cells slots k n ls C K S P L r1 r2 r3 r4 r5 r6)

theorem zp_getI {l G d mc ms M pc lv st σ Q} {i kd f a n : Nat} {ty : FieldType} {fin x : Bool} (hd : decode M.2.1 pc = .ok (.getfield i, 3)) (h : zFL M.1 i kd f ty fin false x) (ht : zT σ a = (kd, n)) (kk : Wp l G d mc ms M (pc + 3) lv (.int (zI σ f a) :: st) σ Q) : Wp l G d mc ms M pc lv (.ref a :: st) σ Q := zp_get hd h ht kk
theorem zp_getR {l G d mc ms M pc lv st σ Q} {i kd f a n : Nat} {ty : FieldType} {fin x : Bool} {v : Value} (hd : decode M.2.1 pc = .ok (.getfield i, 3)) (h : zFL M.1 i kd f ty fin true x) (ht : zT σ a = (kd, n)) (hv : va_rf (zR σ f a) = v) (kk : Wp l G d mc ms M (pc + 3) lv (v :: st) σ Q) : Wp l G d mc ms M pc lv (.ref a :: st) σ Q := zp_get hd h ht (by rw [show zval true σ f a = v from hv]; exact kk)
/-- what a field may be given -/
def zfit (ty : FieldType) (v : Value) : Prop := narrow ty v = v ∧ fits ty v = true
theorem zp_put0 {l G d mc ms M pc lv st σ Q} {i kd f a n : Nat} {ty : FieldType} {fin b x : Bool} {v : Value} {σ' : Sto} (hd : decode M.2.1 pc = .ok (.putfield i, 3)) (h : zFL M.1 i kd f ty fin b x) (hfin : fin = false ∨ (M.2.2.2.2 = true ∧ x = false ∧ ∀ (c0 k0 : Nat) (r : vw_C), f = 100 * (c0 + 1) + k0 → k0 < 20 → zcl[c0]? = some r → (r.2.1 k0).1 = M.1)) (ht : zT σ a = (kd, n)) (hv : zfit ty v)
    (hT : ∀ b, zT σ' b = zT σ b) (hI : ∀ g b, b ≠ a → zI σ' g b = zI σ g b) (hR : ∀ g b, b ≠ a → zR σ' g b = zR σ g b) (hA : ∀ b, zA σ' b = zA σ b) (hQ : ∀ b, zQ σ' b = zQ σ b) (hV : ∀ c k, zV σ' c a k = if 100 * c + k = f then v else zV σ c a k)
    (kk : Wp l G d mc ms M (pc + 3) lv st σ' Q) : Wp l G d mc ms M pc lv (v :: .ref a :: st) σ Q := by
  intro p e R s m args below meth c H locs cells slots k n ls C K S P L r1 r2 r3 r4 r5 r6
  obtain ⟨c0, k0, r0, rfl, hc10, rfl, hr, hk, hty, hfn, rfl, hO, hl⟩ := h
  obtain ⟨hbase, r, h1, cell, q1, q2, q3, q4⟩ := P.2.1 a c0 _ ht hc10
  cases h1.symm.trans hr
  obtain ⟨ty0, hC, hC2, hC3, -, hC5⟩ := zCl_ok hr
  have hap := va_apart (own := M.1) (C.2.2.2.2.1) hC ty0 hC2 hC3 K.1 hr
  obtain ⟨hS, hfc, kC, hkC, hkind⟩ := K.1.1 c0 _ hr
  obtain ⟨cf, kf, fi, fd, hi, hsl⟩ := hS k0 hk
  have hfs := (u_facts hfc hkC (u_lays C.2.2.2.2.1 hC hk) hi).1
  have hlay := C.2.2.2.2.1 _ (hC _ (u_in_lay hk))
  unfold u_lay at hlay
  have fin_ : ∀ H1 : Heap, H1[a]? = some (cell.setSlot fd.slot v) → H1.size = H.size → (∀ q, q ≠ a → H1[q]? = H[q]?) → va_S (gP G) s.heap H1 (locs ++ [⟨a, fd.slot⟩]) ∧ zP G σ' s H1 := fun H1 e1 e2 e3 => by
    refine ⟨S.put e2 e3 hbase, P.change hT (by rw [ht]; exact Nat.succ_ne_zero _) hbase hI hR (fun b _ => hA b) (fun b _ => hQ b) e2 e3 (fun c2 n2 e hc => ?_) (fun n2 e => ?_) (fun j n2 e hj => ?_)⟩
    · rw [ht] at e
      cases e
      refine ⟨_, hr, t_OB.to (V := updV (zV σ (c0 + 1) a) k0 v) ⟨_, e1, q2, q3, by rw [hsl]; exact t_set q4 hap hk v⟩ (fun j hj => ?_)⟩
      rw [hV]
      by_cases hjk : j = k0
      · subst hjk; simp [updV]
      · rw [if_neg (by omega)]; simp [updV, hjk]
    · rw [ht] at e; have e' : c0 + 1 = 20 := congrArg Prod.fst e; omega
    · rw [ht] at e; have e' : c0 + 1 = 21 + j := congrArg Prod.fst e; omega
  have kk' : ∀ H1 : Heap, H1[a]? = some (cell.setSlot fd.slot v) → H1.size = H.size → (∀ q, q ≠ a → H1[q]? = H[q]?) → W p l e R s m args below meth c H1 (locs ++ [⟨a, fd.slot⟩]) cells slots (MQ below (zQC G Q) args s k n (gP G)) (F0 m (pc + 3) ls st) := fun H1 e1 e2 e3 =>
    kk p e R s m args below meth c H1 _ cells slots k n ls C K (fin_ H1 e1 e2 e3).1 (fin_ H1 e1 e2 e3).2 L r1 r2 r3 r4 r5 r6
  have hsz : fd.slot < cell.slots.size := by rw [hsl]; exact k2_hasslot (q4 k0 hk)
  cases hfl : (r0.2.1 k0).2.2.2 with
  | false =>
    rw [if_neg (by rw [hfl]; decide)] at hlay
    have h6 := u_store hfc hkC hkind hlay hi hty hv.1 hv.2
    rcases hl with ⟨-, hl⟩ | ⟨-, hl⟩
    · exact W.putK C.1 C.2.1 (f := fd) ⟨C.2.2.2.1, C.2.2.2.2.1 _ hl, ⟨_, _, _, hi⟩, hfs⟩ (by rw [q2]; exact h6) q1 q3 hsz rfl rfl hd kk'
    · exact va_WputK C.1 C.2.1 (f := fd) C.2.2.2.1 (va_Nw.use rfl (K.2.1 _ hl)) hi hfs (by rw [q2]; exact h6) q1 q3 hsz rfl rfl hd kk'
  | true =>
    rcases hfin with hf | ⟨hf, hx, hown⟩
    · rw [hfn, hf] at hfl; cases hfl
    · rw [if_pos hfl] at hlay
      have hdecl := hown c0 k0 r0 rfl (Nat.lt_of_lt_of_le hk hC5) hr
      have hcf : m.cls = cf := by
        obtain ⟨_, _, c', _, _, _, -, -, hf', -, -, -, hown2, -⟩ := Cond.laysFinal_spec hlay
        have e1 : c' = cf := by have := hi.symm.trans hf'; simp at this; exact this.1.symm
        rw [hdecl] at hown2
        rw [← e1]; exact Option.some.inj (C.2.2.2.1.symm.trans hown2)
      have h6 := u_fits hfc hkC hkind (Or.inr hlay) hi hty hv.1 hv.2
      rcases hl with ⟨-, hl⟩ | ⟨hx2, hl⟩
      · exact W.putFinK C.1 C.2.1 C.2.2.2.1 (C.2.2.2.2.1 _ hl) hi hfs hcf (C.2.2.2.2.2.2.2 hf) (by rw [q2]; exact h6) q1 q3 hsz rfl rfl hd kk'
      · rw [hx] at hx2; cases hx2
end
section
/-! ROWS, second part: putfield by kind, arrays, new objects -/
theorem zV_wI {σ : Sto} {f a : Nat} {x : Int32} (hf : zref f = false) (c k : Nat) : zV (wI σ f a x) c a k = if 100 * c + k = f then .int x else zV σ c a k := by
  unfold zV zval
  by_cases e : 100 * c + k = f
  · rw [if_pos e, e, hf]
    show Value.int _ = _
    rw [zI_wI, if_pos ⟨rfl, rfl⟩]
  · rw [if_neg e]
    cases zref (100 * c + k)
    · show Value.int _ = Value.int _; rw [zI_wI, if_neg (fun h => e h.1)]
    · rfl
theorem zV_wR {σ : Sto} {f a : Nat} {x : Option Nat} (hf : zref f = true) (c k : Nat) : zV (wR σ f a x) c a k = if 100 * c + k = f then va_rf x else zV σ c a k := by
  unfold zV zval
  by_cases e : 100 * c + k = f
  · rw [if_pos e, e, hf]
    show va_rf _ = _
    rw [zR_wR, if_pos ⟨rfl, rfl⟩]
  · rw [if_neg e]
    cases zref (100 * c + k)
    · rfl
    · show va_rf _ = va_rf _; rw [zR_wR, if_neg (fun h => e h.1)]
theorem zFL.ref {own i kd f ty fin b x} (h : zFL own i kd f ty fin b x) : zref f = b := by
  obtain ⟨c0, k0, r0, -, -, -, -, -, -, -, hb, -⟩ := h
  exact hb
theorem zp_putI {l G d mc ms M pc lv st σ Q} {i kd f a n : Nat} {x : Bool} {v : Int32} (hd : decode M.2.1 pc = .ok (.putfield i, 3)) (h : zFL M.1 i kd f .int false false x) (ht : zT σ a = (kd, n)) (kk : Wp l G d mc ms M (pc + 3) lv st (wI σ f a v) Q) : Wp l G d mc ms M pc lv (.int v :: .ref a :: st) σ Q :=
  zp_put0 (σ' := wI σ f a v) hd h (Or.inl rfl) ht ⟨rfl, rfl⟩ (fun _ => rfl) (fun g b hb => by rw [zI_wI, if_neg (fun q => hb q.2)]) (fun _ _ _ => rfl) (fun _ => rfl) (fun _ => rfl) (zV_wI h.ref) kk
theorem zfit_bool {v : Int32} (hv : v = 0 ∨ v = 1) : zfit .boolean (.int v) := by
  rcases hv with rfl | rfl
  · exact ⟨by decide, by decide⟩
  · exact ⟨by decide, by decide⟩
theorem zp_putZ {l G d mc ms M pc lv st σ Q} {i kd f a n : Nat} {x : Bool} {v : Int32} (hd : decode M.2.1 pc = .ok (.putfield i, 3)) (h : zFL M.1 i kd f .boolean false false x) (ht : zT σ a = (kd, n)) (hv : v = 0 ∨ v = 1) (kk : Wp l G d mc ms M (pc + 3) lv st (wI σ f a v) Q) : Wp l G d mc ms M pc lv (.int v :: .ref a :: st) σ Q :=
  zp_put0 (σ' := wI σ f a v) hd h (Or.inl rfl) ht (zfit_bool hv) (fun _ => rfl) (fun g b hb => by rw [zI_wI, if_neg (fun q => hb q.2)]) (fun _ _ _ => rfl) (fun _ => rfl) (fun _ => rfl) (zV_wI h.ref) kk
theorem zfit_ref {C : String} {r : Option Nat} : zfit (.object C) (va_rf r) := by cases r <;> exact ⟨rfl, rfl⟩
theorem zfit_arr {t : FieldType} {r : Option Nat} : zfit (.array t) (va_rf r) := by cases r <;> exact ⟨rfl, rfl⟩
theorem zp_putR {l G d mc ms M pc lv st σ Q} {i kd f a n : Nat} {C : String} {x : Bool} {v : Value} {r : Option Nat} (hd : decode M.2.1 pc = .ok (.putfield i, 3)) (h : zFL M.1 i kd f (.object C) false true x) (ht : zT σ a = (kd, n)) (hv : v = va_rf r) (kk : Wp l G d mc ms M (pc + 3) lv st (wR σ f a r) Q) : Wp l G d mc ms M pc lv (v :: .ref a :: st) σ Q := by
  subst hv
  exact zp_put0 (σ' := wR σ f a r) hd h (Or.inl rfl) ht zfit_ref (fun _ => rfl) (fun _ _ _ => rfl) (fun g b hb => by rw [zR_wR, if_neg (fun q => hb q.2)]) (fun _ => rfl) (fun _ => rfl) (zV_wR h.ref) kk
/-- final fields, in the class's own constructor -/
def zOwn (own : String) (f : Nat) : Prop := ∀ (c0 k0 : Nat) (r : vw_C), f = 100 * (c0 + 1) + k0 → k0 < 20 → zcl[c0]? = some r → (r.2.1 k0).1 = own
theorem zOwn_of {own : String} {f : Nat} {r0 : vw_C} (h1 : zcl[f / 100 - 1]? = some r0) (h2 : (r0.2.1 (f % 100)).1 = own) : zOwn own f := by
  intro c0 k0 r e hk hr
  have e1 : f / 100 - 1 = c0 := by omega
  have e2 : f % 100 = k0 := by omega
  rw [e1] at h1
  cases h1.symm.trans hr
  rw [e2] at h2
  exact h2
theorem zp_putIf {l G d mc ms M pc lv st σ Q} {i kd f a n : Nat} {v : Int32} (hd : decode M.2.1 pc = .ok (.putfield i, 3)) (h : zFL M.1 i kd f .int true false false) (hi : M.2.2.2.2 = true) (ho : zOwn M.1 f) (ht : zT σ a = (kd, n)) (kk : Wp l G d mc ms M (pc + 3) lv st (wI σ f a v) Q) : Wp l G d mc ms M pc lv (.int v :: .ref a :: st) σ Q :=
  zp_put0 (σ' := wI σ f a v) hd h (Or.inr ⟨hi, rfl, ho⟩) ht ⟨rfl, rfl⟩ (fun _ => rfl) (fun g b hb => by rw [zI_wI, if_neg (fun q => hb q.2)]) (fun _ _ _ => rfl) (fun _ => rfl) (fun _ => rfl) (zV_wI h.ref) kk
theorem zp_putZf {l G d mc ms M pc lv st σ Q} {i kd f a n : Nat} {v : Int32} (hd : decode M.2.1 pc = .ok (.putfield i, 3)) (h : zFL M.1 i kd f .boolean true false false) (hi : M.2.2.2.2 = true) (ho : zOwn M.1 f) (ht : zT σ a = (kd, n)) (hv : v = 0 ∨ v = 1) (kk : Wp l G d mc ms M (pc + 3) lv st (wI σ f a v) Q) : Wp l G d mc ms M pc lv (.int v :: .ref a :: st) σ Q :=
  zp_put0 (σ' := wI σ f a v) hd h (Or.inr ⟨hi, rfl, ho⟩) ht (zfit_bool hv) (fun _ => rfl) (fun g b hb => by rw [zI_wI, if_neg (fun q => hb q.2)]) (fun _ _ _ => rfl) (fun _ => rfl) (fun _ => rfl) (zV_wI h.ref) kk
theorem zp_putRf {l G d mc ms M pc lv st σ Q} {i kd f a n : Nat} {ty : FieldType} {v : Value} {r : Option Nat} (hd : decode M.2.1 pc = .ok (.putfield i, 3)) (h : zFL M.1 i kd f ty true true false) (hi : M.2.2.2.2 = true) (ho : zOwn M.1 f) (ht : zT σ a = (kd, n)) (hv : v = va_rf r) (hfit : zfit ty (va_rf r)) (kk : Wp l G d mc ms M (pc + 3) lv st (wR σ f a r) Q) : Wp l G d mc ms M pc lv (v :: .ref a :: st) σ Q := by
  subst hv
  exact zp_put0 (σ' := wR σ f a r) hd h (Or.inr ⟨hi, rfl, ho⟩) ht hfit (fun _ => rfl) (fun _ _ _ => rfl) (fun g b hb => by rw [zR_wR, if_neg (fun q => hb q.2)]) (fun _ => rfl) (fun _ => rfl) (zV_wR h.ref) kk
/-- arrays of ints -/
theorem zp_iaload {l G d mc ms M pc lv st σ Q} {a kd n j : Nat} {x : Int32} (hd : decode M.2.1 pc = .ok (.iaload, 1)) (ht : zT σ a = (kd, n)) (hk : kd = 20 ∨ kd = 25) (hj : x.toNatClampNeg = j) (hin : vp_in x n) (kk : Wp l G d mc ms M (pc + 1) lv (.int (zA σ a j) :: st) σ Q) : Wp l G d mc ms M pc lv (.int x :: .ref a :: st) σ Q := by
  intro p e R s m args below meth c H locs cells slots k n' ls C K S P L r1 r2 r3 r4 r5 r6
  have hlt : x.toNatClampNeg < n := Nat.not_le.mp fun q => hin (Or.inr q)
  subst hj
  have kk' := kk p e R s m args below meth c H locs cells slots k n' ls C K S P L r1 r2 r3 r4 r5 r6
  rcases hk with rfl | rfl
  · exact W.iald (v := .int (zA σ a x.toNatClampNeg)) C.1 C.2.1 (P.2.2.1 a n ht).2 ((K.1.2 0 _ rfl).1 n (fun j => .int (zA σ a j))) (fun q => by cases q) (by show ¬ (x < 0 ∨ (arrV _ _ _).slots.size ≤ _); rw [arrV_size]; exact hin) (by show (arrV _ _ _).slots[_]? = _; rw [arrV_read _ _ hlt]) rfl rfl hd kk'
  · obtain ⟨-, scr, h1, h2, h3, h4, h5⟩ := P.2.2.2.2.1 a n ht
    exact W.iald (v := .int (zA σ a x.toNatClampNeg)) C.1 C.2.1 h1 h2 h3 (by rw [h4]; exact hin) (h5 _ hlt) rfl rfl hd kk'
theorem zp_iastore {l G d mc ms M pc lv st σ Q} {a n j : Nat} {x v : Int32} (hd : decode M.2.1 pc = .ok (.iastore, 1)) (ht : zT σ a = (20, n)) (hj : x.toNatClampNeg = j) (hin : vp_in x n) (kk : Wp l G d mc ms M (pc + 1) lv st (wA σ a j v) Q) : Wp l G d mc ms M pc lv (.int v :: .int x :: .ref a :: st) σ Q := by
  intro p e R s m args below meth c H locs cells slots k n' ls C K S P L r1 r2 r3 r4 r5 r6
  subst hj
  obtain ⟨hbase, hcell⟩ := P.2.2.1 a n ht
  refine W.iast C.1 C.2.1 hcell ((K.1.2 0 _ rfl).1 n (fun j => .int (zA σ a j))) (fun q => by cases q) (by show ¬ (x < 0 ∨ (arrV _ _ _).slots.size ≤ _); rw [arrV_size]; exact hin) rfl rfl hd fun H1 e1 z oq => ?_
  refine kk p e R s m args below meth c H1 _ cells slots k n' ls C K (S.put z oq hbase) (P.change (fun _ => rfl) (by rw [ht]; exact fun q => by cases q) hbase (fun _ _ _ => rfl) (fun _ _ _ => rfl) (fun b hb => by funext i; rw [zA_wA, if_neg (fun q => hb q.1)]) (fun _ _ => rfl) z oq (fun c2 n2 e2 hc => ?_) (fun n2 e2 => ?_) (fun j n2 e2 hj => ?_)) L r1 r2 r3 r4 r5 r6
  · rw [ht] at e2; have e' : 20 = c2 + 1 := congrArg Prod.fst e2; omega
  · rw [ht] at e2
    have e' : n = n2 := congrArg Prod.snd e2
    subst e'
    rw [e1, arrV_store]
    congr 2
    funext q
    by_cases hq : q = x.toNatClampNeg
    · subst hq
      simp [updV, zA_wA]
    · simp [updV, zA_wA, hq]
  · rw [ht] at e2; have e' : 20 = 21 + j := congrArg Prod.fst e2; omega
theorem zp_alen {l G d mc ms M pc lv st σ Q} {a kd n : Nat} {v : Int32} (hd : decode M.2.1 pc = .ok (.arraylength, 1)) (ht : zT σ a = (kd, n)) (hk : kd = 20 ∨ kd = 25 ∨ kd = 21 ∨ kd = 22 ∨ kd = 23) (hv : Int32.ofNat n = v) (kk : Wp l G d mc ms M (pc + 1) lv (.int v :: st) σ Q) : Wp l G d mc ms M pc lv (.ref a :: st) σ Q := by
  intro p e R s m args below meth c H locs cells slots k n' ls C K S P L r1 r2 r3 r4 r5 r6
  subst hv
  have kk' := kk p e R s m args below meth c H locs cells slots k n' ls C K S P L r1 r2 r3 r4 r5 r6
  rcases hk with rfl | rfl | rfl | rfl | rfl
  · exact W.alen (n := Int32.ofNat n) C.1 C.2.1 (P.2.2.1 a n ht).2 ((K.1.2 0 _ rfl).1 n (fun j => .int (zA σ a j))) (by rw [arrV_size] <;> rfl) rfl rfl hd kk'
  · obtain ⟨-, scr, h1, h2, h3, h4, h5⟩ := P.2.2.2.2.1 a n ht
    exact W.alen (n := Int32.ofNat n) C.1 C.2.1 h1 h2 (by rw [h4] <;> rfl) rfl rfl hd kk'
  · exact W.alen (n := Int32.ofNat n) C.1 C.2.1 (P.2.2.2.1 a 0 n ht (by decide)).2 ((K.1.2 1 _ rfl).1 n (fun j => va_rf (zQ σ a j))) (by rw [arrV_size] <;> rfl) rfl rfl hd kk'
  · exact W.alen (n := Int32.ofNat n) C.1 C.2.1 (P.2.2.2.1 a 1 n ht (by decide)).2 ((K.1.2 2 _ rfl).1 n (fun j => va_rf (zQ σ a j))) (by rw [arrV_size] <;> rfl) rfl rfl hd kk'
  · exact W.alen (n := Int32.ofNat n) C.1 C.2.1 (P.2.2.2.1 a 2 n ht (by decide)).2 ((K.1.2 3 _ rfl).1 n (fun j => va_rf (zQ σ a j))) (by rw [arrV_size] <;> rfl) rfl rfl hd kk'
end
section
/-! ROWS, third part: statics, enum constants, new cells, arrays of references, calls, returns (by wip/p27/gen_rows3.py) -/
theorem zp_kin {l G d mc ms M pc lv st σ Q} (kk : (∀ i j, i < 9 → j < 9 → G.2.2.1 i = G.2.2.1 j → i = j) → Wp l G d mc ms M pc lv st σ Q) : Wp l G d mc ms M pc lv st σ Q := by
  intro p e R s m args below meth c H locs cells slots k n ls C K S P L r1 r2 r3 r4 r5 r6
  exact kk K.2.2.2.1.2 p e R s m args below meth c H locs cells slots k n ls C K S P L r1 r2 r3 r4 r5 r6
theorem zp_zp0 {l G d mc ms M pc lv st σ Q} (kk : zP0 σ → Wp l G d mc ms M pc lv st σ Q) : Wp l G d mc ms M pc lv st σ Q := by
  intro p e R s m args below meth c H locs cells slots k n ls C K S P L r1 r2 r3 r4 r5 r6
  exact kk P.1 p e R s m args below meth c H locs cells slots k n ls C K S P L r1 r2 r3 r4 r5 r6
theorem zp_kind {l G d mc ms M pc lv st σ Q} {index i : Nat} {nm : String} (hd : decode M.2.1 pc = .ok (.getstatic index, 3)) (hi : i < 9) (hn : znm.getD i "" = nm) (hl : Cond.fieldLink M.1 index RX3 nm "LFlowBoxes$Kind;" ∈ gwl) (kk : Wp l G d mc ms M (pc + 3) lv (.ref (G.2.2.1 i) :: st) σ Q) : Wp l G d mc ms M pc lv st σ Q := by
  intro p e R s m args below meth c H locs cells slots k n ls C K S P L r1 r2 r3 r4 r5 r6
  subst hn
  exact va_gets C.1 C.2.1 (K.2.2.2.1.1 i hi).1 S C.2.2.2.1 (C.2.2.2.2.1 _ hl) (fun _ h => h) hd (kk p e R s m args below meth c H locs cells slots k n ls C K S P L r1 r2 r3 r4 r5 r6)
theorem zp_swmap {l G d mc ms M pc lv st σ Q} {index : Nat} (hd : decode M.2.1 pc = .ok (.getstatic index, 3)) (hl : Cond.fieldLink M.1 index RX0 "$SwitchMap$FlowBoxes$Kind" "[I" ∈ gwl) (kk : Wp l G d mc ms M (pc + 3) lv (.ref G.2.2.2.1 :: st) σ Q) : Wp l G d mc ms M pc lv st σ Q := by
  intro p e R s m args below meth c H locs cells slots k n ls C K S P L r1 r2 r3 r4 r5 r6
  exact va_gets C.1 C.2.1 K.2.2.2.2.1 S C.2.2.2.1 (C.2.2.2.2.1 _ hl) (fun _ h => h) hd (kk p e R s m args below meth c H locs cells slots k n ls C K S P L r1 r2 r3 r4 r5 r6)
theorem zp_ord {l G d mc ms M pc lv st σ Q} {index i : Nat} {x : Int32} (hd : decode M.2.1 pc = .ok (.getfield index, 3)) (hi : i < 9) (hx : ([0, 1, 2, 3, 4, 5, 6, 7, 8] : List Int32).getD i 0 = x) (hl : Cond.fieldLink M.1 index "java/lang/Enum" "ordinal" "I" ∈ gwl) (kk : Wp l G d mc ms M (pc + 3) lv (.int x :: st) σ Q) : Wp l G d mc ms M pc lv (.ref (G.2.2.1 i) :: st) σ Q := by
  intro p e R s m args below meth c H locs cells slots k n ls C K S P L r1 r2 r3 r4 r5 r6
  subst hx
  exact va_getE (q := ("java/lang/Enum", "ordinal", "I", [0, 1, 2, 3, 4, 5, 6, 7, 8])) C.1 C.2.1 K.2.2.2.1 hi S C.2.2.2.1 List.mem_cons_self (C.2.2.2.2.1 _ hl) (fun _ h => h) hd (kk p e R s m args below meth c H locs cells slots k n ls C K S P L r1 r2 r3 r4 r5 r6)
theorem zSle {G : Gb} {s : State} {H : Heap} {locs : List Loc} (K : zK G s s.heap) (S : va_S (gP G) s.heap H locs) : G.2.1 ≤ H.size := Nat.le_trans K.2.2.2.2.2 S.1
theorem zq0 {G : Gb} {σ : Sto} {s : State} {H : Heap} (P : zP G σ s H) : (zT σ H.size).1 = 0 := Decidable.byContradiction fun h => absurd (P.2.2.2.2.2.2 _ h) (Nat.lt_irrefl _)
theorem zSpush {G : Gb} {s : State} {H H1 : Heap} {locs : List Loc} (S : va_S (gP G) s.heap H locs) (z1 : H1.size = H.size + 1) (o1 : ∀ q, q < H.size → H1[q]? = H[q]?) : va_S (gP G) s.heap H1 locs :=
  ⟨Nat.le_trans S.1 (by omega), fun x h1 h2 => (o1 x (Nat.lt_of_lt_of_le h1 S.1)).trans (S.2.1 x h1 h2), S.2.2⟩
theorem zp_newI {l G d mc ms M pc lv st σ Q} {x : Int32} {N mc2 ms2 : Nat} (hd : decode M.2.1 pc = .ok (.newarray .int, 2)) (hw : Cond.arrayClass .int ∈ gwl) (hn : ¬ x < 0) (hN : x.toNatClampNeg = N) (hb : N * 4 ≤ 536870912) (h1 : mc2 + 1 ≤ mc) (h2 : ms2 + N ≤ ms)
    (kk : ∀ q, (zT σ q).1 = 0 → Wp l G d mc2 ms2 M (pc + 2) lv (.ref q :: st) (wT σ q (20, N)) Q) : Wp l G d mc ms M pc lv (.int x :: st) σ Q := by
  intro p e R s m args below meth c H locs cells slots k n ls C K S P L r1 r2 r3 r4 r5 r6
  refine va_newaK (atype := .int) C.1 C.2.1 (C.2.2.2.2.1 _ hw) rfl hd rfl hn hN hb (by omega) (by omega) rfl fun H1 cA e1 z1 o1 hAr hNm => ?_
  have hcA : cA = G.2.2.2.2 0 := Option.some.inj (hNm.symm.trans ((K.1.2 0 _ rfl).2))
  subst hcA
  refine kk H.size (zq0 P) p e R s m args below meth c H1 locs (cells + 1) (slots + N) k n ls C K (zSpush S z1 o1) (P.push (zSle K S) z1 o1 ⟨by show (20 : Nat) ≠ 0; decide, by show (20 : Nat) ≠ 25; decide, by show (20 : Nat) ≠ 30; decide⟩ (fun c h => by have h : (20 : Nat) = c + 1 := h; intro q; omega) (fun _ => ?_) (fun j h => by have h : (20 : Nat) = 21 + j := h; omega)) L r1 r2 (by omega) (by omega) r5 r6
  rw [e1]
  have hz : (fun j => Value.int (zA σ H.size j)) = fun _ => defaultValue (newarray.typeOf .int) := by funext j; rw [((P.1 _ (zq0 P)).2 j).1]; rfl
  rw [hz]
theorem zp_new {l G d mc ms M pc lv st σ Q} {c0 index mc2 ms2 : Nat} {r0 : vw_C} (hd : decode M.2.1 pc = .ok (.new index, 3)) (hr : zcl[c0]? = some r0) (hw1 : Cond.classLink M.1 index r0.1 ∈ gwl) (hw2 : Cond.instantiable r0.1 r0.2.2 ∈ gwl) (hw3 : Cond.initialized r0.1 ∈ gwl) (h1 : mc2 + 1 ≤ mc) (h2 : ms2 + r0.2.2 ≤ ms)
    (kk : ∀ q, (zT σ q).1 = 0 → Wp l G d mc2 ms2 M (pc + 3) lv (.ref q :: st) (wT σ q (c0 + 1, 0)) Q) : Wp l G d mc ms M pc lv st σ Q := by
  intro p e R s m args below meth c H locs cells slots k n ls C K S P L r1 r2 r3 r4 r5 r6
  obtain ⟨ty, hC⟩ := zCl_ok hr
  have hKn := K.1.1 c0 _ hr
  have hlt : c0 < 10 := (List.getElem?_eq_some_iff.mp hr).1
  refine W.newcK C.1 C.2.1 C.2.2.2.1 (C.2.2.2.2.1 _ hw1) (C.2.2.2.2.1 _ hw2) (C.2.2.2.2.1 _ hw3) rfl hd (by omega) (by omega) hKn.2.1 rfl fun H1 kC hkC e1 z1 o1 => ?_
  refine kk H.size (zq0 P) p e R s m args below meth c H1 locs (cells + 1) (slots + r0.2.2) k n ls C K (zSpush S z1 o1) (P.push (zSle K S) z1 o1 ⟨Nat.succ_ne_zero _, by show c0 + 1 ≠ 25; omega, by show c0 + 1 ≠ 30; omega⟩ (fun c h hc => ?_) (fun h => by have h : c0 + 1 = 20 := h; omega) (fun j h => by have h : c0 + 1 = 21 + j := h; omega)) L r1 r2 (by omega) (by omega) r5 r6
  have h : c0 + 1 = c + 1 := h
  have h : c0 = c := by omega
  subst h
  refine ⟨r0, hr, (u_born ty C.2.2.2.2.1 hC.1 hKn hkC e1 hC.2.1).to (fun j hj => ?_)⟩
  have hz := (P.1 _ (zq0 P)).1 (100 * (c0 + 1) + j)
  rw [hC.2.2.2.1 j hj]
  unfold zV zval
  cases zref (100 * (c0 + 1) + j)
  · show Value.int 0 = Value.int _; rw [hz.1]
  · show Value.null = va_rf _; rw [hz.2]; rfl
theorem zao1 {G U H} (K : zK G U H) : va_AO "FlowBoxes$Node" U := K.2.2.1.1
theorem zao2 {G U H} (K : zK G U H) : va_AO "FlowBoxes$Flow" U := K.2.2.1.2.1
theorem zao3 {G U H} (K : zK G U H) : va_AO "FlowBoxes$Thing" U := K.2.2.1.2.2
theorem zp_newQ {l G d mc ms M pc lv st σ Q} {x : Int32} {N mc2 ms2 index j : Nat} {Cn : String} (hd : decode M.2.1 pc = .ok (.anewarray index, 3)) (hw : Cond.classLink M.1 index Cn ∈ gwl) (hj : j < 3) (hty : (ztys G)[j + 1]? = some (G.2.2.2.2 (j + 1), .object Cn)) (hao : ∀ {U H}, zK G U H → va_AO Cn U) (hn : ¬ x < 0) (hN : x.toNatClampNeg = N) (hb : N * 4 ≤ 536870912) (h1 : mc2 + 1 ≤ mc) (h2 : ms2 + N ≤ ms)
    (kk : ∀ q, (zT σ q).1 = 0 → Wp l G d mc2 ms2 M (pc + 3) lv (.ref q :: st) (wT σ q (21 + j, N)) Q) : Wp l G d mc ms M pc lv (.int x :: st) σ Q := by
  intro p e R s m args below meth c H locs cells slots k n ls C K S P L r1 r2 r3 r4 r5 r6
  subst hN
  refine W.anew C.1 C.2.1 C.2.2.2.1 (C.2.2.2.2.1 _ hw) (va_AO.use (hao K)) rfl hd rfl hn hb (by omega) (by omega) fun cA kA comp f1 f2 f3 f4 => ?_
  obtain ⟨kA2, comp2, -, -, -, g4⟩ := (K.1.2 (j + 1) _ hty).2
  have hcA : cA = G.2.2.2.2 (j + 1) := Option.some.inj (f1.symm.trans g4)
  subst hcA
  generalize hH1 : H.push ({ cls := G.2.2.2.2 (j + 1), slots := Array.replicate x.toNatClampNeg .null, vm := .none } : Cell) = H1
  have z1 : H1.size = H.size + 1 := by rw [← hH1, Array.size_push]
  have e1 : H1[H.size]? = some (arrV (G.2.2.2.2 (j + 1)) x.toNatClampNeg (fun _ => .null)) := by rw [← hH1, Array.getElem?_push_size, ← arrV_new]
  have o1 : ∀ q : Nat, q < H.size → H1[q]? = H[q]? := fun q hq => by rw [← hH1, Array.getElem?_push, if_neg (Nat.ne_of_lt hq)]
  refine kk H.size (zq0 P) p e R s m args below meth c H1 locs (cells + 1) (slots + x.toNatClampNeg) k n ls C K (zSpush S z1 o1) (P.push (zSle K S) z1 o1 ⟨by show 21 + j ≠ 0; omega, by show 21 + j ≠ 25; omega, by show 21 + j ≠ 30; omega⟩ (fun c h hc => by have h : 21 + j = c + 1 := h; omega) (fun h => by have h : 21 + j = 20 := h; omega) (fun j2 h _ => ?_)) L r1 r2 (by omega) (by omega) r5 r6
  have h : 21 + j = 21 + j2 := h
  have h : j = j2 := by omega
  subst h
  rw [e1]
  have hz : (fun i => va_rf (zQ σ H.size i)) = fun _ => Value.null := by funext i; rw [((P.1 _ (zq0 P)).2 i).2]; rfl
  rw [hz]
theorem zp_aaload {l G d mc ms M pc lv st σ Q} {a j n i : Nat} {x : Int32} {Cn : String} {v : Value} (hd : decode M.2.1 pc = .ok (.aaload, 1)) (ht : zT σ a = (21 + j, n)) (hj : j < 3) (hty : (ztys G)[j + 1]? = some (G.2.2.2.2 (j + 1), .object Cn)) (hi : x.toNatClampNeg = i) (hin : vp_in x n) (hv : va_rf (zQ σ a i) = v) (kk : Wp l G d mc ms M (pc + 1) lv (v :: st) σ Q) : Wp l G d mc ms M pc lv (.int x :: .ref a :: st) σ Q := by
  intro p e R s m args below meth c H locs cells slots k n' ls C K S P L r1 r2 r3 r4 r5 r6
  have hlt : x.toNatClampNeg < n := Nat.not_le.mp fun q => hin (Or.inr q)
  subst hi; subst hv
  exact W.aald (v := va_rf (zQ σ a x.toNatClampNeg)) (ty := .object Cn) C.1 C.2.1 (P.2.2.2.1 a j n ht hj).2 ((K.1.2 (j + 1) _ hty).1 n (fun i => va_rf (zQ σ a i))) rfl (fun q => by cases q) (by show ¬ (x < 0 ∨ (arrV _ _ _).slots.size ≤ _); rw [arrV_size]; exact hin) (by show (arrV _ _ _).slots[_]? = _; rw [arrV_read _ _ hlt]) rfl rfl hd (kk p e R s m args below meth c H locs cells slots k n' ls C K S P L r1 r2 r3 r4 r5 r6)
theorem zp_aastore {l G d mc ms M pc lv st σ Q} {a j n i c0 v nv : Nat} {x : Int32} {r0 : vw_C} (hd : decode M.2.1 pc = .ok (.aastore, 1)) (ht : zT σ a = (21 + j, n)) (hj : j < 3) (hr : zcl[c0]? = some r0) (hty : (ztys G)[j + 1]? = some (G.2.2.2.2 (j + 1), .object r0.1)) (hv : zT σ v = (c0 + 1, nv)) (hi : x.toNatClampNeg = i) (hin : vp_in x n) (kk : Wp l G d mc ms M (pc + 1) lv st (wQ σ a i (some v)) Q) : Wp l G d mc ms M pc lv (.ref v :: .int x :: .ref a :: st) σ Q := by
  intro p e R s m args below meth c H locs cells slots k n' ls C K S P L r1 r2 r3 r4 r5 r6
  subst hi
  have hlt : x.toNatClampNeg < n := Nat.not_le.mp fun q => hin (Or.inr q)
  have h0 : ¬ x < 0 := fun q => hin (Or.inl q)
  have hc10 : c0 < 10 := (List.getElem?_eq_some_iff.mp hr).1
  obtain ⟨hbase, hcell⟩ := P.2.2.2.1 a j n ht hj
  obtain ⟨-, r1', hr1, cellV, g1, g2, g3, -⟩ := P.2.1 v c0 _ hv hc10
  have hcls := (K.1.1 c0 r0 hr).2
  obtain ⟨kA, comp, k1, k2, k3, -⟩ := (K.1.2 (j + 1) _ hty).2
  have hcomp : comp = G.1.1 c0 := Option.some.inj (k3.symm.trans hcls.1)
  subst hcomp
  obtain ⟨kC, hkC, -⟩ := hcls.2
  refine W.aast C.1 C.2.1 hcell (fun q h => by cases h) (fun h => by cases h) k1 k2 rfl hkC ⟨h0, by show _ < (arrV _ _ _).slots.size; rw [arrV_size]; exact hlt⟩ g1 (fun q h => by rw [g3] at h; cases h) (by rw [g2]; exact hkC) (by rw [g2]; exact va_assign hcls) rfl rfl hd fun H1 e1 z oq => ?_
  refine kk p e R s m args below meth c H1 _ cells slots k n' ls C K (S.put z oq hbase) (P.change (fun _ => rfl) (by rw [ht]; show 21 + j ≠ 0; omega) hbase (fun _ _ _ => rfl) (fun _ _ _ => rfl) (fun _ _ => rfl) (fun b hb => by funext i; rw [zQ_wQ, if_neg (fun q => hb q.1)]) z oq (fun c2 n2 e2 hc => ?_) (fun n2 e2 => ?_) (fun j2 n2 e2 hj2 => ?_)) L r1 r2 r3 r4 r5 r6
  · rw [ht] at e2; have e' : 21 + j = c2 + 1 := congrArg Prod.fst e2; omega
  · rw [ht] at e2; have e' : 21 + j = 20 := congrArg Prod.fst e2; omega
  · rw [ht] at e2
    have e' : 21 + j = 21 + j2 := congrArg Prod.fst e2
    have e'' : n = n2 := congrArg Prod.snd e2
    have e' : j = j2 := by omega
    subst e'; subst e''
    rw [e1, arrV_store]
    congr 2
    funext q
    by_cases hq : q = x.toNatClampNeg
    · subst hq
      simp [updV, zQ_wQ, va_rf]
    · simp [updV, zQ_wQ, hq]
/-- java.lang.Object's constructor -/
theorem zp_objInit {l G d mc ms M pc lv st σ Q} {a index : Nat} (hd : decode M.2.1 pc = .ok (.invokespecial index, 3)) (hl : Cond.methodLink M.1 index objectInit ∈ gwl) (hi : Cond.instanceMethod objectInit ∈ gwl) (hc : Cond.code objectInit ⟨#[0xb1]⟩ 1 none ∈ gwl) (h1 : 1 ≤ d) (hst : (st.map fun v => v.category).sum ≤ 8) (kk : Wp l G d mc ms M (pc + 3) lv st σ Q) : Wp l G d mc ms M pc lv (.ref a :: st) σ Q := by
  intro p e R s m args below meth c H locs cells slots k n ls C K S P L r1 r2 r3 r4 r5 r6
  refine W.objInit C.1 C.2.1 C.2.2.2.1 (C.2.2.2.2.1 _ hl) (C.2.2.2.2.1 _ hi) (C.2.2.2.2.1 _ hc) rfl (by rw [C.2.2.1]; exact L.1) rfl hd (by omega) (by show 2 * 0 + (st.map fun v => v.category).sum + 12 ≤ _; omega) ?_
  exact (kk p e R s m args below meth c H locs cells slots k n ls C K S P L r1 r2 r3 r4 r5 r6)
theorem zp_max {l G d mc ms M pc lv st σ Q} {x y v : Int32} {index : Nat} (hd : decode M.2.1 pc = .ok (.invokestatic index, 3)) (hl : Cond.methodLink M.1 index Lib.Math.max.name ∈ gwl) (hs : Cond.static Lib.Math.max.name ∈ gwl) (hi : Cond.initialized "java/lang/Math" ∈ gwl) (hc : Cond.code Lib.Math.max.name Lib.Math.max.code 2 (some .int) ∈ gwl) (h1 : 1 ≤ d) (hst : (st.map fun v => v.category).sum ≤ 8) (hv : (if x < y then y else x) = v) (kk : Wp l G d mc ms M (pc + 3) lv (.int v :: st) σ Q) : Wp l G d mc ms M pc lv (.int y :: .int x :: st) σ Q := by
  intro p e R s m args below meth c H locs cells slots k n ls C K S P L r1 r2 r3 r4 r5 r6
  subst hv
  exact va_mmax C.1 C.2.1 (by rw [C.2.2.1]; exact L.1.symm) C.2.2.2.1 (C.2.2.2.2.1 _ hl) (C.2.2.2.2.1 _ hs) (C.2.2.2.2.1 _ hi) (C.2.2.2.2.1 _ hc) (by omega) (by omega) (by omega) (by omega) hd (kk p e R s m args below meth c H locs cells slots k n ls C K S P L r1 r2 r3 r4 r5 r6)
theorem zp_min {l G d mc ms M pc lv st σ Q} {x y v : Int32} {index : Nat} (hd : decode M.2.1 pc = .ok (.invokestatic index, 3)) (hl : Cond.methodLink M.1 index Lib.Math.min.name ∈ gwl) (hs : Cond.static Lib.Math.min.name ∈ gwl) (hi : Cond.initialized "java/lang/Math" ∈ gwl) (hc : Cond.code Lib.Math.min.name Lib.Math.min.code 2 (some .int) ∈ gwl) (h1 : 1 ≤ d) (hst : (st.map fun v => v.category).sum ≤ 8) (hv : (if y < x then y else x) = v) (kk : Wp l G d mc ms M (pc + 3) lv (.int v :: st) σ Q) : Wp l G d mc ms M pc lv (.int y :: .int x :: st) σ Q := by
  intro p e R s m args below meth c H locs cells slots k n ls C K S P L r1 r2 r3 r4 r5 r6
  subst hv
  exact va_mmin C.1 C.2.1 (by rw [C.2.2.1]; exact L.1.symm) C.2.2.2.1 (C.2.2.2.2.1 _ hl) (C.2.2.2.2.1 _ hs) (C.2.2.2.2.1 _ hi) (C.2.2.2.2.1 _ hc) (by omega) (by omega) (by omega) (by omega) hd (kk p e R s m args below meth c H locs cells slots k n ls C K S P L r1 r2 r3 r4 r5 r6)

theorem zp_vret {l G d mc ms M pc lv σ Q} (hr : M.2.2.2.1 = none) (hd : decode M.2.1 pc = .ok (.return_, 1)) (hQ : Q none σ) : Wp l G d mc ms M pc lv [] σ Q := by
  intro p e R s m args below meth c H locs cells slots k n ls C K S P L r1 r2 r3 r4 r5 r6
  refine W.widen (k := k) (n := n) (by omega) (by omega) ?_
  exact W.vret C.1 C.2.1 (C.2.2.2.2.2.1.trans hr) (fun t ht hW => ⟨⟨_, σ, rfl, hQ, by rw [ht]; exact zP.moved hW.alike P⟩, S.F ht⟩) S.2.2 hd C.2.2.2.2.2.2.1
theorem zp_iret {l G d mc ms M pc lv σ Q} {v : Int32} (hr : M.2.2.2.1 = some .int) (hd : decode M.2.1 pc = .ok (.ireturn, 1)) (hQ : Q (some (.int v)) σ) : Wp l G d mc ms M pc lv [.int v] σ Q := by
  intro p e R s m args below meth c H locs cells slots k n ls C K S P L r1 r2 r3 r4 r5 r6
  refine W.widen (k := k) (n := n) (by omega) (by omega) ?_
  exact W.iret C.1 C.2.1 (C.2.2.2.2.2.1.trans hr) (fun t ht hW => ⟨⟨_, σ, rfl, hQ, by rw [ht]; exact zP.moved hW.alike P⟩, S.F ht⟩) S.2.2 hd C.2.2.2.2.2.2.1
theorem zp_zret {l G d mc ms M pc lv σ Q} {v : Int32} (hr : M.2.2.2.1 = some .boolean) (hv : v = 0 ∨ v = 1) (hd : decode M.2.1 pc = .ok (.ireturn, 1)) (hQ : Q (some (.int v)) σ) : Wp l G d mc ms M pc lv [.int v] σ Q := by
  intro p e R s m args below meth c H locs cells slots k n ls C K S P L r1 r2 r3 r4 r5 r6
  refine W.widen (k := k) (n := n) (by omega) (by omega) ?_
  exact W.zret C.1 C.2.1 (C.2.2.2.2.2.1.trans hr) (zfit_bool hv).1 (fun t ht hW => ⟨⟨_, σ, rfl, hQ, by rw [ht]; exact zP.moved hW.alike P⟩, S.F ht⟩) S.2.2 hd C.2.2.2.2.2.2.1
theorem zp_aret {l G d mc ms M pc lv σ Q} {v : Value} {C0 : String} {r : Option Nat} (hr : M.2.2.2.1 = some (.object C0)) (hv : v = va_rf r) (hd : decode M.2.1 pc = .ok (.areturn, 1)) (hQ : Q (some v) σ) : Wp l G d mc ms M pc lv [v] σ Q := by
  intro p e R s m args below meth c H locs cells slots k n ls C K S P L r1 r2 r3 r4 r5 r6
  refine W.widen (k := k) (n := n) (by omega) (by omega) ?_
  exact W.aret C.1 C.2.1 (C.2.2.2.2.2.1.trans hr) (Or.inl ⟨_, rfl⟩) (by subst hv; exact va_rf_or r) (fun t ht hW => ⟨⟨_, σ, rfl, hQ, by rw [ht]; exact zP.moved hW.alike P⟩, S.F ht⟩) S.2.2 hd C.2.2.2.2.2.2.1
theorem zgood {w : Cond} (h : w ∈ gwl) : (w.onTables && w.keeps) = true ∨ ∃ ty, w = .arrayClass ty := good_of_word (List.mem_filter.mp h).2
theorem zgoodIn {y : MethodName} {M : Mth} (hw : Cond.code y M.2.1 M.2.2.1 M.2.2.2.1 ∈ gwl) : GoodIn gwl (.code y M.2.1 M.2.2.1 M.2.2.2.1 :: gwl) := fun w h => by
  rcases List.mem_cons.mp h with rfl | h
  · exact ⟨hw, zgood hw⟩
  · exact ⟨h, zgood h⟩
theorem zblind {G : Gb} {av : List Value} {σ : Sto} : FrameBlind (va_Pc av (fun U => zK G U U.heap ∧ zP G σ U U.heap)) := fun a U g mk q => by
  obtain ⟨q0, q1, q2⟩ := q
  exact ⟨q0, zK.same (u := U) (U := U.calling g mk a) rfl q1, zP.moved (u := U) (U := U.calling g mk a) (Vm.Alike.refl U.vm) q2⟩
theorem zpre {G : Gb} {av : List Value} {σ : Sto} {s : State} {H : Heap} {locs : List Loc} (K : zK G s s.heap) (S : va_S (gP G) s.heap H locs) (P : zP G σ s H) : ∀ U : State, U.heap = H → s.WarmedH U.vm → va_Pc av (fun U => zK G U U.heap ∧ zP G σ U U.heap) av.toArray U := fun U hU hW => by
  refine ⟨rfl, ?_, ?_⟩
  · rw [hU]; exact zK.warm hW (zK.kept K S.1 S.2.1)
  · rw [hU]; exact zP.moved hW.alike P
/-- what is pushed behind a call -/
def zpush (v : Option Value) (st : List Value) : List Value := match v with
  | none => st
  | some x => x :: st
theorem zpush_eq (v : Option Value) (st : List Value) : v.toList ++ st = zpush v st := by cases v <;> rfl
theorem zcall0 {l : Launch} {G : Gb} {p : Program} {e : Env} {R : Room} {s : State} {m : MethodId} {args a : Array Value} {below : List Frame} {meth : Method} {c : Code} {H : Heap} {locs : List Loc} {cells slots mc ms pc : Nat} {ls : Array Slot} {st0 rest : List Value} {Q' : Option Value → Sto → Prop} {Q : State → Prop}
    (hr : va_Run p l e R s m args below meth c H locs cells slots mc ms (F0 m pc ls st0) rest (zQC G Q' a) (gP G)) (S : va_S (gP G) s.heap H locs)
    (kk : ∀ v σ' H1 locs1, Q' v σ' → zP G σ' s H1 → va_S (gP G) s.heap H1 locs1 → W p l e R s m args below meth c H1 locs1 (cells + mc) (slots + ms) Q (F0 m (pc + 3) ls (zpush v rest))) : W p l e R s m args below meth c H locs cells slots Q (F0 m pc ls st0) := by
  intro T hT X
  obtain ⟨v, st₀, t, T', L, h0, X', hL, e1, e2, ⟨⟨v', σ', hv, hp, hb⟩, hz, hk⟩, stp⟩ := hr T hT X
  cases hv
  rw [h0] at hz hk
  have hal : s.vm.Alike t.vm := by rw [← e2]; exact X'.warmed.alike
  obtain ⟨t2, a1, b1⟩ := kk v σ' T'.heap (locs ++ L) hp (by rw [e1]; exact zP.moved hal.symm hb)
    ⟨Nat.le_trans S.1 (by rw [e1]; exact hz), fun q h1 h2 => by rw [e1, hk q (Nat.lt_of_lt_of_le h1 S.1) h2]; exact S.2.1 q h1 h2, fun q hq => by
      rcases List.mem_append.mp hq with h | h
      · exact S.2.2 q h
      · exact hL q h⟩ T' rfl X'
  rw [← zpush_eq] at a1
  exact ⟨t2, stp t2 a1, b1⟩
/-- what a call asks of the callee -/
def zCl0 (own : String) (index : Nat) (y : MethodName) (M' : Mth) (n : Nat) (nest : Bool) : Prop :=
  Cond.code y M'.2.1 M'.2.2.1 M'.2.2.2.1 ∈ gwl ∧ Cond.initialized y.cls ∈ gwl ∧ M'.2.2.1 ≤ 21 ∧ (y.cls ≠ "java/lang/invoke/MethodHandle" ∧ y.cls ≠ "java/lang/invoke/VarHandle" ∧ (parseMethodDescriptor y.desc).map (fun d => d.parameters.length) = some n) ∧
    ((nest = false ∧ Cond.methodLink own index y ∈ gwl) ∨ (nest = true ∧ Cond.methodLinkNest own index y "FlowBoxes" ∈ gnl))
theorem zCl0.B {own : String} {index n : Nat} {y : MethodName} {M' : Mth} {R : Room} {s : State} {args : Array Value} {d d' mc ms : Nat} (h : zCl0 own index y M' n false) (ht : ∀ w ∈ gwl, w.before args s = true) (hd : d' + 1 ≤ d) (r1 : d ≤ R.frames) (r2 : 40 * d ≤ R.locals) :
    CallB R s args own index y M'.2.1 M'.2.2.1 M'.2.2.2.1 (.code y M'.2.1 M'.2.2.1 M'.2.2.2.1 :: gwl) { frames := d', cells := mc, slots := ms, locals := 40 * d' } mc ms n := by
  obtain ⟨h1, h2, h3, h4, h5⟩ := h
  rcases h5 with ⟨-, h5⟩ | ⟨h5, -⟩
  · exact callB_of n ht (zgoodIn h1) rfl rfl rfl (ht _ h2) (ht _ h5) h4 ⟨by show d' + 1 ≤ _; omega, by show 8 + (_ + 11) + 40 * d' ≤ _; omega⟩
  · cases h5
theorem zCl0.N {G : Gb} {own : String} {index n : Nat} {y : MethodName} {M' : Mth} {R : Room} {s : State} {args : Array Value} {d d' mc ms : Nat} (h : zCl0 own index y M' n true) (ht : ∀ w ∈ gwl, w.before args s = true) (K : zK G s s.heap) (hd : d' + 1 ≤ d) (r1 : d ≤ R.frames) (r2 : 40 * d ≤ R.locals) :
    va_CN R s args own index y "FlowBoxes" M'.2.1 M'.2.2.1 M'.2.2.2.1 (.code y M'.2.1 M'.2.2.1 M'.2.2.2.1 :: gwl) { frames := d', cells := mc, slots := ms, locals := 40 * d' } mc ms n := by
  obtain ⟨h1, h2, h3, h4, h5⟩ := h
  rcases h5 with ⟨h5, -⟩ | ⟨-, h5⟩
  · cases h5
  · exact va_cnB n ht (zgoodIn h1) rfl rfl rfl (K.2.1 _ h5) (ht _ h2) h4 ⟨by show d' + 1 ≤ _; omega, by show 8 + (_ + 11) + 40 * d' ≤ _; omega⟩
theorem zp_callS {l G d mc ms M pc lv st st0 σ Q} {index n : Nat} {y : MethodName} {M' : Mth} {av : List Value} {d' mc' ms' mc2 ms2 : Nat} {Q' : Option Value → Sto → Prop} {nest : Bool} (hd : decode M.2.1 pc = .ok (.invokestatic index, 3)) (hct : Ct l G d' mc' ms' y M' av σ Q') (hc : zCl0 M.1 index y M' n nest) (hs : Cond.static y ∈ gwl) (hn : av.length = n) (hst : st0 = av.reverse ++ st) (hd' : d' + 1 ≤ d) (h1 : mc' + mc2 ≤ mc) (h2 : ms' + ms2 ≤ ms) (hsm : (st.map fun v => v.category).sum ≤ 8)
    (kk : ∀ v σ', Q' v σ' → Wp l G d mc2 ms2 M (pc + 3) lv (zpush v st) σ' Q) : Wp l G d mc ms M pc lv st0 σ Q := by
  intro p e R s m args below meth c H locs cells slots k n' ls C K S P L r1 r2 r3 r4 r5 r6
  cases nest with
  | false => exact zcall0 (va_runS ⟨C.1, C.2.1, C.2.2.1, C.2.2.2.1, C.2.2.2.2.1⟩ hct ⟨hc.B C.2.2.2.2.1 hd' r1 r2, C.2.2.2.2.1 _ hs⟩ ⟨zblind, zpre K S P⟩ rfl hn L.1 hst (by show 2 * 0 + _ ≤ 8; omega) hd ⟨by omega, by omega⟩) S (fun v σ' H1 locs1 hq P1 S1 => kk v σ' hq p e R s m args below meth c H1 locs1 (cells + mc') (slots + ms') k n' ls C K S1 P1 L r1 r2 (by omega) (by omega) r5 r6)
  | true => exact zcall0 (va_runSN ⟨C.1, C.2.1, C.2.2.1, C.2.2.2.1, C.2.2.2.2.1⟩ hct ⟨hc.N C.2.2.2.2.1 K hd' r1 r2, C.2.2.2.2.1 _ hs, trivial⟩ ⟨zblind, zpre K S P⟩ rfl hn L.1 hst (by show 2 * 0 + _ ≤ 8; omega) hd ⟨by omega, by omega⟩) S (fun v σ' H1 locs1 hq P1 S1 => kk v σ' hq p e R s m args below meth c H1 locs1 (cells + mc') (slots + ms') k n' ls C K S1 P1 L r1 r2 (by omega) (by omega) r5 r6)
theorem zrecv {G : Gb} {σ : Sto} {s : State} {H : Heap} {b c0 nb : Nat} {r0 : vw_C} (K : zK G s s.heap) (P : zP G σ s H) (hr : zcl[c0]? = some r0) (ht : zT σ b = (c0 + 1, nb)) : ∃ cellB : Cell, H[b]? = some cellB ∧ cellB.vm.isStatics = false ∧ s.vm.findClass r0.1 = some cellB.cls := by
  obtain ⟨-, r1', hr1, cell, g1, g2, g3, -⟩ := P.2.1 b c0 _ ht ((List.getElem?_eq_some_iff.mp hr).1)
  exact ⟨cell, g1, by rw [g3]; rfl, by rw [g2]; exact (K.1.1 c0 r0 hr).2.1⟩
theorem zp_callVr {l G d mc ms M pc lv st st0 σ Q} {index n : Nat} {y : MethodName} {M' : Mth} {av : List Value} {d' mc' ms' mc2 ms2 : Nat} {Q' : Option Value → Sto → Prop} {nest : Bool} {b : Nat} (hrec : ∀ s H, zK G s s.heap → zP G σ s H → (∀ locs, va_S (gP G) s.heap H locs → ∃ cellB : Cell, H[b]? = some cellB ∧ cellB.vm.isStatics = false ∧ s.vm.findClass y.cls = some cellB.cls)) (hd : decode M.2.1 pc = .ok (.invokevirtual index, 3)) (hct : Ct l G d' mc' ms' y M' (.ref b :: av) σ Q') (hc : zCl0 M.1 index y M' n nest) (hi : Cond.instanceMethod y ∈ gwl) (hse : Cond.selects y.cls y y ∈ gwl) (hn : av.length = n) (hst : st0 = av.reverse ++ .ref b :: st) (hd' : d' + 1 ≤ d) (h1 : mc' + mc2 ≤ mc) (h2 : ms' + ms2 ≤ ms) (hsm : (st.map fun v => v.category).sum ≤ 8)
    (kk : ∀ v σ', Q' v σ' → Wp l G d mc2 ms2 M (pc + 3) lv (zpush v st) σ' Q) : Wp l G d mc ms M pc lv st0 σ Q := by
  intro p e R s m args below meth c H locs cells slots k n' ls C K S P L r1 r2 r3 r4 r5 r6
  cases nest with
  | false => exact zcall0 (va_runV (C := y.cls) ⟨C.1, C.2.1, C.2.2.1, C.2.2.2.1, C.2.2.2.2.1⟩ hct ⟨hc.B C.2.2.2.2.1 hd' r1 r2, C.2.2.2.2.1 _ hi, C.2.2.2.2.1 _ hse⟩ ⟨zblind, hrec s H K P _ S, zpre K S P⟩ rfl hn L.1 hst (by show 2 * 0 + _ ≤ 8; omega) hd ⟨by omega, by omega⟩) S (fun v σ' H1 locs1 hq P1 S1 => kk v σ' hq p e R s m args below meth c H1 locs1 (cells + mc') (slots + ms') k n' ls C K S1 P1 L r1 r2 (by omega) (by omega) r5 r6)
  | true => exact zcall0 (va_runVN (C := y.cls) ⟨C.1, C.2.1, C.2.2.1, C.2.2.2.1, C.2.2.2.2.1⟩ hct ⟨hc.N C.2.2.2.2.1 K hd' r1 r2, C.2.2.2.2.1 _ hi, C.2.2.2.2.1 _ hse⟩ ⟨zblind, hrec s H K P _ S, zpre K S P⟩ rfl hn L.1 hst (by show 2 * 0 + _ ≤ 8; omega) hd ⟨by omega, by omega⟩) S (fun v σ' H1 locs1 hq P1 S1 => kk v σ' hq p e R s m args below meth c H1 locs1 (cells + mc') (slots + ms') k n' ls C K S1 P1 L r1 r2 (by omega) (by omega) r5 r6)
theorem zp_callV {l G d mc ms M pc lv st st0 σ Q} {index n : Nat} {y : MethodName} {M' : Mth} {av : List Value} {d' mc' ms' mc2 ms2 : Nat} {Q' : Option Value → Sto → Prop} {nest : Bool} {b c0 nb : Nat} {r0 : vw_C} (hd : decode M.2.1 pc = .ok (.invokevirtual index, 3)) (hct : Ct l G d' mc' ms' y M' (.ref b :: av) σ Q') (hc : zCl0 M.1 index y M' n nest) (hi : Cond.instanceMethod y ∈ gwl) (hse : Cond.selects y.cls y y ∈ gwl) (hr : zcl[c0]? = some r0) (hrc : r0.1 = y.cls) (ht : zT σ b = (c0 + 1, nb)) (hn : av.length = n) (hst : st0 = av.reverse ++ .ref b :: st) (hd' : d' + 1 ≤ d) (h1 : mc' + mc2 ≤ mc) (h2 : ms' + ms2 ≤ ms) (hsm : (st.map fun v => v.category).sum ≤ 8)
    (kk : ∀ v σ', Q' v σ' → Wp l G d mc2 ms2 M (pc + 3) lv (zpush v st) σ' Q) : Wp l G d mc ms M pc lv st0 σ Q :=
  zp_callVr (fun s H K P locs _ => by rw [← hrc]; exact zrecv K P hr ht) hd hct hc hi hse hn hst hd' h1 h2 hsm kk
/-- .. on a constant of Kind -/
theorem zp_callK {l G d mc ms M pc lv st st0 σ Q} {index n : Nat} {y : MethodName} {M' : Mth} {av : List Value} {d' mc' ms' mc2 ms2 : Nat} {Q' : Option Value → Sto → Prop} {nest : Bool} {i : Nat} (hi9 : i < 9) (hyc : y.cls = RX3) (hd : decode M.2.1 pc = .ok (.invokevirtual index, 3)) (hct : Ct l G d' mc' ms' y M' (.ref (G.2.2.1 i) :: av) σ Q') (hc : zCl0 M.1 index y M' n nest) (hi : Cond.instanceMethod y ∈ gwl) (hse : Cond.selects y.cls y y ∈ gwl) (hn : av.length = n) (hst : st0 = av.reverse ++ .ref (G.2.2.1 i) :: st) (hd' : d' + 1 ≤ d) (h1 : mc' + mc2 ≤ mc) (h2 : ms' + ms2 ≤ ms) (hsm : (st.map fun v => v.category).sum ≤ 8)
    (kk : ∀ v σ', Q' v σ' → Wp l G d mc2 ms2 M (pc + 3) lv (zpush v st) σ' Q) : Wp l G d mc ms M pc lv st0 σ Q :=
  zp_callVr (fun s H K P locs S => by rw [hyc]; exact va_recvE K.2.2.2.1 hi9 S) hd hct hc hi hse hn hst hd' h1 h2 hsm kk
theorem zp_callI {l G d mc ms M pc lv st st0 σ Q} {index n : Nat} {y : MethodName} {M' : Mth} {av : List Value} {d' mc' ms' mc2 ms2 : Nat} {Q' : Option Value → Sto → Prop} {nest : Bool} {b : Nat} (hd : decode M.2.1 pc = .ok (.invokespecial index, 3)) (hct : Ct l G d' mc' ms' y M' (.ref b :: av) σ Q') (hc : zCl0 M.1 index y M' n nest) (hret : M'.2.2.2.1 = none) (hi : Cond.instanceMethod y ∈ gwl) (hyn : y.name = "<init>") (hn : av.length = n) (hst : st0 = av.reverse ++ .ref b :: st) (hd' : d' + 1 ≤ d) (h1 : mc' + mc2 ≤ mc) (h2 : ms' + ms2 ≤ ms) (hsm : (st.map fun v => v.category).sum ≤ 8)
    (kk : ∀ v σ', Q' v σ' → Wp l G d mc2 ms2 M (pc + 3) lv (zpush v st) σ' Q) : Wp l G d mc ms M pc lv st0 σ Q := by
  intro p e R s m args below meth c H locs cells slots k n' ls C K S P L r1 r2 r3 r4 r5 r6
  obtain ⟨nm', b', L', ret', isI'⟩ := M'
  cases hret
  cases nest with
  | false => exact zcall0 (va_runI ⟨C.1, C.2.1, C.2.2.1, C.2.2.2.1, C.2.2.2.2.1⟩ hct ⟨hc.B C.2.2.2.2.1 hd' r1 r2, hyn, C.2.2.2.2.1 _ hi⟩ ⟨zblind, zpre K S P⟩ rfl hn L.1 hst (by show 2 * 0 + _ ≤ 8; omega) hd ⟨by omega, by omega⟩) S (fun v σ' H1 locs1 hq P1 S1 => kk v σ' hq p e R s m args below meth c H1 locs1 (cells + mc') (slots + ms') k n' ls C K S1 P1 L r1 r2 (by omega) (by omega) r5 r6)
  | true => exact zcall0 (va_runIN ⟨C.1, C.2.1, C.2.2.1, C.2.2.2.1, C.2.2.2.2.1⟩ hct ⟨hc.N C.2.2.2.2.1 K hd' r1 r2, hyn, C.2.2.2.2.1 _ hi⟩ ⟨zblind, zpre K S P⟩ rfl hn L.1 hst (by show 2 * 0 + _ ≤ 8; omega) hd ⟨by omega, by omega⟩) S (fun v σ' H1 locs1 hq P1 S1 => kk v σ' hq p e R s m args below meth c H1 locs1 (cells + mc') (slots + ms') k n' ls C K S1 P1 L r1 r2 (by omega) (by omega) r5 r6)
/-- Enum.ordinal on a constant of Kind -/
theorem zp_callO {l G d mc ms M pc lv st st0 σ Q} {index n : Nat} {y : MethodName} {M' : Mth} {av : List Value} {d' mc' ms' mc2 ms2 : Nat} {Q' : Option Value → Sto → Prop} {nest : Bool} {i : Nat} (hi9 : i < 9) (hd : decode M.2.1 pc = .ok (.invokevirtual index, 3)) (hct : Ct l G d' mc' ms' y M' [.ref (G.2.2.1 i)] σ Q') (hyy : y = ⟨"java/lang/Enum", "ordinal", "()I"⟩) (hml : M'.2.2.1 ≤ 21)
    (hw1 : Cond.methodLink M.1 index ⟨RX3, "ordinal", "()I"⟩ ∈ gwl) (hw2 : Cond.sameMethod RX3 "java/lang/Enum" "ordinal" "()I" ∈ gwl) (hw3 : Cond.selects RX3 ⟨RX3, "ordinal", "()I"⟩ y ∈ gwl) (hw4 : Cond.instanceMethod y ∈ gwl) (hw5 : Cond.initialized y.cls ∈ gwl) (hw6 : Cond.code y M'.2.1 M'.2.2.1 M'.2.2.2.1 ∈ gwl) (hst : st0 = .ref (G.2.2.1 i) :: st) (hd' : d' + 1 ≤ d) (h1 : mc' + mc2 ≤ mc) (h2 : ms' + ms2 ≤ ms) (hsm : (st.map fun v => v.category).sum ≤ 8)
    (kk : ∀ v σ', Q' v σ' → Wp l G d mc2 ms2 M (pc + 3) lv (zpush v st) σ' Q) : Wp l G d mc ms M pc lv st0 σ Q := by
  intro p e R s m args below meth c H locs cells slots k n' ls C K S P L r1 r2 r3 r4 r5 r6
  refine zcall0 (va_runU (C := RX3) (owner := "java/lang/Enum") (x := ⟨RX3, "ordinal", "()I"⟩) (As := []) ⟨C.1, C.2.1, C.2.2.1, C.2.2.2.1, C.2.2.2.2.1⟩ hct (va_cwU (Ts := gwl) 0 C.2.2.2.2.1 (fun w hw => ?_) rfl rfl rfl hyy ⟨by decide, by decide, by decide +kernel⟩ ⟨by show d' + 1 ≤ _; omega, by show 8 + (_ + 11) + 40 * d' ≤ _; omega⟩) ⟨zblind, va_recvE K.2.2.2.1 hi9 S, zpre K S P⟩ rfl rfl L.1 hst (by show 2 * 0 + _ ≤ 8; omega) hd ⟨by omega, by omega⟩) S (fun v σ' H1 locs1 hq P1 S1 => kk v σ' hq p e R s m args below meth c H1 locs1 (cells + mc') (slots + ms') k n' ls C K S1 P1 L r1 r2 (by omega) (by omega) r5 r6)
  unfold va_wsU at hw
  rcases List.mem_append.mp hw with h | h
  · simp only [List.mem_cons, List.not_mem_nil, or_false] at h
    rcases h with rfl | rfl | rfl | rfl | rfl
    · exact ⟨hw1, zgood hw1⟩
    · exact ⟨hw2, zgood hw2⟩
    · exact ⟨hw3, zgood hw3⟩
    · exact ⟨hw4, zgood hw4⟩
    · exact ⟨hw5, zgood hw5⟩
  · exact zgoodIn hw6 w h
theorem Wp.widen {l G d mc ms M pc lv st σ Q} {d2 mc2 ms2 : Nat} (hd : d2 ≤ d) (h1 : mc2 ≤ mc) (h2 : ms2 ≤ ms) (h : Wp l G d2 mc2 ms2 M pc lv st σ Q) : Wp l G d mc ms M pc lv st σ Q := h.mono hd h1 h2 (fun _ _ q => q)
theorem zp_lv {l G d mc ms M pc lv st σ Q} {lv2 : List (Nat × Value)} (ks : List Nat) (hl : lv_pick lv ks = lv2) (kk : Wp l G d mc ms M pc lv2 st σ Q) : Wp l G d mc ms M pc lv st σ Q := by
  intro p e R s m args below meth c H locs cells slots k n ls C K S P L r1 r2 r3 r4 r5 r6
  exact kk p e R s m args below meth c H locs cells slots k n ls C K S P (lv_sub L ks hl) r1 r2 r3 r4 r5 r6
theorem zp_topi {l G d mc ms M pc lv st σ Q} {e : Int32} (kk : ∀ x, x = e → Wp l G d mc ms M pc lv (.int x :: st) σ Q) : Wp l G d mc ms M pc lv (.int e :: st) σ Q := kk e rfl
theorem Ct.mono {l G d mc ms} {y : MethodName} {M : Mth} {av : List Value} {σ} {Q Q2 : Option Value → Sto → Prop} (h : ∀ Q', (∀ v s, Q v s → Q' v s) → Ct l G d mc ms y M av σ Q') (hQ : ∀ v s, Q v s → Q2 v s) : Ct l G d mc ms y M av σ Q2 := h Q2 hQ
end
