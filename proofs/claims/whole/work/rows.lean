section
-- ===== PART A: goes FIRST, ahead of the names: the tables' words, and 'selects' of the private methods out of them =====
/-- a private method of a class that the tables say can be made, by its rows of tables_1 -/
def lw_okq (q : MethodName × Nat) : Prop := (q.1.cls ≠ "java/lang/invoke/MethodHandle" ∧ q.1.cls ≠ "java/lang/invoke/VarHandle") ∧ Cond.instantiable q.1.cls q.2 ∈ tables_1 ∧ Cond.privateMethod q.1 ∈ tables_1 ∧ Cond.instanceMethod q.1 ∈ tables_1
theorem lw_p0 : lw_okq (⟨"Thumbreel$Sheet", "isOfUse", "()Z"⟩, 4) := ⟨⟨by decide +kernel, by decide +kernel⟩, List.mem_of_getElem? (i := 155) (by decide +kernel), List.mem_of_getElem? (i := 153) (by decide +kernel), List.mem_of_getElem? (i := 154) (by decide +kernel)⟩
theorem lw_p1 : lw_okq (⟨"java/lang/Throwable", "fillInStackTrace", "(I)Ljava/lang/Throwable;"⟩, 6) := ⟨⟨by decide +kernel, by decide +kernel⟩, List.mem_of_getElem? (i := 209) (by decide +kernel), List.mem_of_getElem? (i := 207) (by decide +kernel), List.mem_of_getElem? (i := 208) (by decide +kernel)⟩
theorem lw_p2 : lw_okq (⟨"java/util/ArrayList", "add", "(Ljava/lang/Object;[Ljava/lang/Object;I)V"⟩, 3) := ⟨⟨by decide +kernel, by decide +kernel⟩, List.mem_of_getElem? (i := 35) (by decide +kernel), List.mem_of_getElem? (i := 271) (by decide +kernel), List.mem_of_getElem? (i := 272) (by decide +kernel)⟩
theorem lw_p3 : lw_okq (⟨"java/util/ArrayList", "grow", "()[Ljava/lang/Object;"⟩, 3) := ⟨⟨by decide +kernel, by decide +kernel⟩, List.mem_of_getElem? (i := 35) (by decide +kernel), List.mem_of_getElem? (i := 275) (by decide +kernel), List.mem_of_getElem? (i := 276) (by decide +kernel)⟩
theorem lw_p4 : lw_okq (⟨"java/util/ArrayList", "grow", "(I)[Ljava/lang/Object;"⟩, 3) := ⟨⟨by decide +kernel, by decide +kernel⟩, List.mem_of_getElem? (i := 35) (by decide +kernel), List.mem_of_getElem? (i := 279) (by decide +kernel), List.mem_of_getElem? (i := 280) (by decide +kernel)⟩
theorem lw_p5 : lw_okq (⟨"Thumbreel", "bookNumbered", "(I)LThumbreel$Book;"⟩, 9) := ⟨⟨by decide +kernel, by decide +kernel⟩, List.mem_of_getElem? (i := 27) (by decide +kernel), List.mem_of_getElem? (i := 337) (by decide +kernel), List.mem_of_getElem? (i := 338) (by decide +kernel)⟩
theorem lw_p6 : lw_okq (⟨"Thumbreel$Book", "insert", "(IIII)V"⟩, 6) := ⟨⟨by decide +kernel, by decide +kernel⟩, List.mem_of_getElem? (i := 239) (by decide +kernel), List.mem_of_getElem? (i := 381) (by decide +kernel), List.mem_of_getElem? (i := 382) (by decide +kernel)⟩
theorem lw_p7 : lw_okq (⟨"Thumbreel$Book", "copyDrawing", "(II)V"⟩, 6) := ⟨⟨by decide +kernel, by decide +kernel⟩, List.mem_of_getElem? (i := 239) (by decide +kernel), List.mem_of_getElem? (i := 385) (by decide +kernel), List.mem_of_getElem? (i := 386) (by decide +kernel)⟩
theorem lw_p8 : lw_okq (⟨"Thumbreel$Book", "layFrames", "()V"⟩, 6) := ⟨⟨by decide +kernel, by decide +kernel⟩, List.mem_of_getElem? (i := 239) (by decide +kernel), List.mem_of_getElem? (i := 389) (by decide +kernel), List.mem_of_getElem? (i := 390) (by decide +kernel)⟩
theorem lw_p9 : lw_okq (⟨"Thumbreel$Book", "addFrame", "(I)V"⟩, 6) := ⟨⟨by decide +kernel, by decide +kernel⟩, List.mem_of_getElem? (i := 239) (by decide +kernel), List.mem_of_getElem? (i := 393) (by decide +kernel), List.mem_of_getElem? (i := 394) (by decide +kernel)⟩
theorem lw_p10 : lw_okq (⟨"Thumbreel$Book", "addBetweens", "(IIII)V"⟩, 6) := ⟨⟨by decide +kernel, by decide +kernel⟩, List.mem_of_getElem? (i := 239) (by decide +kernel), List.mem_of_getElem? (i := 397) (by decide +kernel), List.mem_of_getElem? (i := 398) (by decide +kernel)⟩
theorem lw_p11 : lw_okq (⟨"Thumbreel", "spoilChanged", "(LThumbreel$Book;)I"⟩, 9) := ⟨⟨by decide +kernel, by decide +kernel⟩, List.mem_of_getElem? (i := 27) (by decide +kernel), List.mem_of_getElem? (i := 404) (by decide +kernel), List.mem_of_getElem? (i := 405) (by decide +kernel)⟩
theorem lw_p12 : lw_okq (⟨"Thumbreel$Order", "spoilChanged", "()I"⟩, 3) := ⟨⟨by decide +kernel, by decide +kernel⟩, List.mem_of_getElem? (i := 411) (by decide +kernel), List.mem_of_getElem? (i := 409) (by decide +kernel), List.mem_of_getElem? (i := 410) (by decide +kernel)⟩
theorem lw_p13 : lw_okq (⟨"Thumbreel$Copy", "spoilChanged", "(LThumbreel$Book;)I"⟩, 3) := ⟨⟨by decide +kernel, by decide +kernel⟩, List.mem_of_getElem? (i := 419) (by decide +kernel), List.mem_of_getElem? (i := 417) (by decide +kernel), List.mem_of_getElem? (i := 418) (by decide +kernel)⟩
theorem lw_p14 : lw_okq (⟨"Thumbreel$Book", "positionOf", "(I)I"⟩, 6) := ⟨⟨by decide +kernel, by decide +kernel⟩, List.mem_of_getElem? (i := 239) (by decide +kernel), List.mem_of_getElem? (i := 422) (by decide +kernel), List.mem_of_getElem? (i := 423) (by decide +kernel)⟩
theorem lw_p15 : lw_okq (⟨"Thumbreel$Copy", "spoil", "(LThumbreel$Leaf;)V"⟩, 3) := ⟨⟨by decide +kernel, by decide +kernel⟩, List.mem_of_getElem? (i := 419) (by decide +kernel), List.mem_of_getElem? (i := 426) (by decide +kernel), List.mem_of_getElem? (i := 427) (by decide +kernel)⟩
def lw_privs_1 : List (MethodName × Nat) := [(⟨"Thumbreel$Sheet", "isOfUse", "()Z"⟩, 4), (⟨"java/lang/Throwable", "fillInStackTrace", "(I)Ljava/lang/Throwable;"⟩, 6), (⟨"java/util/ArrayList", "add", "(Ljava/lang/Object;[Ljava/lang/Object;I)V"⟩, 3), (⟨"java/util/ArrayList", "grow", "()[Ljava/lang/Object;"⟩, 3), (⟨"java/util/ArrayList", "grow", "(I)[Ljava/lang/Object;"⟩, 3), (⟨"Thumbreel", "bookNumbered", "(I)LThumbreel$Book;"⟩, 9), (⟨"Thumbreel$Book", "insert", "(IIII)V"⟩, 6), (⟨"Thumbreel$Book", "copyDrawing", "(II)V"⟩, 6), (⟨"Thumbreel$Book", "layFrames", "()V"⟩, 6), (⟨"Thumbreel$Book", "addFrame", "(I)V"⟩, 6), (⟨"Thumbreel$Book", "addBetweens", "(IIII)V"⟩, 6), (⟨"Thumbreel", "spoilChanged", "(LThumbreel$Book;)I"⟩, 9), (⟨"Thumbreel$Order", "spoilChanged", "()I"⟩, 3), (⟨"Thumbreel$Copy", "spoilChanged", "(LThumbreel$Book;)I"⟩, 3), (⟨"Thumbreel$Book", "positionOf", "(I)I"⟩, 6), (⟨"Thumbreel$Copy", "spoil", "(LThumbreel$Leaf;)V"⟩, 3)]
theorem lw_r1 : ∀ q ∈ lw_privs_1, lw_okq q := List.forall_mem_cons.mpr ⟨lw_p0, List.forall_mem_cons.mpr ⟨lw_p1, List.forall_mem_cons.mpr ⟨lw_p2, List.forall_mem_cons.mpr ⟨lw_p3, List.forall_mem_cons.mpr ⟨lw_p4, List.forall_mem_cons.mpr ⟨lw_p5, List.forall_mem_cons.mpr ⟨lw_p6, List.forall_mem_cons.mpr ⟨lw_p7, List.forall_mem_cons.mpr ⟨lw_p8, List.forall_mem_cons.mpr ⟨lw_p9, List.forall_mem_cons.mpr ⟨lw_p10, List.forall_mem_cons.mpr ⟨lw_p11, List.forall_mem_cons.mpr ⟨lw_p12, List.forall_mem_cons.mpr ⟨lw_p13, List.forall_mem_cons.mpr ⟨lw_p14, List.forall_mem_cons.mpr ⟨lw_p15, fun _ h => absurd h List.not_mem_nil⟩⟩⟩⟩⟩⟩⟩⟩⟩⟩⟩⟩⟩⟩⟩⟩
theorem lw_p16 : lw_okq (⟨"Thumbreel$Book", "takeOut", "(I)V"⟩, 6) := ⟨⟨by decide +kernel, by decide +kernel⟩, List.mem_of_getElem? (i := 239) (by decide +kernel), List.mem_of_getElem? (i := 437) (by decide +kernel), List.mem_of_getElem? (i := 438) (by decide +kernel)⟩
theorem lw_p17 : lw_okq (⟨"Thumbreel$Book", "putAt", "(II)V"⟩, 6) := ⟨⟨by decide +kernel, by decide +kernel⟩, List.mem_of_getElem? (i := 239) (by decide +kernel), List.mem_of_getElem? (i := 448) (by decide +kernel), List.mem_of_getElem? (i := 449) (by decide +kernel)⟩
theorem lw_p18 : lw_okq (⟨"Thumbreel", "orderNumbered", "(I)LThumbreel$Order;"⟩, 9) := ⟨⟨by decide +kernel, by decide +kernel⟩, List.mem_of_getElem? (i := 27) (by decide +kernel), List.mem_of_getElem? (i := 521) (by decide +kernel), List.mem_of_getElem? (i := 522) (by decide +kernel)⟩
theorem lw_p19 : lw_okq (⟨"Thumbreel$Order", "countLacking", "()I"⟩, 3) := ⟨⟨by decide +kernel, by decide +kernel⟩, List.mem_of_getElem? (i := 411) (by decide +kernel), List.mem_of_getElem? (i := 525) (by decide +kernel), List.mem_of_getElem? (i := 526) (by decide +kernel)⟩
theorem lw_p20 : lw_okq (⟨"Thumbreel$Copy", "countLacking", "(I)I"⟩, 3) := ⟨⟨by decide +kernel, by decide +kernel⟩, List.mem_of_getElem? (i := 419) (by decide +kernel), List.mem_of_getElem? (i := 529) (by decide +kernel), List.mem_of_getElem? (i := 530) (by decide +kernel)⟩
theorem lw_p21 : lw_okq (⟨"Thumbreel$Copy", "isLacking", "(I)Z"⟩, 3) := ⟨⟨by decide +kernel, by decide +kernel⟩, List.mem_of_getElem? (i := 419) (by decide +kernel), List.mem_of_getElem? (i := 533) (by decide +kernel), List.mem_of_getElem? (i := 534) (by decide +kernel)⟩
theorem lw_p22 : lw_okq (⟨"Thumbreel$Copy", "leafOf", "(I)LThumbreel$Leaf;"⟩, 3) := ⟨⟨by decide +kernel, by decide +kernel⟩, List.mem_of_getElem? (i := 419) (by decide +kernel), List.mem_of_getElem? (i := 537) (by decide +kernel), List.mem_of_getElem? (i := 538) (by decide +kernel)⟩
theorem lw_p23 : lw_okq (⟨"Thumbreel$Order", "isAheadOf", "(LThumbreel$Order;)Z"⟩, 3) := ⟨⟨by decide +kernel, by decide +kernel⟩, List.mem_of_getElem? (i := 411) (by decide +kernel), List.mem_of_getElem? (i := 548) (by decide +kernel), List.mem_of_getElem? (i := 549) (by decide +kernel)⟩
theorem lw_p24 : lw_okq (⟨"Thumbreel$Folding", "unfold", "(I)I"⟩, 1) := ⟨⟨by decide +kernel, by decide +kernel⟩, List.mem_of_getElem? (i := 87) (by decide +kernel), List.mem_of_getElem? (i := 573) (by decide +kernel), List.mem_of_getElem? (i := 574) (by decide +kernel)⟩
theorem lw_p25 : lw_okq (⟨"Thumbreel$Piles", "foldAll", "(LThumbreel$Folding;)V"⟩, 6) := ⟨⟨by decide +kernel, by decide +kernel⟩, List.mem_of_getElem? (i := 61) (by decide +kernel), List.mem_of_getElem? (i := 587) (by decide +kernel), List.mem_of_getElem? (i := 588) (by decide +kernel)⟩
theorem lw_p26 : lw_okq (⟨"Thumbreel$Piles", "spread", "()V"⟩, 6) := ⟨⟨by decide +kernel, by decide +kernel⟩, List.mem_of_getElem? (i := 61) (by decide +kernel), List.mem_of_getElem? (i := 591) (by decide +kernel), List.mem_of_getElem? (i := 592) (by decide +kernel)⟩
theorem lw_p27 : lw_okq (⟨"Thumbreel$Piles", "foldSideways", "(Z)V"⟩, 6) := ⟨⟨by decide +kernel, by decide +kernel⟩, List.mem_of_getElem? (i := 61) (by decide +kernel), List.mem_of_getElem? (i := 595) (by decide +kernel), List.mem_of_getElem? (i := 596) (by decide +kernel)⟩
theorem lw_p28 : lw_okq (⟨"Thumbreel$Piles", "pileAt", "(II)I"⟩, 6) := ⟨⟨by decide +kernel, by decide +kernel⟩, List.mem_of_getElem? (i := 61) (by decide +kernel), List.mem_of_getElem? (i := 599) (by decide +kernel), List.mem_of_getElem? (i := 600) (by decide +kernel)⟩
theorem lw_p29 : lw_okq (⟨"Thumbreel$Piles", "turnOnto", "(II)V"⟩, 6) := ⟨⟨by decide +kernel, by decide +kernel⟩, List.mem_of_getElem? (i := 61) (by decide +kernel), List.mem_of_getElem? (i := 603) (by decide +kernel), List.mem_of_getElem? (i := 604) (by decide +kernel)⟩
theorem lw_p30 : lw_okq (⟨"Thumbreel$Piles", "foldUpright", "(Z)V"⟩, 6) := ⟨⟨by decide +kernel, by decide +kernel⟩, List.mem_of_getElem? (i := 61) (by decide +kernel), List.mem_of_getElem? (i := 607) (by decide +kernel), List.mem_of_getElem? (i := 608) (by decide +kernel)⟩
theorem lw_p31 : lw_okq (⟨"Thumbreel$Piles", "cellAt", "(I)I"⟩, 6) := ⟨⟨by decide +kernel, by decide +kernel⟩, List.mem_of_getElem? (i := 61) (by decide +kernel), List.mem_of_getElem? (i := 611) (by decide +kernel), List.mem_of_getElem? (i := 612) (by decide +kernel)⟩
def lw_privs_2 : List (MethodName × Nat) := [(⟨"Thumbreel$Book", "takeOut", "(I)V"⟩, 6), (⟨"Thumbreel$Book", "putAt", "(II)V"⟩, 6), (⟨"Thumbreel", "orderNumbered", "(I)LThumbreel$Order;"⟩, 9), (⟨"Thumbreel$Order", "countLacking", "()I"⟩, 3), (⟨"Thumbreel$Copy", "countLacking", "(I)I"⟩, 3), (⟨"Thumbreel$Copy", "isLacking", "(I)Z"⟩, 3), (⟨"Thumbreel$Copy", "leafOf", "(I)LThumbreel$Leaf;"⟩, 3), (⟨"Thumbreel$Order", "isAheadOf", "(LThumbreel$Order;)Z"⟩, 3), (⟨"Thumbreel$Folding", "unfold", "(I)I"⟩, 1), (⟨"Thumbreel$Piles", "foldAll", "(LThumbreel$Folding;)V"⟩, 6), (⟨"Thumbreel$Piles", "spread", "()V"⟩, 6), (⟨"Thumbreel$Piles", "foldSideways", "(Z)V"⟩, 6), (⟨"Thumbreel$Piles", "pileAt", "(II)I"⟩, 6), (⟨"Thumbreel$Piles", "turnOnto", "(II)V"⟩, 6), (⟨"Thumbreel$Piles", "foldUpright", "(Z)V"⟩, 6), (⟨"Thumbreel$Piles", "cellAt", "(I)I"⟩, 6)]
theorem lw_r2 : ∀ q ∈ lw_privs_2, lw_okq q := List.forall_mem_cons.mpr ⟨lw_p16, List.forall_mem_cons.mpr ⟨lw_p17, List.forall_mem_cons.mpr ⟨lw_p18, List.forall_mem_cons.mpr ⟨lw_p19, List.forall_mem_cons.mpr ⟨lw_p20, List.forall_mem_cons.mpr ⟨lw_p21, List.forall_mem_cons.mpr ⟨lw_p22, List.forall_mem_cons.mpr ⟨lw_p23, List.forall_mem_cons.mpr ⟨lw_p24, List.forall_mem_cons.mpr ⟨lw_p25, List.forall_mem_cons.mpr ⟨lw_p26, List.forall_mem_cons.mpr ⟨lw_p27, List.forall_mem_cons.mpr ⟨lw_p28, List.forall_mem_cons.mpr ⟨lw_p29, List.forall_mem_cons.mpr ⟨lw_p30, List.forall_mem_cons.mpr ⟨lw_p31, fun _ h => absurd h List.not_mem_nil⟩⟩⟩⟩⟩⟩⟩⟩⟩⟩⟩⟩⟩⟩⟩⟩
theorem lw_p32 : lw_okq (⟨"Thumbreel", "countAllLacking", "()I"⟩, 9) := ⟨⟨by decide +kernel, by decide +kernel⟩, List.mem_of_getElem? (i := 27) (by decide +kernel), List.mem_of_getElem? (i := 622) (by decide +kernel), List.mem_of_getElem? (i := 623) (by decide +kernel)⟩
theorem lw_p33 : lw_okq (⟨"Thumbreel", "sortOrders", "()V"⟩, 9) := ⟨⟨by decide +kernel, by decide +kernel⟩, List.mem_of_getElem? (i := 27) (by decide +kernel), List.mem_of_getElem? (i := 628) (by decide +kernel), List.mem_of_getElem? (i := 629) (by decide +kernel)⟩
theorem lw_p34 : lw_okq (⟨"Thumbreel", "printSheet", "()LThumbreel$Sheet;"⟩, 9) := ⟨⟨by decide +kernel, by decide +kernel⟩, List.mem_of_getElem? (i := 27) (by decide +kernel), List.mem_of_getElem? (i := 632) (by decide +kernel), List.mem_of_getElem? (i := 633) (by decide +kernel)⟩
theorem lw_p35 : lw_okq (⟨"Thumbreel$Order", "fill", "(LThumbreel$Sheet;I)I"⟩, 3) := ⟨⟨by decide +kernel, by decide +kernel⟩, List.mem_of_getElem? (i := 411) (by decide +kernel), List.mem_of_getElem? (i := 658) (by decide +kernel), List.mem_of_getElem? (i := 659) (by decide +kernel)⟩
theorem lw_p36 : lw_okq (⟨"Thumbreel$Copy", "take", "(LThumbreel$Leaf;)V"⟩, 3) := ⟨⟨by decide +kernel, by decide +kernel⟩, List.mem_of_getElem? (i := 419) (by decide +kernel), List.mem_of_getElem? (i := 697) (by decide +kernel), List.mem_of_getElem? (i := 698) (by decide +kernel)⟩
theorem lw_p37 : lw_okq (⟨"Thumbreel$Sheet", "lay", "(LThumbreel$Leaf;I)V"⟩, 4) := ⟨⟨by decide +kernel, by decide +kernel⟩, List.mem_of_getElem? (i := 155) (by decide +kernel), List.mem_of_getElem? (i := 701) (by decide +kernel), List.mem_of_getElem? (i := 702) (by decide +kernel)⟩
theorem lw_p38 : lw_okq (⟨"Thumbreel$Sheet", "leafIn", "(I)LThumbreel$Leaf;"⟩, 4) := ⟨⟨by decide +kernel, by decide +kernel⟩, List.mem_of_getElem? (i := 155) (by decide +kernel), List.mem_of_getElem? (i := 730) (by decide +kernel), List.mem_of_getElem? (i := 731) (by decide +kernel)⟩
theorem lw_p39 : lw_okq (⟨"Thumbreel$Leaf", "code", "()I"⟩, 6) := ⟨⟨by decide +kernel, by decide +kernel⟩, List.mem_of_getElem? (i := 663) (by decide +kernel), List.mem_of_getElem? (i := 734) (by decide +kernel), List.mem_of_getElem? (i := 735) (by decide +kernel)⟩
theorem lw_p40 : lw_okq (⟨"Thumbreel", "longestWaiting", "()LThumbreel$Sheet;"⟩, 9) := ⟨⟨by decide +kernel, by decide +kernel⟩, List.mem_of_getElem? (i := 27) (by decide +kernel), List.mem_of_getElem? (i := 745) (by decide +kernel), List.mem_of_getElem? (i := 746) (by decide +kernel)⟩
theorem lw_p41 : lw_okq (⟨"Thumbreel$Sheet", "cutWith", "(I)V"⟩, 4) := ⟨⟨by decide +kernel, by decide +kernel⟩, List.mem_of_getElem? (i := 155) (by decide +kernel), List.mem_of_getElem? (i := 750) (by decide +kernel), List.mem_of_getElem? (i := 751) (by decide +kernel)⟩
theorem lw_p42 : lw_okq (⟨"Thumbreel$Copy", "isAllCut", "(I)Z"⟩, 3) := ⟨⟨by decide +kernel, by decide +kernel⟩, List.mem_of_getElem? (i := 419) (by decide +kernel), List.mem_of_getElem? (i := 779) (by decide +kernel), List.mem_of_getElem? (i := 780) (by decide +kernel)⟩
theorem lw_p43 : lw_okq (⟨"Thumbreel$Sheet", "isCut", "()Z"⟩, 4) := ⟨⟨by decide +kernel, by decide +kernel⟩, List.mem_of_getElem? (i := 155) (by decide +kernel), List.mem_of_getElem? (i := 783) (by decide +kernel), List.mem_of_getElem? (i := 784) (by decide +kernel)⟩
theorem lw_p44 : lw_okq (⟨"Thumbreel$Copy", "leastTrim", "(I)I"⟩, 3) := ⟨⟨by decide +kernel, by decide +kernel⟩, List.mem_of_getElem? (i := 419) (by decide +kernel), List.mem_of_getElem? (i := 788) (by decide +kernel), List.mem_of_getElem? (i := 789) (by decide +kernel)⟩
theorem lw_p45 : lw_okq (⟨"Thumbreel$Copy", "spoilAbove", "(I)I"⟩, 3) := ⟨⟨by decide +kernel, by decide +kernel⟩, List.mem_of_getElem? (i := 419) (by decide +kernel), List.mem_of_getElem? (i := 793) (by decide +kernel), List.mem_of_getElem? (i := 794) (by decide +kernel)⟩
theorem lw_p46 : lw_okq (⟨"Thumbreel", "keptLeaf", "(III)LThumbreel$Leaf;"⟩, 9) := ⟨⟨by decide +kernel, by decide +kernel⟩, List.mem_of_getElem? (i := 27) (by decide +kernel), List.mem_of_getElem? (i := 811) (by decide +kernel), List.mem_of_getElem? (i := 812) (by decide +kernel)⟩
theorem lw_p47 : lw_okq (⟨"Thumbreel$Order", "lengthOf", "(LThumbreel$Copy;)I"⟩, 3) := ⟨⟨by decide +kernel, by decide +kernel⟩, List.mem_of_getElem? (i := 411) (by decide +kernel), List.mem_of_getElem? (i := 815) (by decide +kernel), List.mem_of_getElem? (i := 816) (by decide +kernel)⟩
def lw_privs_3 : List (MethodName × Nat) := [(⟨"Thumbreel", "countAllLacking", "()I"⟩, 9), (⟨"Thumbreel", "sortOrders", "()V"⟩, 9), (⟨"Thumbreel", "printSheet", "()LThumbreel$Sheet;"⟩, 9), (⟨"Thumbreel$Order", "fill", "(LThumbreel$Sheet;I)I"⟩, 3), (⟨"Thumbreel$Copy", "take", "(LThumbreel$Leaf;)V"⟩, 3), (⟨"Thumbreel$Sheet", "lay", "(LThumbreel$Leaf;I)V"⟩, 4), (⟨"Thumbreel$Sheet", "leafIn", "(I)LThumbreel$Leaf;"⟩, 4), (⟨"Thumbreel$Leaf", "code", "()I"⟩, 6), (⟨"Thumbreel", "longestWaiting", "()LThumbreel$Sheet;"⟩, 9), (⟨"Thumbreel$Sheet", "cutWith", "(I)V"⟩, 4), (⟨"Thumbreel$Copy", "isAllCut", "(I)Z"⟩, 3), (⟨"Thumbreel$Sheet", "isCut", "()Z"⟩, 4), (⟨"Thumbreel$Copy", "leastTrim", "(I)I"⟩, 3), (⟨"Thumbreel$Copy", "spoilAbove", "(I)I"⟩, 3), (⟨"Thumbreel", "keptLeaf", "(III)LThumbreel$Leaf;"⟩, 9), (⟨"Thumbreel$Order", "lengthOf", "(LThumbreel$Copy;)I"⟩, 3)]
theorem lw_r3 : ∀ q ∈ lw_privs_3, lw_okq q := List.forall_mem_cons.mpr ⟨lw_p32, List.forall_mem_cons.mpr ⟨lw_p33, List.forall_mem_cons.mpr ⟨lw_p34, List.forall_mem_cons.mpr ⟨lw_p35, List.forall_mem_cons.mpr ⟨lw_p36, List.forall_mem_cons.mpr ⟨lw_p37, List.forall_mem_cons.mpr ⟨lw_p38, List.forall_mem_cons.mpr ⟨lw_p39, List.forall_mem_cons.mpr ⟨lw_p40, List.forall_mem_cons.mpr ⟨lw_p41, List.forall_mem_cons.mpr ⟨lw_p42, List.forall_mem_cons.mpr ⟨lw_p43, List.forall_mem_cons.mpr ⟨lw_p44, List.forall_mem_cons.mpr ⟨lw_p45, List.forall_mem_cons.mpr ⟨lw_p46, List.forall_mem_cons.mpr ⟨lw_p47, fun _ h => absurd h List.not_mem_nil⟩⟩⟩⟩⟩⟩⟩⟩⟩⟩⟩⟩⟩⟩⟩⟩
theorem lw_p48 : lw_okq (⟨"Thumbreel", "findInPile", "(LThumbreel$Sheet;III)LThumbreel$Leaf;"⟩, 9) := ⟨⟨by decide +kernel, by decide +kernel⟩, List.mem_of_getElem? (i := 27) (by decide +kernel), List.mem_of_getElem? (i := 835) (by decide +kernel), List.mem_of_getElem? (i := 836) (by decide +kernel)⟩
theorem lw_p49 : lw_okq (⟨"Thumbreel$Leaf", "belongsTo", "(III)Z"⟩, 6) := ⟨⟨by decide +kernel, by decide +kernel⟩, List.mem_of_getElem? (i := 663) (by decide +kernel), List.mem_of_getElem? (i := 839) (by decide +kernel), List.mem_of_getElem? (i := 840) (by decide +kernel)⟩
theorem lw_p50 : lw_okq (⟨"ThumbreelModel", "laysCells", "()V"⟩, 24) := ⟨⟨by decide +kernel, by decide +kernel⟩, List.mem_of_getElem? (i := 843) (by decide +kernel), List.mem_of_getElem? (i := 849) (by decide +kernel), List.mem_of_getElem? (i := 850) (by decide +kernel)⟩
theorem lw_p51 : lw_okq (⟨"ThumbreelModel", "unfolded", "(I)I"⟩, 24) := ⟨⟨by decide +kernel, by decide +kernel⟩, List.mem_of_getElem? (i := 843) (by decide +kernel), List.mem_of_getElem? (i := 853) (by decide +kernel), List.mem_of_getElem? (i := 854) (by decide +kernel)⟩
theorem lw_p52 : lw_okq (⟨"ThumbreelModel", "goes", "(I)Z"⟩, 24) := ⟨⟨by decide +kernel, by decide +kernel⟩, List.mem_of_getElem? (i := 843) (by decide +kernel), List.mem_of_getElem? (i := 939) (by decide +kernel), List.mem_of_getElem? (i := 940) (by decide +kernel)⟩
theorem lw_p53 : lw_okq (⟨"ThumbreelModel", "isBook", "(I)Z"⟩, 24) := ⟨⟨by decide +kernel, by decide +kernel⟩, List.mem_of_getElem? (i := 843) (by decide +kernel), List.mem_of_getElem? (i := 947) (by decide +kernel), List.mem_of_getElem? (i := 948) (by decide +kernel)⟩
theorem lw_p54 : lw_okq (⟨"ThumbreelModel", "flows", "(I)I"⟩, 24) := ⟨⟨by decide +kernel, by decide +kernel⟩, List.mem_of_getElem? (i := 843) (by decide +kernel), List.mem_of_getElem? (i := 954) (by decide +kernel), List.mem_of_getElem? (i := 955) (by decide +kernel)⟩
theorem lw_p55 : lw_okq (⟨"ThumbreelModel", "framesOf", "(I)I"⟩, 24) := ⟨⟨by decide +kernel, by decide +kernel⟩, List.mem_of_getElem? (i := 843) (by decide +kernel), List.mem_of_getElem? (i := 958) (by decide +kernel), List.mem_of_getElem? (i := 959) (by decide +kernel)⟩
theorem lw_p56 : lw_okq (⟨"ThumbreelModel", "isBoundCopy", "(II)Z"⟩, 24) := ⟨⟨by decide +kernel, by decide +kernel⟩, List.mem_of_getElem? (i := 843) (by decide +kernel), List.mem_of_getElem? (i := 962) (by decide +kernel), List.mem_of_getElem? (i := 963) (by decide +kernel)⟩
theorem lw_p57 : lw_okq (⟨"ThumbreelModel", "positionOf", "(II)I"⟩, 24) := ⟨⟨by decide +kernel, by decide +kernel⟩, List.mem_of_getElem? (i := 843) (by decide +kernel), List.mem_of_getElem? (i := 966) (by decide +kernel), List.mem_of_getElem? (i := 967) (by decide +kernel)⟩
theorem lw_p58 : lw_okq (⟨"ThumbreelModel", "spoils", "(I)V"⟩, 24) := ⟨⟨by decide +kernel, by decide +kernel⟩, List.mem_of_getElem? (i := 843) (by decide +kernel), List.mem_of_getElem? (i := 973) (by decide +kernel), List.mem_of_getElem? (i := 974) (by decide +kernel)⟩
theorem lw_p59 : lw_okq (⟨"ThumbreelModel", "wrong", "(II)I"⟩, 24) := ⟨⟨by decide +kernel, by decide +kernel⟩, List.mem_of_getElem? (i := 843) (by decide +kernel), List.mem_of_getElem? (i := 981) (by decide +kernel), List.mem_of_getElem? (i := 982) (by decide +kernel)⟩
theorem lw_p60 : lw_okq (⟨"ThumbreelModel", "isOrder", "(I)Z"⟩, 24) := ⟨⟨by decide +kernel, by decide +kernel⟩, List.mem_of_getElem? (i := 843) (by decide +kernel), List.mem_of_getElem? (i := 1008) (by decide +kernel), List.mem_of_getElem? (i := 1009) (by decide +kernel)⟩
theorem lw_p61 : lw_okq (⟨"ThumbreelModel", "laysWanted", "()V"⟩, 24) := ⟨⟨by decide +kernel, by decide +kernel⟩, List.mem_of_getElem? (i := 843) (by decide +kernel), List.mem_of_getElem? (i := 1012) (by decide +kernel), List.mem_of_getElem? (i := 1013) (by decide +kernel)⟩
theorem lw_p62 : lw_okq (⟨"ThumbreelModel", "laysRanks", "()V"⟩, 24) := ⟨⟨by decide +kernel, by decide +kernel⟩, List.mem_of_getElem? (i := 843) (by decide +kernel), List.mem_of_getElem? (i := 1016) (by decide +kernel), List.mem_of_getElem? (i := 1017) (by decide +kernel)⟩
theorem lw_p63 : lw_okq (⟨"ThumbreelModel", "size", "(I)I"⟩, 24) := ⟨⟨by decide +kernel, by decide +kernel⟩, List.mem_of_getElem? (i := 843) (by decide +kernel), List.mem_of_getElem? (i := 1020) (by decide +kernel), List.mem_of_getElem? (i := 1021) (by decide +kernel)⟩
def lw_privs_4 : List (MethodName × Nat) := [(⟨"Thumbreel", "findInPile", "(LThumbreel$Sheet;III)LThumbreel$Leaf;"⟩, 9), (⟨"Thumbreel$Leaf", "belongsTo", "(III)Z"⟩, 6), (⟨"ThumbreelModel", "laysCells", "()V"⟩, 24), (⟨"ThumbreelModel", "unfolded", "(I)I"⟩, 24), (⟨"ThumbreelModel", "goes", "(I)Z"⟩, 24), (⟨"ThumbreelModel", "isBook", "(I)Z"⟩, 24), (⟨"ThumbreelModel", "flows", "(I)I"⟩, 24), (⟨"ThumbreelModel", "framesOf", "(I)I"⟩, 24), (⟨"ThumbreelModel", "isBoundCopy", "(II)Z"⟩, 24), (⟨"ThumbreelModel", "positionOf", "(II)I"⟩, 24), (⟨"ThumbreelModel", "spoils", "(I)V"⟩, 24), (⟨"ThumbreelModel", "wrong", "(II)I"⟩, 24), (⟨"ThumbreelModel", "isOrder", "(I)Z"⟩, 24), (⟨"ThumbreelModel", "laysWanted", "()V"⟩, 24), (⟨"ThumbreelModel", "laysRanks", "()V"⟩, 24), (⟨"ThumbreelModel", "size", "(I)I"⟩, 24)]
theorem lw_r4 : ∀ q ∈ lw_privs_4, lw_okq q := List.forall_mem_cons.mpr ⟨lw_p48, List.forall_mem_cons.mpr ⟨lw_p49, List.forall_mem_cons.mpr ⟨lw_p50, List.forall_mem_cons.mpr ⟨lw_p51, List.forall_mem_cons.mpr ⟨lw_p52, List.forall_mem_cons.mpr ⟨lw_p53, List.forall_mem_cons.mpr ⟨lw_p54, List.forall_mem_cons.mpr ⟨lw_p55, List.forall_mem_cons.mpr ⟨lw_p56, List.forall_mem_cons.mpr ⟨lw_p57, List.forall_mem_cons.mpr ⟨lw_p58, List.forall_mem_cons.mpr ⟨lw_p59, List.forall_mem_cons.mpr ⟨lw_p60, List.forall_mem_cons.mpr ⟨lw_p61, List.forall_mem_cons.mpr ⟨lw_p62, List.forall_mem_cons.mpr ⟨lw_p63, fun _ h => absurd h List.not_mem_nil⟩⟩⟩⟩⟩⟩⟩⟩⟩⟩⟩⟩⟩⟩⟩⟩
theorem lw_p64 : lw_okq (⟨"ThumbreelModel", "lackingOf", "(I)I"⟩, 24) := ⟨⟨by decide +kernel, by decide +kernel⟩, List.mem_of_getElem? (i := 843) (by decide +kernel), List.mem_of_getElem? (i := 1024) (by decide +kernel), List.mem_of_getElem? (i := 1025) (by decide +kernel)⟩
theorem lw_p65 : lw_okq (⟨"ThumbreelModel", "printsOne", "(I)V"⟩, 24) := ⟨⟨by decide +kernel, by decide +kernel⟩, List.mem_of_getElem? (i := 843) (by decide +kernel), List.mem_of_getElem? (i := 1048) (by decide +kernel), List.mem_of_getElem? (i := 1049) (by decide +kernel)⟩
theorem lw_p66 : lw_okq (⟨"ThumbreelModel", "longest", "()I"⟩, 24) := ⟨⟨by decide +kernel, by decide +kernel⟩, List.mem_of_getElem? (i := 843) (by decide +kernel), List.mem_of_getElem? (i := 1064) (by decide +kernel), List.mem_of_getElem? (i := 1065) (by decide +kernel)⟩
theorem lw_p67 : lw_okq (⟨"ThumbreelModel", "isOn", "(II)Z"⟩, 24) := ⟨⟨by decide +kernel, by decide +kernel⟩, List.mem_of_getElem? (i := 843) (by decide +kernel), List.mem_of_getElem? (i := 1068) (by decide +kernel), List.mem_of_getElem? (i := 1069) (by decide +kernel)⟩
theorem lw_p68 : lw_okq (⟨"ThumbreelModel", "isCopy", "(II)Z"⟩, 24) := ⟨⟨by decide +kernel, by decide +kernel⟩, List.mem_of_getElem? (i := 843) (by decide +kernel), List.mem_of_getElem? (i := 1088) (by decide +kernel), List.mem_of_getElem? (i := 1089) (by decide +kernel)⟩
theorem lw_p69 : lw_okq (⟨"ThumbreelModel", "isWhole", "(II)Z"⟩, 24) := ⟨⟨by decide +kernel, by decide +kernel⟩, List.mem_of_getElem? (i := 843) (by decide +kernel), List.mem_of_getElem? (i := 1092) (by decide +kernel), List.mem_of_getElem? (i := 1093) (by decide +kernel)⟩
theorem lw_p70 : lw_okq (⟨"ThumbreelModel", "hasFrame", "(III)Z"⟩, 24) := ⟨⟨by decide +kernel, by decide +kernel⟩, List.mem_of_getElem? (i := 843) (by decide +kernel), List.mem_of_getElem? (i := 1104) (by decide +kernel), List.mem_of_getElem? (i := 1105) (by decide +kernel)⟩
theorem lw_p71 : lw_okq (⟨"ThumbreelModel", "leafShown", "(III)I"⟩, 24) := ⟨⟨by decide +kernel, by decide +kernel⟩, List.mem_of_getElem? (i := 843) (by decide +kernel), List.mem_of_getElem? (i := 1112) (by decide +kernel), List.mem_of_getElem? (i := 1113) (by decide +kernel)⟩
def lw_privs_5 : List (MethodName × Nat) := [(⟨"ThumbreelModel", "lackingOf", "(I)I"⟩, 24), (⟨"ThumbreelModel", "printsOne", "(I)V"⟩, 24), (⟨"ThumbreelModel", "longest", "()I"⟩, 24), (⟨"ThumbreelModel", "isOn", "(II)Z"⟩, 24), (⟨"ThumbreelModel", "isCopy", "(II)Z"⟩, 24), (⟨"ThumbreelModel", "isWhole", "(II)Z"⟩, 24), (⟨"ThumbreelModel", "hasFrame", "(III)Z"⟩, 24), (⟨"ThumbreelModel", "leafShown", "(III)I"⟩, 24)]
theorem lw_r5 : ∀ q ∈ lw_privs_5, lw_okq q := List.forall_mem_cons.mpr ⟨lw_p64, List.forall_mem_cons.mpr ⟨lw_p65, List.forall_mem_cons.mpr ⟨lw_p66, List.forall_mem_cons.mpr ⟨lw_p67, List.forall_mem_cons.mpr ⟨lw_p68, List.forall_mem_cons.mpr ⟨lw_p69, List.forall_mem_cons.mpr ⟨lw_p70, List.forall_mem_cons.mpr ⟨lw_p71, fun _ h => absurd h List.not_mem_nil⟩⟩⟩⟩⟩⟩⟩⟩
def lw_privs : List (MethodName × Nat) := lw_privs_1 ++ (lw_privs_2 ++ (lw_privs_3 ++ (lw_privs_4 ++ (lw_privs_5))))
def lw_tbl : List Cond := k2_sels lw_privs ++ tables_1
theorem lw_privs_ok : ∀ q ∈ lw_privs, lw_okq q := by
  show ∀ q ∈ lw_privs_1 ++ (lw_privs_2 ++ (lw_privs_3 ++ (lw_privs_4 ++ (lw_privs_5)))), lw_okq q
  exact List.forall_mem_append.mpr ⟨lw_r1, List.forall_mem_append.mpr ⟨lw_r2, List.forall_mem_append.mpr ⟨lw_r3, List.forall_mem_append.mpr ⟨lw_r4, lw_r5⟩⟩⟩⟩
end
section
/-! ===== BEGIN words of one list among another's, by their places ===== -/
theorem goodIn_r {big : List Cond} (ws : List Cond) (ps : List Nat) (hp : ws = ps.filterMap (fun i => big[i]?)) (h : ws.all goodWord = true) : GoodIn big ws := by
  intro w hw
  have h1 := List.all_eq_true.mp h w hw
  rw [hp] at hw
  obtain ⟨i, -, hi⟩ := List.mem_filterMap.mp hw
  have hm : w ∈ big := by first | exact List.mem_of_getElem? hi | exact List.getElem?_mem hi
  exact ⟨hm, good_of_word h1⟩
theorem goodIn_app {big a b : List Cond} (ha : GoodIn big a) (hb : GoodIn big b) : GoodIn big (a ++ b) := fun w h => (List.mem_append.mp h).elim (ha w) (hb w)
theorem goodIn_ca {big a b : List Cond} {c : Cond} (ha : GoodIn big (c :: a)) (hb : GoodIn big b) : GoodIn big (c :: (a ++ b)) := fun w h => (List.mem_cons.mp h).elim (fun e => ha w (List.mem_cons.mpr (Or.inl e))) (fun h => (List.mem_append.mp h).elim (fun h => ha w (List.mem_cons.mpr (Or.inr h))) (hb w))
theorem goodIn_sub {big ws : List Cond} (hm : ∀ w ∈ ws, w ∈ big) (h : ws.all goodWord = true) : GoodIn big ws := fun w hw => ⟨hm w hw, good_of_word (List.all_eq_true.mp h w hw)⟩
/-! ===== END ===== -/
/-! ===== BEGIN exceptions that leave a method, and their catching by the caller (launches without stack traces) ===== -/
section VXA
/-! The laws vx_back, vx_callV, vx_callS, vx_callSW, vx_throw0, vx_throwS follow proofs of the library, with one case more: JvmDerived/Free/Laws.lean (Back.of_free), Shelf42/LK1.lean (callV, callS), Shelf/KitTraced.lean (throwNew0V, throwNewS). -/
/-- where a method has thrown q: the class by its name, the cell, what was written, the world -/
def vx_T (XC : String → State → State → Prop) (st : State) (q : Addr) (t : State) (mc ms : Nat) (free : Addr → Prop) : Prop :=
  ∃ (E : String) (ce : Cell) (L : List Loc), XC E st t ∧ t.heap[q]? = some ce ∧ ce.vm = .none ∧ st.vm.findClass E = some ce.cls ∧ st.WarmedH t.vm ∧ st.sameButNew ({ t with vm := st.vm } : State) L mc ms ∧ ∀ z ∈ L, free z.base
def vx_Q (Qc : Array Value → State → Outcome → State → Prop) (XC : String → State → State → Prop) (mc ms : Nat) (free : Addr → Prop) : Array Value → State → Outcome → State → Prop := fun a st o t =>
  (Qc a st o t ∧ ∃ L, FrameEnd st o t L mc ms ∧ ∀ q ∈ L, free q.base) ∨ ∃ q, o = .threw q ∧ vx_T XC st q t mc ms free
/-- a callee that returns or throws -/
def vx_Met (l : Launch) (y : MethodName) (ws : List Cond) (rm : Room) (Pc : Array Value → State → Prop) (Qc : Array Value → State → Outcome → State → Prop) (XC : String → State → State → Prop) (mc ms : Nat) (free : Addr → Prop) : Prop :=
  MetFree l y (headSpec ws rm) Pc (fun _ _ _ _ _ => True) (vx_Q Qc XC mc ms free)
def vx_Post (XC : String → State → State → Prop) (mc ms : Nat) (free : Addr → Prop) : Pt → Array Value → Addr → Pt → Prop := fun A a q B =>
  ∃ (g : JFrame) (mk : MethodId) (t : State) (L : List Loc) (E : String) (ce : Cell), B.U.heap = t.heap ∧ B.U.vm = t.vm ∧ XC E (A.U.calling g mk a) t ∧ t.heap[q]? = some ce ∧ ce.vm = .none ∧ A.U.vm.findClass E = some ce.cls ∧ B.locs = A.locs ++ L ∧ (∀ z ∈ L, free z.base) ∧ B.cells = A.cells + mc ∧ B.slots = A.slots + ms
def vx_Back (l : Launch) (R : Room) (p : Program) (e : Env) (below : List Frame) (s : State) (sargs : Array Value) (y : MethodName) (len W9 : Nat)
    (Pre : Pt → Array Value → Prop) (Post : Pt → Array Value → Option Value → Pt → Prop) (PostX : Pt → Array Value → Addr → Pt → Prop) : Prop :=
  ∀ (m : MethodId) (meth : Method) (c : Code) (A : Pt) (g : JFrame) (ig : Instr) (mk : MethodId) (a : Array Value),
    Stand p l e R s m sargs below meth c A.U A.locs A.cells A.slots → g.method = m → g.locals.size = c.maxLocals → decode c.code g.pc = .ok (ig, len) →
    2 * g.monitorRoom + (g.stack.map fun v => v.category).sum ≤ W9 → A.U.methodNamed? y = some mk → Pre A a →
    (∃ (v : Option Value) (B : Pt), Stand p l e R s m sargs below meth c B.U B.locs B.cells B.slots ∧ Post A a v B ∧
      Steps p.tables e below (doInvoke e (A.U.setTop g) [] mk a).1 (B.U.setTop { g with pc := g.pc + len, stack := v.toList ++ g.stack })) ∨
    (∃ (q : Addr) (B : Pt), Stand p l e R s m sargs below meth c B.U B.locs B.cells B.slots ∧ PostX A a q B ∧
      Steps p.tables e below (doInvoke e (A.U.setTop g) [] mk a).1 ((B.U.setTop g).pushFrame (.throwing q)))
section Payer
variable {l : Launch} {R : Room} {p : Program} {e : Env} {below : List Frame} {s : State} {sargs : Array Value} {y : MethodName} {len W9 : Nat}
theorem vx_back {ws : List Cond} {rm : Room} {Pc : Array Value → State → Prop} {Qc : Array Value → State → Outcome → State → Prop} {XC : String → State → State → Prop} {mc ms : Nat} {free : Addr → Prop} {bytes : ByteArray} {maxL : Nat} {ret : Option FieldType}
    (hM : vx_Met l y ws rm Pc Qc XC mc ms free) (hblind : FrameBlind Pc) (hrc : rm.cells = mc) (hrs : rm.slots = ms)
    (hframes : rm.frames + 1 ≤ R.frames) (hlocals : W9 + (maxL + 11) + rm.locals ≤ R.locals)
    (hws : ∀ w ∈ ws, ∀ a' U, s.WarmedH U.vm → w.before a' U = true) (hcode : Cond.code y bytes maxL ret ∈ ws) (hinit : ∀ a' U, s.WarmedH U.vm → (Cond.initialized y.cls).before a' U = true) :
    vx_Back l R p e below s sargs y len W9 (PreOf R mc ms Pc) (PostOf Qc mc ms free) (vx_Post XC mc ms free) := by
  intro m meth c A g ig mk a X hg hsize hdg hW hn hp
  have h1 : (headSpec ws rm).pre.before a A.U = true := atoms_intro fun w hw => hws w hw _ _ X.warmed
  have h2 : (Cond.code y bytes maxL ret).before a A.U = true := hws _ hcode _ _ X.warmed
  have h3 : (Cond.initialized y.cls).before a A.U = true := hinit _ _ X.warmed
  have h4 : A.cells + (headSpec ws rm).room.cells ≤ R.cells := by rw [show (headSpec ws rm).room.cells = mc from hrc]; exact hp.1
  have h5 : A.slots + (headSpec ws rm).room.slots ≤ R.slots := by rw [show (headSpec ws rm).room.slots = ms from hrs]; exact hp.2.1
  have hPc : Pc a (A.U.calling g mk a) := hblind _ _ _ _ hp.2.2
  obtain ⟨U, Ls, c0, s0⟩ := A
  dsimp only [Pt.U, Pt.locs, Pt.cells, Pt.slots] at h1 h2 h3 h4 h5 X hn hPc ⊢
  obtain ⟨methY, cY, hmY, hcY, -, hlY, -, -, -, -⟩ := Cond.code_spec hn h2
  obtain ⟨kY, hkY, -⟩ := className_of_methodNamed hn
  have hinitY : kY.init = .initialized := Cond.initialized_spec (findClass_of_methodNamed hn) hkY h3
  have h : At U g.method c below := by rw [hg]; exact X.here
  have hlocals9 : W9 + (maxL + 11) + (headSpec ws rm).room.locals ≤ R.locals := hlocals
  have happ : (headSpec ws rm).appliesLoose y e.platform (U.calling g mk a) = true :=
    Spec.appliesLoose_calling (g := g) h hdg hn hkY hinitY
      (X.room_calling (g := g) (R' := (headSpec ws rm).room) hsize hmY hcY hframes (by rw [hlY]; omega) h4 h5) h1
  obtain ⟨mid, hmid⟩ := h.above
  have hfr : (U.setTop g).frames = (.java g :: mid) ++ below := by rw [State.frames_setTop' g h.top, hmid]; rfl
  obtain ⟨o, s₂, hsteps, -, hend, hq⟩ := Steps.callFree hM p X.admits X.cas X.clock (acts := []) hfr happ hPc trivial
  have hq' : vx_Q Qc XC mc ms free a (U.calling g mk a) o s₂ := hq
  rw [State.frames_setTop' g h.top] at hend
  obtain ⟨g₀, hg0⟩ := Option.isSome_iff_exists.mp h.top
  obtain ⟨r, hr⟩ := State.topJava?_eq_some.mp hg0
  have hr' : (({ U with heap := s₂.heap, slotsUsed := s₂.slotsUsed } : State).setVm s₂.vm).frames = .java g₀ :: r := hr
  rcases hq' with ⟨hqc, L, hfe, hL⟩ | ⟨q, rfl, E, ce, L, hx, hce, hcv, hcl, hW₂, hsm, hL⟩
  · obtain ⟨⟨v, rfl⟩, hW₂, e2, q2, q3, q4, q5, q6⟩ := id hfe
    have e3 : s₂ = ({ (U.calling g mk a).setFrames s₂.frames with heap := s₂.heap, slotsUsed := s₂.slotsUsed } : State).setVm s₂.vm := by
      have : s₂ = ({ s₂ with vm := (U.calling g mk a).vm } : State).setVm s₂.vm := rfl
      rw [e2] at this
      exact this
    obtain ⟨c₂, i₂, len₂, hc₂, hd₂, hf₂⟩ := hend
    have hW' : U.WarmedH s₂.vm := hW₂
    have hcc : c₂ = c := by
      have h1 : s₂.code? g.method = U.code? g.method := by
        rw [State.code?_eq, State.code?_eq, hW'.alike.method?]
      exact Option.some.inj (hc₂.symm.trans (h1.trans h.code))
    subst hcc
    have hlen : len₂ = len := by rw [hdg] at hd₂; cases hd₂; rfl
    subst hlen
    have hs₂ : s₂ = (({ U with heap := s₂.heap, slotsUsed := s₂.slotsUsed } : State).setVm s₂.vm).setTop { g with pc := g.pc + len₂, stack := v.toList ++ g.stack } := by
      refine e3.trans ?_
      rw [hf₂, State.calling_eq h.top, State.setFrames_setFrames, State.setTop_of_frames _ hr', hr]
      rfl
    have hsame : U.sameButNew ({ U with heap := s₂.heap, slotsUsed := s₂.slotsUsed } : State) L mc ms := by
      refine ⟨?_, q2, q3, q4, q5, q6⟩
      obtain ⟨t, ht, -⟩ := State.frames_cons hr
      show ({ U with heap := s₂.heap, slotsUsed := s₂.slotsUsed } : State) = { U.setFrames U.frames with heap := s₂.heap, slotsUsed := s₂.slotsUsed }
      rw [State.setFrames_self ht]
    subst hg
    refine Or.inl ⟨v, ⟨(({ U with heap := s₂.heap, slotsUsed := s₂.slotsUsed } : State).setVm s₂.vm), Ls ++ L, c0 + mc, s0 + ms⟩,
      ⟨X.admits, X.cas, X.clock, X.frames, X.room, X.hears, X.method, X.code, (X.here.setHeapUsed s₂.heap s₂.slotsUsed).setVm hW'.alike, X.tail, State.WarmedH.trans X.warmed hW', X.limits, X.bytes, X.same.trans (hsame.setVm s.vm)⟩,
      ⟨g, mk, s₂, L, rfl, rfl, hqc, rfl, hL, rfl, rfl⟩, ?_⟩
    show Steps p.tables e below _ ((({ U with heap := s₂.heap, slotsUsed := s₂.slotsUsed } : State).setVm s₂.vm).setTop { g with pc := g.pc + len₂, stack := v.toList ++ g.stack })
    rw [← hs₂]
    exact hsteps
  · obtain ⟨e2, q2, q3, q4, q5, q6⟩ := id hsm
    have e3 : s₂ = ({ (U.calling g mk a).setFrames s₂.frames with heap := s₂.heap, slotsUsed := s₂.slotsUsed } : State).setVm s₂.vm := by
      have : s₂ = ({ s₂ with vm := (U.calling g mk a).vm } : State).setVm s₂.vm := rfl
      rw [e2] at this
      exact this
    have hf₂ : s₂.frames = .throwing q :: .java g :: U.frames.tail := hend
    have hW' : U.WarmedH s₂.vm := hW₂
    have hs₂ : s₂ = ((({ U with heap := s₂.heap, slotsUsed := s₂.slotsUsed } : State).setVm s₂.vm).setTop g).pushFrame (.throwing q) := by
      refine e3.trans ?_
      rw [hf₂, State.calling_eq h.top, State.setFrames_setFrames, State.pushFrame, State.frames_setTop _ hr', State.setTop_of_frames _ hr', State.setFrames_setFrames, hr]
      rfl
    have hsame : U.sameButNew ({ U with heap := s₂.heap, slotsUsed := s₂.slotsUsed } : State) L mc ms := by
      refine ⟨?_, q2, q3, q4, q5, q6⟩
      obtain ⟨t, ht, -⟩ := State.frames_cons hr
      show ({ U with heap := s₂.heap, slotsUsed := s₂.slotsUsed } : State) = { U.setFrames U.frames with heap := s₂.heap, slotsUsed := s₂.slotsUsed }
      rw [State.setFrames_self ht]
    subst hg
    refine Or.inr ⟨q, ⟨(({ U with heap := s₂.heap, slotsUsed := s₂.slotsUsed } : State).setVm s₂.vm), Ls ++ L, c0 + mc, s0 + ms⟩,
      ⟨X.admits, X.cas, X.clock, X.frames, X.room, X.hears, X.method, X.code, (X.here.setHeapUsed s₂.heap s₂.slotsUsed).setVm hW'.alike, X.tail, State.WarmedH.trans X.warmed hW', X.limits, X.bytes, X.same.trans (hsame.setVm s.vm)⟩,
      ⟨g, mk, s₂, L, E, ce, rfl, rfl, hx, hce, hcv, hcl, rfl, hL, rfl, rfl⟩, ?_⟩
    show Steps p.tables e below _ (((({ U with heap := s₂.heap, slotsUsed := s₂.slotsUsed } : State).setVm s₂.vm).setTop g).pushFrame (.throwing q))
    rw [← hs₂]
    exact hsteps
end Payer
section Calls
variable {p : Program} {l : Launch} {e : Env} {R : Room} {s : State} {m : MethodId} {args : Array Value} {below : List Frame} {meth : Method} {c : Code} {T : State} {locs : List Loc} {cells slots : Nat}
theorem vx_callV (X : Stand p l e R s m args below meth c T locs cells slots) (hexec : p.tables.exec = Jvm.exec) {own C : String} {index : Nat} {y : MethodName} {bytes : ByteArray} {maxL : Nat} {ret : Option FieldType}
    (hown : s.vm.findClass own = some m.cls) (hlink : (Cond.methodLink own index y).before args s = true) (hinst : (Cond.instanceMethod y).before args s = true) (hsel : (Cond.selects C y y).before args s = true)
    (hcode : (Cond.code y bytes maxL ret).before args s = true) (hy : y.cls ≠ "java/lang/invoke/MethodHandle" ∧ y.cls ≠ "java/lang/invoke/VarHandle")
    {W9 : Nat} {Pre : Pt → Array Value → Prop} {Post : Pt → Array Value → Option Value → Pt → Prop} {PostX : Pt → Array Value → Addr → Pt → Prop} (hK : vx_Back l R p e below s args y 3 W9 Pre Post PostX)
    {b : Addr} {cellB : Cell} (hcell : T.heap[b]? = some cellB) (hobj : cellB.vm.isStatics = false) (hcls : s.vm.findClass C = some cellB.cls)
    {g : JFrame} (hg : g.method = m) (hsize : g.locals.size = c.maxLocals) {argsL rest : List Value} (hlen : ∀ sig, parseMethodDescriptor y.desc = some sig → argsL.length = sig.parameters.length)
    (hstack : g.stack = argsL.reverse ++ .ref b :: rest) (hW : 2 * g.monitorRoom + (rest.map fun v => v.category).sum ≤ W9) (hdg : decode c.code g.pc = .ok (.invokevirtual index, 3))
    (hpre : ∀ vm₁, s.WarmedH vm₁ → Pre ⟨T.setVm vm₁, locs, cells, slots⟩ (Value.ref b :: argsL).toArray) :
    (∃ (v : Option Value) (vm₁ : Vm) (B : Pt), s.WarmedH vm₁ ∧ Stand p l e R s m args below meth c B.U B.locs B.cells B.slots ∧ Post ⟨T.setVm vm₁, locs, cells, slots⟩ (Value.ref b :: argsL).toArray v B ∧
      ∀ target, Steps p.tables e below (B.U.setTop { g with pc := g.pc + 3, stack := v.toList ++ rest }) target → Steps p.tables e below (T.setTop g) target) ∨
    (∃ (q : Addr) (vm₁ : Vm) (B : Pt), s.WarmedH vm₁ ∧ Stand p l e R s m args below meth c B.U B.locs B.cells B.slots ∧ PostX ⟨T.setVm vm₁, locs, cells, slots⟩ (Value.ref b :: argsL).toArray q B ∧
      Steps p.tables e below (T.setTop g) ((B.U.setTop { g with stack := rest }).pushFrame (.throwing q))) := by
  obtain ⟨mk, methM, hnamed, hmethM, hstM, habM⟩ := Cond.instanceMethod_spec hinst
  obtain ⟨methM', cM, hmethM', -, -, -, -, -, -, hsigM⟩ := Cond.code_spec hnamed hcode
  cases hmethM.symm.trans hmethM'
  obtain ⟨c2, r2, m2, q1, q2, q3, q4, kP, hkP, hkPi⟩ := Cond.selects_spec hsel
  cases hcls.symm.trans q1
  cases (State.methodFound?_of_named hnamed hy).symm.trans q2
  cases hnamed.symm.trans q3
  have hselP : selectMethod e.platform s.vm cellB.cls mk = .method mk := by rw [Launch.admits_selectMethod X.admits]; exact q4
  obtain ⟨vm₁, X₁, hstep₁⟩ := X.invokevirtual hexec hown hlink hnamed hmethM hstM hkP hkPi hy (a := b) (cell := cellB) hcell
    (fun z h => by rw [h] at hobj; cases hobj) hselP hmethM habM hkP hkPi (g := g) hg (argsL := argsL) (rest := rest) (hlen _ hsigM) hstack hdg
  rcases hK m meth c ⟨T.setVm vm₁, locs, cells, slots⟩ { g with stack := rest } (.invokevirtual index) mk (Value.ref b :: argsL).toArray X₁ hg hsize hdg hW (X₁.named hnamed) (hpre vm₁ X₁.warmed) with ⟨v, B, X', hpost, hsteps⟩ | ⟨q, B, X', hpost, hsteps⟩
  · exact Or.inl ⟨v, vm₁, B, X₁.warmed, X', hpost, fun target h => hstep₁ _ fun acts => by rw [doInvoke_state]; exact hsteps.trans h⟩
  · exact Or.inr ⟨q, vm₁, B, X₁.warmed, X', hpost, hstep₁ _ fun acts => by rw [doInvoke_state]; exact hsteps⟩
theorem vx_callS (X : Stand p l e R s m args below meth c T locs cells slots) (hexec : p.tables.exec = Jvm.exec) {own : String} {index : Nat} {y : MethodName} {bytes : ByteArray} {maxL : Nat} {ret : Option FieldType}
    (hown : s.vm.findClass own = some m.cls) (hlink : (Cond.methodLink own index y).before args s = true) (hstat : (Cond.static y).before args s = true) (hinit : (Cond.initialized y.cls).before args s = true)
    (hcode : (Cond.code y bytes maxL ret).before args s = true) (hy : y.cls ≠ "java/lang/invoke/MethodHandle" ∧ y.cls ≠ "java/lang/invoke/VarHandle")
    {W9 : Nat} {Pre : Pt → Array Value → Prop} {Post : Pt → Array Value → Option Value → Pt → Prop} {PostX : Pt → Array Value → Addr → Pt → Prop} (hK : vx_Back l R p e below s args y 3 W9 Pre Post PostX)
    {g : JFrame} (hg : g.method = m) (hsize : g.locals.size = c.maxLocals) {argsL rest : List Value} (hlen : ∀ sig, parseMethodDescriptor y.desc = some sig → argsL.length = sig.parameters.length)
    (hstack : g.stack = argsL.reverse ++ rest) (hW : 2 * g.monitorRoom + (rest.map fun v => v.category).sum ≤ W9) (hdg : decode c.code g.pc = .ok (.invokestatic index, 3))
    (hpre : ∀ vm₁, s.WarmedH vm₁ → Pre ⟨T.setVm vm₁, locs, cells, slots⟩ argsL.toArray) :
    (∃ (v : Option Value) (vm₁ : Vm) (B : Pt), s.WarmedH vm₁ ∧ Stand p l e R s m args below meth c B.U B.locs B.cells B.slots ∧ Post ⟨T.setVm vm₁, locs, cells, slots⟩ argsL.toArray v B ∧
      ∀ target, Steps p.tables e below (B.U.setTop { g with pc := g.pc + 3, stack := v.toList ++ rest }) target → Steps p.tables e below (T.setTop g) target) ∨
    (∃ (q : Addr) (vm₁ : Vm) (B : Pt), s.WarmedH vm₁ ∧ Stand p l e R s m args below meth c B.U B.locs B.cells B.slots ∧ PostX ⟨T.setVm vm₁, locs, cells, slots⟩ argsL.toArray q B ∧
      Steps p.tables e below (T.setTop g) ((B.U.setTop { g with stack := rest }).pushFrame (.throwing q))) := by
  obtain ⟨mk, hnamed⟩ := Cond.code_named hcode
  obtain ⟨methM, cM, hmethM, -, -, -, -, -, -, hsigM⟩ := Cond.code_spec hnamed hcode
  have hstatic : methM.isStatic = true := Cond.static_spec hnamed hmethM hstat
  obtain ⟨kP, hkP, -⟩ := className_of_methodNamed hnamed
  have hinitP : kP.init = .initialized := Cond.initialized_spec (findClass_of_methodNamed hnamed) hkP hinit
  obtain ⟨vm₁, X₁, hstep₁⟩ := X.invokestatic hexec hown hlink hnamed hmethM hstatic hkP hinitP hy (g := g) hg (argsL := argsL) (rest := rest) (hlen _ hsigM) hstack hdg
  rcases hK m meth c ⟨T.setVm vm₁, locs, cells, slots⟩ { g with stack := rest } (.invokestatic index) mk argsL.toArray X₁ hg hsize hdg hW (X₁.named hnamed) (hpre vm₁ X₁.warmed) with ⟨v, B, X', hpost, hsteps⟩ | ⟨q, B, X', hpost, hsteps⟩
  · exact Or.inl ⟨v, vm₁, B, X₁.warmed, X', hpost, fun target h => hstep₁ _ fun acts => by rw [doInvoke_state]; exact hsteps.trans h⟩
  · exact Or.inr ⟨q, vm₁, B, X₁.warmed, X', hpost, hstep₁ _ fun acts => by rw [doInvoke_state]; exact hsteps⟩
end Calls
theorem vx_cls {s : State} {T : State} {vm₁ : Vm} {E : String} {k : ClassId} (hW : s.WarmedH vm₁) (h : (T.setVm vm₁).vm.findClass E = some k) : s.vm.findClass E = some k := by
  have h1 : vm₁.findClass E = some k := h
  rw [hW.alike.findClass] at h1
  exact h1
/-- the method's frame g, with q thrown over it -/
def vx_W (p : Program) (l : Launch) (e : Env) (R : Room) (s : State) (m : MethodId) (args : Array Value) (below : List Frame) (meth : Method) (c : Code) (H : Heap) (locs : List Loc) (cells slots : Nat) (Q : State → Prop) (g : JFrame) (q : Addr) : Prop :=
  ∀ T : State, T.heap = H → Stand p l e R s m args below meth c T locs cells slots → ∃ t, Steps p.tables e below ((T.setTop g).pushFrame (.throwing q)) t ∧ Q t
def vx_Run (p : Program) (l : Launch) (e : Env) (R : Room) (s : State) (m : MethodId) (args : Array Value) (below : List Frame) (meth : Method) (c : Code) (H : Heap) (locs : List Loc) (cells slots mc ms : Nat) (g : JFrame) (rest : List Value) (Qa : State → Outcome → State → Prop) (XC : String → State → State → Prop) (free : Addr → Prop) : Prop :=
  ∀ T : State, T.heap = H → Stand p l e R s m args below meth c T locs cells slots →
    (∃ (v : Option Value) (st₀ t T' : State) (L : List Loc), st₀.heap = H ∧ Stand p l e R s m args below meth c T' (locs ++ L) (cells + mc) (slots + ms) ∧ (∀ q ∈ L, free q.base) ∧ T'.heap = t.heap ∧ T'.vm = t.vm ∧ Qa st₀ (.returned v) t ∧
      Goes p e below T g T' { g with pc := g.pc + 3, stack := v.toList ++ rest }) ∨
    (∃ (q : Addr) (st₀ t T' : State) (L : List Loc) (E : String) (ce : Cell), st₀.heap = H ∧ Stand p l e R s m args below meth c T' (locs ++ L) (cells + mc) (slots + ms) ∧ (∀ z ∈ L, free z.base) ∧ T'.heap = t.heap ∧ T'.vm = t.vm ∧ XC E st₀ t ∧ t.heap[q]? = some ce ∧ ce.vm = .none ∧ s.vm.findClass E = some ce.cls ∧
      Steps p.tables e below (T.setTop g) ((T'.setTop { g with stack := rest }).pushFrame (.throwing q)))
def vx_X {S : Type} (px : S → Prop) (B : String → S → State → Prop) (A : Nat → Prop) : String → State → State → Prop := fun E st t => ∃ u : S, px u ∧ B E u t ∧ va_F A st t
section Runs
variable {p : Program} {l : Launch} {e : Env} {R : Room} {s : State} {m : MethodId} {args : Array Value} {below : List Frame} {meth : Method} {c : Code} {H : Heap} {locs : List Loc} {cells slots : Nat}
variable {y : MethodName} {bytes cc : ByteArray} {maxL nL mc ms n index : Nat} {ret : Option FieldType} {ws : List Cond} {rm : Room} {Pc : Array Value → State → Prop} {Qc : Array Value → State → Outcome → State → Prop} {XC : String → State → State → Prop} {free : Addr → Prop} {Ts : List Cond} {own C : String} {b : Addr} {As rest : List Value} {g : JFrame}
theorem vx_callBack (cb : CallB R s args own index y bytes maxL ret ws rm mc ms n) (hM : vx_Met l y ws rm Pc Qc XC mc ms free) (hbl : FrameBlind Pc) : vx_Back l R p e below s args y 3 8 (PreOf R mc ms Pc) (PostOf Qc mc ms free) (vx_Post XC mc ms free) := by
  obtain ⟨hrc, hrs, hfr, hlo, hws, hcw, -, hini, -⟩ := cb
  exact vx_back (bytes := bytes) (maxL := maxL) (ret := ret) hM hbl hrc hrs hfr hlo hws hcw (fun a' U hW => word_at hW (Or.inl (by first | rfl | simp [Cond.onTables, Cond.keeps, Cond.steady])) hini)
theorem vx_runV (S : CallFix p m c cc nL s args Ts own) (hM : vx_Met l y ws rm Pc Qc XC mc ms free) (cw : CallW R s args own C index y bytes maxL ret ws rm mc ms n) (hp : PreV s H C b Pc As)
    (hg : g.method = m) (hn : As.length = n) (hsize : g.locals.size = nL) (hstack : g.stack = As.reverse ++ .ref b :: rest) (hW : 2 * g.monitorRoom + (rest.map fun v => v.category).sum ≤ 8) (hdg : decode cc g.pc = .ok (.invokevirtual index, 3)) (hf : cells + mc ≤ R.cells ∧ slots + ms ≤ R.slots) :
    vx_Run p l e R s m args below meth c H locs cells slots mc ms g rest (Qc (Value.ref b :: As).toArray) XC free := by
  have hK : vx_Back l R p e below s args y 3 8 (PreOf R mc ms Pc) (PostOf Qc mc ms free) (vx_Post XC mc ms free) := vx_callBack cw.1 hM hp.1
  obtain ⟨⟨-, -, -, -, -, -, hcode, -, hy, hlen, hl⟩, hin, hse⟩ := cw
  obtain ⟨hx, hb, hml, ho, -⟩ := S
  obtain ⟨-, ⟨cellB, hcB, hoB, hclB⟩, hPc⟩ := hp
  intro T hT X
  rcases vx_callV X hx (C := C) (bytes := bytes) (maxL := maxL) (ret := ret) ho hl hin hse hcode hy hK (by rw [hT]; exact hcB) hoB hclB hg (hsize.trans hml.symm) (argsL := As) (rest := rest) (fun sig h => hn.trans (hlen sig h)) hstack hW (by rw [hb]; exact hdg)
    (fun vm₁ hW₁ => ⟨hf.1, hf.2, hPc (T.setVm vm₁) hT hW₁⟩) with ⟨v, vm₁, ⟨U', l2, c2, s2⟩, hW₁, X', ⟨g', mk, t, L, e1, e2, hq, h1, hL, h2, h3⟩, st⟩ | ⟨q, vm₁, ⟨U', l2, c2, s2⟩, hW₁, X', ⟨g', mk, t, L, E, ce, e1, e2, hq, hce, hcv, hcl, h1, hL, h2, h3⟩, st⟩
  · dsimp only [Pt.U, Pt.locs, Pt.cells, Pt.slots] at X' e1 e2 h1 h2 h3 st
    subst h1; subst h2; subst h3
    exact Or.inl ⟨v, (T.setVm vm₁).calling g' mk (Value.ref b :: As).toArray, t, U', L, hT, X', hL, e1, e2, hq, st⟩
  · dsimp only [Pt.U, Pt.locs, Pt.cells, Pt.slots] at X' e1 e2 h1 h2 h3 st hcl
    subst h1; subst h2; subst h3
    exact Or.inr ⟨q, (T.setVm vm₁).calling g' mk (Value.ref b :: As).toArray, t, U', L, E, ce, hT, X', hL, e1, e2, hq, hce, hcv, vx_cls hW₁ hcl, st⟩
theorem vx_runS (S : CallFix p m c cc nL s args Ts own) (hM : vx_Met l y ws rm Pc Qc XC mc ms free) (cw : CallB R s args own index y bytes maxL ret ws rm mc ms n ∧ (Cond.static y).before args s = true) (hp : PreS s H Pc As)
    (hg : g.method = m) (hn : As.length = n) (hsize : g.locals.size = nL) (hstack : g.stack = As.reverse ++ rest) (hW : 2 * g.monitorRoom + (rest.map fun v => v.category).sum ≤ 8) (hdg : decode cc g.pc = .ok (.invokestatic index, 3)) (hf : cells + mc ≤ R.cells ∧ slots + ms ≤ R.slots) :
    vx_Run p l e R s m args below meth c H locs cells slots mc ms g rest (Qc As.toArray) XC free := by
  have hK : vx_Back l R p e below s args y 3 8 (PreOf R mc ms Pc) (PostOf Qc mc ms free) (vx_Post XC mc ms free) := vx_callBack cw.1 hM hp.1
  obtain ⟨⟨-, -, -, -, -, -, hcode, hini, hy, hlen, hl⟩, hstt⟩ := cw
  obtain ⟨hx, hb, hml, ho, -⟩ := S
  intro T hT X
  rcases vx_callS X hx (bytes := bytes) (maxL := maxL) (ret := ret) ho hl hstt hini hcode hy hK hg (hsize.trans hml.symm) (argsL := As) (rest := rest) (fun sig h => hn.trans (hlen sig h)) hstack hW (by rw [hb]; exact hdg)
    (fun vm₁ hW₁ => ⟨hf.1, hf.2, hp.2 (T.setVm vm₁) hT hW₁⟩) with ⟨v, vm₁, ⟨U', l2, c2, s2⟩, hW₁, X', ⟨g', mk, t, L, e1, e2, hq, h1, hL, h2, h3⟩, st⟩ | ⟨q, vm₁, ⟨U', l2, c2, s2⟩, hW₁, X', ⟨g', mk, t, L, E, ce, e1, e2, hq, hce, hcv, hcl, h1, hL, h2, h3⟩, st⟩
  · dsimp only [Pt.U, Pt.locs, Pt.cells, Pt.slots] at X' e1 e2 h1 h2 h3 st
    subst h1; subst h2; subst h3
    exact Or.inl ⟨v, (T.setVm vm₁).calling g' mk As.toArray, t, U', L, hT, X', hL, e1, e2, hq, st⟩
  · dsimp only [Pt.U, Pt.locs, Pt.cells, Pt.slots] at X' e1 e2 h1 h2 h3 st hcl
    subst h1; subst h2; subst h3
    exact Or.inr ⟨q, (T.setVm vm₁).calling g' mk As.toArray, t, U', L, E, ce, hT, X', hL, e1, e2, hq, hce, hcv, vx_cls hW₁ hcl, st⟩
end Runs
section Rows
variable {p : Program} {l : Launch} {e : Env} {R : Room} {s : State} {m : MethodId} {args : Array Value} {below : List Frame} {meth : Method} {c : Code} {H : Heap} {locs : List Loc} {cells slots : Nat} {Q : State → Prop}
variable {mc ms : Nat} {free : Addr → Prop} {A0 A1 : Nat → Prop} {H0 : Heap} {a : Array Value} {pc : Nat} {ls : Array Slot} {st0 rest : List Value}
theorem vx_keep {st₀ t T' : State} {L : List Loc} (h0 : st₀.heap = H) (e1 : T'.heap = t.heap) (hS : va_S A0 H0 H locs) (hA : ∀ q, q < H.size → A1 q → A0 q) (hf : ∀ q, free q → A0 q) (hL : ∀ q ∈ L, free q.base) (hF : va_F A1 st₀ t) :
    H.size ≤ T'.heap.size ∧ (∀ q : Nat, q < H.size → ¬ A1 q → T'.heap[q]? = H[q]?) ∧ va_S A0 H0 T'.heap (locs ++ L) := by
  obtain ⟨hz, hk⟩ := hF
  rw [h0] at hz hk
  exact ⟨by rw [e1]; exact hz, fun q h1 h2 => by rw [e1]; exact hk q h1 h2,
    ⟨Nat.le_trans hS.1 (by rw [e1]; exact hz), fun q h1 h2 => by rw [e1, hk q (Nat.lt_of_lt_of_le h1 hS.1) (fun z => h2 (hA q (Nat.lt_of_lt_of_le h1 hS.1) z))]; exact hS.2.1 q h1 h2, fun q hq => by
      rcases List.mem_append.mp hq with h | h
      · exact hS.2.2 q h
      · exact hf _ (hL q h)⟩⟩
theorem vx_calli {S SX : Type} {post : Int32 → S → Prop} {px : SX → Prop} {B : S → State → Prop} {BX : String → SX → State → Prop} {AX : Nat → Prop} (hr : vx_Run p l e R s m args below meth c H locs cells slots mc ms (F0 m pc ls st0) rest (va_Qi post B A1 a) (vx_X px BX AX) free) (hS : va_S A0 H0 H locs) (hA : ∀ q, q < H.size → A1 q → A0 q) (hf : ∀ q, free q → A0 q) (hAX : ∀ q, q < H.size → AX q → A0 q)
    (kx : ∀ (E : String) (ce : Cell) (q9 : Addr) (u : SX) (t : State) (H1 : Heap) (locs1 : List Loc), t.heap = H1 → s.vm.Alike t.vm → px u → BX E u t → H.size ≤ H1.size → (∀ q : Nat, q < H.size → ¬ AX q → H1[q]? = H[q]?) → va_S A0 H0 H1 locs1 → H1[q9]? = some ce → ce.vm = .none → s.vm.findClass E = some ce.cls → vx_W p l e R s m args below meth c H1 locs1 (cells + mc) (slots + ms) Q (F0 m pc ls rest) q9)
    (kk : ∀ (r : Int32) (u : S) (t : State) (H1 : Heap) (locs1 : List Loc), t.heap = H1 → s.vm.Alike t.vm → post r u → B u t → H.size ≤ H1.size → (∀ q : Nat, q < H.size → ¬ A1 q → H1[q]? = H[q]?) → va_S A0 H0 H1 locs1 → W p l e R s m args below meth c H1 locs1 (cells + mc) (slots + ms) Q (F0 m (pc + 3) ls (.int r :: rest))) : W p l e R s m args below meth c H locs cells slots Q (F0 m pc ls st0) := by
  intro T hT X
  rcases hr T hT X with ⟨v, st₀, t, T', L, h0, X', hL, e1, e2, ⟨⟨r, u, hv, hp, hb⟩, hF⟩, st⟩ | ⟨q, st₀, t, T', L, E, ce, h0, X', hL, e1, e2, ⟨u, hp, hb, hF⟩, hce, hcv, hcl, st⟩
  · cases hv
    obtain ⟨k1, k2, k3⟩ := vx_keep h0 e1 hS hA hf hL hF
    obtain ⟨t2, a1, b1⟩ := kk r u t T'.heap (locs ++ L) e1.symm (by rw [← e2]; exact X'.warmed.alike) hp hb k1 k2 k3 T' rfl X'
    exact ⟨t2, st t2 a1, b1⟩
  · obtain ⟨k1, k2, k3⟩ := vx_keep h0 e1 hS hAX hf hL hF
    obtain ⟨t2, a1, b1⟩ := kx E ce q u t T'.heap (locs ++ L) e1.symm (by rw [← e2]; exact X'.warmed.alike) hp hb k1 k2 k3 (by rw [e1]; exact hce) hcv hcl T' rfl X'
    exact ⟨t2, st.trans a1, b1⟩
theorem vx_calll {S SX : Type} {post : Int64 → S → Prop} {px : SX → Prop} {B : S → State → Prop} {BX : String → SX → State → Prop} {AX : Nat → Prop} (hr : vx_Run p l e R s m args below meth c H locs cells slots mc ms (F0 m pc ls st0) rest (va_Ql post B A1 a) (vx_X px BX AX) free) (hS : va_S A0 H0 H locs) (hA : ∀ q, q < H.size → A1 q → A0 q) (hf : ∀ q, free q → A0 q) (hAX : ∀ q, q < H.size → AX q → A0 q)
    (kx : ∀ (E : String) (ce : Cell) (q9 : Addr) (u : SX) (t : State) (H1 : Heap) (locs1 : List Loc), t.heap = H1 → s.vm.Alike t.vm → px u → BX E u t → H.size ≤ H1.size → (∀ q : Nat, q < H.size → ¬ AX q → H1[q]? = H[q]?) → va_S A0 H0 H1 locs1 → H1[q9]? = some ce → ce.vm = .none → s.vm.findClass E = some ce.cls → vx_W p l e R s m args below meth c H1 locs1 (cells + mc) (slots + ms) Q (F0 m pc ls rest) q9)
    (kk : ∀ (r : Int64) (u : S) (t : State) (H1 : Heap) (locs1 : List Loc), t.heap = H1 → s.vm.Alike t.vm → post r u → B u t → H.size ≤ H1.size → (∀ q : Nat, q < H.size → ¬ A1 q → H1[q]? = H[q]?) → va_S A0 H0 H1 locs1 → W p l e R s m args below meth c H1 locs1 (cells + mc) (slots + ms) Q (F0 m (pc + 3) ls (.long r :: rest))) : W p l e R s m args below meth c H locs cells slots Q (F0 m pc ls st0) := by
  intro T hT X
  rcases hr T hT X with ⟨v, st₀, t, T', L, h0, X', hL, e1, e2, ⟨⟨r, u, hv, hp, hb⟩, hF⟩, st⟩ | ⟨q, st₀, t, T', L, E, ce, h0, X', hL, e1, e2, ⟨u, hp, hb, hF⟩, hce, hcv, hcl, st⟩
  · cases hv
    obtain ⟨k1, k2, k3⟩ := vx_keep h0 e1 hS hA hf hL hF
    obtain ⟨t2, a1, b1⟩ := kk r u t T'.heap (locs ++ L) e1.symm (by rw [← e2]; exact X'.warmed.alike) hp hb k1 k2 k3 T' rfl X'
    exact ⟨t2, st t2 a1, b1⟩
  · obtain ⟨k1, k2, k3⟩ := vx_keep h0 e1 hS hAX hf hL hF
    obtain ⟨t2, a1, b1⟩ := kx E ce q u t T'.heap (locs ++ L) e1.symm (by rw [← e2]; exact X'.warmed.alike) hp hb k1 k2 k3 (by rw [e1]; exact hce) hcv hcl T' rfl X'
    exact ⟨t2, st.trans a1, b1⟩
theorem vx_callf {S SX : Type} {post : UInt32 → S → Prop} {px : SX → Prop} {B : S → State → Prop} {BX : String → SX → State → Prop} {AX : Nat → Prop} (hr : vx_Run p l e R s m args below meth c H locs cells slots mc ms (F0 m pc ls st0) rest (va_Qf post B A1 a) (vx_X px BX AX) free) (hS : va_S A0 H0 H locs) (hA : ∀ q, q < H.size → A1 q → A0 q) (hf : ∀ q, free q → A0 q) (hAX : ∀ q, q < H.size → AX q → A0 q)
    (kx : ∀ (E : String) (ce : Cell) (q9 : Addr) (u : SX) (t : State) (H1 : Heap) (locs1 : List Loc), t.heap = H1 → s.vm.Alike t.vm → px u → BX E u t → H.size ≤ H1.size → (∀ q : Nat, q < H.size → ¬ AX q → H1[q]? = H[q]?) → va_S A0 H0 H1 locs1 → H1[q9]? = some ce → ce.vm = .none → s.vm.findClass E = some ce.cls → vx_W p l e R s m args below meth c H1 locs1 (cells + mc) (slots + ms) Q (F0 m pc ls rest) q9)
    (kk : ∀ (r : UInt32) (u : S) (t : State) (H1 : Heap) (locs1 : List Loc), t.heap = H1 → s.vm.Alike t.vm → post r u → B u t → H.size ≤ H1.size → (∀ q : Nat, q < H.size → ¬ A1 q → H1[q]? = H[q]?) → va_S A0 H0 H1 locs1 → W p l e R s m args below meth c H1 locs1 (cells + mc) (slots + ms) Q (F0 m (pc + 3) ls (.float r :: rest))) : W p l e R s m args below meth c H locs cells slots Q (F0 m pc ls st0) := by
  intro T hT X
  rcases hr T hT X with ⟨v, st₀, t, T', L, h0, X', hL, e1, e2, ⟨⟨r, u, hv, hp, hb⟩, hF⟩, st⟩ | ⟨q, st₀, t, T', L, E, ce, h0, X', hL, e1, e2, ⟨u, hp, hb, hF⟩, hce, hcv, hcl, st⟩
  · cases hv
    obtain ⟨k1, k2, k3⟩ := vx_keep h0 e1 hS hA hf hL hF
    obtain ⟨t2, a1, b1⟩ := kk r u t T'.heap (locs ++ L) e1.symm (by rw [← e2]; exact X'.warmed.alike) hp hb k1 k2 k3 T' rfl X'
    exact ⟨t2, st t2 a1, b1⟩
  · obtain ⟨k1, k2, k3⟩ := vx_keep h0 e1 hS hAX hf hL hF
    obtain ⟨t2, a1, b1⟩ := kx E ce q u t T'.heap (locs ++ L) e1.symm (by rw [← e2]; exact X'.warmed.alike) hp hb k1 k2 k3 (by rw [e1]; exact hce) hcv hcl T' rfl X'
    exact ⟨t2, st.trans a1, b1⟩
theorem vx_calld {S SX : Type} {post : UInt64 → S → Prop} {px : SX → Prop} {B : S → State → Prop} {BX : String → SX → State → Prop} {AX : Nat → Prop} (hr : vx_Run p l e R s m args below meth c H locs cells slots mc ms (F0 m pc ls st0) rest (va_Qd post B A1 a) (vx_X px BX AX) free) (hS : va_S A0 H0 H locs) (hA : ∀ q, q < H.size → A1 q → A0 q) (hf : ∀ q, free q → A0 q) (hAX : ∀ q, q < H.size → AX q → A0 q)
    (kx : ∀ (E : String) (ce : Cell) (q9 : Addr) (u : SX) (t : State) (H1 : Heap) (locs1 : List Loc), t.heap = H1 → s.vm.Alike t.vm → px u → BX E u t → H.size ≤ H1.size → (∀ q : Nat, q < H.size → ¬ AX q → H1[q]? = H[q]?) → va_S A0 H0 H1 locs1 → H1[q9]? = some ce → ce.vm = .none → s.vm.findClass E = some ce.cls → vx_W p l e R s m args below meth c H1 locs1 (cells + mc) (slots + ms) Q (F0 m pc ls rest) q9)
    (kk : ∀ (r : UInt64) (u : S) (t : State) (H1 : Heap) (locs1 : List Loc), t.heap = H1 → s.vm.Alike t.vm → post r u → B u t → H.size ≤ H1.size → (∀ q : Nat, q < H.size → ¬ A1 q → H1[q]? = H[q]?) → va_S A0 H0 H1 locs1 → W p l e R s m args below meth c H1 locs1 (cells + mc) (slots + ms) Q (F0 m (pc + 3) ls (.double r :: rest))) : W p l e R s m args below meth c H locs cells slots Q (F0 m pc ls st0) := by
  intro T hT X
  rcases hr T hT X with ⟨v, st₀, t, T', L, h0, X', hL, e1, e2, ⟨⟨r, u, hv, hp, hb⟩, hF⟩, st⟩ | ⟨q, st₀, t, T', L, E, ce, h0, X', hL, e1, e2, ⟨u, hp, hb, hF⟩, hce, hcv, hcl, st⟩
  · cases hv
    obtain ⟨k1, k2, k3⟩ := vx_keep h0 e1 hS hA hf hL hF
    obtain ⟨t2, a1, b1⟩ := kk r u t T'.heap (locs ++ L) e1.symm (by rw [← e2]; exact X'.warmed.alike) hp hb k1 k2 k3 T' rfl X'
    exact ⟨t2, st t2 a1, b1⟩
  · obtain ⟨k1, k2, k3⟩ := vx_keep h0 e1 hS hAX hf hL hF
    obtain ⟨t2, a1, b1⟩ := kx E ce q u t T'.heap (locs ++ L) e1.symm (by rw [← e2]; exact X'.warmed.alike) hp hb k1 k2 k3 (by rw [e1]; exact hce) hcv hcl T' rfl X'
    exact ⟨t2, st.trans a1, b1⟩
theorem vx_callv {S SX : Type} {post : S → Prop} {px : SX → Prop} {B : S → State → Prop} {BX : String → SX → State → Prop} {AX : Nat → Prop} (hr : vx_Run p l e R s m args below meth c H locs cells slots mc ms (F0 m pc ls st0) rest (va_Qv post B A1 a) (vx_X px BX AX) free) (hS : va_S A0 H0 H locs) (hA : ∀ q, q < H.size → A1 q → A0 q) (hf : ∀ q, free q → A0 q) (hAX : ∀ q, q < H.size → AX q → A0 q)
    (kx : ∀ (E : String) (ce : Cell) (q9 : Addr) (u : SX) (t : State) (H1 : Heap) (locs1 : List Loc), t.heap = H1 → s.vm.Alike t.vm → px u → BX E u t → H.size ≤ H1.size → (∀ q : Nat, q < H.size → ¬ AX q → H1[q]? = H[q]?) → va_S A0 H0 H1 locs1 → H1[q9]? = some ce → ce.vm = .none → s.vm.findClass E = some ce.cls → vx_W p l e R s m args below meth c H1 locs1 (cells + mc) (slots + ms) Q (F0 m pc ls rest) q9)
    (kk : ∀ (u : S) (t : State) (H1 : Heap) (locs1 : List Loc), t.heap = H1 → s.vm.Alike t.vm → post u → B u t → H.size ≤ H1.size → (∀ q : Nat, q < H.size → ¬ A1 q → H1[q]? = H[q]?) → va_S A0 H0 H1 locs1 → W p l e R s m args below meth c H1 locs1 (cells + mc) (slots + ms) Q (F0 m (pc + 3) ls (rest))) : W p l e R s m args below meth c H locs cells slots Q (F0 m pc ls st0) := by
  intro T hT X
  rcases hr T hT X with ⟨v, st₀, t, T', L, h0, X', hL, e1, e2, ⟨⟨u, hv, hp, hb⟩, hF⟩, st⟩ | ⟨q, st₀, t, T', L, E, ce, h0, X', hL, e1, e2, ⟨u, hp, hb, hF⟩, hce, hcv, hcl, st⟩
  · cases hv
    obtain ⟨k1, k2, k3⟩ := vx_keep h0 e1 hS hA hf hL hF
    obtain ⟨t2, a1, b1⟩ := kk u t T'.heap (locs ++ L) e1.symm (by rw [← e2]; exact X'.warmed.alike) hp hb k1 k2 k3 T' rfl X'
    exact ⟨t2, st t2 a1, b1⟩
  · obtain ⟨k1, k2, k3⟩ := vx_keep h0 e1 hS hAX hf hL hF
    obtain ⟨t2, a1, b1⟩ := kx E ce q u t T'.heap (locs ++ L) e1.symm (by rw [← e2]; exact X'.warmed.alike) hp hb k1 k2 k3 (by rw [e1]; exact hce) hcv hcl T' rfl X'
    exact ⟨t2, st.trans a1, b1⟩
/-- caught by the row x of this method's table; the rows ahead don't take it -/
theorem vx_catch {own name : String} {E : String} {ce : Cell} {q : Addr} (hown : s.vm.findClass own = some m.cls) (pre : List ExceptionTableEntry) (x : ExceptionTableEntry) (suf : List ExceptionTableEntry) (hsplit : c.exceptionTable.toList = pre ++ x :: suf)
    (hpass : ∀ z ∈ pre, covers z pc = false ∨ (z.catchType ≠ 0 ∧ ∃ nm : String, (Cond.classLink own z.catchType nm).before args s = true ∧ va_Nc E nm s)) (hx : covers x pc = true) (h0 : x.catchType ≠ 0)
    (hlink : (Cond.classLink own x.catchType name).before args s = true) (hcast : (Cond.castable E name).before args s = true) (hcell : H[q]? = some ce) (hv : ce.vm = .none) (hcl : s.vm.findClass E = some ce.cls)
    (kk : W p l e R s m args below meth c H locs cells slots Q (F0 m x.handlerPc ls [.ref q])) : vx_W p l e R s m args below meth c H locs cells slots Q (F0 m pc ls rest) q := by
  intro T hT X
  have hpl : e.platform.magicAccessors = ({} : Platform).magicAccessors := by rw [X.admits.platform]
  obtain ⟨c3, c4, hc3, hc4, hasg⟩ := Cond.castable_spec hcast
  cases Option.some.inj (hc3.symm.trans hcl)
  obtain ⟨c5, hc5, hcl5⟩ := Cond.classLink_spec hown hlink e.platform hpl
  cases Option.some.inj (hc4.symm.trans hc5)
  obtain ⟨vm', X', st⟩ := X.thenCaughtThrough q (g := F0 m pc ls rest) rfl (Steps.refl _) (by rw [hT]; exact hcell) (by rw [hv]; rfl) (by obtain ⟨k9, h9, -⟩ := Vm.findClass_spec hcl; exact ⟨k9, h9⟩) pre x suf hsplit
    (fun z hz => by
      rcases hpass z hz with h | ⟨hz0, nm, hl1, hn1⟩
      · exact Or.inl h
      · obtain ⟨c6, hc6, hcl6⟩ := Cond.classLink_spec hown hl1 e.platform hpl
        obtain ⟨a8, b8, h1, h2, h3⟩ := hn1
        cases Option.some.inj (h1.symm.trans hcl)
        cases Option.some.inj (h2.symm.trans hc6)
        exact Or.inr ⟨hz0, _, hcl6, h3⟩) hx (Or.inr ⟨h0, c4, hcl5, hasg⟩)
  obtain ⟨t, a1, b1⟩ := kk (T.setVm vm') hT X'
  exact ⟨t, st.trans a1, b1⟩
end Rows
section Ends
variable {p : Program} {l : Launch} {e : Env} {R : Room} {s : State} {m : MethodId} {args : Array Value} {below : List Frame} {meth : Method} {c : Code} {H : Heap} {locs : List Loc} {cells slots : Nat} {Q : State → Prop}
variable {mc ms : Nat} {free : Addr → Prop} {A0 A1 : Nat → Prop} {H0 : Heap} {a : Array Value} {ls : Array Slot} {st0 rest : List Value}
variable {Qc : Array Value → State → Outcome → State → Prop} {XC : String → State → State → Prop}
/-- what a body that may throw owes at its end -/
def vx_MQ (below : List Frame) (Qc : Array Value → State → Outcome → State → Prop) (XC : String → State → State → Prop) (a : Array Value) (s : State) (mc ms : Nat) (free : Addr → Prop) : State → Prop := fun t =>
  ∃ o, t.status = .running ∧ Ended t below o ∧ vx_Q Qc XC mc ms free a s o t
theorem vx_ret {g : JFrame} {mc ms : Nat} (k : W p l e R s m args below meth c H locs cells slots (MQ below Qc args s mc ms free) g) : W p l e R s m args below meth c H locs cells slots (vx_MQ below Qc XC args s mc ms free) g := by
  intro T hT X
  obtain ⟨t, a1, o, b1, b2, b3, b4⟩ := k T hT X
  exact ⟨t, a1, o, b1, b2, Or.inl ⟨b3, b4⟩⟩
/-- not caught here: it goes on to the caller -/
theorem vx_widen {g : JFrame} {q : Addr} {k n : Nat} (h1 : cells ≤ k) (h2 : slots ≤ n) (kk : vx_W p l e R s m args below meth c H locs k n Q g q) : vx_W p l e R s m args below meth c H locs cells slots Q g q := fun T hT X => kk T hT (stand_widen X h1 h2)
theorem vx_out {pc : Nat} {E : String} {ce : Cell} {q : Addr} {mc ms : Nat} (hout : ∀ x ∈ c.exceptionTable.toList, covers x pc = false) (hlocks : meth.locks = false) (hcell : H[q]? = some ce) (hv : ce.vm = .none) (hcl : s.vm.findClass E = some ce.cls)
    (hx : ∀ t : State, t.heap = H → s.vm.Alike t.vm → XC E s t) (hf : ∀ z ∈ locs, free z.base) (hc : cells ≤ mc) (hs : slots ≤ ms) :
    vx_W p l e R s m args below meth c H locs cells slots (vx_MQ below Qc XC args s mc ms free) (F0 m pc ls rest) q := by
  intro T hT X
  obtain ⟨st1, hrun, hend, hW, hsm⟩ := X.leaveThrown q (g := F0 m pc ls rest) rfl rfl rfl hout hlocks
  have hcell9 : (T.setFrames (.throwing q :: below)).heap[q]? = some ce := by
    show T.heap[q]? = some ce
    rw [hT]; exact hcell
  exact ⟨_, st1, .threw q, hrun, hend, Or.inr ⟨q, rfl, E, ce, locs, hx _ hT hW.alike, hcell9, hv, hcl, hW, hsm.mono hc hs, hf⟩⟩
theorem vx_frame {U : State} {k n : Nat} (h : s.sameButNew ({ U with vm := s.vm } : State) locs k n) : s.heap.size ≤ U.heap.size ∧ ∀ q : Nat, q < s.heap.size → (∀ z ∈ locs, z.base ≠ q) → U.heap[q]? = s.heap[q]? := by
  obtain ⟨-, h2, -, -, -, h6⟩ := h
  refine ⟨h2, fun q hq hz => ?_⟩
  obtain ⟨c9, e1, e2, e3, e4⟩ := h6 q _ (Array.getElem?_eq_getElem hq)
  have hs : c9.slots = (s.heap[q]).slots := Array.ext_getElem? fun i => e4 i fun hm => hz _ hm rfl
  have h9 : c9 = s.heap[q] := by
    rw [hs] at e2
    exact e2
  have e5 : U.heap[q]? = some c9 := e1
  rw [e5, h9, Array.getElem?_eq_getElem hq]
/-- the words of a throw but the four that speak of the heap -/
def vx_no (w : Cond) : Bool := decide (w ≠ .isRef (.static Bundle.tN "UNASSIGNED_STACK" Bundle.steD)) && decide (w ≠ .isRef (.static Bundle.tN "SUPPRESSED_SENTINEL" Bundle.listD)) && decide (w ≠ .laysStatic Bundle.tN "UNASSIGNED_STACK" Bundle.steD) && decide (w ≠ .laysStatic Bundle.tN "SUPPRESSED_SENTINEL" Bundle.listD)
def vx_at0 (own : String) (ic : Nat) (X : String) (names : List String) : List Cond := (Bundle.ownAtoms0 own ic X names).filter vx_no
def vx_atS (own : String) (ic : Nat) (X : String) (names : List String) : List Cond := (Bundle.ownAtoms own ic X names).filter vx_no
/-- a word that the tables alone decide, or a good one -/
def vx_ot (w : Cond) : Bool := w.onTables || goodWord w
theorem vx_ot_at {args a' : Array Value} {s U : State} {w : Cond} (hW : s.WarmedH U.vm) (hvm : s.vm = U.vm) (hg : vx_ot w = true) (h : w.before args s = true) : w.before a' U = true := by
  simp only [vx_ot, Bool.or_eq_true] at hg
  rcases hg with hg | hg
  · exact va_tabs hg hvm h
  · exact word_at hW (good_of_word hg) h
/-- a list's words: the good ones out of the method's own list, the others by premises of their own -/
theorem vx_hat {args : Array Value} {s : State} {L B : List Cond} (h1 : ∀ w ∈ L.filter goodWord, w.before args s = true) (h2 : ∀ w ∈ L.filter (fun w => !goodWord w), w ∈ B) (h3 : ∀ w ∈ B, w.before args s = true) : ∀ w ∈ L, w.before args s = true := by
  intro w hw
  by_cases g : goodWord w = true
  · exact h1 w (List.mem_filter.mpr ⟨hw, g⟩)
  · refine h3 w (h2 w (List.mem_filter.mpr ⟨hw, ?_⟩))
    show (!goodWord w) = true
    cases hgw : goodWord w
    · rfl
    · exact absurd hgw g
theorem vx_c {args : Array Value} {s : State} {w : Cond} {B : List Cond} (h : w.before args s = true) (t : ∀ w ∈ B, w.before args s = true) : ∀ w' ∈ w :: B, w'.before args s = true := fun w' h' => (List.mem_cons.mp h').elim (fun e => by rw [e]; exact h) (t w')
theorem vx_n {args : Array Value} {s : State} : ∀ w ∈ ([] : List Cond), w.before args s = true := fun _ h => nomatch h
theorem vx_own {args : Array Value} {s : State} {L : List Cond} (h1 : ∀ w ∈ L.filter vx_no, w.before args s = true)
    (hU : (Cond.isRef (.static Bundle.tN "UNASSIGNED_STACK" Bundle.steD)).before args s = true) (hN : (Cond.isRef (.static Bundle.tN "SUPPRESSED_SENTINEL" Bundle.listD)).before args s = true)
    (lU : (Cond.laysStatic Bundle.tN "UNASSIGNED_STACK" Bundle.steD).before args s = true) (lN : (Cond.laysStatic Bundle.tN "SUPPRESSED_SENTINEL" Bundle.listD).before args s = true) : ∀ w ∈ L, w.before args s = true := by
  intro w hw
  by_cases e1 : w = .isRef (.static Bundle.tN "UNASSIGNED_STACK" Bundle.steD)
  · rw [e1]; exact hU
  · by_cases e2 : w = .isRef (.static Bundle.tN "SUPPRESSED_SENTINEL" Bundle.listD)
    · rw [e2]; exact hN
    · by_cases e3 : w = .laysStatic Bundle.tN "UNASSIGNED_STACK" Bundle.steD
      · rw [e3]; exact lU
      · by_cases e4 : w = .laysStatic Bundle.tN "SUPPRESSED_SENTINEL" Bundle.listD
        · rw [e4]; exact lN
        · exact h1 w (List.mem_filter.mpr ⟨hw, by unfold vx_no; rw [decide_eq_true e1, decide_eq_true e2, decide_eq_true e3, decide_eq_true e4]; rfl⟩)
/-- where a static field lies, its class's statics cell in H -/
def vx_L (C n d : String) (A : Nat → Prop) (U : State) (H : Heap) : Prop := ∃ (c : ClassId) (k : Class) (i : Nat) (f : Field) (a : Nat) (cell : Cell), U.vm.findClass C = some c ∧ U.fieldFound? C n d = some (c, k, i, f) ∧ f.isStatic = true ∧ k.statics = some a ∧ H[a]? = some cell ∧ cell.vm.isStatics = true ∧ cell.cls = c ∧ f.slot < cell.slots.size ∧ k.staticTypes[f.slot]? = some f.type ∧ ¬ A a
theorem vx_L.moved {C n d : String} {A : Nat → Prop} {u U : State} {H : Heap} (hvm : u.vm.Alike U.vm) (h : vx_L C n d A u H) : vx_L C n d A U H := by
  obtain ⟨c, k, i, f, a, cell, h1, h2, h3, h4, h5, h6, h7, h8, h9, h10⟩ := h
  obtain ⟨k', hi', he⟩ := State.fieldFound?_setVm hvm h2
  exact ⟨c, k', i, f, a, cell, by rw [hvm.findClass]; exact h1, hi', h3, by rw [he]; exact h4, h5, h6, h7, h8, by rw [he]; exact h9, h10⟩
theorem vx_L.kept {C n d : String} {A : Nat → Prop} {U : State} {H H1 : Heap} (h : vx_L C n d A U H) (hq : ∀ a : Nat, a < H.size → ¬ A a → H1[a]? = H[a]?) : vx_L C n d A U H1 := by
  obtain ⟨c, k, i, f, a, cell, h1, h2, h3, h4, h5, h6, h7, h8, h9, h10⟩ := h
  exact ⟨c, k, i, f, a, cell, h1, h2, h3, h4, by rw [hq a (Array.getElem?_eq_some_iff.mp h5).1 h10]; exact h5, h6, h7, h8, h9, h10⟩
theorem vx_L.narrow {C n d : String} {A B : Nat → Prop} {U : State} {H : Heap} (h : vx_L C n d A U H) (hAB : ∀ q, B q → A q) : vx_L C n d B U H := by
  obtain ⟨c, k, i, f, a, cell, h1, h2, h3, h4, h5, h6, h7, h8, h9, h10⟩ := h
  exact ⟨c, k, i, f, a, cell, h1, h2, h3, h4, h5, h6, h7, h8, h9, fun z => h10 (hAB _ z)⟩
theorem vx_L.word {C n d : String} {A : Nat → Prop} {s : State} {args : Array Value} (h : vx_L C n d A s s.heap) : (Cond.laysStatic C n d).before args s = true := by
  obtain ⟨c, k, i, f, a, cell, h1, h2, h3, h4, h5, h6, h7, h8, h9, -⟩ := h
  show (Cond.laysStatic C n d).holds args s none s [] = true
  exact Cond.laysStatic_of h1 h2 h3 h4 h5 h6 h7 h8 h9
/-- .. and what it holds: null or some reference -/
def vx_Zq (C n d : String) (A : Nat → Prop) (U : State) (H : Heap) : Prop := va_Zq C n d A U H ∧ vx_L C n d A U H
theorem vx_Zq.moved {C n d : String} {A : Nat → Prop} {u U : State} {H : Heap} (hvm : u.vm.Alike U.vm) (h : vx_Zq C n d A u H) : vx_Zq C n d A U H := ⟨va_Zq.moved hvm h.1, vx_L.moved hvm h.2⟩
theorem vx_Zq.kept {C n d : String} {A : Nat → Prop} {U : State} {H H1 : Heap} (h : vx_Zq C n d A U H) (hq : ∀ a : Nat, a < H.size → ¬ A a → H1[a]? = H[a]?) : vx_Zq C n d A U H1 := ⟨va_Zq.kept h.1 hq, vx_L.kept h.2 hq⟩
theorem vx_Zq.narrow {C n d : String} {A B : Nat → Prop} {U : State} {H : Heap} (h : vx_Zq C n d A U H) (hAB : ∀ q, B q → A q) : vx_Zq C n d B U H := ⟨va_Zq.narrow h.1 hAB, vx_L.narrow h.2 hAB⟩
theorem vx_Zqof {args : Array Value} {s : State} {C n d : String} {A : Nat → Prop} (hl : (Cond.laysStatic C n d).before args s = true) (hini : (Cond.initialized C).before args s = true) (h : (Cond.isRef (.static C n d)).before args s = true) (hA : ∀ a : Nat, a < s.heap.size → ¬ A a) : vx_Zq C n d A s s.heap := by
  refine ⟨va_Zqof hl hini h hA, ?_⟩
  obtain ⟨c, k, i, f, a, cell, h1, h2, h3, h4, h5, h6, h7, h8, h9⟩ := Cond.laysStatic_spec hl
  exact ⟨c, k, i, f, a, cell, h1, h2, h3, h4, h5, h6, h7, h8, h9, hA a (Array.getElem?_eq_some_iff.mp h5).1⟩
theorem vx_isRef {C n d : String} {v : Value} {A : Nat → Prop} {s : State} {args : Array Value} (h : va_Z C n d v A s s.heap) (hv : v.isRef = true) : (Cond.isRef (.static C n d)).before args s = true := by
  obtain ⟨cf, kf, fi, f, a, cell, h1, h2, h3, h4, h5, h6, h7, -⟩ := h
  have he : (Term.static C n d).eval args s none [] s = some v := by
    simp [Term.eval, State.fieldNamed?, h1, h2, h4, h5, h6, h7]
  simp only [Cond.before, Cond.holds, Cond.value, he]
  cases v <;> simp_all [Value.isRef]
theorem vx_isRefq {C n d : String} {A : Nat → Prop} {s : State} {args : Array Value} (h : va_Zq C n d A s s.heap) : (Cond.isRef (.static C n d)).before args s = true := by
  rcases h with h | ⟨t, h⟩
  · exact vx_isRef h rfl
  · exact vx_isRef h rfl
/-- the same frame, seen from here: as if the method were called anew in this heap -/
theorem vx_rebase {T : State} (X : Stand p l e R s m args below meth c T locs cells slots) {R' : Room} (hf : R'.frames ≤ R.frames) (hl : R'.locals ≤ R.locals) (hc : cells + R'.cells ≤ R.cells) (hs : slots + R'.slots ≤ R.slots) :
    Stand p l e R' ((T.setVm s.vm).setFrames (.invoking m args :: below)) m args below meth c T [] 0 0 := by
  have htop : (T.setVm s.vm).topJava?.isSome := X.here.top
  have hF : ((T.setVm s.vm).setFrames (.invoking m args :: below)).frames = .invoking m args :: below := State.frames_setFrames _ (State.cur_lt_of_top htop)
  obtain ⟨g₀, hg0⟩ := Option.isSome_iff_exists.mp htop
  obtain ⟨r, hr⟩ := State.topJava?_eq_some.mp hg0
  have hl9 : e.platform.stackLimits (T.setVm s.vm).me = e.platform.stackLimits s.me := X.limits
  have hb9 : (T.setVm s.vm).me.stackBytes = s.me.stackBytes := X.bytes
  refine ⟨X.admits, X.cas, X.clock, hF, ?_, X.hears, X.method, X.code, X.here, X.tail, X.warmed, ?_, ?_, ?_⟩
  · have h := X.room
    have hU : ((T.setVm s.vm).setFrames (.invoking m args :: below)).localsInUse = s.localsInUse := by
      rw [State.localsInUse_invoking hF (meth := meth) (c := c) X.method X.code, State.localsInUse_invoking X.frames X.method X.code]
    simp only [State.hasRoom, Bool.and_eq_true, decide_eq_true_eq] at h ⊢
    obtain ⟨⟨⟨⟨h1, h2, h3, h4, h5, h6⟩, h7⟩, h8⟩, h9⟩ := h
    rw [X.frames, List.length_cons] at h2 h3
    have q1 := X.heapSize
    have q2 := X.used
    simp only [hF, hU, List.length_cons, State.stackLimits_setFrames, State.stackBytes_setFrames, hl9, hb9]
    refine ⟨⟨⟨⟨by omega, by omega, by omega, by omega, by omega, h6⟩, ?_⟩, ?_⟩, X.book⟩
    · show T.heap.size + R'.cells ≤ e.platform.maxCells
      omega
    · show T.slotsUsed + R'.slots ≤ e.platform.maxSlots
      omega
  · rw [State.stackLimits_setFrames]; rfl
  · rw [State.stackBytes_setFrames]; rfl
  · refine ⟨?_, Nat.le_refl _, Nat.le_refl _, ?_, ?_, fun a c9 h9 => ⟨c9, h9, rfl, rfl, fun _ _ => rfl⟩⟩
    · obtain ⟨t, ht, -⟩ := State.frames_cons hr
      show T.setVm s.vm = { ((T.setVm s.vm).setFrames (.invoking m args :: below)).setFrames (T.setVm s.vm).frames with heap := T.heap, slotsUsed := T.slotsUsed }
      rw [State.setFrames_setFrames, State.setFrames_self ht]
      rfl
    · show T.slotsUsed = T.slotsUsed + ((T.heap.toList.drop T.heap.size).map (·.slots.size)).sum
      rw [List.drop_eq_nil_of_le (Nat.le_of_eq Array.length_toList)]
      rfl
    · show ((T.heap.toList.drop T.heap.size).map (·.slots.size)).sum ≤ 0
      rw [List.drop_eq_nil_of_le (Nat.le_of_eq Array.length_toList)]
      exact Nat.le_refl _
/-- 'throw new E()': new; dup; invokespecial; athrow -/
theorem vx_throw0 {cc : ByteArray} {pc : Nat} (hexec : p.tables.exec = Jvm.exec) (hb : c.code = cc) (hl : l.stackTraces = false) {own cls : String} {names : List String} {ik ic mc ms : Nat} {A : Nat → Prop}
    (hown : s.vm.findClass own = some m.cls) (hcls : Bundle.fit cls = true) (hnames : ∀ n ∈ names, Bundle.fit n = true)
    (hk : (Cond.classLink own ik cls).before args s = true) (hini : (Cond.initialized cls).before args s = true) (hat : ∀ w ∈ vx_at0 own ic cls names, w.before args s = true)
    (hgood : ∀ w ∈ Cond.classLink own ik cls :: Cond.initialized cls :: vx_at0 own ic cls names, vx_ot w = true)
    (hU : vx_Zq Bundle.tN "UNASSIGNED_STACK" Bundle.steD A s s.heap) (hN : vx_Zq Bundle.tN "SUPPRESSED_SENTINEL" Bundle.listD A s s.heap) (hS : va_S A s.heap H locs) (hsize : ls.size = c.maxLocals)
    (d0 : decode cc pc = .ok (.new ik, 3)) (d3 : decode cc (pc + 3) = .ok (.dup, 1)) (d4 : decode cc (pc + 4) = .ok (.invokespecial ic, 3)) (d7 : decode cc (pc + 7) = .ok (.athrow, 1))
    (hout : ∀ x ∈ c.exceptionTable.toList, covers x (pc + 7) = false)
    (hRframes : names.length + 3 < R.frames) (hRlocals : (rest.map fun v => v.category).sum + (13 * (names.length + 1) + 42) ≤ R.locals) (hRcells : cells + 1 ≤ R.cells) (hRslots : slots + 6 ≤ R.slots) (hlocks : meth.locks = false)
    (hx : ∀ t : State, s.vm.Alike t.vm → H.size ≤ t.heap.size → (∀ q : Nat, q < H.size → t.heap[q]? = H[q]?) → XC cls s t)
    (hf : ∀ z ∈ locs, free z.base) (hc : cells + 1 ≤ mc) (hs : slots + 6 ≤ ms) :
    W p l e R s m args below meth c H locs cells slots (vx_MQ below Qc XC args s mc ms free) (F0 m pc ls rest) := by
  intro T hT X
  have htr : e.platform.stackTraces = false := (show e.platform.stackTraces = l.stackTraces by rw [X.admits.platform]).trans hl
  have Y := vx_rebase X (R' := { frames := R.frames, locals := R.locals, cells := 1, slots := 6 }) (Nat.le_refl _) (Nat.le_refl _) hRcells hRslots
  obtain ⟨s', hA⟩ : ∃ z, z = (T.setVm s.vm).setFrames (.invoking m args :: below) := ⟨_, rfl⟩
  rw [← hA] at Y
  have hvm : s'.vm = s.vm := by rw [hA]; rfl
  have hhp : s'.heap = H := by rw [hA]; exact hT
  have hW0 : s.WarmedH s'.vm := by rw [hvm]; exact State.WarmedH.refl s
  have hat' : ∀ w ∈ vx_at0 own ic cls names, w.before args s' = true := fun w hw => vx_ot_at hW0 hvm.symm (hgood w (List.mem_cons_of_mem _ (List.mem_cons_of_mem _ hw))) (hat w hw)
  have hk' : (Cond.classLink own ik cls).before args s' = true := vx_ot_at hW0 hvm.symm (hgood _ List.mem_cons_self) hk
  have hini' : (Cond.initialized cls).before args s' = true := vx_ot_at hW0 hvm.symm (hgood _ (List.mem_cons_of_mem _ List.mem_cons_self)) hini
  have hU' : vx_Zq Bundle.tN "UNASSIGNED_STACK" Bundle.steD A s' s'.heap := by rw [hhp]; exact vx_Zq.moved hW0.alike (hU.kept hS.2.1)
  have hN' : vx_Zq Bundle.tN "SUPPRESSED_SENTINEL" Bundle.listD A s' s'.heap := by rw [hhp]; exact vx_Zq.moved hW0.alike (hN.kept hS.2.1)
  have h : ∀ w ∈ Bundle.ownAtoms0 own ic cls names, w.before args s' = true := vx_own hat' (vx_isRefq hU'.1) (vx_isRefq hN'.1) hU'.2.word hN'.2.word
  have hown' : s'.vm.findClass own = some m.cls := by rw [hvm]; exact hown
  have hins : (Cond.instantiable cls 6).before args s' = true := h _ (by simp [Bundle.ownAtoms0])
  obtain ⟨vm₁, cX, kX, hfX, hkX, -, -, X₁, st1⟩ := Y.newCold hexec (own := own) (C := cls) (index := ik) (n := 6) hown' hk' hins hini'
    (g := F0 m pc ls rest) rfl (by rw [hb]; exact d0) (Nat.le_refl _) (Nat.le_refl _)
  generalize hT1 : (T.setVm vm₁).pushCell { cls := cX, slots := kX.instanceTypes.map defaultValue, vm := .none } = T1 at X₁ st1
  have hcat : (Value.ref T.heap.size).category = 1 := rfl
  have hcellA : T1.heap[T.heap.size]? = some (freshCell cX kX) := by rw [← hT1]; exact State.heap_pushCell_size _ _
  have d3' : decode c.code (pc + 3) = .ok (.dup, 1) := by rw [hb]; exact d3
  obtain ⟨U, hsteps, hrun, hend, hW, hsame, ce, hce, hO⟩ := X₁.ctorThrow0 hexec htr (own := own) (cls := cls) (names := names) (ic := ic) hown' hcls hnames h (fun x hx => nomatch hx) hfX hkX hcellA (by rw [hhp, hT]; exact Nat.le_refl _)
    (g := { method := m, pc := pc + 4, locals := ls, stack := .ref T.heap.size :: .ref T.heap.size :: rest, locked := none }) rfl hsize rfl rfl (rest := rest) rfl
    (by rw [hb]; exact d4) (by rw [hb]; exact d7) hout hRframes (by simp only [List.map_cons, List.sum_cons, hcat]; omega) hlocks
  obtain ⟨f1, f2⟩ := vx_frame hsame
  rw [hhp] at f1 f2
  have hWs : s.WarmedH U.vm := State.WarmedH.trans hW0 hW
  have hcl : s.vm.findClass cls = some ce.cls := by
    have h9 := hO.cls
    rw [hvm] at h9
    exact h9
  have hall : s.sameButNew ({ U with vm := s.vm } : State) locs mc ms := by
    subst hA
    obtain ⟨e1, e2⟩ := hsame
    rw [State.setFrames_setFrames] at e1
    have h2 : (T.setVm s.vm).sameButNew ({ U with vm := s.vm } : State) [] (0 + 1) (0 + 6) := ⟨e1, e2⟩
    have h3 := X.same.trans h2
    rw [List.append_nil] at h3
    exact h3.mono hc hs
  refine ⟨U, ?_, .threw T.heap.size, hrun, hend, Or.inr ⟨T.heap.size, rfl, cls, ce, locs, hx U hWs.alike f1 (fun q hq => f2 q hq (fun z hz => nomatch hz)), hce, hO.vm, hcl, hWs, hall, hf⟩⟩
  refine st1 _ ?_
  show Steps p.tables e below (T1.setTop { method := m, pc := pc + 3, locals := ls, stack := .ref T.heap.size :: rest, locked := none }) _
  jvm_step X₁.here [X₁.here.top, hexec, d3', Value.category]
  exact hsteps
/-- 'throw new E("text")': new; dup; ldc; invokespecial; athrow -/
theorem vx_throwS {cc : ByteArray} {pc : Nat} (hexec : p.tables.exec = Jvm.exec) (hb : c.code = cc) (hl : l.stackTraces = false) {own cls text : String} {names : List String} {ik is ic mc ms sa : Nat} {A : Nat → Prop}
    (hown : s.vm.findClass own = some m.cls) (hcls : Bundle.fit cls = true) (hnames : ∀ n ∈ names, Bundle.fit n = true)
    (hk : (Cond.classLink own ik cls).before args s = true) (hini : (Cond.initialized cls).before args s = true) (hstr : vk_R own is text sa s) (hat : ∀ w ∈ vx_atS own ic cls names, w.before args s = true)
    (hgood : ∀ w ∈ Cond.classLink own ik cls :: Cond.initialized cls :: vx_atS own ic cls names, vx_ot w = true)
    (hU : vx_Zq Bundle.tN "UNASSIGNED_STACK" Bundle.steD A s s.heap) (hN : vx_Zq Bundle.tN "SUPPRESSED_SENTINEL" Bundle.listD A s s.heap) (hS : va_S A s.heap H locs) (hsize : ls.size = c.maxLocals)
    (d0 : decode cc pc = .ok (.new ik, 3)) (d3 : decode cc (pc + 3) = .ok (.dup, 1)) (d4 : decode cc (pc + 4) = .ok (.ldc is, 2)) (d6 : decode cc (pc + 6) = .ok (.invokespecial ic, 3)) (d9 : decode cc (pc + 9) = .ok (.athrow, 1))
    (hout : ∀ x ∈ c.exceptionTable.toList, covers x (pc + 9) = false)
    (hRframes : names.length + 3 < R.frames) (hRlocals : (rest.map fun v => v.category).sum + (13 * (names.length + 1) + 43) ≤ R.locals) (hRcells : cells + 1 ≤ R.cells) (hRslots : slots + 6 ≤ R.slots) (hlocks : meth.locks = false)
    (hx : ∀ t : State, s.vm.Alike t.vm → H.size ≤ t.heap.size → (∀ q : Nat, q < H.size → t.heap[q]? = H[q]?) → XC cls s t)
    (hf : ∀ z ∈ locs, free z.base) (hc : cells + 1 ≤ mc) (hs : slots + 6 ≤ ms) :
    W p l e R s m args below meth c H locs cells slots (vx_MQ below Qc XC args s mc ms free) (F0 m pc ls rest) := by
  intro T hT X
  have htr : e.platform.stackTraces = false := (show e.platform.stackTraces = l.stackTraces by rw [X.admits.platform]).trans hl
  have Y := vx_rebase X (R' := { frames := R.frames, locals := R.locals, cells := 1, slots := 6 }) (Nat.le_refl _) (Nat.le_refl _) hRcells hRslots
  obtain ⟨s', hA⟩ : ∃ z, z = (T.setVm s.vm).setFrames (.invoking m args :: below) := ⟨_, rfl⟩
  rw [← hA] at Y
  have hvm : s'.vm = s.vm := by rw [hA]; rfl
  have hhp : s'.heap = H := by rw [hA]; exact hT
  have hW0 : s.WarmedH s'.vm := by rw [hvm]; exact State.WarmedH.refl s
  have hat' : ∀ w ∈ vx_atS own ic cls names, w.before args s' = true := fun w hw => vx_ot_at hW0 hvm.symm (hgood w (List.mem_cons_of_mem _ (List.mem_cons_of_mem _ hw))) (hat w hw)
  have hk' : (Cond.classLink own ik cls).before args s' = true := vx_ot_at hW0 hvm.symm (hgood _ List.mem_cons_self) hk
  have hini' : (Cond.initialized cls).before args s' = true := vx_ot_at hW0 hvm.symm (hgood _ (List.mem_cons_of_mem _ List.mem_cons_self)) hini
  have hU' : vx_Zq Bundle.tN "UNASSIGNED_STACK" Bundle.steD A s' s'.heap := by rw [hhp]; exact vx_Zq.moved hW0.alike (hU.kept hS.2.1)
  have hN' : vx_Zq Bundle.tN "SUPPRESSED_SENTINEL" Bundle.listD A s' s'.heap := by rw [hhp]; exact vx_Zq.moved hW0.alike (hN.kept hS.2.1)
  have h : ∀ w ∈ Bundle.ownAtoms own ic cls names, w.before args s' = true := vx_own hat' (vx_isRefq hU'.1) (vx_isRefq hN'.1) hU'.2.word hN'.2.word
  have hown' : s'.vm.findClass own = some m.cls := by rw [hvm]; exact hown
  have hins : (Cond.instantiable cls 6).before args s' = true := h _ (by simp [Bundle.ownAtoms])
  obtain ⟨vm₁, cX, kX, hfX, hkX, -, -, X₁, st1⟩ := Y.newCold hexec (own := own) (C := cls) (index := ik) (n := 6) hown' hk' hins hini'
    (g := F0 m pc ls rest) rfl (by rw [hb]; exact d0) (Nat.le_refl _) (Nat.le_refl _)
  generalize hT1 : (T.setVm vm₁).pushCell { cls := cX, slots := kX.instanceTypes.map defaultValue, vm := .none } = T1 at X₁ st1
  have hcat : (Value.ref T.heap.size).category = 1 := rfl
  have hcellA : T1.heap[T.heap.size]? = some (freshCell cX kX) := by rw [← hT1]; exact State.heap_pushCell_size _ _
  have d3' : decode c.code (pc + 3) = .ok (.dup, 1) := by rw [hb]; exact d3
  have d4' : decode c.code (pc + 4) = .ok (.ldc is, 2) := by rw [hb]; exact d4
  have hstr' : vk_R own is text sa s' := vk_R.warm hW0 hstr
  obtain ⟨U, hsteps, hrun, hend, hW, hsame, ce, hce, hO⟩ := X₁.ctorThrowS hexec htr (own := own) (cls := cls) (names := names) (ic := ic) hown' hcls hnames h (fun x hx => nomatch hx) hfX hkX hcellA (by rw [hhp, hT]; exact Nat.le_refl _) (msg := .ref sa) rfl
    (g := { method := m, pc := pc + 6, locals := ls, stack := .ref sa :: .ref T.heap.size :: .ref T.heap.size :: rest, locked := none }) rfl hsize rfl rfl (rest := rest) rfl
    (by rw [hb]; exact d6) (by rw [hb]; exact d9) hout hRframes (by simp only [List.map_cons, List.sum_cons, hcat]; omega) hlocks
  obtain ⟨f1, f2⟩ := vx_frame hsame
  rw [hhp] at f1 f2
  have hWs : s.WarmedH U.vm := State.WarmedH.trans hW0 hW
  have hcl : s.vm.findClass cls = some ce.cls := by
    have h9 := hO.cls
    rw [hvm] at h9
    exact h9
  have hall : s.sameButNew ({ U with vm := s.vm } : State) locs mc ms := by
    subst hA
    obtain ⟨e1, e2⟩ := hsame
    rw [State.setFrames_setFrames] at e1
    have h2 : (T.setVm s.vm).sameButNew ({ U with vm := s.vm } : State) [] (0 + 1) (0 + 6) := ⟨e1, e2⟩
    have h3 := X.same.trans h2
    rw [List.append_nil] at h3
    exact h3.mono hc hs
  refine ⟨U, ?_, .threw T.heap.size, hrun, hend, Or.inr ⟨T.heap.size, rfl, cls, ce, locs, hx U hWs.alike f1 (fun q hq => f2 q hq (fun z hz => nomatch hz)), hce, hO.vm, hcl, hWs, hall, hf⟩⟩
  refine st1 _ ?_
  show Steps p.tables e below (T1.setTop { method := m, pc := pc + 3, locals := ls, stack := .ref T.heap.size :: rest, locked := none }) _
  jvm_step X₁.here [X₁.here.top, hexec, d3', Value.category]
  exact X₁.ldcString hexec (own := own) (text := text) (index := is) (a := sa) hown' hstr'.1 hstr'.2
    (g := { method := m, pc := pc + 4, locals := ls, stack := .ref T.heap.size :: .ref T.heap.size :: rest, locked := none }) rfl d4' _ hsteps
/-- 'throw new E("text")', the text by a wide index -/
theorem vx_throwSW {cc : ByteArray} {pc : Nat} (hexec : p.tables.exec = Jvm.exec) (hb : c.code = cc) (hl : l.stackTraces = false) {own cls text : String} {names : List String} {ik is ic mc ms sa : Nat} {A : Nat → Prop}
    (hown : s.vm.findClass own = some m.cls) (hcls : Bundle.fit cls = true) (hnames : ∀ n ∈ names, Bundle.fit n = true)
    (hk : (Cond.classLink own ik cls).before args s = true) (hini : (Cond.initialized cls).before args s = true) (hstr : vk_R own is text sa s) (hat : ∀ w ∈ vx_atS own ic cls names, w.before args s = true)
    (hgood : ∀ w ∈ Cond.classLink own ik cls :: Cond.initialized cls :: vx_atS own ic cls names, vx_ot w = true)
    (hU : vx_Zq Bundle.tN "UNASSIGNED_STACK" Bundle.steD A s s.heap) (hN : vx_Zq Bundle.tN "SUPPRESSED_SENTINEL" Bundle.listD A s s.heap) (hS : va_S A s.heap H locs) (hsize : ls.size = c.maxLocals)
    (d0 : decode cc pc = .ok (.new ik, 3)) (d3 : decode cc (pc + 3) = .ok (.dup, 1)) (d4 : decode cc (pc + 4) = .ok (.ldc_w is, 3)) (d7 : decode cc (pc + 7) = .ok (.invokespecial ic, 3)) (d10 : decode cc (pc + 10) = .ok (.athrow, 1))
    (hout : ∀ x ∈ c.exceptionTable.toList, covers x (pc + 10) = false)
    (hRframes : names.length + 3 < R.frames) (hRlocals : (rest.map fun v => v.category).sum + (13 * (names.length + 1) + 43) ≤ R.locals) (hRcells : cells + 1 ≤ R.cells) (hRslots : slots + 6 ≤ R.slots) (hlocks : meth.locks = false)
    (hx : ∀ t : State, s.vm.Alike t.vm → H.size ≤ t.heap.size → (∀ q : Nat, q < H.size → t.heap[q]? = H[q]?) → XC cls s t)
    (hf : ∀ z ∈ locs, free z.base) (hc : cells + 1 ≤ mc) (hs : slots + 6 ≤ ms) :
    W p l e R s m args below meth c H locs cells slots (vx_MQ below Qc XC args s mc ms free) (F0 m pc ls rest) := by
  intro T hT X
  have htr : e.platform.stackTraces = false := (show e.platform.stackTraces = l.stackTraces by rw [X.admits.platform]).trans hl
  have Y := vx_rebase X (R' := { frames := R.frames, locals := R.locals, cells := 1, slots := 6 }) (Nat.le_refl _) (Nat.le_refl _) hRcells hRslots
  obtain ⟨s', hA⟩ : ∃ z, z = (T.setVm s.vm).setFrames (.invoking m args :: below) := ⟨_, rfl⟩
  rw [← hA] at Y
  have hvm : s'.vm = s.vm := by rw [hA]; rfl
  have hhp : s'.heap = H := by rw [hA]; exact hT
  have hW0 : s.WarmedH s'.vm := by rw [hvm]; exact State.WarmedH.refl s
  have hat' : ∀ w ∈ vx_atS own ic cls names, w.before args s' = true := fun w hw => vx_ot_at hW0 hvm.symm (hgood w (List.mem_cons_of_mem _ (List.mem_cons_of_mem _ hw))) (hat w hw)
  have hk' : (Cond.classLink own ik cls).before args s' = true := vx_ot_at hW0 hvm.symm (hgood _ List.mem_cons_self) hk
  have hini' : (Cond.initialized cls).before args s' = true := vx_ot_at hW0 hvm.symm (hgood _ (List.mem_cons_of_mem _ List.mem_cons_self)) hini
  have hU' : vx_Zq Bundle.tN "UNASSIGNED_STACK" Bundle.steD A s' s'.heap := by rw [hhp]; exact vx_Zq.moved hW0.alike (hU.kept hS.2.1)
  have hN' : vx_Zq Bundle.tN "SUPPRESSED_SENTINEL" Bundle.listD A s' s'.heap := by rw [hhp]; exact vx_Zq.moved hW0.alike (hN.kept hS.2.1)
  have h : ∀ w ∈ Bundle.ownAtoms own ic cls names, w.before args s' = true := vx_own hat' (vx_isRefq hU'.1) (vx_isRefq hN'.1) hU'.2.word hN'.2.word
  have hown' : s'.vm.findClass own = some m.cls := by rw [hvm]; exact hown
  have hins : (Cond.instantiable cls 6).before args s' = true := h _ (by simp [Bundle.ownAtoms])
  obtain ⟨vm₁, cX, kX, hfX, hkX, -, -, X₁, st1⟩ := Y.newCold hexec (own := own) (C := cls) (index := ik) (n := 6) hown' hk' hins hini'
    (g := F0 m pc ls rest) rfl (by rw [hb]; exact d0) (Nat.le_refl _) (Nat.le_refl _)
  generalize hT1 : (T.setVm vm₁).pushCell { cls := cX, slots := kX.instanceTypes.map defaultValue, vm := .none } = T1 at X₁ st1
  have hcat : (Value.ref T.heap.size).category = 1 := rfl
  have hcellA : T1.heap[T.heap.size]? = some (freshCell cX kX) := by rw [← hT1]; exact State.heap_pushCell_size _ _
  have d3' : decode c.code (pc + 3) = .ok (.dup, 1) := by rw [hb]; exact d3
  have d4' : decode c.code (pc + 4) = .ok (.ldc_w is, 3) := by rw [hb]; exact d4
  have hstr' : vk_R own is text sa s' := vk_R.warm hW0 hstr
  obtain ⟨U, hsteps, hrun, hend, hW, hsame, ce, hce, hO⟩ := X₁.ctorThrowS hexec htr (own := own) (cls := cls) (names := names) (ic := ic) hown' hcls hnames h (fun x hx => nomatch hx) hfX hkX hcellA (by rw [hhp, hT]; exact Nat.le_refl _) (msg := .ref sa) rfl
    (g := { method := m, pc := pc + 7, locals := ls, stack := .ref sa :: .ref T.heap.size :: .ref T.heap.size :: rest, locked := none }) rfl hsize rfl rfl (rest := rest) rfl
    (by rw [hb]; exact d7) (by rw [hb]; exact d10) hout hRframes (by simp only [List.map_cons, List.sum_cons, hcat]; omega) hlocks
  obtain ⟨f1, f2⟩ := vx_frame hsame
  rw [hhp] at f1 f2
  have hWs : s.WarmedH U.vm := State.WarmedH.trans hW0 hW
  have hcl : s.vm.findClass cls = some ce.cls := by
    have h9 := hO.cls
    rw [hvm] at h9
    exact h9
  have hall : s.sameButNew ({ U with vm := s.vm } : State) locs mc ms := by
    subst hA
    obtain ⟨e1, e2⟩ := hsame
    rw [State.setFrames_setFrames] at e1
    have h2 : (T.setVm s.vm).sameButNew ({ U with vm := s.vm } : State) [] (0 + 1) (0 + 6) := ⟨e1, e2⟩
    have h3 := X.same.trans h2
    rw [List.append_nil] at h3
    exact h3.mono hc hs
  refine ⟨U, ?_, .threw T.heap.size, hrun, hend, Or.inr ⟨T.heap.size, rfl, cls, ce, locs, hx U hWs.alike f1 (fun q hq => f2 q hq (fun z hz => nomatch hz)), hce, hO.vm, hcl, hWs, hall, hf⟩⟩
  refine st1 _ ?_
  show Steps p.tables e below (T1.setTop { method := m, pc := pc + 3, locals := ls, stack := .ref T.heap.size :: rest, locked := none }) _
  jvm_step X₁.here [X₁.here.top, hexec, d3', Value.category]
  exact X₁.ldcStringW hexec (own := own) (text := text) (index := is) (a := sa) hown' hstr'.1 hstr'.2
    (g := { method := m, pc := pc + 4, locals := ls, stack := .ref T.heap.size :: .ref T.heap.size :: rest, locked := none }) rfl d4' _ hsteps
end Ends
section Bodies
variable {l : Launch}
theorem vx_ofW {y : MethodName} {ws ws' : List Cond} {rm : Room} {Pc : Array Value → State → Prop} {Qc : Array Value → State → Outcome → State → Prop} {XC : String → State → State → Prop} {mc ms : Nat} {free : Addr → Prop} {cc : ByteArray} {maxL : Nat} {ret : Option FieldType}
    (hy : plainName y.cls = true) (hw : ws = Cond.code y cc maxL ret :: ws')
    (body : ∀ p e s m args below meth c s₁, BodyLoose p l y (headSpec ws rm) cc maxL ret e s m args below meth c s₁ → c.maxLocals = maxL → (∀ x ∈ c.exceptionTable.toList, False) → Pc args s →
      W p l e (headSpec ws rm).room s m args below meth c s.heap [] 0 0 (vx_MQ below Qc XC args s mc ms free) (entryFrame m args maxL)) : vx_Met l y ws rm Pc Qc XC mc ms free := by
  refine MetFree.of_bodyS (code := cc) (maxLocals := maxL) (ret := ret) hy ?_ ?_
  · intro args s m h hn
    obtain ⟨meth, c, h1, h2, h3, h4, h5, h6, -, -⟩ := Cond.code_spec hn (atoms_spec (ws := ws) h _ (by rw [hw]; exact List.mem_cons_self))
    exact ⟨meth, c, h1, h2, h3, h4, h5, h6⟩
  · intro p e s m args below meth c s₁ B hml hP _
    have hh0 : s₁.heap = s.heap := by rw [B.state]; rfl
    have ht : ∀ x ∈ c.exceptionTable.toList, False := by
      obtain ⟨meth9, c9, h1, h2, -, -, -, -, h7, -⟩ := Cond.code_spec B.named (atoms_spec (ws := ws) B.pre _ (by rw [hw]; exact List.mem_cons_self))
      cases Option.some.inj (h1.symm.trans B.method)
      cases Option.some.inj (h2.symm.trans (Stand.of_body B).code)
      intro x hx
      rw [Array.isEmpty_iff.mp h7] at hx
      cases hx
    obtain ⟨t, a1, o, b1, b2, b3⟩ := body p e s m args below meth c s₁ B hml ht hP s₁ hh0 (Stand.of_body B)
    exact ⟨t, o, a1, b1, b2, b3⟩
/-- the table of a body with handlers -/
theorem vx_table {p : Program} {x y : MethodName} {S : Spec} {cc bytes : ByteArray} {maxL maxL' : Nat} {ret ret' : Option FieldType} {e : Env} {s s₁ : State} {m : MethodId} {args : Array Value} {below : List Frame} {meth : Method} {c : Code} {hh : List (Nat × Nat × Nat × Nat)}
    (B : BodyLoose p l y S cc maxL ret e s m args below meth c s₁) (h : (Cond.codeWith y bytes maxL' ret' hh).before args s = true) : c.exceptionTable.toList = tableOf hh := by
  obtain ⟨m9, meth9, c9, hn9, h1, h2, -, -, h6, -⟩ := Cond.codeWith_spec h
  cases Option.some.inj (hn9.symm.trans B.named)
  cases Option.some.inj (h1.symm.trans B.method)
  cases Option.some.inj (h2.symm.trans (Stand.of_body B).code)
  rw [← h6, table_eq]
end Bodies
end VXA
/-! ===== END ===== -/
/-! ===== BEGIN a static call of a method with an exception table ===== -/
section VXS
variable {p : Program} {l : Launch} {e : Env} {R : Room} {s : State} {m : MethodId} {args : Array Value} {below : List Frame} {meth : Method} {c : Code} {T : State} {H : Heap} {locs : List Loc} {cells slots : Nat}
abbrev vx_CSW (R : Room) (s : State) (args : Array Value) (own : String) (index : Nat) (y : MethodName) (bytes : ByteArray) (maxL : Nat) (ret : Option FieldType) (hh : List (Nat × Nat × Nat × Nat)) (ws : List Cond) (rm : Room) (mc ms n : Nat) : Prop :=
  (rm.cells = mc ∧ rm.slots = ms ∧ rm.frames + 1 ≤ R.frames ∧ 8 + (maxL + 11) + rm.locals ≤ R.locals ∧ (∀ w ∈ ws, ∀ (a' : Array Value) (U : State), s.WarmedH U.vm → w.before a' U = true) ∧ Cond.codeWith y bytes maxL ret hh ∈ ws) ∧
  (Cond.codeWith y bytes maxL ret hh).before args s = true ∧ (Cond.initialized y.cls).before args s = true ∧ (y.cls ≠ "java/lang/invoke/MethodHandle" ∧ y.cls ≠ "java/lang/invoke/VarHandle") ∧
  (∀ sig, parseMethodDescriptor y.desc = some sig → n = sig.parameters.length) ∧ (Cond.methodLink own index y).before args s = true ∧ (Cond.static y).before args s = true
theorem vx_cwSW {own : String} {index maxL mc ms : Nat} {y : MethodName} {bytes : ByteArray} {ret : Option FieldType} {hh : List (Nat × Nat × Nat × Nat)} {Ts ws ws' : List Cond} {rm : Room} (n : Nat) (ht : ∀ w ∈ Ts, w.before args s = true) (hT : GoodIn Ts (va_wsS own index y ws)) (hw : ws = Cond.codeWith y bytes maxL ret hh :: ws') (hrc : rm.cells = mc) (hrs : rm.slots = ms)
    (hd : y.cls ≠ "java/lang/invoke/MethodHandle" ∧ y.cls ≠ "java/lang/invoke/VarHandle" ∧ (parseMethodDescriptor y.desc).map (fun d => d.parameters.length) = some n) (hR : rm.frames + 1 ≤ R.frames ∧ 8 + (maxL + 11) + rm.locals ≤ R.locals) :
    vx_CSW R s args own index y bytes maxL ret hh ws rm mc ms n := by
  have ok : ∀ w ∈ va_wsS own index y ws, w.before args s = true := fun w h => ht w (hT w h).1
  have hG : GoodIn Ts ws := fun w h => hT w (by unfold va_wsS; exact List.mem_append_right _ h)
  have hc : Cond.codeWith y bytes maxL ret hh ∈ ws := by rw [hw]; exact List.mem_cons_self
  refine ⟨⟨hrc, hrs, hR.1, hR.2, pay_in ht hG, hc⟩, ht _ (hG _ hc).1, ok _ (by simp [va_wsS]), ⟨hd.1, hd.2.1⟩, fun sig h => ?_, ok _ (by simp [va_wsS]), ok _ (by simp [va_wsS])⟩
  have h2 := hd.2.2
  rw [h] at h2
  exact (Option.some.inj h2).symm
theorem vx_callSW (X : Stand p l e R s m args below meth c T locs cells slots) (hexec : p.tables.exec = Jvm.exec) {own : String} {index : Nat} {y : MethodName} {bytes : ByteArray} {maxL : Nat} {ret : Option FieldType} {hh : List (Nat × Nat × Nat × Nat)}
    (hown : s.vm.findClass own = some m.cls) (hlink : (Cond.methodLink own index y).before args s = true) (hstat : (Cond.static y).before args s = true) (hinit : (Cond.initialized y.cls).before args s = true)
    (hcode : (Cond.codeWith y bytes maxL ret hh).before args s = true) (hy : y.cls ≠ "java/lang/invoke/MethodHandle" ∧ y.cls ≠ "java/lang/invoke/VarHandle")
    {W9 : Nat} {Pre : Pt → Array Value → Prop} {Post : Pt → Array Value → Option Value → Pt → Prop} (hK : Back l R p e below s args y 3 W9 Pre Post)
    {g : JFrame} (hg : g.method = m) (hsize : g.locals.size = c.maxLocals) {argsL rest : List Value} (hlen : ∀ sig, parseMethodDescriptor y.desc = some sig → argsL.length = sig.parameters.length)
    (hstack : g.stack = argsL.reverse ++ rest) (hW : 2 * g.monitorRoom + (rest.map fun v => v.category).sum ≤ W9) (hdg : decode c.code g.pc = .ok (.invokestatic index, 3))
    (hpre : ∀ vm₁, s.WarmedH vm₁ → Pre ⟨T.setVm vm₁, locs, cells, slots⟩ argsL.toArray) :
    ∃ (v : Option Value) (vm₁ : Vm) (B : Pt), s.WarmedH vm₁ ∧ Stand p l e R s m args below meth c B.U B.locs B.cells B.slots ∧ Post ⟨T.setVm vm₁, locs, cells, slots⟩ argsL.toArray v B ∧
      ∀ target, Steps p.tables e below (B.U.setTop { g with pc := g.pc + 3, stack := v.toList ++ rest }) target → Steps p.tables e below (T.setTop g) target := by
  obtain ⟨mk, methM, cM, hnamed, hmethM, -, -, -, -, -, -, hsigM⟩ := Cond.codeWith_spec hcode
  have hstatic : methM.isStatic = true := Cond.static_spec hnamed hmethM hstat
  obtain ⟨kP, hkP, -⟩ := className_of_methodNamed hnamed
  have hinitP : kP.init = .initialized := Cond.initialized_spec (findClass_of_methodNamed hnamed) hkP hinit
  obtain ⟨vm₁, X₁, hstep₁⟩ := X.invokestatic hexec hown hlink hnamed hmethM hstatic hkP hinitP hy (g := g) hg (argsL := argsL) (rest := rest) (hlen _ hsigM) hstack hdg
  obtain ⟨v, B, X', hpost, hsteps⟩ := hK m meth c ⟨T.setVm vm₁, locs, cells, slots⟩ { g with stack := rest } (.invokestatic index) mk argsL.toArray X₁ hg hsize hdg hW (X₁.named hnamed) (hpre vm₁ X₁.warmed)
  exact ⟨v, vm₁, B, X₁.warmed, X', hpost, fun target h => hstep₁ _ fun acts => by rw [doInvoke_state]; exact hsteps.trans h⟩
theorem vx_runSW {y : MethodName} {bytes cc : ByteArray} {maxL nL mc ms n index : Nat} {ret : Option FieldType} {hh : List (Nat × Nat × Nat × Nat)} {ws : List Cond} {rm : Room} {Pc : Array Value → State → Prop} {Qc : Array Value → State → Outcome → State → Prop} {free : Addr → Prop} {Ts : List Cond} {own : String} {As rest : List Value} {g : JFrame}
    (S : CallFix p m c cc nL s args Ts own) (hM : Met l y ws rm Pc Qc mc ms free) (cw : vx_CSW R s args own index y bytes maxL ret hh ws rm mc ms n) (hp : PreS s H Pc As)
    (hg : g.method = m) (hn : As.length = n) (hsize : g.locals.size = nL) (hstack : g.stack = As.reverse ++ rest) (hW : 2 * g.monitorRoom + (rest.map fun v => v.category).sum ≤ 8) (hdg : decode cc g.pc = .ok (.invokestatic index, 3)) (hf : cells + mc ≤ R.cells ∧ slots + ms ≤ R.slots) :
    va_Run p l e R s m args below meth c H locs cells slots mc ms g rest (Qc As.toArray) (free) := by
  obtain ⟨⟨hrc, hrs, hfr, hlo, hws, hcw⟩, hcode, hini, hy, hlen, hl, hstt⟩ := cw
  have hK : Back l R p e below s args y 3 8 (PreOf R mc ms Pc) (PostOf Qc mc ms free) := va_backW (hh := hh) (bytes := bytes) (maxL := maxL) (ret := ret) hM hp.1 hrc hrs hfr hlo hws hcw (fun a' U hW => word_at hW (Or.inl (by first | rfl | simp [Cond.onTables, Cond.keeps, Cond.steady])) hini)
  obtain ⟨hx, hb, hml, ho, -⟩ := S
  intro T hT X
  obtain ⟨v, vm₁, ⟨U', l2, c2, s2⟩, hW₁, X', ⟨g', mk, t, L, e1, e2, hq, h1, hL, h2, h3⟩, st⟩ := vx_callSW X hx (hh := hh) (bytes := bytes) (maxL := maxL) (ret := ret) ho hl hstt hini hcode hy hK hg (hsize.trans hml.symm) (argsL := As) (rest := rest) (fun sig h => hn.trans (hlen sig h)) hstack hW (by rw [hb]; exact hdg)
    (fun vm₁ hW₁ => ⟨hf.1, hf.2, hp.2 (T.setVm vm₁) hT hW₁⟩)
  dsimp only [Pt.U, Pt.locs, Pt.cells, Pt.slots] at X' e1 e2 h1 h2 h3 st
  subst h1; subst h2; subst h3
  exact ⟨v, (T.setVm vm₁).calling g' mk As.toArray, t, U', L, hT, X', hL, e1, e2, hq, st⟩
/-- not caught here, past rows that name other classes: it goes on to the caller -/
theorem vx_outP {p : Program} {l : Launch} {e : Env} {R : Room} {s : State} {m : MethodId} {args : Array Value} {below : List Frame} {meth : Method} {c : Code} {H : Heap} {locs : List Loc} {cells slots : Nat} {free : Addr → Prop} {ls : Array Slot} {rest : List Value} {Qc : Array Value → State → Outcome → State → Prop} {XC : String → State → State → Prop}
    {pc : Nat} {own E : String} {ce : Cell} {q : Addr} {mc ms : Nat} (hown : s.vm.findClass own = some m.cls) (hlocks : meth.locks = false)
    (hpass : ∀ z ∈ c.exceptionTable.toList, covers z pc = false ∨ (z.catchType ≠ 0 ∧ ∃ nm : String, (Cond.classLink own z.catchType nm).before args s = true ∧ va_Nc E nm s)) (hcell : H[q]? = some ce) (hv : ce.vm = .none) (hcl : s.vm.findClass E = some ce.cls)
    (hx : ∀ t : State, t.heap = H → s.vm.Alike t.vm → XC E s t) (hf : ∀ z ∈ locs, free z.base) (hc : cells ≤ mc) (hs : slots ≤ ms) :
    vx_W p l e R s m args below meth c H locs cells slots (vx_MQ below Qc XC args s mc ms free) (F0 m pc ls rest) q := by
  intro T hT X
  have hpl : e.platform.magicAccessors = ({} : Platform).magicAccessors := by rw [X.admits.platform]
  obtain ⟨vm', hW', X', st⟩ := X.outThrough hlocks q (g := F0 m pc ls rest) rfl rfl rfl (cell := ce) (by rw [hT]; exact hcell) (by rw [hv]; rfl)
    (by obtain ⟨k9, h9, -⟩ := Vm.findClass_spec hcl; exact ⟨k9, h9⟩) (fun z hz => by
      rcases hpass z hz with h | ⟨hz0, nm, hl1, hn1⟩
      · exact Or.inl h
      · obtain ⟨c6, hc6, hcl6⟩ := Cond.classLink_spec hown hl1 e.platform hpl
        obtain ⟨a8, b8, h1, h2, h3⟩ := hn1
        cases Option.some.inj (h1.symm.trans hcl)
        cases Option.some.inj (h2.symm.trans hc6)
        exact Or.inr ⟨hz0, _, hcl6, h3⟩)
  obtain ⟨g₀, hfr⟩ := X'.frames_eq
  have hcell9 : ((T.setVm vm').setFrames (.throwing q :: below)).heap[q]? = some ce := by
    show T.heap[q]? = some ce
    rw [hT]; exact hcell
  have hend : Ended ((T.setVm vm').setFrames (.throwing q :: below)) below (.threw q) := State.frames_setFrames _ (State.cur_lt_of_frames hfr)
  refine ⟨(T.setVm vm').setFrames (.throwing q :: below), ?_, .threw q, X'.here.running, hend, Or.inr ⟨q, rfl, E, ce, locs, hx _ hT (X'.ends _).1.alike, hcell9, hv, hcl, (X'.ends _).1, (X'.ends _).2.mono hc hs, hf⟩⟩
  rw [X.pushThrowing_eq]
  exact st
/-- a thing of a world lies in the heap -/
theorem vx_lt {D : va_G} {cl : List vw_C} {ws : va_W} {H1 : Heap} (h : va_P D cl ws H1) {k : Nat} {q : Nat × va_E} (hk : ws[k]? = some q) : q.1 < H1.size := (h k q hk).lt
end VXS
/-! ===== END ===== -/
/-! ===== BEGIN a constructor that throws (launches without stack traces) ===== -/
section VXIA
variable {p : Program} {l : Launch} {e : Env} {R : Room} {s : State} {m : MethodId} {args : Array Value} {below : List Frame} {meth : Method} {c : Code} {T : State} {locs : List Loc} {cells slots : Nat}
theorem vx_callI (X : Stand p l e R s m args below meth c T locs cells slots) (hexec : p.tables.exec = Jvm.exec) {own : String} {index : Nat} {y : MethodName} {bytes : ByteArray} {maxL : Nat}
    (hown : s.vm.findClass own = some m.cls) (hy1 : y.name = "<init>") (hlink : (Cond.methodLink own index y).before args s = true) (hinst : (Cond.instanceMethod y).before args s = true)
    (hcode : (Cond.code y bytes maxL none).before args s = true) (hy : y.cls ≠ "java/lang/invoke/MethodHandle" ∧ y.cls ≠ "java/lang/invoke/VarHandle")
    {W9 : Nat} {Pre : Pt → Array Value → Prop} {Post : Pt → Array Value → Option Value → Pt → Prop} {PostX : Pt → Array Value → Addr → Pt → Prop} (hK : vx_Back l R p e below s args y 3 W9 Pre Post PostX)
    {g : JFrame} (hg : g.method = m) (hsize : g.locals.size = c.maxLocals) {a : Addr} {argsL rest : List Value} (hlen : ∀ sig, parseMethodDescriptor y.desc = some sig → argsL.length = sig.parameters.length)
    (hstack : g.stack = argsL.reverse ++ .ref a :: rest) (hW : 2 * g.monitorRoom + (rest.map fun v => v.category).sum ≤ W9) (hdg : decode c.code g.pc = .ok (.invokespecial index, 3))
    (hpre : ∀ vm₁, s.WarmedH vm₁ → Pre ⟨T.setVm vm₁, locs, cells, slots⟩ (Value.ref a :: argsL).toArray) :
    (∃ (v : Option Value) (vm₁ : Vm) (B : Pt), s.WarmedH vm₁ ∧ Stand p l e R s m args below meth c B.U B.locs B.cells B.slots ∧ Post ⟨T.setVm vm₁, locs, cells, slots⟩ (Value.ref a :: argsL).toArray v B ∧
      ∀ target, Steps p.tables e below (B.U.setTop { g with pc := g.pc + 3, stack := v.toList ++ rest }) target → Steps p.tables e below (T.setTop g) target) ∨
    (∃ (q : Addr) (vm₁ : Vm) (B : Pt), s.WarmedH vm₁ ∧ Stand p l e R s m args below meth c B.U B.locs B.cells B.slots ∧ PostX ⟨T.setVm vm₁, locs, cells, slots⟩ (Value.ref a :: argsL).toArray q B ∧
      Steps p.tables e below (T.setTop g) ((B.U.setTop { g with stack := rest }).pushFrame (.throwing q))) := by
  subst hg
  have hpl : e.platform.magicAccessors = ({} : Platform).magicAccessors := by rw [X.admits.platform]
  obtain ⟨mk, methM, cM, kP, vm₁, hnamed, hmethM, hcodeM, -, hlocalsM, -, hkP, -, hW₁, hstep₁⟩ := Steps.initColdArgs (e := e) X.here hexec X.warmed hpl hown hy1 hy hlink hinst hcode (f := g) rfl hlen hstack hdg
  have X₁ := X.noted hW₁
  rcases hK g.method meth c ⟨T.setVm vm₁, locs, cells, slots⟩ { g with stack := rest } (.invokespecial index) mk (Value.ref a :: argsL).toArray X₁ rfl hsize hdg hW (X₁.named hnamed) (hpre vm₁ X₁.warmed) with ⟨v, B, X', hpost, hsteps⟩ | ⟨q, B, X', hpost, hsteps⟩
  · exact Or.inl ⟨v, vm₁, B, X₁.warmed, X', hpost, fun target h => hstep₁ _ fun acts => by rw [doInvoke_state]; exact hsteps.trans h⟩
  · exact Or.inr ⟨q, vm₁, B, X₁.warmed, X', hpost, hstep₁ _ fun acts => by rw [doInvoke_state]; exact hsteps⟩
end VXIA
section VXIB
variable {p : Program} {l : Launch} {e : Env} {R : Room} {s : State} {m : MethodId} {args : Array Value} {below : List Frame} {meth : Method} {c : Code} {H : Heap} {locs : List Loc} {cells slots : Nat}
variable {y : MethodName} {bytes cc : ByteArray} {maxL nL mc ms n index : Nat} {ret : Option FieldType} {ws : List Cond} {rm : Room} {Pc : Array Value → State → Prop} {Qc : Array Value → State → Outcome → State → Prop} {XC : String → State → State → Prop} {free : Addr → Prop} {Ts : List Cond} {own C : String} {b : Addr} {As rest : List Value} {g : JFrame}
theorem vx_runI (S : CallFix p m c cc nL s args Ts own) (hM : vx_Met l y ws rm Pc Qc XC mc ms free) (cw : CallB R s args own index y bytes maxL none ws rm mc ms n ∧ y.name = "<init>" ∧ (Cond.instanceMethod y).before args s = true) (hp : PreS s H Pc (.ref b :: As))
    (hg : g.method = m) (hn : As.length = n) (hsize : g.locals.size = nL) (hstack : g.stack = As.reverse ++ .ref b :: rest) (hW : 2 * g.monitorRoom + (rest.map fun v => v.category).sum ≤ 8) (hdg : decode cc g.pc = .ok (.invokespecial index, 3)) (hf : cells + mc ≤ R.cells ∧ slots + ms ≤ R.slots) :
    vx_Run p l e R s m args below meth c H locs cells slots mc ms g rest (Qc (Value.ref b :: As).toArray) XC free := by
  have hK : vx_Back l R p e below s args y 3 8 (PreOf R mc ms Pc) (PostOf Qc mc ms free) (vx_Post XC mc ms free) := vx_callBack cw.1 hM hp.1
  obtain ⟨⟨-, -, -, -, -, -, hcode, -, hy, hlen, hl⟩, hy1, hin⟩ := cw
  obtain ⟨hx, hb, hml, ho, -⟩ := S
  have hPc := hp.2
  intro T hT X
  rcases vx_callI X hx (bytes := bytes) (maxL := maxL) ho hy1 hl hin hcode hy hK hg (hsize.trans hml.symm) (a := b) (argsL := As) (rest := rest) (fun sig h => hn.trans (hlen sig h)) hstack hW (by rw [hb]; exact hdg)
    (fun vm₁ hW₁ => ⟨hf.1, hf.2, hPc (T.setVm vm₁) hT hW₁⟩) with ⟨v, vm₁, ⟨U', l2, c2, s2⟩, hW₁, X', ⟨g', mk, t, L, e1, e2, hq, h1, hL, h2, h3⟩, st⟩ | ⟨q, vm₁, ⟨U', l2, c2, s2⟩, hW₁, X', ⟨g', mk, t, L, E, ce, e1, e2, hq, hce, hcv, hcl, h1, hL, h2, h3⟩, st⟩
  · dsimp only [Pt.U, Pt.locs, Pt.cells, Pt.slots] at X' e1 e2 h1 h2 h3 st
    subst h1; subst h2; subst h3
    exact Or.inl ⟨v, (T.setVm vm₁).calling g' mk (Value.ref b :: As).toArray, t, U', L, hT, X', hL, e1, e2, hq, st⟩
  · dsimp only [Pt.U, Pt.locs, Pt.cells, Pt.slots] at X' e1 e2 h1 h2 h3 st hcl
    subst h1; subst h2; subst h3
    exact Or.inr ⟨q, (T.setVm vm₁).calling g' mk (Value.ref b :: As).toArray, t, U', L, E, ce, hT, X', hL, e1, e2, hq, hce, hcv, vx_cls hW₁ hcl, st⟩
end VXIB
/-! ===== END ===== -/
/-! ===== BEGIN a private constructor of a nest mate that throws ===== -/
section VXIC
variable {p : Program} {l : Launch} {e : Env} {R : Room} {s : State} {m : MethodId} {args : Array Value} {below : List Frame} {meth : Method} {c : Code} {T : State} {locs : List Loc} {cells slots : Nat}
theorem vx_callIN (X : Stand p l e R s m args below meth c T locs cells slots) (hexec : p.tables.exec = Jvm.exec) {own : String} {index : Nat} {host : String} {y : MethodName} {bytes : ByteArray} {maxL : Nat}
    (hown : s.vm.findClass own = some m.cls) (hy1 : y.name = "<init>") (hlink : (Cond.methodLinkNest own index y host).before args s = true) (hinst : (Cond.instanceMethod y).before args s = true)
    (hcode : (Cond.code y bytes maxL none).before args s = true) (hy : y.cls ≠ "java/lang/invoke/MethodHandle" ∧ y.cls ≠ "java/lang/invoke/VarHandle")
    {W9 : Nat} {Pre : Pt → Array Value → Prop} {Post : Pt → Array Value → Option Value → Pt → Prop} {PostX : Pt → Array Value → Addr → Pt → Prop} (hK : vx_Back l R p e below s args y 3 W9 Pre Post PostX)
    {g : JFrame} (hg : g.method = m) (hsize : g.locals.size = c.maxLocals) {a : Addr} {argsL rest : List Value} (hlen : ∀ sig, parseMethodDescriptor y.desc = some sig → argsL.length = sig.parameters.length)
    (hstack : g.stack = argsL.reverse ++ .ref a :: rest) (hW : 2 * g.monitorRoom + (rest.map fun v => v.category).sum ≤ W9) (hdg : decode c.code g.pc = .ok (.invokespecial index, 3))
    (hpre : ∀ vm₁, s.WarmedH vm₁ → Pre ⟨T.setVm vm₁, locs, cells, slots⟩ (Value.ref a :: argsL).toArray) :
    (∃ (v : Option Value) (vm₁ : Vm) (B : Pt), s.WarmedH vm₁ ∧ Stand p l e R s m args below meth c B.U B.locs B.cells B.slots ∧ Post ⟨T.setVm vm₁, locs, cells, slots⟩ (Value.ref a :: argsL).toArray v B ∧
      ∀ target, Steps p.tables e below (B.U.setTop { g with pc := g.pc + 3, stack := v.toList ++ rest }) target → Steps p.tables e below (T.setTop g) target) ∨
    (∃ (q : Addr) (vm₁ : Vm) (B : Pt), s.WarmedH vm₁ ∧ Stand p l e R s m args below meth c B.U B.locs B.cells B.slots ∧ PostX ⟨T.setVm vm₁, locs, cells, slots⟩ (Value.ref a :: argsL).toArray q B ∧
      Steps p.tables e below (T.setTop g) ((B.U.setTop { g with stack := rest }).pushFrame (.throwing q))) := by
  subst hg
  have hpl : e.platform.magicAccessors = ({} : Platform).magicAccessors := by rw [X.admits.platform]
  obtain ⟨mk, methM, cM, kP, vm₁, hnamed, hmethM, hcodeM, -, hlocalsM, -, hkP, -, hW₁, hstep₁⟩ := Steps.initColdArgsNest (e := e) X.here hexec X.warmed hpl hown hy1 hy hlink hinst hcode (f := g) rfl hlen hstack hdg
  have X₁ := X.noted hW₁
  rcases hK g.method meth c ⟨T.setVm vm₁, locs, cells, slots⟩ { g with stack := rest } (.invokespecial index) mk (Value.ref a :: argsL).toArray X₁ rfl hsize hdg hW (X₁.named hnamed) (hpre vm₁ X₁.warmed) with ⟨v, B, X', hpost, hsteps⟩ | ⟨q, B, X', hpost, hsteps⟩
  · exact Or.inl ⟨v, vm₁, B, X₁.warmed, X', hpost, fun target h => hstep₁ _ fun acts => by rw [doInvoke_state]; exact hsteps.trans h⟩
  · exact Or.inr ⟨q, vm₁, B, X₁.warmed, X', hpost, hstep₁ _ fun acts => by rw [doInvoke_state]; exact hsteps⟩
end VXIC
section VXID
variable {p : Program} {l : Launch} {e : Env} {R : Room} {s : State} {m : MethodId} {args : Array Value} {below : List Frame} {meth : Method} {c : Code} {H : Heap} {locs : List Loc} {cells slots : Nat}
theorem vx_runIN {y : MethodName} {bytes cc : ByteArray} {maxL nL mc ms n index : Nat} {ws : List Cond} {rm : Room} {Pc : Array Value → State → Prop} {Qc : Array Value → State → Outcome → State → Prop} {XC : String → State → State → Prop} {free : Addr → Prop} {Ts : List Cond} {own host : String} {b : Addr} {As rest : List Value} {g : JFrame}
    (S : CallFix p m c cc nL s args Ts own) (hM : vx_Met l y ws rm Pc Qc XC mc ms free) (cw : va_CN R s args own index y host bytes maxL none ws rm mc ms n ∧ y.name = "<init>" ∧ (Cond.instanceMethod y).before args s = true) (hp : PreS s H Pc (.ref b :: As))
    (hg : g.method = m) (hn : As.length = n) (hsize : g.locals.size = nL) (hstack : g.stack = As.reverse ++ .ref b :: rest) (hW : 2 * g.monitorRoom + (rest.map fun v => v.category).sum ≤ 8) (hdg : decode cc g.pc = .ok (.invokespecial index, 3)) (hf : cells + mc ≤ R.cells ∧ slots + ms ≤ R.slots) :
    vx_Run p l e R s m args below meth c H locs cells slots mc ms g rest (Qc (Value.ref b :: As).toArray) XC free := by
  obtain ⟨⟨⟨hrc, hrs, hfr, hlo, hws, hcw⟩, hcode, hini, hy, hlen, hl⟩, hx1, hx2⟩ := cw
  have hK : vx_Back l R p e below s args y 3 8 (PreOf R mc ms Pc) (PostOf Qc mc ms free) (vx_Post XC mc ms free) := vx_back (bytes := bytes) (maxL := maxL) (ret := none) hM hp.1 hrc hrs hfr hlo hws hcw (fun a' U hW => word_at hW (Or.inl (by first | rfl | simp [Cond.onTables, Cond.keeps, Cond.steady])) hini)
  obtain ⟨hx, hb, hml, ho, -⟩ := S
  have hPc := hp.2
  intro T hT X
  rcases vx_callIN X hx (bytes := bytes) (maxL := maxL) ho hx1 hl hx2 hcode hy hK hg (hsize.trans hml.symm) (a := b) (argsL := As) (rest := rest) (fun sig h => hn.trans (hlen sig h)) hstack hW (by rw [hb]; exact hdg)
    (fun vm₁ hW₁ => ⟨hf.1, hf.2, hPc (T.setVm vm₁) hT hW₁⟩) with ⟨v, vm₁, ⟨U', l2, c2, s2⟩, hW₁, X', ⟨g', mk, t, L, e1, e2, hq, h1, hL, h2, h3⟩, st⟩ | ⟨q, vm₁, ⟨U', l2, c2, s2⟩, hW₁, X', ⟨g', mk, t, L, E, ce, e1, e2, hq, hce, hcv, hcl, h1, hL, h2, h3⟩, st⟩
  · dsimp only [Pt.U, Pt.locs, Pt.cells, Pt.slots] at X' e1 e2 h1 h2 h3 st
    subst h1; subst h2; subst h3
    exact Or.inl ⟨v, (T.setVm vm₁).calling g' mk (Value.ref b :: As).toArray, t, U', L, hT, X', hL, e1, e2, hq, st⟩
  · dsimp only [Pt.U, Pt.locs, Pt.cells, Pt.slots] at X' e1 e2 h1 h2 h3 st hcl
    subst h1; subst h2; subst h3
    exact Or.inr ⟨q, (T.setVm vm₁).calling g' mk (Value.ref b :: As).toArray, t, U', L, E, ce, hT, X', hL, e1, e2, hq, hce, hcv, vx_cls hW₁ hcl, st⟩
end VXID
/-! ===== END ===== -/
/-! ===== BEGIN a private method of a nest mate that may throw (follows va_callVN, va_callSN, va_runVN, va_runSN) ===== -/
section
variable {p : Program} {l : Launch} {e : Env} {R : Room} {s : State} {m : MethodId} {args : Array Value} {below : List Frame} {meth : Method} {c : Code} {H : Heap} {locs : List Loc} {cells slots : Nat}
variable {T : State}
theorem vx_callVN (X : Stand p l e R s m args below meth c T locs cells slots) (hexec : p.tables.exec = Jvm.exec) {own C : String} {index : Nat} {host : String} {y : MethodName} {bytes : ByteArray} {maxL : Nat} {ret : Option FieldType}
    (hown : s.vm.findClass own = some m.cls) (hlink : (Cond.methodLinkNest own index y host).before args s = true) (hinst : (Cond.instanceMethod y).before args s = true) (hsel : (Cond.selects C y y).before args s = true)
    (hcode : (Cond.code y bytes maxL ret).before args s = true) (hy : y.cls ≠ "java/lang/invoke/MethodHandle" ∧ y.cls ≠ "java/lang/invoke/VarHandle")
    {W : Nat} {Pre : Pt → Array Value → Prop} {Post : Pt → Array Value → Option Value → Pt → Prop} {PostX : Pt → Array Value → Addr → Pt → Prop} (hK : vx_Back l R p e below s args y 3 W Pre Post PostX)
    {b : Addr} {cellB : Cell} (hcell : T.heap[b]? = some cellB) (hobj : cellB.vm.isStatics = false) (hcls : s.vm.findClass C = some cellB.cls)
    {g : JFrame} (hg : g.method = m) (hsize : g.locals.size = c.maxLocals) {argsL rest : List Value} (hlen : ∀ sig, parseMethodDescriptor y.desc = some sig → argsL.length = sig.parameters.length)
    (hstack : g.stack = argsL.reverse ++ .ref b :: rest) (hW : 2 * g.monitorRoom + (rest.map fun v => v.category).sum ≤ W) (hdg : decode c.code g.pc = .ok (.invokevirtual index, 3))
    (hpre : ∀ vm₁, s.WarmedH vm₁ → Pre ⟨T.setVm vm₁, locs, cells, slots⟩ (Value.ref b :: argsL).toArray) :
    (∃ (v : Option Value) (vm₁ : Vm) (B : Pt), s.WarmedH vm₁ ∧ Stand p l e R s m args below meth c B.U B.locs B.cells B.slots ∧ Post ⟨T.setVm vm₁, locs, cells, slots⟩ (Value.ref b :: argsL).toArray v B ∧
      ∀ target, Steps p.tables e below (B.U.setTop { g with pc := g.pc + 3, stack := v.toList ++ rest }) target → Steps p.tables e below (T.setTop g) target) ∨
    (∃ (q : Addr) (vm₁ : Vm) (B : Pt), s.WarmedH vm₁ ∧ Stand p l e R s m args below meth c B.U B.locs B.cells B.slots ∧ PostX ⟨T.setVm vm₁, locs, cells, slots⟩ (Value.ref b :: argsL).toArray q B ∧
      Steps p.tables e below (T.setTop g) ((B.U.setTop { g with stack := rest }).pushFrame (.throwing q))) := by
  obtain ⟨mk, methM, hnamed, hmethM, hstM, habM⟩ := Cond.instanceMethod_spec hinst
  obtain ⟨methM', cM, hmethM', -, -, -, -, -, -, hsigM⟩ := Cond.code_spec hnamed hcode
  cases hmethM.symm.trans hmethM'
  obtain ⟨c2, r2, m2, q1, q2, q3, q4, kP, hkP, hkPi⟩ := Cond.selects_spec hsel
  cases hcls.symm.trans q1
  cases (State.methodFound?_of_named hnamed hy).symm.trans q2
  cases hnamed.symm.trans q3
  have hselP : selectMethod e.platform s.vm cellB.cls mk = .method mk := by rw [Launch.admits_selectMethod X.admits]; exact q4
  obtain ⟨vm₁, X₁, hstep₁⟩ := X.invokevirtualNest hexec hown hlink hnamed hmethM hstM hkP hkPi hy (a := b) (cell := cellB) hcell
    (fun z h => by rw [h] at hobj; cases hobj) hselP hmethM habM hkP hkPi (g := g) hg (argsL := argsL) (rest := rest) (hlen _ hsigM) hstack hdg
  rcases hK m meth c ⟨T.setVm vm₁, locs, cells, slots⟩ { g with stack := rest } (.invokevirtual index) mk (Value.ref b :: argsL).toArray X₁ hg hsize hdg hW (X₁.named hnamed) (hpre vm₁ X₁.warmed) with ⟨v, B, X', hpost, hsteps⟩ | ⟨q, B, X', hpost, hsteps⟩
  · exact Or.inl ⟨v, vm₁, B, X₁.warmed, X', hpost, fun target h => hstep₁ _ fun acts => by rw [doInvoke_state]; exact hsteps.trans h⟩
  · exact Or.inr ⟨q, vm₁, B, X₁.warmed, X', hpost, hstep₁ _ fun acts => by rw [doInvoke_state]; exact hsteps⟩
theorem vx_callSN (X : Stand p l e R s m args below meth c T locs cells slots) (hexec : p.tables.exec = Jvm.exec) {own : String} {index : Nat} {host : String} {y : MethodName} {bytes : ByteArray} {maxL : Nat} {ret : Option FieldType}
    (hown : s.vm.findClass own = some m.cls) (hlink : (Cond.methodLinkNest own index y host).before args s = true) (hstat : (Cond.static y).before args s = true) (hinit : (Cond.initialized y.cls).before args s = true)
    (hcode : (Cond.code y bytes maxL ret).before args s = true) (hy : y.cls ≠ "java/lang/invoke/MethodHandle" ∧ y.cls ≠ "java/lang/invoke/VarHandle")
    {W : Nat} {Pre : Pt → Array Value → Prop} {Post : Pt → Array Value → Option Value → Pt → Prop} {PostX : Pt → Array Value → Addr → Pt → Prop} (hK : vx_Back l R p e below s args y 3 W Pre Post PostX)
    {g : JFrame} (hg : g.method = m) (hsize : g.locals.size = c.maxLocals) {argsL rest : List Value} (hlen : ∀ sig, parseMethodDescriptor y.desc = some sig → argsL.length = sig.parameters.length)
    (hstack : g.stack = argsL.reverse ++ rest) (hW : 2 * g.monitorRoom + (rest.map fun v => v.category).sum ≤ W) (hdg : decode c.code g.pc = .ok (.invokestatic index, 3))
    (hpre : ∀ vm₁, s.WarmedH vm₁ → Pre ⟨T.setVm vm₁, locs, cells, slots⟩ argsL.toArray) :
    (∃ (v : Option Value) (vm₁ : Vm) (B : Pt), s.WarmedH vm₁ ∧ Stand p l e R s m args below meth c B.U B.locs B.cells B.slots ∧ Post ⟨T.setVm vm₁, locs, cells, slots⟩ argsL.toArray v B ∧
      ∀ target, Steps p.tables e below (B.U.setTop { g with pc := g.pc + 3, stack := v.toList ++ rest }) target → Steps p.tables e below (T.setTop g) target) ∨
    (∃ (q : Addr) (vm₁ : Vm) (B : Pt), s.WarmedH vm₁ ∧ Stand p l e R s m args below meth c B.U B.locs B.cells B.slots ∧ PostX ⟨T.setVm vm₁, locs, cells, slots⟩ argsL.toArray q B ∧
      Steps p.tables e below (T.setTop g) ((B.U.setTop { g with stack := rest }).pushFrame (.throwing q))) := by
  obtain ⟨mk, hnamed⟩ := Cond.code_named hcode
  obtain ⟨methM, cM, hmethM, -, -, -, -, -, -, hsigM⟩ := Cond.code_spec hnamed hcode
  have hstatic : methM.isStatic = true := Cond.static_spec hnamed hmethM hstat
  obtain ⟨kP, hkP, -⟩ := className_of_methodNamed hnamed
  have hinitP : kP.init = .initialized := Cond.initialized_spec (findClass_of_methodNamed hnamed) hkP hinit
  obtain ⟨vm₁, X₁, hstep₁⟩ := X.invokestaticNest hexec hown hlink hnamed hmethM hstatic hkP hinitP hy (g := g) hg (argsL := argsL) (rest := rest) (hlen _ hsigM) hstack hdg
  rcases hK m meth c ⟨T.setVm vm₁, locs, cells, slots⟩ { g with stack := rest } (.invokestatic index) mk argsL.toArray X₁ hg hsize hdg hW (X₁.named hnamed) (hpre vm₁ X₁.warmed) with ⟨v, B, X', hpost, hsteps⟩ | ⟨q, B, X', hpost, hsteps⟩
  · exact Or.inl ⟨v, vm₁, B, X₁.warmed, X', hpost, fun target h => hstep₁ _ fun acts => by rw [doInvoke_state]; exact hsteps.trans h⟩
  · exact Or.inr ⟨q, vm₁, B, X₁.warmed, X', hpost, hstep₁ _ fun acts => by rw [doInvoke_state]; exact hsteps⟩
theorem vx_runVN {y : MethodName} {bytes cc : ByteArray} {maxL nL mc ms n index : Nat} {ret : Option FieldType} {ws : List Cond} {rm : Room} {Pc : Array Value → State → Prop} {Qc : Array Value → State → Outcome → State → Prop} {XC : String → State → State → Prop} {free : Addr → Prop} {Ts : List Cond} {own C host : String} {b : Addr} {As rest : List Value} {g : JFrame}
    (S : CallFix p m c cc nL s args Ts own) (hM : vx_Met l y ws rm Pc Qc XC mc ms free) (cw : va_CN R s args own index y host bytes maxL ret ws rm mc ms n ∧ (Cond.instanceMethod y).before args s = true ∧ (Cond.selects C y y).before args s = true) (hp : PreV s H C b Pc As)
    (hg : g.method = m) (hn : As.length = n) (hsize : g.locals.size = nL) (hstack : g.stack = As.reverse ++ .ref b :: rest) (hW : 2 * g.monitorRoom + (rest.map fun v => v.category).sum ≤ 8) (hdg : decode cc g.pc = .ok (.invokevirtual index, 3)) (hf : cells + mc ≤ R.cells ∧ slots + ms ≤ R.slots) :
    vx_Run p l e R s m args below meth c H locs cells slots mc ms g rest (Qc (Value.ref b :: As).toArray) XC free := by
  obtain ⟨⟨⟨hrc, hrs, hfr, hlo, hws, hcw⟩, hcode, hini, hy, hlen, hl⟩, hx1, hx2⟩ := cw
  have hK : vx_Back l R p e below s args y 3 8 (PreOf R mc ms Pc) (PostOf Qc mc ms free) (vx_Post XC mc ms free) := vx_back (bytes := bytes) (maxL := maxL) (ret := ret) hM hp.1 hrc hrs hfr hlo hws hcw (fun a' U hW => word_at hW (Or.inl (by first | rfl | simp [Cond.onTables, Cond.keeps, Cond.steady])) hini)
  obtain ⟨hx, hb, hml, ho, -⟩ := S
  obtain ⟨-, ⟨cellB, hcB, hoB, hclB⟩, hPc⟩ := hp
  intro T hT X
  rcases vx_callVN X hx (C := C) (bytes := bytes) (maxL := maxL) (ret := ret) ho hl hx1 hx2 hcode hy hK (by rw [hT]; exact hcB) hoB hclB hg (hsize.trans hml.symm) (argsL := As) (rest := rest) (fun sig h => hn.trans (hlen sig h)) hstack hW (by rw [hb]; exact hdg)
    (fun vm₁ hW₁ => ⟨hf.1, hf.2, hPc (T.setVm vm₁) hT hW₁⟩) with ⟨v, vm₁, ⟨U', l2, c2, s2⟩, hW₁, X', ⟨g', mk, t, L, e1, e2, hq, h1, hL, h2, h3⟩, st⟩ | ⟨q, vm₁, ⟨U', l2, c2, s2⟩, hW₁, X', ⟨g', mk, t, L, E, ce, e1, e2, hq, hce, hcv, hcl, h1, hL, h2, h3⟩, st⟩
  · dsimp only [Pt.U, Pt.locs, Pt.cells, Pt.slots] at X' e1 e2 h1 h2 h3 st
    subst h1; subst h2; subst h3
    exact Or.inl ⟨v, (T.setVm vm₁).calling g' mk (Value.ref b :: As).toArray, t, U', L, hT, X', hL, e1, e2, hq, st⟩
  · dsimp only [Pt.U, Pt.locs, Pt.cells, Pt.slots] at X' e1 e2 h1 h2 h3 st hcl
    subst h1; subst h2; subst h3
    exact Or.inr ⟨q, (T.setVm vm₁).calling g' mk (Value.ref b :: As).toArray, t, U', L, E, ce, hT, X', hL, e1, e2, hq, hce, hcv, vx_cls hW₁ hcl, st⟩
theorem vx_runSN {y : MethodName} {bytes cc : ByteArray} {maxL nL mc ms n index : Nat} {ret : Option FieldType} {ws : List Cond} {rm : Room} {Pc : Array Value → State → Prop} {Qc : Array Value → State → Outcome → State → Prop} {XC : String → State → State → Prop} {free : Addr → Prop} {Ts : List Cond} {own host : String} {As rest : List Value} {g : JFrame}
    (S : CallFix p m c cc nL s args Ts own) (hM : vx_Met l y ws rm Pc Qc XC mc ms free) (cw : va_CN R s args own index y host bytes maxL ret ws rm mc ms n ∧ (Cond.static y).before args s = true ∧ True) (hp : PreS s H Pc As)
    (hg : g.method = m) (hn : As.length = n) (hsize : g.locals.size = nL) (hstack : g.stack = As.reverse ++ rest) (hW : 2 * g.monitorRoom + (rest.map fun v => v.category).sum ≤ 8) (hdg : decode cc g.pc = .ok (.invokestatic index, 3)) (hf : cells + mc ≤ R.cells ∧ slots + ms ≤ R.slots) :
    vx_Run p l e R s m args below meth c H locs cells slots mc ms g rest (Qc As.toArray) XC free := by
  obtain ⟨⟨⟨hrc, hrs, hfr, hlo, hws, hcw⟩, hcode, hini, hy, hlen, hl⟩, hx1, hx2⟩ := cw
  have hK : vx_Back l R p e below s args y 3 8 (PreOf R mc ms Pc) (PostOf Qc mc ms free) (vx_Post XC mc ms free) := vx_back (bytes := bytes) (maxL := maxL) (ret := ret) hM hp.1 hrc hrs hfr hlo hws hcw (fun a' U hW => word_at hW (Or.inl (by first | rfl | simp [Cond.onTables, Cond.keeps, Cond.steady])) hini)
  obtain ⟨hx, hb, hml, ho, -⟩ := S
  have hPc := hp.2
  intro T hT X
  rcases vx_callSN X hx (bytes := bytes) (maxL := maxL) (ret := ret) ho hl hx1 hini hcode hy hK hg (hsize.trans hml.symm) (argsL := As) (rest := rest) (fun sig h => hn.trans (hlen sig h)) hstack hW (by rw [hb]; exact hdg)
    (fun vm₁ hW₁ => ⟨hf.1, hf.2, hPc (T.setVm vm₁) hT hW₁⟩) with ⟨v, vm₁, ⟨U', l2, c2, s2⟩, hW₁, X', ⟨g', mk, t, L, e1, e2, hq, h1, hL, h2, h3⟩, st⟩ | ⟨q, vm₁, ⟨U', l2, c2, s2⟩, hW₁, X', ⟨g', mk, t, L, E, ce, e1, e2, hq, hce, hcv, hcl, h1, hL, h2, h3⟩, st⟩
  · dsimp only [Pt.U, Pt.locs, Pt.cells, Pt.slots] at X' e1 e2 h1 h2 h3 st
    subst h1; subst h2; subst h3
    exact Or.inl ⟨v, (T.setVm vm₁).calling g' mk As.toArray, t, U', L, hT, X', hL, e1, e2, hq, st⟩
  · dsimp only [Pt.U, Pt.locs, Pt.cells, Pt.slots] at X' e1 e2 h1 h2 h3 st hcl
    subst h1; subst h2; subst h3
    exact Or.inr ⟨q, (T.setVm vm₁).calling g' mk As.toArray, t, U', L, E, ce, hT, X', hL, e1, e2, hq, hce, hcv, vx_cls hW₁ hcl, st⟩
end
/-! ===== END ===== -/
end
section
def RX0 : String := "Thumbreel$Book"
def TX0 : u_T := fun k => match k with
  | 0 => ("Thumbreel$Book", "positions", "[I", true)
  | 1 => ("Thumbreel$Book", "betweens", "[I", true)
  | 2 => ("Thumbreel$Book", "curves", "[I", true)
  | 3 => ("Thumbreel$Book", "row", "[I", true)
  | 4 => ("Thumbreel$Book", "drawings", "I", false)
  | _ => ("Thumbreel$Book", "length", "I", false)
def tyX0 : Nat → FieldType := fun k => match k with
  | 0 => .array .int
  | 1 => .array .int
  | 2 => .array .int
  | 3 => .array .int
  | 4 => .int
  | _ => .int
abbrev wsX00 : List Cond := u_ws RX0 TX0 6
theorem nmX0 : ∀ a, a < 6 → ∀ b, b < 6 → a ≠ b → (TX0 a).2.1 ≠ (TX0 b).2.1 := by decide +kernel
theorem tyX0_ok : ∀ k, k < 6 → parseFieldDescriptor (TX0 k).2.2.1 = some (tyX0 k) := by decide +kernel
abbrev cX0_init : ByteArray := prog_2_method_1_code
def yX0_init : MethodName := ⟨RX0, "<init>", "()V"⟩
abbrev cX0_insert : ByteArray := prog_2_method_2_code
def yX0_insert : MethodName := ⟨RX0, "insert", "(IIII)V"⟩
abbrev cX0_takeOut : ByteArray := prog_2_method_3_code
def yX0_takeOut : MethodName := ⟨RX0, "takeOut", "(I)V"⟩
abbrev cX0_putAt : ByteArray := prog_2_method_4_code
def yX0_putAt : MethodName := ⟨RX0, "putAt", "(II)V"⟩
abbrev cX0_positionOf : ByteArray := prog_2_method_5_code
def yX0_positionOf : MethodName := ⟨RX0, "positionOf", "(I)I"⟩
abbrev cX0_copyDrawing : ByteArray := prog_2_method_6_code
def yX0_copyDrawing : MethodName := ⟨RX0, "copyDrawing", "(II)V"⟩
abbrev cX0_layFrames : ByteArray := prog_2_method_7_code
def yX0_layFrames : MethodName := ⟨RX0, "layFrames", "()V"⟩
abbrev cX0_addBetweens : ByteArray := prog_2_method_8_code
def yX0_addBetweens : MethodName := ⟨RX0, "addBetweens", "(IIII)V"⟩
abbrev cX0_addFrame : ByteArray := prog_2_method_9_code
def yX0_addFrame : MethodName := ⟨RX0, "addFrame", "(I)V"⟩
abbrev cX0_shareOfWay : ByteArray := prog_2_method_10_code
def yX0_shareOfWay : MethodName := ⟨RX0, "shareOfWay", "(III)I"⟩
def RX1 : String := "Thumbreel$Copy"
def TX1 : u_T := fun k => match k with
  | 0 => ("Thumbreel$Copy", "leaves", "[LThumbreel$Leaf;", true)
  | 1 => ("Thumbreel$Copy", "isBound", "Z", false)
  | _ => ("Thumbreel$Copy", "boundLength", "I", false)
def tyX1 : Nat → FieldType := fun k => match k with
  | 0 => .array (.object "Thumbreel$Leaf")
  | 1 => .boolean
  | _ => .int
abbrev wsX10 : List Cond := u_ws RX1 TX1 3
theorem nmX1 : ∀ a, a < 3 → ∀ b, b < 3 → a ≠ b → (TX1 a).2.1 ≠ (TX1 b).2.1 := by decide +kernel
theorem tyX1_ok : ∀ k, k < 3 → parseFieldDescriptor (TX1 k).2.2.1 = some (tyX1 k) := by decide +kernel
abbrev cX1_init : ByteArray := prog_3_method_1_code
def yX1_init : MethodName := ⟨RX1, "<init>", "()V"⟩
abbrev cX1_leafOf : ByteArray := prog_3_method_2_code
def yX1_leafOf : MethodName := ⟨RX1, "leafOf", "(I)LThumbreel$Leaf;"⟩
abbrev cX1_take : ByteArray := prog_3_method_3_code
def yX1_take : MethodName := ⟨RX1, "take", "(LThumbreel$Leaf;)V"⟩
abbrev cX1_isLacking : ByteArray := prog_3_method_4_code
def yX1_isLacking : MethodName := ⟨RX1, "isLacking", "(I)Z"⟩
abbrev cX1_countLacking : ByteArray := prog_3_method_5_code
def yX1_countLacking : MethodName := ⟨RX1, "countLacking", "(I)I"⟩
abbrev cX1_isAllCut : ByteArray := prog_3_method_6_code
def yX1_isAllCut : MethodName := ⟨RX1, "isAllCut", "(I)Z"⟩
abbrev cX1_leastTrim : ByteArray := prog_3_method_7_code
def yX1_leastTrim : MethodName := ⟨RX1, "leastTrim", "(I)I"⟩
abbrev cX1_spoilAbove : ByteArray := prog_3_method_8_code
def yX1_spoilAbove : MethodName := ⟨RX1, "spoilAbove", "(I)I"⟩
abbrev cX1_spoilChanged : ByteArray := prog_3_method_9_code
def yX1_spoilChanged : MethodName := ⟨RX1, "spoilChanged", "(LThumbreel$Book;)I"⟩
abbrev cX1_spoil : ByteArray := prog_3_method_10_code
def yX1_spoil : MethodName := ⟨RX1, "spoil", "(LThumbreel$Leaf;)V"⟩
def RX2 : String := "Thumbreel$Folding"
def TX2 : u_T := fun k => match k with
  | _ => ("Thumbreel$Folding", "folds", "[I", true)
def tyX2 : Nat → FieldType := fun k => match k with
  | _ => .array .int
abbrev wsX20 : List Cond := u_ws RX2 TX2 1
theorem nmX2 : ∀ a, a < 1 → ∀ b, b < 1 → a ≠ b → (TX2 a).2.1 ≠ (TX2 b).2.1 := by decide +kernel
theorem tyX2_ok : ∀ k, k < 1 → parseFieldDescriptor (TX2 k).2.2.1 = some (tyX2 k) := by decide +kernel
abbrev cX2_init : ByteArray := prog_4_method_1_code
def yX2_init : MethodName := ⟨RX2, "<init>", "(III)V"⟩
abbrev cX2_unfold : ByteArray := prog_4_method_2_code
def yX2_unfold : MethodName := ⟨RX2, "unfold", "(I)I"⟩
abbrev cX2_unfoldLine : ByteArray := prog_4_method_3_code
def yX2_unfoldLine : MethodName := ⟨RX2, "unfoldLine", "(IIZZ)I"⟩
def RX3 : String := "Thumbreel$Leaf"
def TX3 : u_T := fun k => match k with
  | 0 => ("Thumbreel$Leaf", "order", "I", true)
  | 1 => ("Thumbreel$Leaf", "copy", "I", true)
  | 2 => ("Thumbreel$Leaf", "frame", "I", true)
  | 3 => ("Thumbreel$Leaf", "position", "I", true)
  | 4 => ("Thumbreel$Leaf", "sheet", "LThumbreel$Sheet;", true)
  | _ => ("Thumbreel$Leaf", "isSpoiled", "Z", false)
def tyX3 : Nat → FieldType := fun k => match k with
  | 0 => .int
  | 1 => .int
  | 2 => .int
  | 3 => .int
  | 4 => .object "Thumbreel$Sheet"
  | _ => .boolean
abbrev wsX30 : List Cond := u_ws RX3 TX3 6
theorem nmX3 : ∀ a, a < 6 → ∀ b, b < 6 → a ≠ b → (TX3 a).2.1 ≠ (TX3 b).2.1 := by decide +kernel
theorem tyX3_ok : ∀ k, k < 6 → parseFieldDescriptor (TX3 k).2.2.1 = some (tyX3 k) := by decide +kernel
abbrev cX3_init : ByteArray := prog_5_method_1_code
def yX3_init : MethodName := ⟨RX3, "<init>", "(IIIILThumbreel$Sheet;)V"⟩
abbrev cX3_code : ByteArray := prog_5_method_2_code
def yX3_code : MethodName := ⟨RX3, "code", "()I"⟩
abbrev cX3_belongsTo : ByteArray := prog_5_method_3_code
def yX3_belongsTo : MethodName := ⟨RX3, "belongsTo", "(III)Z"⟩
def RX4 : String := "Thumbreel$Order"
def TX4 : u_T := fun k => match k with
  | 0 => ("Thumbreel$Order", "number", "I", true)
  | 1 => ("Thumbreel$Order", "book", "LThumbreel$Book;", true)
  | _ => ("Thumbreel$Order", "copies", "Ljava/util/ArrayList;", true)
def tyX4 : Nat → FieldType := fun k => match k with
  | 0 => .int
  | 1 => .object "Thumbreel$Book"
  | _ => .object "java/util/ArrayList"
abbrev wsX40 : List Cond := u_ws RX4 TX4 3
theorem nmX4 : ∀ a, a < 3 → ∀ b, b < 3 → a ≠ b → (TX4 a).2.1 ≠ (TX4 b).2.1 := by decide +kernel
theorem tyX4_ok : ∀ k, k < 3 → parseFieldDescriptor (TX4 k).2.2.1 = some (tyX4 k) := by decide +kernel
abbrev cX4_init : ByteArray := prog_6_method_1_code
def yX4_init : MethodName := ⟨RX4, "<init>", "(ILThumbreel$Book;I)V"⟩
abbrev cX4_isAheadOf : ByteArray := prog_6_method_2_code
def yX4_isAheadOf : MethodName := ⟨RX4, "isAheadOf", "(LThumbreel$Order;)Z"⟩
abbrev cX4_lengthOf : ByteArray := prog_6_method_3_code
def yX4_lengthOf : MethodName := ⟨RX4, "lengthOf", "(LThumbreel$Copy;)I"⟩
abbrev cX4_countLacking : ByteArray := prog_6_method_4_code
def yX4_countLacking : MethodName := ⟨RX4, "countLacking", "()I"⟩
abbrev cX4_spoilChanged : ByteArray := prog_6_method_5_code
def yX4_spoilChanged : MethodName := ⟨RX4, "spoilChanged", "()I"⟩
abbrev cX4_fill : ByteArray := prog_6_method_6_code
def yX4_fill : MethodName := ⟨RX4, "fill", "(LThumbreel$Sheet;I)I"⟩
def RX5 : String := "Thumbreel$Piles"
def TX5 : u_T := fun k => match k with
  | 0 => ("Thumbreel$Piles", "cells", "[I", true)
  | 1 => ("Thumbreel$Piles", "heights", "[I", true)
  | 2 => ("Thumbreel$Piles", "top", "I", false)
  | 3 => ("Thumbreel$Piles", "left", "I", false)
  | 4 => ("Thumbreel$Piles", "rows", "I", false)
  | _ => ("Thumbreel$Piles", "columns", "I", false)
def tyX5 : Nat → FieldType := fun k => match k with
  | 0 => .array .int
  | 1 => .array .int
  | 2 => .int
  | 3 => .int
  | 4 => .int
  | _ => .int
abbrev wsX50 : List Cond := u_ws RX5 TX5 6
theorem nmX5 : ∀ a, a < 6 → ∀ b, b < 6 → a ≠ b → (TX5 a).2.1 ≠ (TX5 b).2.1 := by decide +kernel
theorem tyX5_ok : ∀ k, k < 6 → parseFieldDescriptor (TX5 k).2.2.1 = some (tyX5 k) := by decide +kernel
abbrev cX5_init : ByteArray := prog_7_method_1_code
def yX5_init : MethodName := ⟨RX5, "<init>", "()V"⟩
abbrev cX5_foldAll : ByteArray := prog_7_method_2_code
def yX5_foldAll : MethodName := ⟨RX5, "foldAll", "(LThumbreel$Folding;)V"⟩
abbrev cX5_cellAt : ByteArray := prog_7_method_3_code
def yX5_cellAt : MethodName := ⟨RX5, "cellAt", "(I)I"⟩
abbrev cX5_spread : ByteArray := prog_7_method_4_code
def yX5_spread : MethodName := ⟨RX5, "spread", "()V"⟩
abbrev cX5_pileAt : ByteArray := prog_7_method_5_code
def yX5_pileAt : MethodName := ⟨RX5, "pileAt", "(II)I"⟩
abbrev cX5_foldSideways : ByteArray := prog_7_method_6_code
def yX5_foldSideways : MethodName := ⟨RX5, "foldSideways", "(Z)V"⟩
abbrev cX5_foldUpright : ByteArray := prog_7_method_7_code
def yX5_foldUpright : MethodName := ⟨RX5, "foldUpright", "(Z)V"⟩
abbrev cX5_turnOnto : ByteArray := prog_7_method_8_code
def yX5_turnOnto : MethodName := ⟨RX5, "turnOnto", "(II)V"⟩
def RX6 : String := "Thumbreel$Sheet"
def TX6 : u_T := fun k => match k with
  | 0 => ("Thumbreel$Sheet", "cells", "[LThumbreel$Leaf;", true)
  | 1 => ("Thumbreel$Sheet", "folding", "LThumbreel$Folding;", true)
  | 2 => ("Thumbreel$Sheet", "isWaiting", "Z", false)
  | _ => ("Thumbreel$Sheet", "trimmed", "I", false)
def tyX6 : Nat → FieldType := fun k => match k with
  | 0 => .array (.object "Thumbreel$Leaf")
  | 1 => .object "Thumbreel$Folding"
  | 2 => .boolean
  | _ => .int
abbrev wsX60 : List Cond := u_ws RX6 TX6 4
theorem nmX6 : ∀ a, a < 4 → ∀ b, b < 4 → a ≠ b → (TX6 a).2.1 ≠ (TX6 b).2.1 := by decide +kernel
theorem tyX6_ok : ∀ k, k < 4 → parseFieldDescriptor (TX6 k).2.2.1 = some (tyX6 k) := by decide +kernel
abbrev cX6_init : ByteArray := prog_8_method_1_code
def yX6_init : MethodName := ⟨RX6, "<init>", "(LThumbreel$Folding;)V"⟩
abbrev cX6_leafIn : ByteArray := prog_8_method_2_code
def yX6_leafIn : MethodName := ⟨RX6, "leafIn", "(I)LThumbreel$Leaf;"⟩
abbrev cX6_lay : ByteArray := prog_8_method_3_code
def yX6_lay : MethodName := ⟨RX6, "lay", "(LThumbreel$Leaf;I)V"⟩
abbrev cX6_cutWith : ByteArray := prog_8_method_4_code
def yX6_cutWith : MethodName := ⟨RX6, "cutWith", "(I)V"⟩
abbrev cX6_isCut : ByteArray := prog_8_method_5_code
def yX6_isCut : MethodName := ⟨RX6, "isCut", "()Z"⟩
abbrev cX6_isOfUse : ByteArray := prog_8_method_6_code
def yX6_isOfUse : MethodName := ⟨RX6, "isOfUse", "()Z"⟩
def RX7 : String := "Thumbreel"
def TX7 : u_T := fun k => match k with
  | 0 => ("Thumbreel", "books", "Ljava/util/ArrayList;", true)
  | 1 => ("Thumbreel", "orders", "Ljava/util/ArrayList;", true)
  | 2 => ("Thumbreel", "sheets", "Ljava/util/ArrayList;", true)
  | 3 => ("Thumbreel", "turns", "[I", true)
  | 4 => ("Thumbreel", "dullness", "[I", true)
  | 5 => ("Thumbreel", "piles", "LThumbreel$Piles;", true)
  | 6 => ("Thumbreel", "folding", "LThumbreel$Folding;", false)
  | 7 => ("Thumbreel", "tolerance", "I", false)
  | _ => ("Thumbreel", "spoiledLeaves", "I", false)
def tyX7 : Nat → FieldType := fun k => match k with
  | 0 => .object "java/util/ArrayList"
  | 1 => .object "java/util/ArrayList"
  | 2 => .object "java/util/ArrayList"
  | 3 => .array .int
  | 4 => .array .int
  | 5 => .object "Thumbreel$Piles"
  | 6 => .object "Thumbreel$Folding"
  | 7 => .int
  | _ => .int
abbrev wsX70 : List Cond := u_ws RX7 TX7 9
theorem nmX7 : ∀ a, a < 9 → ∀ b, b < 9 → a ≠ b → (TX7 a).2.1 ≠ (TX7 b).2.1 := by decide +kernel
theorem tyX7_ok : ∀ k, k < 9 → parseFieldDescriptor (TX7 k).2.2.1 = some (tyX7 k) := by decide +kernel
abbrev cX7_init : ByteArray := prog_1_method_1_code
def yX7_init : MethodName := ⟨RX7, "<init>", "()V"⟩
abbrev cX7_addBook : ByteArray := prog_1_method_2_code
def yX7_addBook : MethodName := ⟨RX7, "addBook", "()I"⟩
abbrev cX7_draw : ByteArray := prog_1_method_3_code
def yX7_draw : MethodName := ⟨RX7, "draw", "(IIIII)I"⟩
abbrev cX7_erase : ByteArray := prog_1_method_4_code
def yX7_erase : MethodName := ⟨RX7, "erase", "(II)I"⟩
abbrev cX7_move : ByteArray := prog_1_method_5_code
def yX7_move : MethodName := ⟨RX7, "move", "(III)I"⟩
abbrev cX7_frames : ByteArray := prog_1_method_6_code
def yX7_frames : MethodName := ⟨RX7, "frames", "(I)I"⟩
abbrev cX7_frameAt : ByteArray := prog_1_method_7_code
def yX7_frameAt : MethodName := ⟨RX7, "frameAt", "(II)I"⟩
abbrev cX7_order : ByteArray := prog_1_method_8_code
def yX7_order : MethodName := ⟨RX7, "order", "(II)I"⟩
abbrev cX7_lacking : ByteArray := prog_1_method_9_code
def yX7_lacking : MethodName := ⟨RX7, "lacking", "(I)I"⟩
abbrev cX7_waits : ByteArray := prog_1_method_10_code
def yX7_waits : MethodName := ⟨RX7, "waits", "(I)I"⟩
abbrev cX7_setFolds : ByteArray := prog_1_method_11_code
def yX7_setFolds : MethodName := ⟨RX7, "setFolds", "(III)V"⟩
abbrev cX7_cellOf : ByteArray := prog_1_method_12_code
def yX7_cellOf : MethodName := ⟨RX7, "cellOf", "(I)I"⟩
abbrev cX7_placeOf : ByteArray := prog_1_method_13_code
def yX7_placeOf : MethodName := ⟨RX7, "placeOf", "(I)I"⟩
abbrev cX7_print : ByteArray := prog_1_method_14_code
def yX7_print : MethodName := ⟨RX7, "print", "(I)I"⟩
abbrev cX7_waiting : ByteArray := prog_1_method_15_code
def yX7_waiting : MethodName := ⟨RX7, "waiting", "()I"⟩
abbrev cX7_onSheet : ByteArray := prog_1_method_16_code
def yX7_onSheet : MethodName := ⟨RX7, "onSheet", "(II)I"⟩
abbrev cX7_cut : ByteArray := prog_1_method_17_code
def yX7_cut : MethodName := ⟨RX7, "cut", "(I)I"⟩
abbrev cX7_discard : ByteArray := prog_1_method_18_code
def yX7_discard : MethodName := ⟨RX7, "discard", "()I"⟩
abbrev cX7_sharpen : ByteArray := prog_1_method_19_code
def yX7_sharpen : MethodName := ⟨RX7, "sharpen", "(I)I"⟩
abbrev cX7_setTolerance : ByteArray := prog_1_method_20_code
def yX7_setTolerance : MethodName := ⟨RX7, "setTolerance", "(I)I"⟩
abbrev cX7_bind : ByteArray := prog_1_method_21_code
def yX7_bind : MethodName := ⟨RX7, "bind", "(II)I"⟩
abbrev cX7_isBound : ByteArray := prog_1_method_22_code
def yX7_isBound : MethodName := ⟨RX7, "isBound", "(II)Z"⟩
abbrev cX7_trim : ByteArray := prog_1_method_23_code
def yX7_trim : MethodName := ⟨RX7, "trim", "(III)I"⟩
abbrev cX7_leaf : ByteArray := prog_1_method_24_code
def yX7_leaf : MethodName := ⟨RX7, "leaf", "(III)I"⟩
abbrev cX7_leafByPiles : ByteArray := prog_1_method_25_code
def yX7_leafByPiles : MethodName := ⟨RX7, "leafByPiles", "(III)I"⟩
abbrev cX7_spoiled : ByteArray := prog_1_method_26_code
def yX7_spoiled : MethodName := ⟨RX7, "spoiled", "()I"⟩
abbrev cX7_checkIndex : ByteArray := prog_1_method_27_code
def yX7_checkIndex : MethodName := ⟨RX7, "checkIndex", "(II)V"⟩
abbrev cX7_checkRange : ByteArray := prog_1_method_28_code
def yX7_checkRange : MethodName := ⟨RX7, "checkRange", "(III)V"⟩
abbrev cX7_bookNumbered : ByteArray := prog_1_method_29_code
def yX7_bookNumbered : MethodName := ⟨RX7, "bookNumbered", "(I)LThumbreel$Book;"⟩
abbrev cX7_orderNumbered : ByteArray := prog_1_method_30_code
def yX7_orderNumbered : MethodName := ⟨RX7, "orderNumbered", "(I)LThumbreel$Order;"⟩
abbrev cX7_copyNumbered : ByteArray := prog_1_method_31_code
def yX7_copyNumbered : MethodName := ⟨RX7, "copyNumbered", "(LThumbreel$Order;I)LThumbreel$Copy;"⟩
abbrev cX7_oneIfSideways : ByteArray := prog_1_method_32_code
def yX7_oneIfSideways : MethodName := ⟨RX7, "oneIfSideways", "(I)I"⟩
abbrev cX7_sheetsFor : ByteArray := prog_1_method_33_code
def yX7_sheetsFor : MethodName := ⟨RX7, "sheetsFor", "(I)I"⟩
abbrev cX7_spoilChanged : ByteArray := prog_1_method_34_code
def yX7_spoilChanged : MethodName := ⟨RX7, "spoilChanged", "(LThumbreel$Book;)I"⟩
abbrev cX7_countAllLacking : ByteArray := prog_1_method_35_code
def yX7_countAllLacking : MethodName := ⟨RX7, "countAllLacking", "()I"⟩
abbrev cX7_sortOrders : ByteArray := prog_1_method_36_code
def yX7_sortOrders : MethodName := ⟨RX7, "sortOrders", "()V"⟩
abbrev cX7_printSheet : ByteArray := prog_1_method_37_code
def yX7_printSheet : MethodName := ⟨RX7, "printSheet", "()LThumbreel$Sheet;"⟩
abbrev cX7_longestWaiting : ByteArray := prog_1_method_38_code
def yX7_longestWaiting : MethodName := ⟨RX7, "longestWaiting", "()LThumbreel$Sheet;"⟩
abbrev cX7_keptLeaf : ByteArray := prog_1_method_39_code
def yX7_keptLeaf : MethodName := ⟨RX7, "keptLeaf", "(III)LThumbreel$Leaf;"⟩
abbrev cX7_findInPile : ByteArray := prog_1_method_40_code
def yX7_findInPile : MethodName := ⟨RX7, "findInPile", "(LThumbreel$Sheet;III)LThumbreel$Leaf;"⟩
def RX8 : String := "ThumbreelModel"
def TX8 : u_T := fun k => match k with
  | 0 => ("ThumbreelModel", "books", "I", false)
  | 1 => ("ThumbreelModel", "sizes", "[I", true)
  | 2 => ("ThumbreelModel", "positions", "[I", true)
  | 3 => ("ThumbreelModel", "betweens", "[I", true)
  | 4 => ("ThumbreelModel", "curves", "[I", true)
  | 5 => ("ThumbreelModel", "orders", "I", false)
  | 6 => ("ThumbreelModel", "orderBooks", "[I", true)
  | 7 => ("ThumbreelModel", "copies", "[I", true)
  | 8 => ("ThumbreelModel", "bound", "[I", true)
  | 9 => ("ThumbreelModel", "shown", "[I", true)
  | 10 => ("ThumbreelModel", "sheetOf", "[I", true)
  | 11 => ("ThumbreelModel", "trims", "[I", true)
  | 12 => ("ThumbreelModel", "folds", "[I", true)
  | 13 => ("ThumbreelModel", "cells", "[I", true)
  | 14 => ("ThumbreelModel", "sheets", "I", false)
  | 15 => ("ThumbreelModel", "lies", "[I", true)
  | 16 => ("ThumbreelModel", "isWaiting", "[Z", true)
  | 17 => ("ThumbreelModel", "dullness", "[I", true)
  | 18 => ("ThumbreelModel", "tolerance", "I", false)
  | 19 => ("ThumbreelModel", "spoiled", "I", false)
  | 20 => ("ThumbreelModel", "ranks", "[I", true)
  | 21 => ("ThumbreelModel", "wanted", "[I", true)
  | 22 => ("ThumbreelModel", "many", "I", false)
  | _ => ("ThumbreelModel", "thrown", "I", false)
def tyX8 : Nat → FieldType := fun k => match k with
  | 0 => .int
  | 1 => .array .int
  | 2 => .array .int
  | 3 => .array .int
  | 4 => .array .int
  | 5 => .int
  | 6 => .array .int
  | 7 => .array .int
  | 8 => .array .int
  | 9 => .array .int
  | 10 => .array .int
  | 11 => .array .int
  | 12 => .array .int
  | 13 => .array .int
  | 14 => .int
  | 15 => .array .int
  | 16 => .array .boolean
  | 17 => .array .int
  | 18 => .int
  | 19 => .int
  | 20 => .array .int
  | 21 => .array .int
  | 22 => .int
  | _ => .int
abbrev wsX80 : List Cond := u_ws RX8 TX8 24
theorem nmX8 : ∀ a, a < 24 → ∀ b, b < 24 → a ≠ b → (TX8 a).2.1 ≠ (TX8 b).2.1 := by decide +kernel
theorem tyX8_ok : ∀ k, k < 24 → parseFieldDescriptor (TX8 k).2.2.1 = some (tyX8 k) := by decide +kernel
abbrev cX8_init : ByteArray := prog_10_method_1_code
def yX8_init : MethodName := ⟨RX8, "<init>", "()V"⟩
abbrev cX8_thrown : ByteArray := prog_10_method_2_code
def yX8_thrown : MethodName := ⟨RX8, "thrown", "()I"⟩
abbrev cX8_goes : ByteArray := prog_10_method_3_code
def yX8_goes : MethodName := ⟨RX8, "goes", "(I)Z"⟩
abbrev cX8_isIn : ByteArray := prog_10_method_4_code
def yX8_isIn : MethodName := ⟨RX8, "isIn", "(III)Z"⟩
abbrev cX8_isBook : ByteArray := prog_10_method_5_code
def yX8_isBook : MethodName := ⟨RX8, "isBook", "(I)Z"⟩
abbrev cX8_isOrder : ByteArray := prog_10_method_6_code
def yX8_isOrder : MethodName := ⟨RX8, "isOrder", "(I)Z"⟩
abbrev cX8_isCopy : ByteArray := prog_10_method_7_code
def yX8_isCopy : MethodName := ⟨RX8, "isCopy", "(II)Z"⟩
abbrev cX8_framesOf : ByteArray := prog_10_method_8_code
def yX8_framesOf : MethodName := ⟨RX8, "framesOf", "(I)I"⟩
abbrev cX8_part : ByteArray := prog_10_method_9_code
def yX8_part : MethodName := ⟨RX8, "part", "(IIII)I"⟩
abbrev cX8_positionOf : ByteArray := prog_10_method_10_code
def yX8_positionOf : MethodName := ⟨RX8, "positionOf", "(II)I"⟩
abbrev cX8_leafAt : ByteArray := prog_10_method_11_code
def yX8_leafAt : MethodName := ⟨RX8, "leafAt", "(III)I"⟩
abbrev cX8_isBoundCopy : ByteArray := prog_10_method_12_code
def yX8_isBoundCopy : MethodName := ⟨RX8, "isBoundCopy", "(II)Z"⟩
abbrev cX8_spoils : ByteArray := prog_10_method_13_code
def yX8_spoils : MethodName := ⟨RX8, "spoils", "(I)V"⟩
abbrev cX8_flows : ByteArray := prog_10_method_14_code
def yX8_flows : MethodName := ⟨RX8, "flows", "(I)I"⟩
abbrev cX8_addBook : ByteArray := prog_10_method_15_code
def yX8_addBook : MethodName := ⟨RX8, "addBook", "()I"⟩
abbrev cX8_draw : ByteArray := prog_10_method_16_code
def yX8_draw : MethodName := ⟨RX8, "draw", "(IIIII)I"⟩
abbrev cX8_wrong : ByteArray := prog_10_method_17_code
def yX8_wrong : MethodName := ⟨RX8, "wrong", "(II)I"⟩
abbrev cX8_erase : ByteArray := prog_10_method_18_code
def yX8_erase : MethodName := ⟨RX8, "erase", "(II)I"⟩
abbrev cX8_move : ByteArray := prog_10_method_19_code
def yX8_move : MethodName := ⟨RX8, "move", "(III)I"⟩
abbrev cX8_frames : ByteArray := prog_10_method_20_code
def yX8_frames : MethodName := ⟨RX8, "frames", "(I)I"⟩
abbrev cX8_frameAt : ByteArray := prog_10_method_21_code
def yX8_frameAt : MethodName := ⟨RX8, "frameAt", "(II)I"⟩
abbrev cX8_order : ByteArray := prog_10_method_22_code
def yX8_order : MethodName := ⟨RX8, "order", "(II)I"⟩
abbrev cX8_size : ByteArray := prog_10_method_23_code
def yX8_size : MethodName := ⟨RX8, "size", "(I)I"⟩
abbrev cX8_laysRanks : ByteArray := prog_10_method_24_code
def yX8_laysRanks : MethodName := ⟨RX8, "laysRanks", "()V"⟩
abbrev cX8_laysWanted : ByteArray := prog_10_method_25_code
def yX8_laysWanted : MethodName := ⟨RX8, "laysWanted", "()V"⟩
abbrev cX8_lackingOf : ByteArray := prog_10_method_26_code
def yX8_lackingOf : MethodName := ⟨RX8, "lackingOf", "(I)I"⟩
abbrev cX8_lacking : ByteArray := prog_10_method_27_code
def yX8_lacking : MethodName := ⟨RX8, "lacking", "(I)I"⟩
abbrev cX8_waits : ByteArray := prog_10_method_28_code
def yX8_waits : MethodName := ⟨RX8, "waits", "(I)I"⟩
abbrev cX8_unfolded : ByteArray := prog_10_method_29_code
def yX8_unfolded : MethodName := ⟨RX8, "unfolded", "(I)I"⟩
abbrev cX8_laysCells : ByteArray := prog_10_method_30_code
def yX8_laysCells : MethodName := ⟨RX8, "laysCells", "()V"⟩
abbrev cX8_setFolds : ByteArray := prog_10_method_31_code
def yX8_setFolds : MethodName := ⟨RX8, "setFolds", "(III)V"⟩
abbrev cX8_cellOf : ByteArray := prog_10_method_32_code
def yX8_cellOf : MethodName := ⟨RX8, "cellOf", "(I)I"⟩
abbrev cX8_placeOf : ByteArray := prog_10_method_33_code
def yX8_placeOf : MethodName := ⟨RX8, "placeOf", "(I)I"⟩
abbrev cX8_printsOne : ByteArray := prog_10_method_34_code
def yX8_printsOne : MethodName := ⟨RX8, "printsOne", "(I)V"⟩
abbrev cX8_print : ByteArray := prog_10_method_35_code
def yX8_print : MethodName := ⟨RX8, "print", "(I)I"⟩
abbrev cX8_waiting : ByteArray := prog_10_method_36_code
def yX8_waiting : MethodName := ⟨RX8, "waiting", "()I"⟩
abbrev cX8_onSheet : ByteArray := prog_10_method_37_code
def yX8_onSheet : MethodName := ⟨RX8, "onSheet", "(II)I"⟩
abbrev cX8_longest : ByteArray := prog_10_method_38_code
def yX8_longest : MethodName := ⟨RX8, "longest", "()I"⟩
abbrev cX8_isOn : ByteArray := prog_10_method_39_code
def yX8_isOn : MethodName := ⟨RX8, "isOn", "(II)Z"⟩
abbrev cX8_cut : ByteArray := prog_10_method_40_code
def yX8_cut : MethodName := ⟨RX8, "cut", "(I)I"⟩
abbrev cX8_discard : ByteArray := prog_10_method_41_code
def yX8_discard : MethodName := ⟨RX8, "discard", "()I"⟩
abbrev cX8_sharpen : ByteArray := prog_10_method_42_code
def yX8_sharpen : MethodName := ⟨RX8, "sharpen", "(I)I"⟩
abbrev cX8_setTolerance : ByteArray := prog_10_method_43_code
def yX8_setTolerance : MethodName := ⟨RX8, "setTolerance", "(I)I"⟩
abbrev cX8_isWhole : ByteArray := prog_10_method_44_code
def yX8_isWhole : MethodName := ⟨RX8, "isWhole", "(II)Z"⟩
abbrev cX8_bind : ByteArray := prog_10_method_45_code
def yX8_bind : MethodName := ⟨RX8, "bind", "(II)I"⟩
abbrev cX8_isBound : ByteArray := prog_10_method_46_code
def yX8_isBound : MethodName := ⟨RX8, "isBound", "(II)Z"⟩
abbrev cX8_hasFrame : ByteArray := prog_10_method_47_code
def yX8_hasFrame : MethodName := ⟨RX8, "hasFrame", "(III)Z"⟩
abbrev cX8_trim : ByteArray := prog_10_method_48_code
def yX8_trim : MethodName := ⟨RX8, "trim", "(III)I"⟩
abbrev cX8_leafShown : ByteArray := prog_10_method_49_code
def yX8_leafShown : MethodName := ⟨RX8, "leafShown", "(III)I"⟩
abbrev cX8_leaf : ByteArray := prog_10_method_50_code
def yX8_leaf : MethodName := ⟨RX8, "leaf", "(III)I"⟩
abbrev cX8_leafByPiles : ByteArray := prog_10_method_51_code
def yX8_leafByPiles : MethodName := ⟨RX8, "leafByPiles", "(III)I"⟩
abbrev cX8_spoiled : ByteArray := prog_10_method_52_code
def yX8_spoiled : MethodName := ⟨RX8, "spoiled", "()I"⟩
def RJx145de : String := "java/io/Serializable"
def TJx145de : u_T := fun k => match k with
  | _ => ("", "", "", false)
def tyJx145de : Nat → FieldType := fun k => match k with
  | _ => .int
abbrev wsJx145de0 : List Cond := u_ws RJx145de TJx145de 0
theorem nmJx145de : ∀ a, a < 0 → ∀ b, b < 0 → a ≠ b → (TJx145de a).2.1 ≠ (TJx145de b).2.1 := by decide +kernel
theorem tyJx145de_ok : ∀ k, k < 0 → parseFieldDescriptor (TJx145de k).2.2.1 = some (tyJx145de k) := by decide +kernel
def RJx8e188 : String := "java/lang/Cloneable"
def TJx8e188 : u_T := fun k => match k with
  | _ => ("", "", "", false)
def tyJx8e188 : Nat → FieldType := fun k => match k with
  | _ => .int
abbrev wsJx8e1880 : List Cond := u_ws RJx8e188 TJx8e188 0
theorem nmJx8e188 : ∀ a, a < 0 → ∀ b, b < 0 → a ≠ b → (TJx8e188 a).2.1 ≠ (TJx8e188 b).2.1 := by decide +kernel
theorem tyJx8e188_ok : ∀ k, k < 0 → parseFieldDescriptor (TJx8e188 k).2.2.1 = some (tyJx8e188 k) := by decide +kernel
def RJxab1ab : String := "java/lang/Iterable"
def TJxab1ab : u_T := fun k => match k with
  | _ => ("", "", "", false)
def tyJxab1ab : Nat → FieldType := fun k => match k with
  | _ => .int
abbrev wsJxab1ab0 : List Cond := u_ws RJxab1ab TJxab1ab 0
theorem nmJxab1ab : ∀ a, a < 0 → ∀ b, b < 0 → a ≠ b → (TJxab1ab a).2.1 ≠ (TJxab1ab b).2.1 := by decide +kernel
theorem tyJxab1ab_ok : ∀ k, k < 0 → parseFieldDescriptor (TJxab1ab k).2.2.1 = some (tyJxab1ab k) := by decide +kernel
def RJ9 : String := "java/lang/Math"
def TJ9 : u_T := fun k => match k with
  | _ => ("", "", "", false)
def tyJ9 : Nat → FieldType := fun k => match k with
  | _ => .int
abbrev wsJ90 : List Cond := u_ws RJ9 TJ9 0
theorem nmJ9 : ∀ a, a < 0 → ∀ b, b < 0 → a ≠ b → (TJ9 a).2.1 ≠ (TJ9 b).2.1 := by decide +kernel
theorem tyJ9_ok : ∀ k, k < 0 → parseFieldDescriptor (TJ9 k).2.2.1 = some (tyJ9 k) := by decide +kernel
abbrev cJ9_max_7cf53 : ByteArray := prog_18_method_65_code
def yJ9_max_7cf53 : MethodName := ⟨RJ9, "max", "(II)I"⟩
abbrev cJ9_min_7cf53 : ByteArray := prog_18_method_69_code
def yJ9_min_7cf53 : MethodName := ⟨RJ9, "min", "(II)I"⟩
def RJ0 : String := "java/lang/String"
def TJ0 : u_T := fun k => match k with
  | _ => ("", "", "", false)
def tyJ0 : Nat → FieldType := fun k => match k with
  | _ => .int
abbrev wsJ00 : List Cond := u_ws RJ0 TJ0 0
theorem nmJ0 : ∀ a, a < 0 → ∀ b, b < 0 → a ≠ b → (TJ0 a).2.1 ≠ (TJ0 b).2.1 := by decide +kernel
theorem tyJ0_ok : ∀ k, k < 0 → parseFieldDescriptor (TJ0 k).2.2.1 = some (tyJ0 k) := by decide +kernel
def RJ10 : String := "java/lang/System"
def TJ10 : u_T := fun k => match k with
  | _ => ("", "", "", false)
def tyJ10 : Nat → FieldType := fun k => match k with
  | _ => .int
abbrev wsJ100 : List Cond := u_ws RJ10 TJ10 0
theorem nmJ10 : ∀ a, a < 0 → ∀ b, b < 0 → a ≠ b → (TJ10 a).2.1 ≠ (TJ10 b).2.1 := by decide +kernel
theorem tyJ10_ok : ∀ k, k < 0 → parseFieldDescriptor (TJ10 k).2.2.1 = some (tyJ10 k) := by decide +kernel
def RJxa1e45 : String := "java/util/AbstractCollection"
def TJxa1e45 : u_T := fun k => match k with
  | _ => ("", "", "", false)
def tyJxa1e45 : Nat → FieldType := fun k => match k with
  | _ => .int
abbrev wsJxa1e450 : List Cond := u_ws RJxa1e45 TJxa1e45 0
theorem nmJxa1e45 : ∀ a, a < 0 → ∀ b, b < 0 → a ≠ b → (TJxa1e45 a).2.1 ≠ (TJxa1e45 b).2.1 := by decide +kernel
theorem tyJxa1e45_ok : ∀ k, k < 0 → parseFieldDescriptor (TJxa1e45 k).2.2.1 = some (tyJxa1e45 k) := by decide +kernel
abbrev cJxa1e45_init_da8c8 : ByteArray := prog_23_method_1_code
def yJxa1e45_init_da8c8 : MethodName := ⟨RJxa1e45, "<init>", "()V"⟩
def RJxc12de : String := "java/util/AbstractList"
def TJxc12de : u_T := fun k => match k with
  | _ => ("", "", "", false)
def tyJxc12de : Nat → FieldType := fun k => match k with
  | _ => .int
abbrev wsJxc12de0 : List Cond := u_ws RJxc12de TJxc12de 0
theorem nmJxc12de : ∀ a, a < 0 → ∀ b, b < 0 → a ≠ b → (TJxc12de a).2.1 ≠ (TJxc12de b).2.1 := by decide +kernel
theorem tyJxc12de_ok : ∀ k, k < 0 → parseFieldDescriptor (TJxc12de k).2.2.1 = some (tyJxc12de k) := by decide +kernel
abbrev cJxc12de_init_da8c8 : ByteArray := prog_24_method_1_code
def yJxc12de_init_da8c8 : MethodName := ⟨RJxc12de, "<init>", "()V"⟩
def RJx4a65c : String := "java/util/ArrayList"
def TJx4a65c : u_T := fun k => match k with
  | 0 => ("java/util/AbstractList", "modCount", "I", false)
  | 1 => ("java/util/ArrayList", "elementData", "[Ljava/lang/Object;", false)
  | _ => ("java/util/ArrayList", "size", "I", false)
def tyJx4a65c : Nat → FieldType := fun k => match k with
  | 0 => .int
  | 1 => .array (.object "java/lang/Object")
  | _ => .int
abbrev wsJx4a65c0 : List Cond := u_ws RJx4a65c TJx4a65c 3
theorem nmJx4a65c : ∀ a, a < 3 → ∀ b, b < 3 → a ≠ b → (TJx4a65c a).2.1 ≠ (TJx4a65c b).2.1 := by decide +kernel
theorem tyJx4a65c_ok : ∀ k, k < 3 → parseFieldDescriptor (TJx4a65c k).2.2.1 = some (tyJx4a65c k) := by decide +kernel
abbrev cJx4a65c_init_da8c8 : ByteArray := prog_25_method_2_code
def yJx4a65c_init_da8c8 : MethodName := ⟨RJx4a65c, "<init>", "()V"⟩
abbrev cJx4a65c_grow_92f84 : ByteArray := prog_25_method_6_code
def yJx4a65c_grow_92f84 : MethodName := ⟨RJx4a65c, "grow", "(I)[Ljava/lang/Object;"⟩
abbrev cJx4a65c_grow_d5877 : ByteArray := prog_25_method_7_code
def yJx4a65c_grow_d5877 : MethodName := ⟨RJx4a65c, "grow", "()[Ljava/lang/Object;"⟩
abbrev cJx4a65c_size_8abf5 : ByteArray := prog_25_method_8_code
def yJx4a65c_size_8abf5 : MethodName := ⟨RJx4a65c, "size", "()I"⟩
abbrev cJx4a65c_elementData_915e3 : ByteArray := prog_25_method_18_code
def yJx4a65c_elementData_915e3 : MethodName := ⟨RJx4a65c, "elementData", "(I)Ljava/lang/Object;"⟩
abbrev cJx4a65c_get_915e3 : ByteArray := prog_25_method_20_code
def yJx4a65c_get_915e3 : MethodName := ⟨RJx4a65c, "get", "(I)Ljava/lang/Object;"⟩
abbrev cJx4a65c_add_72be8 : ByteArray := prog_25_method_24_code
def yJx4a65c_add_72be8 : MethodName := ⟨RJx4a65c, "add", "(Ljava/lang/Object;[Ljava/lang/Object;I)V"⟩
abbrev cJx4a65c_add_9ea2d : ByteArray := prog_25_method_25_code
def yJx4a65c_add_9ea2d : MethodName := ⟨RJx4a65c, "add", "(Ljava/lang/Object;)Z"⟩
def RJ7 : String := "java/util/Arrays"
def TJ7 : u_T := fun k => match k with
  | _ => ("", "", "", false)
def tyJ7 : Nat → FieldType := fun k => match k with
  | _ => .int
abbrev wsJ70 : List Cond := u_ws RJ7 TJ7 0
theorem nmJ7 : ∀ a, a < 0 → ∀ b, b < 0 → a ≠ b → (TJ7 a).2.1 ≠ (TJ7 b).2.1 := by decide +kernel
theorem tyJ7_ok : ∀ k, k < 0 → parseFieldDescriptor (TJ7 k).2.2.1 = some (tyJ7 k) := by decide +kernel
abbrev cJ7_copyOf_1904c : ByteArray := prog_26_method_119_code
def yJ7_copyOf_1904c : MethodName := ⟨RJ7, "copyOf", "([Ljava/lang/Object;I)[Ljava/lang/Object;"⟩
abbrev cJ7_copyOf_6403c : ByteArray := prog_26_method_120_code
def yJ7_copyOf_6403c : MethodName := ⟨RJ7, "copyOf", "([Ljava/lang/Object;ILjava/lang/Class;)[Ljava/lang/Object;"⟩
def RJx5ef63 : String := "java/util/Collection"
def TJx5ef63 : u_T := fun k => match k with
  | _ => ("", "", "", false)
def tyJx5ef63 : Nat → FieldType := fun k => match k with
  | _ => .int
abbrev wsJx5ef630 : List Cond := u_ws RJx5ef63 TJx5ef63 0
theorem nmJx5ef63 : ∀ a, a < 0 → ∀ b, b < 0 → a ≠ b → (TJx5ef63 a).2.1 ≠ (TJx5ef63 b).2.1 := by decide +kernel
theorem tyJx5ef63_ok : ∀ k, k < 0 → parseFieldDescriptor (TJx5ef63 k).2.2.1 = some (tyJx5ef63 k) := by decide +kernel
def RJxbd725 : String := "java/util/List"
def TJxbd725 : u_T := fun k => match k with
  | _ => ("", "", "", false)
def tyJxbd725 : Nat → FieldType := fun k => match k with
  | _ => .int
abbrev wsJxbd7250 : List Cond := u_ws RJxbd725 TJxbd725 0
theorem nmJxbd725 : ∀ a, a < 0 → ∀ b, b < 0 → a ≠ b → (TJxbd725 a).2.1 ≠ (TJxbd725 b).2.1 := by decide +kernel
theorem tyJxbd725_ok : ∀ k, k < 0 → parseFieldDescriptor (TJxbd725 k).2.2.1 = some (tyJxbd725 k) := by decide +kernel
def RJ15 : String := "java/util/Objects"
def TJ15 : u_T := fun k => match k with
  | _ => ("", "", "", false)
def tyJ15 : Nat → FieldType := fun k => match k with
  | _ => .int
abbrev wsJ150 : List Cond := u_ws RJ15 TJ15 0
theorem nmJ15 : ∀ a, a < 0 → ∀ b, b < 0 → a ≠ b → (TJ15 a).2.1 ≠ (TJ15 b).2.1 := by decide +kernel
theorem tyJ15_ok : ∀ k, k < 0 → parseFieldDescriptor (TJ15 k).2.2.1 = some (tyJ15 k) := by decide +kernel
abbrev cJ15_checkIndex_7cf53 : ByteArray := prog_30_method_17_code
def yJ15_checkIndex_7cf53 : MethodName := ⟨RJ15, "checkIndex", "(II)I"⟩
def RJxf0a74 : String := "java/util/RandomAccess"
def TJxf0a74 : u_T := fun k => match k with
  | _ => ("", "", "", false)
def tyJxf0a74 : Nat → FieldType := fun k => match k with
  | _ => .int
abbrev wsJxf0a740 : List Cond := u_ws RJxf0a74 TJxf0a74 0
theorem nmJxf0a74 : ∀ a, a < 0 → ∀ b, b < 0 → a ≠ b → (TJxf0a74 a).2.1 ≠ (TJxf0a74 b).2.1 := by decide +kernel
theorem tyJxf0a74_ok : ∀ k, k < 0 → parseFieldDescriptor (TJxf0a74 k).2.2.1 = some (tyJxf0a74 k) := by decide +kernel
def RJxa66e6 : String := "java/util/SequencedCollection"
def TJxa66e6 : u_T := fun k => match k with
  | _ => ("", "", "", false)
def tyJxa66e6 : Nat → FieldType := fun k => match k with
  | _ => .int
abbrev wsJxa66e60 : List Cond := u_ws RJxa66e6 TJxa66e6 0
theorem nmJxa66e6 : ∀ a, a < 0 → ∀ b, b < 0 → a ≠ b → (TJxa66e6 a).2.1 ≠ (TJxa66e6 b).2.1 := by decide +kernel
theorem tyJxa66e6_ok : ∀ k, k < 0 → parseFieldDescriptor (TJxa66e6 k).2.2.1 = some (tyJxa66e6 k) := by decide +kernel
def RJ8 : String := "jdk/internal/util/ArraysSupport"
def TJ8 : u_T := fun k => match k with
  | _ => ("", "", "", false)
def tyJ8 : Nat → FieldType := fun k => match k with
  | _ => .int
abbrev wsJ80 : List Cond := u_ws RJ8 TJ8 0
theorem nmJ8 : ∀ a, a < 0 → ∀ b, b < 0 → a ≠ b → (TJ8 a).2.1 ≠ (TJ8 b).2.1 := by decide +kernel
theorem tyJ8_ok : ∀ k, k < 0 → parseFieldDescriptor (TJ8 k).2.2.1 = some (tyJ8 k) := by decide +kernel
abbrev cJ8_newLength_cabcc : ByteArray := prog_33_method_27_code
def yJ8_newLength_cabcc : MethodName := ⟨RJ8, "newLength", "(III)I"⟩
abbrev cJ8_hugeLength_7cf53 : ByteArray := prog_33_method_28_code
def yJ8_hugeLength_7cf53 : MethodName := ⟨RJ8, "hugeLength", "(II)I"⟩
def RJ3 : String := "jdk/internal/util/Preconditions"
def TJ3 : u_T := fun k => match k with
  | _ => ("", "", "", false)
def tyJ3 : Nat → FieldType := fun k => match k with
  | _ => .int
abbrev wsJ30 : List Cond := u_ws RJ3 TJ3 0
theorem nmJ3 : ∀ a, a < 0 → ∀ b, b < 0 → a ≠ b → (TJ3 a).2.1 ≠ (TJ3 b).2.1 := by decide +kernel
theorem tyJ3_ok : ∀ k, k < 0 → parseFieldDescriptor (TJ3 k).2.2.1 = some (tyJ3 k) := by decide +kernel
abbrev cJ3_checkIndex_8e157 : ByteArray := prog_34_method_11_code
def yJ3_checkIndex_8e157 : MethodName := ⟨RJ3, "checkIndex", "(IILjava/util/function/BiFunction;)I"⟩
def RL : String := "ThumbreelLaw"
abbrev cL_addBook : ByteArray := method_3_code
def yL_addBook : MethodName := ⟨RL, "addBook", "(LThumbreel;[J)I"⟩
abbrev cL_draw : ByteArray := method_4_code
def yL_draw : MethodName := ⟨RL, "draw", "(LThumbreel;IIIII[J)I"⟩
abbrev cL_erase : ByteArray := method_5_code
def yL_erase : MethodName := ⟨RL, "erase", "(LThumbreel;II[J)I"⟩
abbrev cL_move : ByteArray := method_6_code
def yL_move : MethodName := ⟨RL, "move", "(LThumbreel;III[J)I"⟩
abbrev cL_frames : ByteArray := method_7_code
def yL_frames : MethodName := ⟨RL, "frames", "(LThumbreel;I[J)I"⟩
abbrev cL_frameAt : ByteArray := method_8_code
def yL_frameAt : MethodName := ⟨RL, "frameAt", "(LThumbreel;II[J)I"⟩
abbrev cL_order : ByteArray := method_9_code
def yL_order : MethodName := ⟨RL, "order", "(LThumbreel;II[J)I"⟩
abbrev cL_lacking : ByteArray := method_10_code
def yL_lacking : MethodName := ⟨RL, "lacking", "(LThumbreel;I[J)I"⟩
abbrev cL_waits : ByteArray := method_11_code
def yL_waits : MethodName := ⟨RL, "waits", "(LThumbreel;I[J)I"⟩
abbrev cL_setFolds : ByteArray := method_12_code
def yL_setFolds : MethodName := ⟨RL, "setFolds", "(LThumbreel;III)I"⟩
abbrev cL_cellOf : ByteArray := method_13_code
def yL_cellOf : MethodName := ⟨RL, "cellOf", "(LThumbreel;I[J)I"⟩
abbrev cL_placeOf : ByteArray := method_14_code
def yL_placeOf : MethodName := ⟨RL, "placeOf", "(LThumbreel;I[J)I"⟩
abbrev cL_print : ByteArray := method_15_code
def yL_print : MethodName := ⟨RL, "print", "(LThumbreel;I[J)I"⟩
abbrev cL_onSheet : ByteArray := method_16_code
def yL_onSheet : MethodName := ⟨RL, "onSheet", "(LThumbreel;II[J)I"⟩
abbrev cL_cut : ByteArray := method_17_code
def yL_cut : MethodName := ⟨RL, "cut", "(LThumbreel;I[J)I"⟩
abbrev cL_sharpen : ByteArray := method_18_code
def yL_sharpen : MethodName := ⟨RL, "sharpen", "(LThumbreel;I[J)I"⟩
abbrev cL_setTolerance : ByteArray := method_19_code
def yL_setTolerance : MethodName := ⟨RL, "setTolerance", "(LThumbreel;I[J)I"⟩
abbrev cL_bind : ByteArray := method_20_code
def yL_bind : MethodName := ⟨RL, "bind", "(LThumbreel;II[J)I"⟩
abbrev cL_isBound : ByteArray := method_21_code
def yL_isBound : MethodName := ⟨RL, "isBound", "(LThumbreel;II[J)I"⟩
abbrev cL_trim : ByteArray := method_22_code
def yL_trim : MethodName := ⟨RL, "trim", "(LThumbreel;III[J)I"⟩
abbrev cL_leaf : ByteArray := method_23_code
def yL_leaf : MethodName := ⟨RL, "leaf", "(LThumbreel;III[J)I"⟩
abbrev cL_leafByPiles : ByteArray := method_24_code
def yL_leafByPiles : MethodName := ⟨RL, "leafByPiles", "(LThumbreel;III[J)I"⟩
abbrev cL_law : ByteArray := code
def yL_law : MethodName := ⟨RL, "law", "([I)Z"⟩
end
section
theorem dJ9_max_7cf53_0 : decode cJ9_max_7cf53 0 = .ok (.iload_n 0, 1) := by decide +kernel
theorem dJ9_max_7cf53_1 : decode cJ9_max_7cf53 1 = .ok (.iload_n 1, 1) := by decide +kernel
theorem dJ9_max_7cf53_2 : decode cJ9_max_7cf53 2 = .ok (.if_icmp .lt 7, 3) := by decide +kernel
theorem dJ9_max_7cf53_5 : decode cJ9_max_7cf53 5 = .ok (.iload_n 0, 1) := by decide +kernel
theorem dJ9_max_7cf53_6 : decode cJ9_max_7cf53 6 = .ok (.goto 4, 3) := by decide +kernel
theorem dJ9_max_7cf53_9 : decode cJ9_max_7cf53 9 = .ok (.iload_n 1, 1) := by decide +kernel
theorem dJ9_max_7cf53_10 : decode cJ9_max_7cf53 10 = .ok (.ireturn, 1) := by decide +kernel
theorem dJ9_min_7cf53_0 : decode cJ9_min_7cf53 0 = .ok (.iload_n 0, 1) := by decide +kernel
theorem dJ9_min_7cf53_1 : decode cJ9_min_7cf53 1 = .ok (.iload_n 1, 1) := by decide +kernel
theorem dJ9_min_7cf53_2 : decode cJ9_min_7cf53 2 = .ok (.if_icmp .gt 7, 3) := by decide +kernel
theorem dJ9_min_7cf53_5 : decode cJ9_min_7cf53 5 = .ok (.iload_n 0, 1) := by decide +kernel
theorem dJ9_min_7cf53_6 : decode cJ9_min_7cf53 6 = .ok (.goto 4, 3) := by decide +kernel
theorem dJ9_min_7cf53_9 : decode cJ9_min_7cf53 9 = .ok (.iload_n 1, 1) := by decide +kernel
theorem dJ9_min_7cf53_10 : decode cJ9_min_7cf53 10 = .ok (.ireturn, 1) := by decide +kernel
theorem dJxa1e45_init_da8c8_0 : decode cJxa1e45_init_da8c8 0 = .ok (.aload_n 0, 1) := by decide +kernel
theorem dJxa1e45_init_da8c8_1 : decode cJxa1e45_init_da8c8 1 = .ok (.invokespecial 1, 3) := by decide +kernel
theorem dJxa1e45_init_da8c8_4 : decode cJxa1e45_init_da8c8 4 = .ok (.return_, 1) := by decide +kernel
theorem dJxc12de_init_da8c8_0 : decode cJxc12de_init_da8c8 0 = .ok (.aload_n 0, 1) := by decide +kernel
theorem dJxc12de_init_da8c8_1 : decode cJxc12de_init_da8c8 1 = .ok (.invokespecial 1, 3) := by decide +kernel
theorem dJxc12de_init_da8c8_4 : decode cJxc12de_init_da8c8 4 = .ok (.aload_n 0, 1) := by decide +kernel
theorem dJxc12de_init_da8c8_5 : decode cJxc12de_init_da8c8 5 = .ok (.iconst 0, 1) := by decide +kernel
theorem dJxc12de_init_da8c8_6 : decode cJxc12de_init_da8c8 6 = .ok (.putfield 7, 3) := by decide +kernel
theorem dJxc12de_init_da8c8_9 : decode cJxc12de_init_da8c8 9 = .ok (.return_, 1) := by decide +kernel
theorem dJx4a65c_init_da8c8_0 : decode cJx4a65c_init_da8c8 0 = .ok (.aload_n 0, 1) := by decide +kernel
theorem dJx4a65c_init_da8c8_1 : decode cJx4a65c_init_da8c8 1 = .ok (.invokespecial 1, 3) := by decide +kernel
theorem dJx4a65c_init_da8c8_4 : decode cJx4a65c_init_da8c8 4 = .ok (.aload_n 0, 1) := by decide +kernel
theorem dJx4a65c_init_da8c8_5 : decode cJx4a65c_init_da8c8 5 = .ok (.getstatic 39, 3) := by decide +kernel
theorem dJx4a65c_init_da8c8_8 : decode cJx4a65c_init_da8c8 8 = .ok (.putfield 9, 3) := by decide +kernel
theorem dJx4a65c_init_da8c8_11 : decode cJx4a65c_init_da8c8 11 = .ok (.return_, 1) := by decide +kernel
theorem dJx4a65c_grow_92f84_0 : decode cJx4a65c_grow_92f84 0 = .ok (.aload_n 0, 1) := by decide +kernel
theorem dJx4a65c_grow_92f84_1 : decode cJx4a65c_grow_92f84 1 = .ok (.getfield 9, 3) := by decide +kernel
theorem dJx4a65c_grow_92f84_4 : decode cJx4a65c_grow_92f84 4 = .ok (.arraylength, 1) := by decide +kernel
theorem dJx4a65c_grow_92f84_5 : decode cJx4a65c_grow_92f84 5 = .ok (.istore_n 2, 1) := by decide +kernel
theorem dJx4a65c_grow_92f84_6 : decode cJx4a65c_grow_92f84 6 = .ok (.iload_n 2, 1) := by decide +kernel
theorem dJx4a65c_grow_92f84_7 : decode cJx4a65c_grow_92f84 7 = .ok (.ifCond .gt 13, 3) := by decide +kernel
theorem dJx4a65c_grow_92f84_10 : decode cJx4a65c_grow_92f84 10 = .ok (.aload_n 0, 1) := by decide +kernel
theorem dJx4a65c_grow_92f84_11 : decode cJx4a65c_grow_92f84 11 = .ok (.getfield 9, 3) := by decide +kernel
theorem dJx4a65c_grow_92f84_14 : decode cJx4a65c_grow_92f84 14 = .ok (.getstatic 39, 3) := by decide +kernel
theorem dJx4a65c_grow_92f84_17 : decode cJx4a65c_grow_92f84 17 = .ok (.if_acmp .eq 28, 3) := by decide +kernel
theorem dJx4a65c_grow_92f84_20 : decode cJx4a65c_grow_92f84 20 = .ok (.iload_n 2, 1) := by decide +kernel
theorem dJx4a65c_grow_92f84_21 : decode cJx4a65c_grow_92f84 21 = .ok (.iload_n 1, 1) := by decide +kernel
theorem dJx4a65c_grow_92f84_22 : decode cJx4a65c_grow_92f84 22 = .ok (.iload_n 2, 1) := by decide +kernel
theorem dJx4a65c_grow_92f84_23 : decode cJx4a65c_grow_92f84 23 = .ok (.isub, 1) := by decide +kernel
theorem dJx4a65c_grow_92f84_24 : decode cJx4a65c_grow_92f84 24 = .ok (.iload_n 2, 1) := by decide +kernel
theorem dJx4a65c_grow_92f84_25 : decode cJx4a65c_grow_92f84 25 = .ok (.iconst 1, 1) := by decide +kernel
theorem dJx4a65c_grow_92f84_26 : decode cJx4a65c_grow_92f84 26 = .ok (.ishr, 1) := by decide +kernel
theorem dJx4a65c_grow_92f84_27 : decode cJx4a65c_grow_92f84 27 = .ok (.invokestatic 73, 3) := by decide +kernel
theorem dJx4a65c_grow_92f84_30 : decode cJx4a65c_grow_92f84 30 = .ok (.istore_n 3, 1) := by decide +kernel
theorem dJx4a65c_grow_92f84_31 : decode cJx4a65c_grow_92f84 31 = .ok (.aload_n 0, 1) := by decide +kernel
theorem dJx4a65c_grow_92f84_32 : decode cJx4a65c_grow_92f84 32 = .ok (.aload_n 0, 1) := by decide +kernel
theorem dJx4a65c_grow_92f84_33 : decode cJx4a65c_grow_92f84 33 = .ok (.getfield 9, 3) := by decide +kernel
theorem dJx4a65c_grow_92f84_36 : decode cJx4a65c_grow_92f84 36 = .ok (.iload_n 3, 1) := by decide +kernel
theorem dJx4a65c_grow_92f84_37 : decode cJx4a65c_grow_92f84 37 = .ok (.invokestatic 66, 3) := by decide +kernel
theorem dJx4a65c_grow_92f84_40 : decode cJx4a65c_grow_92f84 40 = .ok (.dup_x1, 1) := by decide +kernel
theorem dJx4a65c_grow_92f84_41 : decode cJx4a65c_grow_92f84 41 = .ok (.putfield 9, 3) := by decide +kernel
theorem dJx4a65c_grow_92f84_44 : decode cJx4a65c_grow_92f84 44 = .ok (.areturn, 1) := by decide +kernel
theorem dJx4a65c_grow_92f84_45 : decode cJx4a65c_grow_92f84 45 = .ok (.aload_n 0, 1) := by decide +kernel
theorem dJx4a65c_grow_92f84_46 : decode cJx4a65c_grow_92f84 46 = .ok (.bipush 10, 2) := by decide +kernel
theorem dJx4a65c_grow_92f84_48 : decode cJx4a65c_grow_92f84 48 = .ok (.iload_n 1, 1) := by decide +kernel
theorem dJx4a65c_grow_92f84_49 : decode cJx4a65c_grow_92f84 49 = .ok (.invokestatic 79, 3) := by decide +kernel
theorem dJx4a65c_grow_92f84_52 : decode cJx4a65c_grow_92f84 52 = .ok (.anewarray 7, 3) := by decide +kernel
theorem dJx4a65c_grow_92f84_55 : decode cJx4a65c_grow_92f84 55 = .ok (.dup_x1, 1) := by decide +kernel
theorem dJx4a65c_grow_92f84_56 : decode cJx4a65c_grow_92f84 56 = .ok (.putfield 9, 3) := by decide +kernel
theorem dJx4a65c_grow_92f84_59 : decode cJx4a65c_grow_92f84 59 = .ok (.areturn, 1) := by decide +kernel
theorem dJx4a65c_grow_d5877_0 : decode cJx4a65c_grow_d5877 0 = .ok (.aload_n 0, 1) := by decide +kernel
theorem dJx4a65c_grow_d5877_1 : decode cJx4a65c_grow_d5877 1 = .ok (.aload_n 0, 1) := by decide +kernel
theorem dJx4a65c_grow_d5877_2 : decode cJx4a65c_grow_d5877 2 = .ok (.getfield 48, 3) := by decide +kernel
theorem dJx4a65c_grow_d5877_5 : decode cJx4a65c_grow_d5877 5 = .ok (.iconst 1, 1) := by decide +kernel
theorem dJx4a65c_grow_d5877_6 : decode cJx4a65c_grow_d5877 6 = .ok (.iadd, 1) := by decide +kernel
theorem dJx4a65c_grow_d5877_7 : decode cJx4a65c_grow_d5877 7 = .ok (.invokevirtual 69, 3) := by decide +kernel
theorem dJx4a65c_grow_d5877_10 : decode cJx4a65c_grow_d5877 10 = .ok (.areturn, 1) := by decide +kernel
theorem dJx4a65c_size_8abf5_0 : decode cJx4a65c_size_8abf5 0 = .ok (.aload_n 0, 1) := by decide +kernel
theorem dJx4a65c_size_8abf5_1 : decode cJx4a65c_size_8abf5 1 = .ok (.getfield 48, 3) := by decide +kernel
theorem dJx4a65c_size_8abf5_4 : decode cJx4a65c_size_8abf5 4 = .ok (.ireturn, 1) := by decide +kernel
theorem dJx4a65c_elementData_915e3_0 : decode cJx4a65c_elementData_915e3 0 = .ok (.aload_n 0, 1) := by decide +kernel
theorem dJx4a65c_elementData_915e3_1 : decode cJx4a65c_elementData_915e3 1 = .ok (.getfield 9, 3) := by decide +kernel
theorem dJx4a65c_elementData_915e3_4 : decode cJx4a65c_elementData_915e3 4 = .ok (.iload_n 1, 1) := by decide +kernel
theorem dJx4a65c_elementData_915e3_5 : decode cJx4a65c_elementData_915e3 5 = .ok (.aaload, 1) := by decide +kernel
theorem dJx4a65c_elementData_915e3_6 : decode cJx4a65c_elementData_915e3 6 = .ok (.areturn, 1) := by decide +kernel
theorem dJx4a65c_get_915e3_0 : decode cJx4a65c_get_915e3 0 = .ok (.iload_n 1, 1) := by decide +kernel
theorem dJx4a65c_get_915e3_1 : decode cJx4a65c_get_915e3 1 = .ok (.aload_n 0, 1) := by decide +kernel
theorem dJx4a65c_get_915e3_2 : decode cJx4a65c_get_915e3 2 = .ok (.getfield 48, 3) := by decide +kernel
theorem dJx4a65c_get_915e3_5 : decode cJx4a65c_get_915e3 5 = .ok (.invokestatic 118, 3) := by decide +kernel
theorem dJx4a65c_get_915e3_8 : decode cJx4a65c_get_915e3 8 = .ok (.pop, 1) := by decide +kernel
theorem dJx4a65c_get_915e3_9 : decode cJx4a65c_get_915e3 9 = .ok (.aload_n 0, 1) := by decide +kernel
theorem dJx4a65c_get_915e3_10 : decode cJx4a65c_get_915e3 10 = .ok (.iload_n 1, 1) := by decide +kernel
theorem dJx4a65c_get_915e3_11 : decode cJx4a65c_get_915e3 11 = .ok (.invokevirtual 123, 3) := by decide +kernel
theorem dJx4a65c_get_915e3_14 : decode cJx4a65c_get_915e3 14 = .ok (.areturn, 1) := by decide +kernel
theorem dJx4a65c_add_72be8_0 : decode cJx4a65c_add_72be8 0 = .ok (.iload_n 3, 1) := by decide +kernel
theorem dJx4a65c_add_72be8_1 : decode cJx4a65c_add_72be8 1 = .ok (.aload_n 2, 1) := by decide +kernel
theorem dJx4a65c_add_72be8_2 : decode cJx4a65c_add_72be8 2 = .ok (.arraylength, 1) := by decide +kernel
theorem dJx4a65c_add_72be8_3 : decode cJx4a65c_add_72be8 3 = .ok (.if_icmp .ne 8, 3) := by decide +kernel
theorem dJx4a65c_add_72be8_6 : decode cJx4a65c_add_72be8 6 = .ok (.aload_n 0, 1) := by decide +kernel
theorem dJx4a65c_add_72be8_7 : decode cJx4a65c_add_72be8 7 = .ok (.invokevirtual 129, 3) := by decide +kernel
theorem dJx4a65c_add_72be8_10 : decode cJx4a65c_add_72be8 10 = .ok (.astore_n 2, 1) := by decide +kernel
theorem dJx4a65c_add_72be8_11 : decode cJx4a65c_add_72be8 11 = .ok (.aload_n 2, 1) := by decide +kernel
theorem dJx4a65c_add_72be8_12 : decode cJx4a65c_add_72be8 12 = .ok (.iload_n 3, 1) := by decide +kernel
theorem dJx4a65c_add_72be8_13 : decode cJx4a65c_add_72be8 13 = .ok (.aload_n 1, 1) := by decide +kernel
theorem dJx4a65c_add_72be8_14 : decode cJx4a65c_add_72be8 14 = .ok (.aastore, 1) := by decide +kernel
theorem dJx4a65c_add_72be8_15 : decode cJx4a65c_add_72be8 15 = .ok (.aload_n 0, 1) := by decide +kernel
theorem dJx4a65c_add_72be8_16 : decode cJx4a65c_add_72be8 16 = .ok (.iload_n 3, 1) := by decide +kernel
theorem dJx4a65c_add_72be8_17 : decode cJx4a65c_add_72be8 17 = .ok (.iconst 1, 1) := by decide +kernel
theorem dJx4a65c_add_72be8_18 : decode cJx4a65c_add_72be8 18 = .ok (.iadd, 1) := by decide +kernel
theorem dJx4a65c_add_72be8_19 : decode cJx4a65c_add_72be8 19 = .ok (.putfield 48, 3) := by decide +kernel
theorem dJx4a65c_add_72be8_22 : decode cJx4a65c_add_72be8 22 = .ok (.return_, 1) := by decide +kernel
theorem dJx4a65c_add_9ea2d_0 : decode cJx4a65c_add_9ea2d 0 = .ok (.aload_n 0, 1) := by decide +kernel
theorem dJx4a65c_add_9ea2d_1 : decode cJx4a65c_add_9ea2d 1 = .ok (.dup, 1) := by decide +kernel
theorem dJx4a65c_add_9ea2d_2 : decode cJx4a65c_add_9ea2d 2 = .ok (.getfield 63, 3) := by decide +kernel
theorem dJx4a65c_add_9ea2d_5 : decode cJx4a65c_add_9ea2d 5 = .ok (.iconst 1, 1) := by decide +kernel
theorem dJx4a65c_add_9ea2d_6 : decode cJx4a65c_add_9ea2d 6 = .ok (.iadd, 1) := by decide +kernel
theorem dJx4a65c_add_9ea2d_7 : decode cJx4a65c_add_9ea2d 7 = .ok (.putfield 63, 3) := by decide +kernel
theorem dJx4a65c_add_9ea2d_10 : decode cJx4a65c_add_9ea2d 10 = .ok (.aload_n 0, 1) := by decide +kernel
theorem dJx4a65c_add_9ea2d_11 : decode cJx4a65c_add_9ea2d 11 = .ok (.aload_n 1, 1) := by decide +kernel
theorem dJx4a65c_add_9ea2d_12 : decode cJx4a65c_add_9ea2d 12 = .ok (.aload_n 0, 1) := by decide +kernel
theorem dJx4a65c_add_9ea2d_13 : decode cJx4a65c_add_9ea2d 13 = .ok (.getfield 9, 3) := by decide +kernel
theorem dJx4a65c_add_9ea2d_16 : decode cJx4a65c_add_9ea2d 16 = .ok (.aload_n 0, 1) := by decide +kernel
theorem dJx4a65c_add_9ea2d_17 : decode cJx4a65c_add_9ea2d 17 = .ok (.getfield 48, 3) := by decide +kernel
theorem dJx4a65c_add_9ea2d_20 : decode cJx4a65c_add_9ea2d 20 = .ok (.invokevirtual 131, 3) := by decide +kernel
theorem dJx4a65c_add_9ea2d_23 : decode cJx4a65c_add_9ea2d 23 = .ok (.iconst 1, 1) := by decide +kernel
theorem dJx4a65c_add_9ea2d_24 : decode cJx4a65c_add_9ea2d 24 = .ok (.ireturn, 1) := by decide +kernel
theorem dJ7_copyOf_1904c_0 : decode cJ7_copyOf_1904c 0 = .ok (.aload_n 0, 1) := by decide +kernel
theorem dJ7_copyOf_1904c_1 : decode cJ7_copyOf_1904c 1 = .ok (.iload_n 1, 1) := by decide +kernel
theorem dJ7_copyOf_1904c_2 : decode cJ7_copyOf_1904c 2 = .ok (.aload_n 0, 1) := by decide +kernel
theorem dJ7_copyOf_1904c_3 : decode cJ7_copyOf_1904c 3 = .ok (.invokevirtual 86, 3) := by decide +kernel
theorem dJ7_copyOf_1904c_6 : decode cJ7_copyOf_1904c 6 = .ok (.invokestatic 300, 3) := by decide +kernel
theorem dJ7_copyOf_1904c_9 : decode cJ7_copyOf_1904c 9 = .ok (.areturn, 1) := by decide +kernel
theorem dJ7_copyOf_6403c_0 : decode cJ7_copyOf_6403c 0 = .ok (.aload_n 2, 1) := by decide +kernel
theorem dJ7_copyOf_6403c_1 : decode cJ7_copyOf_6403c 1 = .ok (.ldc 110, 2) := by decide +kernel
theorem dJ7_copyOf_6403c_3 : decode cJ7_copyOf_6403c 3 = .ok (.if_acmp .ne 10, 3) := by decide +kernel
theorem dJ7_copyOf_6403c_6 : decode cJ7_copyOf_6403c 6 = .ok (.iload_n 1, 1) := by decide +kernel
theorem dJ7_copyOf_6403c_7 : decode cJ7_copyOf_6403c 7 = .ok (.anewarray 2, 3) := by decide +kernel
theorem dJ7_copyOf_6403c_10 : decode cJ7_copyOf_6403c 10 = .ok (.goto 14, 3) := by decide +kernel
theorem dJ7_copyOf_6403c_13 : decode cJ7_copyOf_6403c 13 = .ok (.aload_n 2, 1) := by decide +kernel
theorem dJ7_copyOf_6403c_14 : decode cJ7_copyOf_6403c 14 = .ok (.invokevirtual 90, 3) := by decide +kernel
theorem dJ7_copyOf_6403c_17 : decode cJ7_copyOf_6403c 17 = .ok (.iload_n 1, 1) := by decide +kernel
theorem dJ7_copyOf_6403c_18 : decode cJ7_copyOf_6403c 18 = .ok (.invokestatic 95, 3) := by decide +kernel
theorem dJ7_copyOf_6403c_21 : decode cJ7_copyOf_6403c 21 = .ok (.checkcast 110, 3) := by decide +kernel
theorem dJ7_copyOf_6403c_24 : decode cJ7_copyOf_6403c 24 = .ok (.astore_n 3, 1) := by decide +kernel
theorem dJ7_copyOf_6403c_25 : decode cJ7_copyOf_6403c 25 = .ok (.aload_n 0, 1) := by decide +kernel
theorem dJ7_copyOf_6403c_26 : decode cJ7_copyOf_6403c 26 = .ok (.iconst 0, 1) := by decide +kernel
theorem dJ7_copyOf_6403c_27 : decode cJ7_copyOf_6403c 27 = .ok (.aload_n 3, 1) := by decide +kernel
theorem dJ7_copyOf_6403c_28 : decode cJ7_copyOf_6403c 28 = .ok (.iconst 0, 1) := by decide +kernel
theorem dJ7_copyOf_6403c_29 : decode cJ7_copyOf_6403c 29 = .ok (.aload_n 0, 1) := by decide +kernel
theorem dJ7_copyOf_6403c_30 : decode cJ7_copyOf_6403c 30 = .ok (.arraylength, 1) := by decide +kernel
theorem dJ7_copyOf_6403c_31 : decode cJ7_copyOf_6403c 31 = .ok (.iload_n 1, 1) := by decide +kernel
theorem dJ7_copyOf_6403c_32 : decode cJ7_copyOf_6403c 32 = .ok (.invokestatic 304, 3) := by decide +kernel
theorem dJ7_copyOf_6403c_35 : decode cJ7_copyOf_6403c 35 = .ok (.invokestatic 150, 3) := by decide +kernel
theorem dJ7_copyOf_6403c_38 : decode cJ7_copyOf_6403c 38 = .ok (.aload_n 3, 1) := by decide +kernel
theorem dJ7_copyOf_6403c_39 : decode cJ7_copyOf_6403c 39 = .ok (.areturn, 1) := by decide +kernel
theorem dJ15_checkIndex_7cf53_0 : decode cJ15_checkIndex_7cf53 0 = .ok (.iload_n 0, 1) := by decide +kernel
theorem dJ15_checkIndex_7cf53_1 : decode cJ15_checkIndex_7cf53 1 = .ok (.iload_n 1, 1) := by decide +kernel
theorem dJ15_checkIndex_7cf53_2 : decode cJ15_checkIndex_7cf53 2 = .ok (.aconst_null, 1) := by decide +kernel
theorem dJ15_checkIndex_7cf53_3 : decode cJ15_checkIndex_7cf53 3 = .ok (.invokestatic 105, 3) := by decide +kernel
theorem dJ15_checkIndex_7cf53_6 : decode cJ15_checkIndex_7cf53 6 = .ok (.ireturn, 1) := by decide +kernel
theorem dJ8_newLength_cabcc_0 : decode cJ8_newLength_cabcc 0 = .ok (.iload_n 0, 1) := by decide +kernel
theorem dJ8_newLength_cabcc_1 : decode cJ8_newLength_cabcc 1 = .ok (.iload_n 1, 1) := by decide +kernel
theorem dJ8_newLength_cabcc_2 : decode cJ8_newLength_cabcc 2 = .ok (.iload_n 2, 1) := by decide +kernel
theorem dJ8_newLength_cabcc_3 : decode cJ8_newLength_cabcc 3 = .ok (.invokestatic 194, 3) := by decide +kernel
theorem dJ8_newLength_cabcc_6 : decode cJ8_newLength_cabcc 6 = .ok (.iadd, 1) := by decide +kernel
theorem dJ8_newLength_cabcc_7 : decode cJ8_newLength_cabcc 7 = .ok (.istore_n 3, 1) := by decide +kernel
theorem dJ8_newLength_cabcc_8 : decode cJ8_newLength_cabcc 8 = .ok (.iconst 0, 1) := by decide +kernel
theorem dJ8_newLength_cabcc_9 : decode cJ8_newLength_cabcc 9 = .ok (.iload_n 3, 1) := by decide +kernel
theorem dJ8_newLength_cabcc_10 : decode cJ8_newLength_cabcc 10 = .ok (.if_icmp .ge 11, 3) := by decide +kernel
theorem dJ8_newLength_cabcc_13 : decode cJ8_newLength_cabcc 13 = .ok (.iload_n 3, 1) := by decide +kernel
theorem dJ8_newLength_cabcc_14 : decode cJ8_newLength_cabcc 14 = .ok (.ldc 200, 2) := by decide +kernel
theorem dJ8_newLength_cabcc_16 : decode cJ8_newLength_cabcc 16 = .ok (.if_icmp .gt 5, 3) := by decide +kernel
theorem dJ8_newLength_cabcc_19 : decode cJ8_newLength_cabcc 19 = .ok (.iload_n 3, 1) := by decide +kernel
theorem dJ8_newLength_cabcc_20 : decode cJ8_newLength_cabcc 20 = .ok (.ireturn, 1) := by decide +kernel
theorem dJ8_newLength_cabcc_21 : decode cJ8_newLength_cabcc 21 = .ok (.iload_n 0, 1) := by decide +kernel
theorem dJ8_newLength_cabcc_22 : decode cJ8_newLength_cabcc 22 = .ok (.iload_n 1, 1) := by decide +kernel
theorem dJ8_newLength_cabcc_23 : decode cJ8_newLength_cabcc 23 = .ok (.invokestatic 201, 3) := by decide +kernel
theorem dJ8_newLength_cabcc_26 : decode cJ8_newLength_cabcc 26 = .ok (.ireturn, 1) := by decide +kernel
theorem dJ8_hugeLength_7cf53_0 : decode cJ8_hugeLength_7cf53 0 = .ok (.iload_n 0, 1) := by decide +kernel
theorem dJ8_hugeLength_7cf53_1 : decode cJ8_hugeLength_7cf53 1 = .ok (.iload_n 1, 1) := by decide +kernel
theorem dJ8_hugeLength_7cf53_2 : decode cJ8_hugeLength_7cf53 2 = .ok (.iadd, 1) := by decide +kernel
theorem dJ8_hugeLength_7cf53_3 : decode cJ8_hugeLength_7cf53 3 = .ok (.istore_n 2, 1) := by decide +kernel
theorem dJ8_hugeLength_7cf53_4 : decode cJ8_hugeLength_7cf53 4 = .ok (.iload_n 2, 1) := by decide +kernel
theorem dJ8_hugeLength_7cf53_5 : decode cJ8_hugeLength_7cf53 5 = .ok (.ifCond .ge 44, 3) := by decide +kernel
theorem dJ8_hugeLength_7cf53_8 : decode cJ8_hugeLength_7cf53 8 = .ok (.new 204, 3) := by decide +kernel
theorem dJ8_hugeLength_7cf53_11 : decode cJ8_hugeLength_7cf53 11 = .ok (.dup, 1) := by decide +kernel
theorem dJ8_hugeLength_7cf53_12 : decode cJ8_hugeLength_7cf53 12 = .ok (.new 89, 3) := by decide +kernel
theorem dJ8_hugeLength_7cf53_15 : decode cJ8_hugeLength_7cf53 15 = .ok (.dup, 1) := by decide +kernel
theorem dJ8_hugeLength_7cf53_16 : decode cJ8_hugeLength_7cf53 16 = .ok (.invokespecial 91, 3) := by decide +kernel
theorem dJ8_hugeLength_7cf53_19 : decode cJ8_hugeLength_7cf53 19 = .ok (.ldc 206, 2) := by decide +kernel
theorem dJ8_hugeLength_7cf53_21 : decode cJ8_hugeLength_7cf53 21 = .ok (.invokevirtual 94, 3) := by decide +kernel
theorem dJ8_hugeLength_7cf53_24 : decode cJ8_hugeLength_7cf53 24 = .ok (.iload_n 0, 1) := by decide +kernel
theorem dJ8_hugeLength_7cf53_25 : decode cJ8_hugeLength_7cf53 25 = .ok (.invokevirtual 98, 3) := by decide +kernel
theorem dJ8_hugeLength_7cf53_28 : decode cJ8_hugeLength_7cf53 28 = .ok (.ldc 208, 2) := by decide +kernel
theorem dJ8_hugeLength_7cf53_30 : decode cJ8_hugeLength_7cf53 30 = .ok (.invokevirtual 94, 3) := by decide +kernel
theorem dJ8_hugeLength_7cf53_33 : decode cJ8_hugeLength_7cf53 33 = .ok (.iload_n 1, 1) := by decide +kernel
theorem dJ8_hugeLength_7cf53_34 : decode cJ8_hugeLength_7cf53 34 = .ok (.invokevirtual 98, 3) := by decide +kernel
theorem dJ8_hugeLength_7cf53_37 : decode cJ8_hugeLength_7cf53 37 = .ok (.ldc 210, 2) := by decide +kernel
theorem dJ8_hugeLength_7cf53_39 : decode cJ8_hugeLength_7cf53 39 = .ok (.invokevirtual 94, 3) := by decide +kernel
theorem dJ8_hugeLength_7cf53_42 : decode cJ8_hugeLength_7cf53 42 = .ok (.invokevirtual 101, 3) := by decide +kernel
theorem dJ8_hugeLength_7cf53_45 : decode cJ8_hugeLength_7cf53 45 = .ok (.invokespecial 212, 3) := by decide +kernel
theorem dJ8_hugeLength_7cf53_48 : decode cJ8_hugeLength_7cf53 48 = .ok (.athrow, 1) := by decide +kernel
theorem dJ8_hugeLength_7cf53_49 : decode cJ8_hugeLength_7cf53 49 = .ok (.iload_n 2, 1) := by decide +kernel
theorem dJ8_hugeLength_7cf53_50 : decode cJ8_hugeLength_7cf53 50 = .ok (.ldc 200, 2) := by decide +kernel
theorem dJ8_hugeLength_7cf53_52 : decode cJ8_hugeLength_7cf53 52 = .ok (.if_icmp .gt 6, 3) := by decide +kernel
theorem dJ8_hugeLength_7cf53_55 : decode cJ8_hugeLength_7cf53 55 = .ok (.ldc 200, 2) := by decide +kernel
theorem dJ8_hugeLength_7cf53_57 : decode cJ8_hugeLength_7cf53 57 = .ok (.ireturn, 1) := by decide +kernel
theorem dJ8_hugeLength_7cf53_58 : decode cJ8_hugeLength_7cf53 58 = .ok (.iload_n 2, 1) := by decide +kernel
theorem dJ8_hugeLength_7cf53_59 : decode cJ8_hugeLength_7cf53 59 = .ok (.ireturn, 1) := by decide +kernel
theorem dJ3_checkIndex_8e157_0 : decode cJ3_checkIndex_8e157 0 = .ok (.iload_n 0, 1) := by decide +kernel
theorem dJ3_checkIndex_8e157_1 : decode cJ3_checkIndex_8e157 1 = .ok (.ifCond .lt 8, 3) := by decide +kernel
theorem dJ3_checkIndex_8e157_4 : decode cJ3_checkIndex_8e157 4 = .ok (.iload_n 0, 1) := by decide +kernel
theorem dJ3_checkIndex_8e157_5 : decode cJ3_checkIndex_8e157 5 = .ok (.iload_n 1, 1) := by decide +kernel
theorem dJ3_checkIndex_8e157_6 : decode cJ3_checkIndex_8e157 6 = .ok (.if_icmp .lt 10, 3) := by decide +kernel
theorem dJ3_checkIndex_8e157_9 : decode cJ3_checkIndex_8e157 9 = .ok (.aload_n 2, 1) := by decide +kernel
theorem dJ3_checkIndex_8e157_10 : decode cJ3_checkIndex_8e157 10 = .ok (.iload_n 0, 1) := by decide +kernel
theorem dJ3_checkIndex_8e157_11 : decode cJ3_checkIndex_8e157 11 = .ok (.iload_n 1, 1) := by decide +kernel
theorem dJ3_checkIndex_8e157_12 : decode cJ3_checkIndex_8e157 12 = .ok (.invokestatic 95, 3) := by decide +kernel
theorem dJ3_checkIndex_8e157_15 : decode cJ3_checkIndex_8e157 15 = .ok (.athrow, 1) := by decide +kernel
theorem dJ3_checkIndex_8e157_16 : decode cJ3_checkIndex_8e157 16 = .ok (.iload_n 0, 1) := by decide +kernel
theorem dJ3_checkIndex_8e157_17 : decode cJ3_checkIndex_8e157 17 = .ok (.ireturn, 1) := by decide +kernel
end
section
theorem dL_law_0 : decode cL_law 0 = .ok (.new 8, 3) := by decide +kernel
theorem dL_law_3 : decode cL_law 3 = .ok (.dup, 1) := by decide +kernel
theorem dL_law_4 : decode cL_law 4 = .ok (.invokespecial 90, 3) := by decide +kernel
theorem dL_law_7 : decode cL_law 7 = .ok (.astore_n 1, 1) := by decide +kernel
theorem dL_law_8 : decode cL_law 8 = .ok (.new 91, 3) := by decide +kernel
theorem dL_law_11 : decode cL_law 11 = .ok (.dup, 1) := by decide +kernel
theorem dL_law_12 : decode cL_law 12 = .ok (.invokespecial 93, 3) := by decide +kernel
theorem dL_law_15 : decode cL_law 15 = .ok (.astore_n 2, 1) := by decide +kernel
theorem dL_law_16 : decode cL_law 16 = .ok (.iconst 1, 1) := by decide +kernel
theorem dL_law_17 : decode cL_law 17 = .ok (.newarray .long, 2) := by decide +kernel
theorem dL_law_19 : decode cL_law 19 = .ok (.astore_n 3, 1) := by decide +kernel
theorem dL_law_20 : decode cL_law 20 = .ok (.iconst 0, 1) := by decide +kernel
theorem dL_law_21 : decode cL_law 21 = .ok (.istore 4, 2) := by decide +kernel
theorem dL_law_23 : decode cL_law 23 = .ok (.iload 4, 2) := by decide +kernel
theorem dL_law_25 : decode cL_law 25 = .ok (.aload_n 0, 1) := by decide +kernel
theorem dL_law_26 : decode cL_law 26 = .ok (.arraylength, 1) := by decide +kernel
theorem dL_law_27 : decode cL_law 27 = .ok (.bipush 6, 2) := by decide +kernel
theorem dL_law_29 : decode cL_law 29 = .ok (.isub, 1) := by decide +kernel
theorem dL_law_30 : decode cL_law 30 = .ok (.if_icmp .gt 1618, 3) := by decide +kernel
theorem dL_law_33 : decode cL_law 33 = .ok (.aload_n 0, 1) := by decide +kernel
theorem dL_law_34 : decode cL_law 34 = .ok (.iload 4, 2) := by decide +kernel
theorem dL_law_36 : decode cL_law 36 = .ok (.iaload, 1) := by decide +kernel
theorem dL_law_37 : decode cL_law 37 = .ok (.bipush 31, 2) := by decide +kernel
theorem dL_law_39 : decode cL_law 39 = .ok (.iand, 1) := by decide +kernel
theorem dL_law_40 : decode cL_law 40 = .ok (.tableswitch 1602 0 24 #[116, 160, 264, 332, 412, 468, 536, 604, 660, 716, 776, 832, 888, 944, 957, 1025, 1081, 1094, 1150, 1206, 1274, 1349, 1429, 1509, 1589], 116) := by decide +kernel
theorem dL_law_156 : decode cL_law 156 = .ok (.aload_n 1, 1) := by decide +kernel
theorem dL_law_157 : decode cL_law 157 = .ok (.aload_n 3, 1) := by decide +kernel
theorem dL_law_158 : decode cL_law 158 = .ok (.invokestatic 94, 3) := by decide +kernel
theorem dL_law_161 : decode cL_law 161 = .ok (.istore 5, 2) := by decide +kernel
theorem dL_law_163 : decode cL_law 163 = .ok (.aload_n 2, 1) := by decide +kernel
theorem dL_law_164 : decode cL_law 164 = .ok (.invokevirtual 99, 3) := by decide +kernel
theorem dL_law_167 : decode cL_law 167 = .ok (.istore 6, 2) := by decide +kernel
theorem dL_law_169 : decode cL_law 169 = .ok (.aload_n 2, 1) := by decide +kernel
theorem dL_law_170 : decode cL_law 170 = .ok (.invokevirtual 100, 3) := by decide +kernel
theorem dL_law_173 : decode cL_law 173 = .ok (.iload 5, 2) := by decide +kernel
theorem dL_law_175 : decode cL_law 175 = .ok (.if_icmp .eq 5, 3) := by decide +kernel
theorem dL_law_178 : decode cL_law 178 = .ok (.iconst 0, 1) := by decide +kernel
theorem dL_law_179 : decode cL_law 179 = .ok (.ireturn, 1) := by decide +kernel
theorem dL_law_180 : decode cL_law 180 = .ok (.iload 5, 2) := by decide +kernel
theorem dL_law_182 : decode cL_law 182 = .ok (.ifCond .ne 15, 3) := by decide +kernel
theorem dL_law_185 : decode cL_law 185 = .ok (.aload_n 3, 1) := by decide +kernel
theorem dL_law_186 : decode cL_law 186 = .ok (.iconst 0, 1) := by decide +kernel
theorem dL_law_187 : decode cL_law 187 = .ok (.laload, 1) := by decide +kernel
theorem dL_law_188 : decode cL_law 188 = .ok (.iload 6, 2) := by decide +kernel
theorem dL_law_190 : decode cL_law 190 = .ok (.i2l, 1) := by decide +kernel
theorem dL_law_191 : decode cL_law 191 = .ok (.lcmp, 1) := by decide +kernel
theorem dL_law_192 : decode cL_law 192 = .ok (.ifCond .eq 5, 3) := by decide +kernel
theorem dL_law_195 : decode cL_law 195 = .ok (.iconst 0, 1) := by decide +kernel
theorem dL_law_196 : decode cL_law 196 = .ok (.ireturn, 1) := by decide +kernel
theorem dL_law_197 : decode cL_law 197 = .ok (.goto 1445, 3) := by decide +kernel
theorem dL_law_200 : decode cL_law 200 = .ok (.aload_n 1, 1) := by decide +kernel
theorem dL_law_201 : decode cL_law 201 = .ok (.aload_n 0, 1) := by decide +kernel
theorem dL_law_202 : decode cL_law 202 = .ok (.iload 4, 2) := by decide +kernel
theorem dL_law_204 : decode cL_law 204 = .ok (.iconst 1, 1) := by decide +kernel
theorem dL_law_205 : decode cL_law 205 = .ok (.iadd, 1) := by decide +kernel
theorem dL_law_206 : decode cL_law 206 = .ok (.iaload, 1) := by decide +kernel
theorem dL_law_207 : decode cL_law 207 = .ok (.aload_n 0, 1) := by decide +kernel
theorem dL_law_208 : decode cL_law 208 = .ok (.iload 4, 2) := by decide +kernel
theorem dL_law_210 : decode cL_law 210 = .ok (.iconst 2, 1) := by decide +kernel
theorem dL_law_211 : decode cL_law 211 = .ok (.iadd, 1) := by decide +kernel
theorem dL_law_212 : decode cL_law 212 = .ok (.iaload, 1) := by decide +kernel
theorem dL_law_213 : decode cL_law 213 = .ok (.aload_n 0, 1) := by decide +kernel
theorem dL_law_214 : decode cL_law 214 = .ok (.iload 4, 2) := by decide +kernel
theorem dL_law_216 : decode cL_law 216 = .ok (.iconst 3, 1) := by decide +kernel
theorem dL_law_217 : decode cL_law 217 = .ok (.iadd, 1) := by decide +kernel
theorem dL_law_218 : decode cL_law 218 = .ok (.iaload, 1) := by decide +kernel
theorem dL_law_219 : decode cL_law 219 = .ok (.aload_n 0, 1) := by decide +kernel
theorem dL_law_220 : decode cL_law 220 = .ok (.iload 4, 2) := by decide +kernel
theorem dL_law_222 : decode cL_law 222 = .ok (.iconst 4, 1) := by decide +kernel
theorem dL_law_223 : decode cL_law 223 = .ok (.iadd, 1) := by decide +kernel
theorem dL_law_224 : decode cL_law 224 = .ok (.iaload, 1) := by decide +kernel
theorem dL_law_225 : decode cL_law 225 = .ok (.aload_n 0, 1) := by decide +kernel
theorem dL_law_226 : decode cL_law 226 = .ok (.iload 4, 2) := by decide +kernel
theorem dL_law_228 : decode cL_law 228 = .ok (.iconst 5, 1) := by decide +kernel
theorem dL_law_229 : decode cL_law 229 = .ok (.iadd, 1) := by decide +kernel
theorem dL_law_230 : decode cL_law 230 = .ok (.iaload, 1) := by decide +kernel
theorem dL_law_231 : decode cL_law 231 = .ok (.aload_n 3, 1) := by decide +kernel
theorem dL_law_232 : decode cL_law 232 = .ok (.invokestatic 103, 3) := by decide +kernel
theorem dL_law_235 : decode cL_law 235 = .ok (.istore 5, 2) := by decide +kernel
theorem dL_law_237 : decode cL_law 237 = .ok (.aload_n 2, 1) := by decide +kernel
theorem dL_law_238 : decode cL_law 238 = .ok (.aload_n 0, 1) := by decide +kernel
theorem dL_law_239 : decode cL_law 239 = .ok (.iload 4, 2) := by decide +kernel
theorem dL_law_241 : decode cL_law 241 = .ok (.iconst 1, 1) := by decide +kernel
theorem dL_law_242 : decode cL_law 242 = .ok (.iadd, 1) := by decide +kernel
theorem dL_law_243 : decode cL_law 243 = .ok (.iaload, 1) := by decide +kernel
theorem dL_law_244 : decode cL_law 244 = .ok (.aload_n 0, 1) := by decide +kernel
theorem dL_law_245 : decode cL_law 245 = .ok (.iload 4, 2) := by decide +kernel
theorem dL_law_247 : decode cL_law 247 = .ok (.iconst 2, 1) := by decide +kernel
theorem dL_law_248 : decode cL_law 248 = .ok (.iadd, 1) := by decide +kernel
theorem dL_law_249 : decode cL_law 249 = .ok (.iaload, 1) := by decide +kernel
theorem dL_law_250 : decode cL_law 250 = .ok (.aload_n 0, 1) := by decide +kernel
theorem dL_law_251 : decode cL_law 251 = .ok (.iload 4, 2) := by decide +kernel
theorem dL_law_253 : decode cL_law 253 = .ok (.iconst 3, 1) := by decide +kernel
theorem dL_law_254 : decode cL_law 254 = .ok (.iadd, 1) := by decide +kernel
theorem dL_law_255 : decode cL_law 255 = .ok (.iaload, 1) := by decide +kernel
theorem dL_law_256 : decode cL_law 256 = .ok (.aload_n 0, 1) := by decide +kernel
theorem dL_law_257 : decode cL_law 257 = .ok (.iload 4, 2) := by decide +kernel
theorem dL_law_259 : decode cL_law 259 = .ok (.iconst 4, 1) := by decide +kernel
theorem dL_law_260 : decode cL_law 260 = .ok (.iadd, 1) := by decide +kernel
theorem dL_law_261 : decode cL_law 261 = .ok (.iaload, 1) := by decide +kernel
theorem dL_law_262 : decode cL_law 262 = .ok (.aload_n 0, 1) := by decide +kernel
theorem dL_law_263 : decode cL_law 263 = .ok (.iload 4, 2) := by decide +kernel
theorem dL_law_265 : decode cL_law 265 = .ok (.iconst 5, 1) := by decide +kernel
theorem dL_law_266 : decode cL_law 266 = .ok (.iadd, 1) := by decide +kernel
theorem dL_law_267 : decode cL_law 267 = .ok (.iaload, 1) := by decide +kernel
theorem dL_law_268 : decode cL_law 268 = .ok (.invokevirtual 106, 3) := by decide +kernel
theorem dL_law_271 : decode cL_law 271 = .ok (.istore 6, 2) := by decide +kernel
theorem dL_law_273 : decode cL_law 273 = .ok (.aload_n 2, 1) := by decide +kernel
theorem dL_law_274 : decode cL_law 274 = .ok (.invokevirtual 100, 3) := by decide +kernel
theorem dL_law_277 : decode cL_law 277 = .ok (.iload 5, 2) := by decide +kernel
theorem dL_law_279 : decode cL_law 279 = .ok (.if_icmp .eq 5, 3) := by decide +kernel
theorem dL_law_282 : decode cL_law 282 = .ok (.iconst 0, 1) := by decide +kernel
theorem dL_law_283 : decode cL_law 283 = .ok (.ireturn, 1) := by decide +kernel
theorem dL_law_284 : decode cL_law 284 = .ok (.iload 5, 2) := by decide +kernel
theorem dL_law_286 : decode cL_law 286 = .ok (.ifCond .ne 15, 3) := by decide +kernel
theorem dL_law_289 : decode cL_law 289 = .ok (.aload_n 3, 1) := by decide +kernel
theorem dL_law_290 : decode cL_law 290 = .ok (.iconst 0, 1) := by decide +kernel
theorem dL_law_291 : decode cL_law 291 = .ok (.laload, 1) := by decide +kernel
theorem dL_law_292 : decode cL_law 292 = .ok (.iload 6, 2) := by decide +kernel
theorem dL_law_294 : decode cL_law 294 = .ok (.i2l, 1) := by decide +kernel
theorem dL_law_295 : decode cL_law 295 = .ok (.lcmp, 1) := by decide +kernel
theorem dL_law_296 : decode cL_law 296 = .ok (.ifCond .eq 5, 3) := by decide +kernel
theorem dL_law_299 : decode cL_law 299 = .ok (.iconst 0, 1) := by decide +kernel
theorem dL_law_300 : decode cL_law 300 = .ok (.ireturn, 1) := by decide +kernel
theorem dL_law_301 : decode cL_law 301 = .ok (.goto 1341, 3) := by decide +kernel
theorem dL_law_304 : decode cL_law 304 = .ok (.aload_n 1, 1) := by decide +kernel
theorem dL_law_305 : decode cL_law 305 = .ok (.aload_n 0, 1) := by decide +kernel
theorem dL_law_306 : decode cL_law 306 = .ok (.iload 4, 2) := by decide +kernel
theorem dL_law_308 : decode cL_law 308 = .ok (.iconst 1, 1) := by decide +kernel
theorem dL_law_309 : decode cL_law 309 = .ok (.iadd, 1) := by decide +kernel
theorem dL_law_310 : decode cL_law 310 = .ok (.iaload, 1) := by decide +kernel
theorem dL_law_311 : decode cL_law 311 = .ok (.aload_n 0, 1) := by decide +kernel
theorem dL_law_312 : decode cL_law 312 = .ok (.iload 4, 2) := by decide +kernel
theorem dL_law_314 : decode cL_law 314 = .ok (.iconst 2, 1) := by decide +kernel
theorem dL_law_315 : decode cL_law 315 = .ok (.iadd, 1) := by decide +kernel
theorem dL_law_316 : decode cL_law 316 = .ok (.iaload, 1) := by decide +kernel
theorem dL_law_317 : decode cL_law 317 = .ok (.aload_n 3, 1) := by decide +kernel
theorem dL_law_318 : decode cL_law 318 = .ok (.invokestatic 107, 3) := by decide +kernel
theorem dL_law_321 : decode cL_law 321 = .ok (.istore 5, 2) := by decide +kernel
theorem dL_law_323 : decode cL_law 323 = .ok (.aload_n 2, 1) := by decide +kernel
theorem dL_law_324 : decode cL_law 324 = .ok (.aload_n 0, 1) := by decide +kernel
theorem dL_law_325 : decode cL_law 325 = .ok (.iload 4, 2) := by decide +kernel
theorem dL_law_327 : decode cL_law 327 = .ok (.iconst 1, 1) := by decide +kernel
theorem dL_law_328 : decode cL_law 328 = .ok (.iadd, 1) := by decide +kernel
theorem dL_law_329 : decode cL_law 329 = .ok (.iaload, 1) := by decide +kernel
theorem dL_law_330 : decode cL_law 330 = .ok (.aload_n 0, 1) := by decide +kernel
theorem dL_law_331 : decode cL_law 331 = .ok (.iload 4, 2) := by decide +kernel
theorem dL_law_333 : decode cL_law 333 = .ok (.iconst 2, 1) := by decide +kernel
theorem dL_law_334 : decode cL_law 334 = .ok (.iadd, 1) := by decide +kernel
theorem dL_law_335 : decode cL_law 335 = .ok (.iaload, 1) := by decide +kernel
theorem dL_law_336 : decode cL_law 336 = .ok (.invokevirtual 110, 3) := by decide +kernel
theorem dL_law_339 : decode cL_law 339 = .ok (.istore 6, 2) := by decide +kernel
theorem dL_law_341 : decode cL_law 341 = .ok (.aload_n 2, 1) := by decide +kernel
theorem dL_law_342 : decode cL_law 342 = .ok (.invokevirtual 100, 3) := by decide +kernel
theorem dL_law_345 : decode cL_law 345 = .ok (.iload 5, 2) := by decide +kernel
theorem dL_law_347 : decode cL_law 347 = .ok (.if_icmp .eq 5, 3) := by decide +kernel
theorem dL_law_350 : decode cL_law 350 = .ok (.iconst 0, 1) := by decide +kernel
theorem dL_law_351 : decode cL_law 351 = .ok (.ireturn, 1) := by decide +kernel
theorem dL_law_352 : decode cL_law 352 = .ok (.iload 5, 2) := by decide +kernel
theorem dL_law_354 : decode cL_law 354 = .ok (.ifCond .ne 15, 3) := by decide +kernel
theorem dL_law_357 : decode cL_law 357 = .ok (.aload_n 3, 1) := by decide +kernel
theorem dL_law_358 : decode cL_law 358 = .ok (.iconst 0, 1) := by decide +kernel
theorem dL_law_359 : decode cL_law 359 = .ok (.laload, 1) := by decide +kernel
theorem dL_law_360 : decode cL_law 360 = .ok (.iload 6, 2) := by decide +kernel
theorem dL_law_362 : decode cL_law 362 = .ok (.i2l, 1) := by decide +kernel
theorem dL_law_363 : decode cL_law 363 = .ok (.lcmp, 1) := by decide +kernel
theorem dL_law_364 : decode cL_law 364 = .ok (.ifCond .eq 5, 3) := by decide +kernel
theorem dL_law_367 : decode cL_law 367 = .ok (.iconst 0, 1) := by decide +kernel
theorem dL_law_368 : decode cL_law 368 = .ok (.ireturn, 1) := by decide +kernel
theorem dL_law_369 : decode cL_law 369 = .ok (.goto 1273, 3) := by decide +kernel
theorem dL_law_372 : decode cL_law 372 = .ok (.aload_n 1, 1) := by decide +kernel
theorem dL_law_373 : decode cL_law 373 = .ok (.aload_n 0, 1) := by decide +kernel
theorem dL_law_374 : decode cL_law 374 = .ok (.iload 4, 2) := by decide +kernel
theorem dL_law_376 : decode cL_law 376 = .ok (.iconst 1, 1) := by decide +kernel
theorem dL_law_377 : decode cL_law 377 = .ok (.iadd, 1) := by decide +kernel
theorem dL_law_378 : decode cL_law 378 = .ok (.iaload, 1) := by decide +kernel
theorem dL_law_379 : decode cL_law 379 = .ok (.aload_n 0, 1) := by decide +kernel
theorem dL_law_380 : decode cL_law 380 = .ok (.iload 4, 2) := by decide +kernel
theorem dL_law_382 : decode cL_law 382 = .ok (.iconst 2, 1) := by decide +kernel
theorem dL_law_383 : decode cL_law 383 = .ok (.iadd, 1) := by decide +kernel
theorem dL_law_384 : decode cL_law 384 = .ok (.iaload, 1) := by decide +kernel
theorem dL_law_385 : decode cL_law 385 = .ok (.aload_n 0, 1) := by decide +kernel
theorem dL_law_386 : decode cL_law 386 = .ok (.iload 4, 2) := by decide +kernel
theorem dL_law_388 : decode cL_law 388 = .ok (.iconst 3, 1) := by decide +kernel
theorem dL_law_389 : decode cL_law 389 = .ok (.iadd, 1) := by decide +kernel
theorem dL_law_390 : decode cL_law 390 = .ok (.iaload, 1) := by decide +kernel
theorem dL_law_391 : decode cL_law 391 = .ok (.aload_n 3, 1) := by decide +kernel
theorem dL_law_392 : decode cL_law 392 = .ok (.invokestatic 111, 3) := by decide +kernel
theorem dL_law_395 : decode cL_law 395 = .ok (.istore 5, 2) := by decide +kernel
theorem dL_law_397 : decode cL_law 397 = .ok (.aload_n 2, 1) := by decide +kernel
theorem dL_law_398 : decode cL_law 398 = .ok (.aload_n 0, 1) := by decide +kernel
theorem dL_law_399 : decode cL_law 399 = .ok (.iload 4, 2) := by decide +kernel
theorem dL_law_401 : decode cL_law 401 = .ok (.iconst 1, 1) := by decide +kernel
theorem dL_law_402 : decode cL_law 402 = .ok (.iadd, 1) := by decide +kernel
theorem dL_law_403 : decode cL_law 403 = .ok (.iaload, 1) := by decide +kernel
theorem dL_law_404 : decode cL_law 404 = .ok (.aload_n 0, 1) := by decide +kernel
theorem dL_law_405 : decode cL_law 405 = .ok (.iload 4, 2) := by decide +kernel
theorem dL_law_407 : decode cL_law 407 = .ok (.iconst 2, 1) := by decide +kernel
theorem dL_law_408 : decode cL_law 408 = .ok (.iadd, 1) := by decide +kernel
theorem dL_law_409 : decode cL_law 409 = .ok (.iaload, 1) := by decide +kernel
theorem dL_law_410 : decode cL_law 410 = .ok (.aload_n 0, 1) := by decide +kernel
theorem dL_law_411 : decode cL_law 411 = .ok (.iload 4, 2) := by decide +kernel
theorem dL_law_413 : decode cL_law 413 = .ok (.iconst 3, 1) := by decide +kernel
theorem dL_law_414 : decode cL_law 414 = .ok (.iadd, 1) := by decide +kernel
theorem dL_law_415 : decode cL_law 415 = .ok (.iaload, 1) := by decide +kernel
theorem dL_law_416 : decode cL_law 416 = .ok (.invokevirtual 114, 3) := by decide +kernel
theorem dL_law_419 : decode cL_law 419 = .ok (.istore 6, 2) := by decide +kernel
theorem dL_law_421 : decode cL_law 421 = .ok (.aload_n 2, 1) := by decide +kernel
theorem dL_law_422 : decode cL_law 422 = .ok (.invokevirtual 100, 3) := by decide +kernel
theorem dL_law_425 : decode cL_law 425 = .ok (.iload 5, 2) := by decide +kernel
theorem dL_law_427 : decode cL_law 427 = .ok (.if_icmp .eq 5, 3) := by decide +kernel
theorem dL_law_430 : decode cL_law 430 = .ok (.iconst 0, 1) := by decide +kernel
theorem dL_law_431 : decode cL_law 431 = .ok (.ireturn, 1) := by decide +kernel
theorem dL_law_432 : decode cL_law 432 = .ok (.iload 5, 2) := by decide +kernel
theorem dL_law_434 : decode cL_law 434 = .ok (.ifCond .ne 15, 3) := by decide +kernel
theorem dL_law_437 : decode cL_law 437 = .ok (.aload_n 3, 1) := by decide +kernel
theorem dL_law_438 : decode cL_law 438 = .ok (.iconst 0, 1) := by decide +kernel
theorem dL_law_439 : decode cL_law 439 = .ok (.laload, 1) := by decide +kernel
theorem dL_law_440 : decode cL_law 440 = .ok (.iload 6, 2) := by decide +kernel
theorem dL_law_442 : decode cL_law 442 = .ok (.i2l, 1) := by decide +kernel
theorem dL_law_443 : decode cL_law 443 = .ok (.lcmp, 1) := by decide +kernel
theorem dL_law_444 : decode cL_law 444 = .ok (.ifCond .eq 5, 3) := by decide +kernel
theorem dL_law_447 : decode cL_law 447 = .ok (.iconst 0, 1) := by decide +kernel
theorem dL_law_448 : decode cL_law 448 = .ok (.ireturn, 1) := by decide +kernel
theorem dL_law_449 : decode cL_law 449 = .ok (.goto 1193, 3) := by decide +kernel
theorem dL_law_452 : decode cL_law 452 = .ok (.aload_n 1, 1) := by decide +kernel
theorem dL_law_453 : decode cL_law 453 = .ok (.aload_n 0, 1) := by decide +kernel
theorem dL_law_454 : decode cL_law 454 = .ok (.iload 4, 2) := by decide +kernel
theorem dL_law_456 : decode cL_law 456 = .ok (.iconst 1, 1) := by decide +kernel
theorem dL_law_457 : decode cL_law 457 = .ok (.iadd, 1) := by decide +kernel
theorem dL_law_458 : decode cL_law 458 = .ok (.iaload, 1) := by decide +kernel
theorem dL_law_459 : decode cL_law 459 = .ok (.aload_n 3, 1) := by decide +kernel
theorem dL_law_460 : decode cL_law 460 = .ok (.invokestatic 115, 3) := by decide +kernel
theorem dL_law_463 : decode cL_law 463 = .ok (.istore 5, 2) := by decide +kernel
theorem dL_law_465 : decode cL_law 465 = .ok (.aload_n 2, 1) := by decide +kernel
theorem dL_law_466 : decode cL_law 466 = .ok (.aload_n 0, 1) := by decide +kernel
theorem dL_law_467 : decode cL_law 467 = .ok (.iload 4, 2) := by decide +kernel
theorem dL_law_469 : decode cL_law 469 = .ok (.iconst 1, 1) := by decide +kernel
theorem dL_law_470 : decode cL_law 470 = .ok (.iadd, 1) := by decide +kernel
theorem dL_law_471 : decode cL_law 471 = .ok (.iaload, 1) := by decide +kernel
theorem dL_law_472 : decode cL_law 472 = .ok (.invokevirtual 118, 3) := by decide +kernel
theorem dL_law_475 : decode cL_law 475 = .ok (.istore 6, 2) := by decide +kernel
theorem dL_law_477 : decode cL_law 477 = .ok (.aload_n 2, 1) := by decide +kernel
theorem dL_law_478 : decode cL_law 478 = .ok (.invokevirtual 100, 3) := by decide +kernel
theorem dL_law_481 : decode cL_law 481 = .ok (.iload 5, 2) := by decide +kernel
theorem dL_law_483 : decode cL_law 483 = .ok (.if_icmp .eq 5, 3) := by decide +kernel
theorem dL_law_486 : decode cL_law 486 = .ok (.iconst 0, 1) := by decide +kernel
theorem dL_law_487 : decode cL_law 487 = .ok (.ireturn, 1) := by decide +kernel
theorem dL_law_488 : decode cL_law 488 = .ok (.iload 5, 2) := by decide +kernel
theorem dL_law_490 : decode cL_law 490 = .ok (.ifCond .ne 15, 3) := by decide +kernel
theorem dL_law_493 : decode cL_law 493 = .ok (.aload_n 3, 1) := by decide +kernel
theorem dL_law_494 : decode cL_law 494 = .ok (.iconst 0, 1) := by decide +kernel
theorem dL_law_495 : decode cL_law 495 = .ok (.laload, 1) := by decide +kernel
theorem dL_law_496 : decode cL_law 496 = .ok (.iload 6, 2) := by decide +kernel
theorem dL_law_498 : decode cL_law 498 = .ok (.i2l, 1) := by decide +kernel
theorem dL_law_499 : decode cL_law 499 = .ok (.lcmp, 1) := by decide +kernel
theorem dL_law_500 : decode cL_law 500 = .ok (.ifCond .eq 5, 3) := by decide +kernel
theorem dL_law_503 : decode cL_law 503 = .ok (.iconst 0, 1) := by decide +kernel
theorem dL_law_504 : decode cL_law 504 = .ok (.ireturn, 1) := by decide +kernel
theorem dL_law_505 : decode cL_law 505 = .ok (.goto 1137, 3) := by decide +kernel
theorem dL_law_508 : decode cL_law 508 = .ok (.aload_n 1, 1) := by decide +kernel
theorem dL_law_509 : decode cL_law 509 = .ok (.aload_n 0, 1) := by decide +kernel
theorem dL_law_510 : decode cL_law 510 = .ok (.iload 4, 2) := by decide +kernel
theorem dL_law_512 : decode cL_law 512 = .ok (.iconst 1, 1) := by decide +kernel
theorem dL_law_513 : decode cL_law 513 = .ok (.iadd, 1) := by decide +kernel
theorem dL_law_514 : decode cL_law 514 = .ok (.iaload, 1) := by decide +kernel
theorem dL_law_515 : decode cL_law 515 = .ok (.aload_n 0, 1) := by decide +kernel
theorem dL_law_516 : decode cL_law 516 = .ok (.iload 4, 2) := by decide +kernel
theorem dL_law_518 : decode cL_law 518 = .ok (.iconst 2, 1) := by decide +kernel
theorem dL_law_519 : decode cL_law 519 = .ok (.iadd, 1) := by decide +kernel
theorem dL_law_520 : decode cL_law 520 = .ok (.iaload, 1) := by decide +kernel
theorem dL_law_521 : decode cL_law 521 = .ok (.aload_n 3, 1) := by decide +kernel
theorem dL_law_522 : decode cL_law 522 = .ok (.invokestatic 119, 3) := by decide +kernel
theorem dL_law_525 : decode cL_law 525 = .ok (.istore 5, 2) := by decide +kernel
theorem dL_law_527 : decode cL_law 527 = .ok (.aload_n 2, 1) := by decide +kernel
theorem dL_law_528 : decode cL_law 528 = .ok (.aload_n 0, 1) := by decide +kernel
theorem dL_law_529 : decode cL_law 529 = .ok (.iload 4, 2) := by decide +kernel
theorem dL_law_531 : decode cL_law 531 = .ok (.iconst 1, 1) := by decide +kernel
theorem dL_law_532 : decode cL_law 532 = .ok (.iadd, 1) := by decide +kernel
theorem dL_law_533 : decode cL_law 533 = .ok (.iaload, 1) := by decide +kernel
theorem dL_law_534 : decode cL_law 534 = .ok (.aload_n 0, 1) := by decide +kernel
theorem dL_law_535 : decode cL_law 535 = .ok (.iload 4, 2) := by decide +kernel
theorem dL_law_537 : decode cL_law 537 = .ok (.iconst 2, 1) := by decide +kernel
theorem dL_law_538 : decode cL_law 538 = .ok (.iadd, 1) := by decide +kernel
theorem dL_law_539 : decode cL_law 539 = .ok (.iaload, 1) := by decide +kernel
theorem dL_law_540 : decode cL_law 540 = .ok (.invokevirtual 121, 3) := by decide +kernel
theorem dL_law_543 : decode cL_law 543 = .ok (.istore 6, 2) := by decide +kernel
theorem dL_law_545 : decode cL_law 545 = .ok (.aload_n 2, 1) := by decide +kernel
theorem dL_law_546 : decode cL_law 546 = .ok (.invokevirtual 100, 3) := by decide +kernel
theorem dL_law_549 : decode cL_law 549 = .ok (.iload 5, 2) := by decide +kernel
theorem dL_law_551 : decode cL_law 551 = .ok (.if_icmp .eq 5, 3) := by decide +kernel
theorem dL_law_554 : decode cL_law 554 = .ok (.iconst 0, 1) := by decide +kernel
theorem dL_law_555 : decode cL_law 555 = .ok (.ireturn, 1) := by decide +kernel
theorem dL_law_556 : decode cL_law 556 = .ok (.iload 5, 2) := by decide +kernel
theorem dL_law_558 : decode cL_law 558 = .ok (.ifCond .ne 15, 3) := by decide +kernel
theorem dL_law_561 : decode cL_law 561 = .ok (.aload_n 3, 1) := by decide +kernel
theorem dL_law_562 : decode cL_law 562 = .ok (.iconst 0, 1) := by decide +kernel
theorem dL_law_563 : decode cL_law 563 = .ok (.laload, 1) := by decide +kernel
theorem dL_law_564 : decode cL_law 564 = .ok (.iload 6, 2) := by decide +kernel
theorem dL_law_566 : decode cL_law 566 = .ok (.i2l, 1) := by decide +kernel
theorem dL_law_567 : decode cL_law 567 = .ok (.lcmp, 1) := by decide +kernel
theorem dL_law_568 : decode cL_law 568 = .ok (.ifCond .eq 5, 3) := by decide +kernel
theorem dL_law_571 : decode cL_law 571 = .ok (.iconst 0, 1) := by decide +kernel
theorem dL_law_572 : decode cL_law 572 = .ok (.ireturn, 1) := by decide +kernel
theorem dL_law_573 : decode cL_law 573 = .ok (.goto 1069, 3) := by decide +kernel
theorem dL_law_576 : decode cL_law 576 = .ok (.aload_n 1, 1) := by decide +kernel
theorem dL_law_577 : decode cL_law 577 = .ok (.aload_n 0, 1) := by decide +kernel
theorem dL_law_578 : decode cL_law 578 = .ok (.iload 4, 2) := by decide +kernel
theorem dL_law_580 : decode cL_law 580 = .ok (.iconst 1, 1) := by decide +kernel
theorem dL_law_581 : decode cL_law 581 = .ok (.iadd, 1) := by decide +kernel
theorem dL_law_582 : decode cL_law 582 = .ok (.iaload, 1) := by decide +kernel
theorem dL_law_583 : decode cL_law 583 = .ok (.aload_n 0, 1) := by decide +kernel
theorem dL_law_584 : decode cL_law 584 = .ok (.iload 4, 2) := by decide +kernel
theorem dL_law_586 : decode cL_law 586 = .ok (.iconst 2, 1) := by decide +kernel
theorem dL_law_587 : decode cL_law 587 = .ok (.iadd, 1) := by decide +kernel
theorem dL_law_588 : decode cL_law 588 = .ok (.iaload, 1) := by decide +kernel
theorem dL_law_589 : decode cL_law 589 = .ok (.aload_n 3, 1) := by decide +kernel
theorem dL_law_590 : decode cL_law 590 = .ok (.invokestatic 122, 3) := by decide +kernel
theorem dL_law_593 : decode cL_law 593 = .ok (.istore 5, 2) := by decide +kernel
theorem dL_law_595 : decode cL_law 595 = .ok (.aload_n 2, 1) := by decide +kernel
theorem dL_law_596 : decode cL_law 596 = .ok (.aload_n 0, 1) := by decide +kernel
theorem dL_law_597 : decode cL_law 597 = .ok (.iload 4, 2) := by decide +kernel
theorem dL_law_599 : decode cL_law 599 = .ok (.iconst 1, 1) := by decide +kernel
theorem dL_law_600 : decode cL_law 600 = .ok (.iadd, 1) := by decide +kernel
theorem dL_law_601 : decode cL_law 601 = .ok (.iaload, 1) := by decide +kernel
theorem dL_law_602 : decode cL_law 602 = .ok (.aload_n 0, 1) := by decide +kernel
theorem dL_law_603 : decode cL_law 603 = .ok (.iload 4, 2) := by decide +kernel
theorem dL_law_605 : decode cL_law 605 = .ok (.iconst 2, 1) := by decide +kernel
theorem dL_law_606 : decode cL_law 606 = .ok (.iadd, 1) := by decide +kernel
theorem dL_law_607 : decode cL_law 607 = .ok (.iaload, 1) := by decide +kernel
theorem dL_law_608 : decode cL_law 608 = .ok (.invokevirtual 124, 3) := by decide +kernel
theorem dL_law_611 : decode cL_law 611 = .ok (.istore 6, 2) := by decide +kernel
theorem dL_law_613 : decode cL_law 613 = .ok (.aload_n 2, 1) := by decide +kernel
theorem dL_law_614 : decode cL_law 614 = .ok (.invokevirtual 100, 3) := by decide +kernel
theorem dL_law_617 : decode cL_law 617 = .ok (.iload 5, 2) := by decide +kernel
theorem dL_law_619 : decode cL_law 619 = .ok (.if_icmp .eq 5, 3) := by decide +kernel
theorem dL_law_622 : decode cL_law 622 = .ok (.iconst 0, 1) := by decide +kernel
theorem dL_law_623 : decode cL_law 623 = .ok (.ireturn, 1) := by decide +kernel
theorem dL_law_624 : decode cL_law 624 = .ok (.iload 5, 2) := by decide +kernel
theorem dL_law_626 : decode cL_law 626 = .ok (.ifCond .ne 15, 3) := by decide +kernel
theorem dL_law_629 : decode cL_law 629 = .ok (.aload_n 3, 1) := by decide +kernel
theorem dL_law_630 : decode cL_law 630 = .ok (.iconst 0, 1) := by decide +kernel
theorem dL_law_631 : decode cL_law 631 = .ok (.laload, 1) := by decide +kernel
theorem dL_law_632 : decode cL_law 632 = .ok (.iload 6, 2) := by decide +kernel
theorem dL_law_634 : decode cL_law 634 = .ok (.i2l, 1) := by decide +kernel
theorem dL_law_635 : decode cL_law 635 = .ok (.lcmp, 1) := by decide +kernel
theorem dL_law_636 : decode cL_law 636 = .ok (.ifCond .eq 5, 3) := by decide +kernel
theorem dL_law_639 : decode cL_law 639 = .ok (.iconst 0, 1) := by decide +kernel
theorem dL_law_640 : decode cL_law 640 = .ok (.ireturn, 1) := by decide +kernel
theorem dL_law_641 : decode cL_law 641 = .ok (.goto 1001, 3) := by decide +kernel
theorem dL_law_644 : decode cL_law 644 = .ok (.aload_n 1, 1) := by decide +kernel
theorem dL_law_645 : decode cL_law 645 = .ok (.aload_n 0, 1) := by decide +kernel
theorem dL_law_646 : decode cL_law 646 = .ok (.iload 4, 2) := by decide +kernel
theorem dL_law_648 : decode cL_law 648 = .ok (.iconst 1, 1) := by decide +kernel
theorem dL_law_649 : decode cL_law 649 = .ok (.iadd, 1) := by decide +kernel
theorem dL_law_650 : decode cL_law 650 = .ok (.iaload, 1) := by decide +kernel
theorem dL_law_651 : decode cL_law 651 = .ok (.aload_n 3, 1) := by decide +kernel
theorem dL_law_652 : decode cL_law 652 = .ok (.invokestatic 125, 3) := by decide +kernel
theorem dL_law_655 : decode cL_law 655 = .ok (.istore 5, 2) := by decide +kernel
theorem dL_law_657 : decode cL_law 657 = .ok (.aload_n 2, 1) := by decide +kernel
theorem dL_law_658 : decode cL_law 658 = .ok (.aload_n 0, 1) := by decide +kernel
theorem dL_law_659 : decode cL_law 659 = .ok (.iload 4, 2) := by decide +kernel
theorem dL_law_661 : decode cL_law 661 = .ok (.iconst 1, 1) := by decide +kernel
theorem dL_law_662 : decode cL_law 662 = .ok (.iadd, 1) := by decide +kernel
theorem dL_law_663 : decode cL_law 663 = .ok (.iaload, 1) := by decide +kernel
theorem dL_law_664 : decode cL_law 664 = .ok (.invokevirtual 127, 3) := by decide +kernel
theorem dL_law_667 : decode cL_law 667 = .ok (.istore 6, 2) := by decide +kernel
theorem dL_law_669 : decode cL_law 669 = .ok (.aload_n 2, 1) := by decide +kernel
theorem dL_law_670 : decode cL_law 670 = .ok (.invokevirtual 100, 3) := by decide +kernel
theorem dL_law_673 : decode cL_law 673 = .ok (.iload 5, 2) := by decide +kernel
theorem dL_law_675 : decode cL_law 675 = .ok (.if_icmp .eq 5, 3) := by decide +kernel
theorem dL_law_678 : decode cL_law 678 = .ok (.iconst 0, 1) := by decide +kernel
theorem dL_law_679 : decode cL_law 679 = .ok (.ireturn, 1) := by decide +kernel
theorem dL_law_680 : decode cL_law 680 = .ok (.iload 5, 2) := by decide +kernel
theorem dL_law_682 : decode cL_law 682 = .ok (.ifCond .ne 15, 3) := by decide +kernel
theorem dL_law_685 : decode cL_law 685 = .ok (.aload_n 3, 1) := by decide +kernel
theorem dL_law_686 : decode cL_law 686 = .ok (.iconst 0, 1) := by decide +kernel
theorem dL_law_687 : decode cL_law 687 = .ok (.laload, 1) := by decide +kernel
theorem dL_law_688 : decode cL_law 688 = .ok (.iload 6, 2) := by decide +kernel
theorem dL_law_690 : decode cL_law 690 = .ok (.i2l, 1) := by decide +kernel
theorem dL_law_691 : decode cL_law 691 = .ok (.lcmp, 1) := by decide +kernel
theorem dL_law_692 : decode cL_law 692 = .ok (.ifCond .eq 5, 3) := by decide +kernel
theorem dL_law_695 : decode cL_law 695 = .ok (.iconst 0, 1) := by decide +kernel
theorem dL_law_696 : decode cL_law 696 = .ok (.ireturn, 1) := by decide +kernel
theorem dL_law_697 : decode cL_law 697 = .ok (.goto 945, 3) := by decide +kernel
theorem dL_law_700 : decode cL_law 700 = .ok (.aload_n 1, 1) := by decide +kernel
theorem dL_law_701 : decode cL_law 701 = .ok (.aload_n 0, 1) := by decide +kernel
theorem dL_law_702 : decode cL_law 702 = .ok (.iload 4, 2) := by decide +kernel
theorem dL_law_704 : decode cL_law 704 = .ok (.iconst 1, 1) := by decide +kernel
theorem dL_law_705 : decode cL_law 705 = .ok (.iadd, 1) := by decide +kernel
theorem dL_law_706 : decode cL_law 706 = .ok (.iaload, 1) := by decide +kernel
theorem dL_law_707 : decode cL_law 707 = .ok (.aload_n 3, 1) := by decide +kernel
theorem dL_law_708 : decode cL_law 708 = .ok (.invokestatic 128, 3) := by decide +kernel
theorem dL_law_711 : decode cL_law 711 = .ok (.istore 5, 2) := by decide +kernel
theorem dL_law_713 : decode cL_law 713 = .ok (.aload_n 2, 1) := by decide +kernel
theorem dL_law_714 : decode cL_law 714 = .ok (.aload_n 0, 1) := by decide +kernel
theorem dL_law_715 : decode cL_law 715 = .ok (.iload 4, 2) := by decide +kernel
theorem dL_law_717 : decode cL_law 717 = .ok (.iconst 1, 1) := by decide +kernel
theorem dL_law_718 : decode cL_law 718 = .ok (.iadd, 1) := by decide +kernel
theorem dL_law_719 : decode cL_law 719 = .ok (.iaload, 1) := by decide +kernel
theorem dL_law_720 : decode cL_law 720 = .ok (.invokevirtual 130, 3) := by decide +kernel
theorem dL_law_723 : decode cL_law 723 = .ok (.istore 6, 2) := by decide +kernel
theorem dL_law_725 : decode cL_law 725 = .ok (.aload_n 2, 1) := by decide +kernel
theorem dL_law_726 : decode cL_law 726 = .ok (.invokevirtual 100, 3) := by decide +kernel
theorem dL_law_729 : decode cL_law 729 = .ok (.iload 5, 2) := by decide +kernel
theorem dL_law_731 : decode cL_law 731 = .ok (.if_icmp .eq 5, 3) := by decide +kernel
theorem dL_law_734 : decode cL_law 734 = .ok (.iconst 0, 1) := by decide +kernel
theorem dL_law_735 : decode cL_law 735 = .ok (.ireturn, 1) := by decide +kernel
theorem dL_law_736 : decode cL_law 736 = .ok (.iload 5, 2) := by decide +kernel
theorem dL_law_738 : decode cL_law 738 = .ok (.ifCond .ne 15, 3) := by decide +kernel
theorem dL_law_741 : decode cL_law 741 = .ok (.aload_n 3, 1) := by decide +kernel
theorem dL_law_742 : decode cL_law 742 = .ok (.iconst 0, 1) := by decide +kernel
theorem dL_law_743 : decode cL_law 743 = .ok (.laload, 1) := by decide +kernel
theorem dL_law_744 : decode cL_law 744 = .ok (.iload 6, 2) := by decide +kernel
theorem dL_law_746 : decode cL_law 746 = .ok (.i2l, 1) := by decide +kernel
theorem dL_law_747 : decode cL_law 747 = .ok (.lcmp, 1) := by decide +kernel
theorem dL_law_748 : decode cL_law 748 = .ok (.ifCond .eq 5, 3) := by decide +kernel
theorem dL_law_751 : decode cL_law 751 = .ok (.iconst 0, 1) := by decide +kernel
theorem dL_law_752 : decode cL_law 752 = .ok (.ireturn, 1) := by decide +kernel
theorem dL_law_753 : decode cL_law 753 = .ok (.goto 889, 3) := by decide +kernel
theorem dL_law_756 : decode cL_law 756 = .ok (.aload_n 1, 1) := by decide +kernel
theorem dL_law_757 : decode cL_law 757 = .ok (.aload_n 0, 1) := by decide +kernel
theorem dL_law_758 : decode cL_law 758 = .ok (.iload 4, 2) := by decide +kernel
theorem dL_law_760 : decode cL_law 760 = .ok (.iconst 1, 1) := by decide +kernel
theorem dL_law_761 : decode cL_law 761 = .ok (.iadd, 1) := by decide +kernel
theorem dL_law_762 : decode cL_law 762 = .ok (.iaload, 1) := by decide +kernel
theorem dL_law_763 : decode cL_law 763 = .ok (.aload_n 0, 1) := by decide +kernel
theorem dL_law_764 : decode cL_law 764 = .ok (.iload 4, 2) := by decide +kernel
theorem dL_law_766 : decode cL_law 766 = .ok (.iconst 2, 1) := by decide +kernel
theorem dL_law_767 : decode cL_law 767 = .ok (.iadd, 1) := by decide +kernel
theorem dL_law_768 : decode cL_law 768 = .ok (.iaload, 1) := by decide +kernel
theorem dL_law_769 : decode cL_law 769 = .ok (.aload_n 0, 1) := by decide +kernel
theorem dL_law_770 : decode cL_law 770 = .ok (.iload 4, 2) := by decide +kernel
theorem dL_law_772 : decode cL_law 772 = .ok (.iconst 3, 1) := by decide +kernel
theorem dL_law_773 : decode cL_law 773 = .ok (.iadd, 1) := by decide +kernel
theorem dL_law_774 : decode cL_law 774 = .ok (.iaload, 1) := by decide +kernel
theorem dL_law_775 : decode cL_law 775 = .ok (.invokestatic 131, 3) := by decide +kernel
theorem dL_law_778 : decode cL_law 778 = .ok (.istore 5, 2) := by decide +kernel
theorem dL_law_780 : decode cL_law 780 = .ok (.aload_n 2, 1) := by decide +kernel
theorem dL_law_781 : decode cL_law 781 = .ok (.aload_n 0, 1) := by decide +kernel
theorem dL_law_782 : decode cL_law 782 = .ok (.iload 4, 2) := by decide +kernel
theorem dL_law_784 : decode cL_law 784 = .ok (.iconst 1, 1) := by decide +kernel
theorem dL_law_785 : decode cL_law 785 = .ok (.iadd, 1) := by decide +kernel
theorem dL_law_786 : decode cL_law 786 = .ok (.iaload, 1) := by decide +kernel
theorem dL_law_787 : decode cL_law 787 = .ok (.aload_n 0, 1) := by decide +kernel
theorem dL_law_788 : decode cL_law 788 = .ok (.iload 4, 2) := by decide +kernel
theorem dL_law_790 : decode cL_law 790 = .ok (.iconst 2, 1) := by decide +kernel
theorem dL_law_791 : decode cL_law 791 = .ok (.iadd, 1) := by decide +kernel
theorem dL_law_792 : decode cL_law 792 = .ok (.iaload, 1) := by decide +kernel
theorem dL_law_793 : decode cL_law 793 = .ok (.aload_n 0, 1) := by decide +kernel
theorem dL_law_794 : decode cL_law 794 = .ok (.iload 4, 2) := by decide +kernel
theorem dL_law_796 : decode cL_law 796 = .ok (.iconst 3, 1) := by decide +kernel
theorem dL_law_797 : decode cL_law 797 = .ok (.iadd, 1) := by decide +kernel
theorem dL_law_798 : decode cL_law 798 = .ok (.iaload, 1) := by decide +kernel
theorem dL_law_799 : decode cL_law 799 = .ok (.invokevirtual 134, 3) := by decide +kernel
theorem dL_law_802 : decode cL_law 802 = .ok (.aload_n 2, 1) := by decide +kernel
theorem dL_law_803 : decode cL_law 803 = .ok (.invokevirtual 100, 3) := by decide +kernel
theorem dL_law_806 : decode cL_law 806 = .ok (.iload 5, 2) := by decide +kernel
theorem dL_law_808 : decode cL_law 808 = .ok (.if_icmp .eq 5, 3) := by decide +kernel
theorem dL_law_811 : decode cL_law 811 = .ok (.iconst 0, 1) := by decide +kernel
theorem dL_law_812 : decode cL_law 812 = .ok (.ireturn, 1) := by decide +kernel
theorem dL_law_813 : decode cL_law 813 = .ok (.goto 829, 3) := by decide +kernel
theorem dL_law_816 : decode cL_law 816 = .ok (.aload_n 1, 1) := by decide +kernel
theorem dL_law_817 : decode cL_law 817 = .ok (.aload_n 0, 1) := by decide +kernel
theorem dL_law_818 : decode cL_law 818 = .ok (.iload 4, 2) := by decide +kernel
theorem dL_law_820 : decode cL_law 820 = .ok (.iconst 1, 1) := by decide +kernel
theorem dL_law_821 : decode cL_law 821 = .ok (.iadd, 1) := by decide +kernel
theorem dL_law_822 : decode cL_law 822 = .ok (.iaload, 1) := by decide +kernel
theorem dL_law_823 : decode cL_law 823 = .ok (.aload_n 3, 1) := by decide +kernel
theorem dL_law_824 : decode cL_law 824 = .ok (.invokestatic 135, 3) := by decide +kernel
theorem dL_law_827 : decode cL_law 827 = .ok (.istore 5, 2) := by decide +kernel
theorem dL_law_829 : decode cL_law 829 = .ok (.aload_n 2, 1) := by decide +kernel
theorem dL_law_830 : decode cL_law 830 = .ok (.aload_n 0, 1) := by decide +kernel
theorem dL_law_831 : decode cL_law 831 = .ok (.iload 4, 2) := by decide +kernel
theorem dL_law_833 : decode cL_law 833 = .ok (.iconst 1, 1) := by decide +kernel
theorem dL_law_834 : decode cL_law 834 = .ok (.iadd, 1) := by decide +kernel
theorem dL_law_835 : decode cL_law 835 = .ok (.iaload, 1) := by decide +kernel
theorem dL_law_836 : decode cL_law 836 = .ok (.invokevirtual 137, 3) := by decide +kernel
theorem dL_law_839 : decode cL_law 839 = .ok (.istore 6, 2) := by decide +kernel
theorem dL_law_841 : decode cL_law 841 = .ok (.aload_n 2, 1) := by decide +kernel
theorem dL_law_842 : decode cL_law 842 = .ok (.invokevirtual 100, 3) := by decide +kernel
theorem dL_law_845 : decode cL_law 845 = .ok (.iload 5, 2) := by decide +kernel
theorem dL_law_847 : decode cL_law 847 = .ok (.if_icmp .eq 5, 3) := by decide +kernel
theorem dL_law_850 : decode cL_law 850 = .ok (.iconst 0, 1) := by decide +kernel
theorem dL_law_851 : decode cL_law 851 = .ok (.ireturn, 1) := by decide +kernel
theorem dL_law_852 : decode cL_law 852 = .ok (.iload 5, 2) := by decide +kernel
theorem dL_law_854 : decode cL_law 854 = .ok (.ifCond .ne 15, 3) := by decide +kernel
theorem dL_law_857 : decode cL_law 857 = .ok (.aload_n 3, 1) := by decide +kernel
theorem dL_law_858 : decode cL_law 858 = .ok (.iconst 0, 1) := by decide +kernel
theorem dL_law_859 : decode cL_law 859 = .ok (.laload, 1) := by decide +kernel
theorem dL_law_860 : decode cL_law 860 = .ok (.iload 6, 2) := by decide +kernel
theorem dL_law_862 : decode cL_law 862 = .ok (.i2l, 1) := by decide +kernel
theorem dL_law_863 : decode cL_law 863 = .ok (.lcmp, 1) := by decide +kernel
theorem dL_law_864 : decode cL_law 864 = .ok (.ifCond .eq 5, 3) := by decide +kernel
theorem dL_law_867 : decode cL_law 867 = .ok (.iconst 0, 1) := by decide +kernel
theorem dL_law_868 : decode cL_law 868 = .ok (.ireturn, 1) := by decide +kernel
theorem dL_law_869 : decode cL_law 869 = .ok (.goto 773, 3) := by decide +kernel
theorem dL_law_872 : decode cL_law 872 = .ok (.aload_n 1, 1) := by decide +kernel
theorem dL_law_873 : decode cL_law 873 = .ok (.aload_n 0, 1) := by decide +kernel
theorem dL_law_874 : decode cL_law 874 = .ok (.iload 4, 2) := by decide +kernel
theorem dL_law_876 : decode cL_law 876 = .ok (.iconst 1, 1) := by decide +kernel
theorem dL_law_877 : decode cL_law 877 = .ok (.iadd, 1) := by decide +kernel
theorem dL_law_878 : decode cL_law 878 = .ok (.iaload, 1) := by decide +kernel
theorem dL_law_879 : decode cL_law 879 = .ok (.aload_n 3, 1) := by decide +kernel
theorem dL_law_880 : decode cL_law 880 = .ok (.invokestatic 138, 3) := by decide +kernel
theorem dL_law_883 : decode cL_law 883 = .ok (.istore 5, 2) := by decide +kernel
theorem dL_law_885 : decode cL_law 885 = .ok (.aload_n 2, 1) := by decide +kernel
theorem dL_law_886 : decode cL_law 886 = .ok (.aload_n 0, 1) := by decide +kernel
theorem dL_law_887 : decode cL_law 887 = .ok (.iload 4, 2) := by decide +kernel
theorem dL_law_889 : decode cL_law 889 = .ok (.iconst 1, 1) := by decide +kernel
theorem dL_law_890 : decode cL_law 890 = .ok (.iadd, 1) := by decide +kernel
theorem dL_law_891 : decode cL_law 891 = .ok (.iaload, 1) := by decide +kernel
theorem dL_law_892 : decode cL_law 892 = .ok (.invokevirtual 140, 3) := by decide +kernel
theorem dL_law_895 : decode cL_law 895 = .ok (.istore 6, 2) := by decide +kernel
theorem dL_law_897 : decode cL_law 897 = .ok (.aload_n 2, 1) := by decide +kernel
theorem dL_law_898 : decode cL_law 898 = .ok (.invokevirtual 100, 3) := by decide +kernel
theorem dL_law_901 : decode cL_law 901 = .ok (.iload 5, 2) := by decide +kernel
theorem dL_law_903 : decode cL_law 903 = .ok (.if_icmp .eq 5, 3) := by decide +kernel
theorem dL_law_906 : decode cL_law 906 = .ok (.iconst 0, 1) := by decide +kernel
theorem dL_law_907 : decode cL_law 907 = .ok (.ireturn, 1) := by decide +kernel
theorem dL_law_908 : decode cL_law 908 = .ok (.iload 5, 2) := by decide +kernel
theorem dL_law_910 : decode cL_law 910 = .ok (.ifCond .ne 15, 3) := by decide +kernel
theorem dL_law_913 : decode cL_law 913 = .ok (.aload_n 3, 1) := by decide +kernel
theorem dL_law_914 : decode cL_law 914 = .ok (.iconst 0, 1) := by decide +kernel
theorem dL_law_915 : decode cL_law 915 = .ok (.laload, 1) := by decide +kernel
theorem dL_law_916 : decode cL_law 916 = .ok (.iload 6, 2) := by decide +kernel
theorem dL_law_918 : decode cL_law 918 = .ok (.i2l, 1) := by decide +kernel
theorem dL_law_919 : decode cL_law 919 = .ok (.lcmp, 1) := by decide +kernel
theorem dL_law_920 : decode cL_law 920 = .ok (.ifCond .eq 5, 3) := by decide +kernel
theorem dL_law_923 : decode cL_law 923 = .ok (.iconst 0, 1) := by decide +kernel
theorem dL_law_924 : decode cL_law 924 = .ok (.ireturn, 1) := by decide +kernel
theorem dL_law_925 : decode cL_law 925 = .ok (.goto 717, 3) := by decide +kernel
theorem dL_law_928 : decode cL_law 928 = .ok (.aload_n 1, 1) := by decide +kernel
theorem dL_law_929 : decode cL_law 929 = .ok (.aload_n 0, 1) := by decide +kernel
theorem dL_law_930 : decode cL_law 930 = .ok (.iload 4, 2) := by decide +kernel
theorem dL_law_932 : decode cL_law 932 = .ok (.iconst 1, 1) := by decide +kernel
theorem dL_law_933 : decode cL_law 933 = .ok (.iadd, 1) := by decide +kernel
theorem dL_law_934 : decode cL_law 934 = .ok (.iaload, 1) := by decide +kernel
theorem dL_law_935 : decode cL_law 935 = .ok (.aload_n 3, 1) := by decide +kernel
theorem dL_law_936 : decode cL_law 936 = .ok (.invokestatic 141, 3) := by decide +kernel
theorem dL_law_939 : decode cL_law 939 = .ok (.istore 5, 2) := by decide +kernel
theorem dL_law_941 : decode cL_law 941 = .ok (.aload_n 2, 1) := by decide +kernel
theorem dL_law_942 : decode cL_law 942 = .ok (.aload_n 0, 1) := by decide +kernel
theorem dL_law_943 : decode cL_law 943 = .ok (.iload 4, 2) := by decide +kernel
theorem dL_law_945 : decode cL_law 945 = .ok (.iconst 1, 1) := by decide +kernel
theorem dL_law_946 : decode cL_law 946 = .ok (.iadd, 1) := by decide +kernel
theorem dL_law_947 : decode cL_law 947 = .ok (.iaload, 1) := by decide +kernel
theorem dL_law_948 : decode cL_law 948 = .ok (.invokevirtual 143, 3) := by decide +kernel
theorem dL_law_951 : decode cL_law 951 = .ok (.istore 6, 2) := by decide +kernel
theorem dL_law_953 : decode cL_law 953 = .ok (.aload_n 2, 1) := by decide +kernel
theorem dL_law_954 : decode cL_law 954 = .ok (.invokevirtual 100, 3) := by decide +kernel
theorem dL_law_957 : decode cL_law 957 = .ok (.iload 5, 2) := by decide +kernel
theorem dL_law_959 : decode cL_law 959 = .ok (.if_icmp .eq 5, 3) := by decide +kernel
theorem dL_law_962 : decode cL_law 962 = .ok (.iconst 0, 1) := by decide +kernel
theorem dL_law_963 : decode cL_law 963 = .ok (.ireturn, 1) := by decide +kernel
theorem dL_law_964 : decode cL_law 964 = .ok (.iload 5, 2) := by decide +kernel
theorem dL_law_966 : decode cL_law 966 = .ok (.ifCond .ne 15, 3) := by decide +kernel
theorem dL_law_969 : decode cL_law 969 = .ok (.aload_n 3, 1) := by decide +kernel
theorem dL_law_970 : decode cL_law 970 = .ok (.iconst 0, 1) := by decide +kernel
theorem dL_law_971 : decode cL_law 971 = .ok (.laload, 1) := by decide +kernel
theorem dL_law_972 : decode cL_law 972 = .ok (.iload 6, 2) := by decide +kernel
theorem dL_law_974 : decode cL_law 974 = .ok (.i2l, 1) := by decide +kernel
theorem dL_law_975 : decode cL_law 975 = .ok (.lcmp, 1) := by decide +kernel
theorem dL_law_976 : decode cL_law 976 = .ok (.ifCond .eq 5, 3) := by decide +kernel
theorem dL_law_979 : decode cL_law 979 = .ok (.iconst 0, 1) := by decide +kernel
theorem dL_law_980 : decode cL_law 980 = .ok (.ireturn, 1) := by decide +kernel
theorem dL_law_981 : decode cL_law 981 = .ok (.goto 661, 3) := by decide +kernel
theorem dL_law_984 : decode cL_law 984 = .ok (.aload_n 1, 1) := by decide +kernel
theorem dL_law_985 : decode cL_law 985 = .ok (.invokevirtual 144, 3) := by decide +kernel
theorem dL_law_988 : decode cL_law 988 = .ok (.aload_n 2, 1) := by decide +kernel
theorem dL_law_989 : decode cL_law 989 = .ok (.invokevirtual 147, 3) := by decide +kernel
theorem dL_law_992 : decode cL_law 992 = .ok (.if_icmp .eq 650, 3) := by decide +kernel
theorem dL_law_995 : decode cL_law 995 = .ok (.iconst 0, 1) := by decide +kernel
theorem dL_law_996 : decode cL_law 996 = .ok (.ireturn, 1) := by decide +kernel
theorem dL_law_997 : decode cL_law 997 = .ok (.aload_n 1, 1) := by decide +kernel
theorem dL_law_998 : decode cL_law 998 = .ok (.aload_n 0, 1) := by decide +kernel
theorem dL_law_999 : decode cL_law 999 = .ok (.iload 4, 2) := by decide +kernel
theorem dL_law_1001 : decode cL_law 1001 = .ok (.iconst 1, 1) := by decide +kernel
theorem dL_law_1002 : decode cL_law 1002 = .ok (.iadd, 1) := by decide +kernel
theorem dL_law_1003 : decode cL_law 1003 = .ok (.iaload, 1) := by decide +kernel
theorem dL_law_1004 : decode cL_law 1004 = .ok (.aload_n 0, 1) := by decide +kernel
theorem dL_law_1005 : decode cL_law 1005 = .ok (.iload 4, 2) := by decide +kernel
theorem dL_law_1007 : decode cL_law 1007 = .ok (.iconst 2, 1) := by decide +kernel
theorem dL_law_1008 : decode cL_law 1008 = .ok (.iadd, 1) := by decide +kernel
theorem dL_law_1009 : decode cL_law 1009 = .ok (.iaload, 1) := by decide +kernel
theorem dL_law_1010 : decode cL_law 1010 = .ok (.aload_n 3, 1) := by decide +kernel
theorem dL_law_1011 : decode cL_law 1011 = .ok (.invokestatic 148, 3) := by decide +kernel
theorem dL_law_1014 : decode cL_law 1014 = .ok (.istore 5, 2) := by decide +kernel
theorem dL_law_1016 : decode cL_law 1016 = .ok (.aload_n 2, 1) := by decide +kernel
theorem dL_law_1017 : decode cL_law 1017 = .ok (.aload_n 0, 1) := by decide +kernel
theorem dL_law_1018 : decode cL_law 1018 = .ok (.iload 4, 2) := by decide +kernel
theorem dL_law_1020 : decode cL_law 1020 = .ok (.iconst 1, 1) := by decide +kernel
theorem dL_law_1021 : decode cL_law 1021 = .ok (.iadd, 1) := by decide +kernel
theorem dL_law_1022 : decode cL_law 1022 = .ok (.iaload, 1) := by decide +kernel
theorem dL_law_1023 : decode cL_law 1023 = .ok (.aload_n 0, 1) := by decide +kernel
theorem dL_law_1024 : decode cL_law 1024 = .ok (.iload 4, 2) := by decide +kernel
theorem dL_law_1026 : decode cL_law 1026 = .ok (.iconst 2, 1) := by decide +kernel
theorem dL_law_1027 : decode cL_law 1027 = .ok (.iadd, 1) := by decide +kernel
theorem dL_law_1028 : decode cL_law 1028 = .ok (.iaload, 1) := by decide +kernel
theorem dL_law_1029 : decode cL_law 1029 = .ok (.invokevirtual 150, 3) := by decide +kernel
theorem dL_law_1032 : decode cL_law 1032 = .ok (.istore 6, 2) := by decide +kernel
theorem dL_law_1034 : decode cL_law 1034 = .ok (.aload_n 2, 1) := by decide +kernel
theorem dL_law_1035 : decode cL_law 1035 = .ok (.invokevirtual 100, 3) := by decide +kernel
theorem dL_law_1038 : decode cL_law 1038 = .ok (.iload 5, 2) := by decide +kernel
theorem dL_law_1040 : decode cL_law 1040 = .ok (.if_icmp .eq 5, 3) := by decide +kernel
theorem dL_law_1043 : decode cL_law 1043 = .ok (.iconst 0, 1) := by decide +kernel
theorem dL_law_1044 : decode cL_law 1044 = .ok (.ireturn, 1) := by decide +kernel
theorem dL_law_1045 : decode cL_law 1045 = .ok (.iload 5, 2) := by decide +kernel
theorem dL_law_1047 : decode cL_law 1047 = .ok (.ifCond .ne 15, 3) := by decide +kernel
theorem dL_law_1050 : decode cL_law 1050 = .ok (.aload_n 3, 1) := by decide +kernel
theorem dL_law_1051 : decode cL_law 1051 = .ok (.iconst 0, 1) := by decide +kernel
theorem dL_law_1052 : decode cL_law 1052 = .ok (.laload, 1) := by decide +kernel
theorem dL_law_1053 : decode cL_law 1053 = .ok (.iload 6, 2) := by decide +kernel
theorem dL_law_1055 : decode cL_law 1055 = .ok (.i2l, 1) := by decide +kernel
theorem dL_law_1056 : decode cL_law 1056 = .ok (.lcmp, 1) := by decide +kernel
theorem dL_law_1057 : decode cL_law 1057 = .ok (.ifCond .eq 5, 3) := by decide +kernel
theorem dL_law_1060 : decode cL_law 1060 = .ok (.iconst 0, 1) := by decide +kernel
theorem dL_law_1061 : decode cL_law 1061 = .ok (.ireturn, 1) := by decide +kernel
theorem dL_law_1062 : decode cL_law 1062 = .ok (.goto 580, 3) := by decide +kernel
theorem dL_law_1065 : decode cL_law 1065 = .ok (.aload_n 1, 1) := by decide +kernel
theorem dL_law_1066 : decode cL_law 1066 = .ok (.aload_n 0, 1) := by decide +kernel
theorem dL_law_1067 : decode cL_law 1067 = .ok (.iload 4, 2) := by decide +kernel
theorem dL_law_1069 : decode cL_law 1069 = .ok (.iconst 1, 1) := by decide +kernel
theorem dL_law_1070 : decode cL_law 1070 = .ok (.iadd, 1) := by decide +kernel
theorem dL_law_1071 : decode cL_law 1071 = .ok (.iaload, 1) := by decide +kernel
theorem dL_law_1072 : decode cL_law 1072 = .ok (.aload_n 3, 1) := by decide +kernel
theorem dL_law_1073 : decode cL_law 1073 = .ok (.invokestatic 151, 3) := by decide +kernel
theorem dL_law_1076 : decode cL_law 1076 = .ok (.istore 5, 2) := by decide +kernel
theorem dL_law_1078 : decode cL_law 1078 = .ok (.aload_n 2, 1) := by decide +kernel
theorem dL_law_1079 : decode cL_law 1079 = .ok (.aload_n 0, 1) := by decide +kernel
theorem dL_law_1080 : decode cL_law 1080 = .ok (.iload 4, 2) := by decide +kernel
theorem dL_law_1082 : decode cL_law 1082 = .ok (.iconst 1, 1) := by decide +kernel
theorem dL_law_1083 : decode cL_law 1083 = .ok (.iadd, 1) := by decide +kernel
theorem dL_law_1084 : decode cL_law 1084 = .ok (.iaload, 1) := by decide +kernel
theorem dL_law_1085 : decode cL_law 1085 = .ok (.invokevirtual 153, 3) := by decide +kernel
theorem dL_law_1088 : decode cL_law 1088 = .ok (.istore 6, 2) := by decide +kernel
theorem dL_law_1090 : decode cL_law 1090 = .ok (.aload_n 2, 1) := by decide +kernel
theorem dL_law_1091 : decode cL_law 1091 = .ok (.invokevirtual 100, 3) := by decide +kernel
theorem dL_law_1094 : decode cL_law 1094 = .ok (.iload 5, 2) := by decide +kernel
theorem dL_law_1096 : decode cL_law 1096 = .ok (.if_icmp .eq 5, 3) := by decide +kernel
theorem dL_law_1099 : decode cL_law 1099 = .ok (.iconst 0, 1) := by decide +kernel
theorem dL_law_1100 : decode cL_law 1100 = .ok (.ireturn, 1) := by decide +kernel
theorem dL_law_1101 : decode cL_law 1101 = .ok (.iload 5, 2) := by decide +kernel
theorem dL_law_1103 : decode cL_law 1103 = .ok (.ifCond .ne 15, 3) := by decide +kernel
theorem dL_law_1106 : decode cL_law 1106 = .ok (.aload_n 3, 1) := by decide +kernel
theorem dL_law_1107 : decode cL_law 1107 = .ok (.iconst 0, 1) := by decide +kernel
theorem dL_law_1108 : decode cL_law 1108 = .ok (.laload, 1) := by decide +kernel
theorem dL_law_1109 : decode cL_law 1109 = .ok (.iload 6, 2) := by decide +kernel
theorem dL_law_1111 : decode cL_law 1111 = .ok (.i2l, 1) := by decide +kernel
theorem dL_law_1112 : decode cL_law 1112 = .ok (.lcmp, 1) := by decide +kernel
theorem dL_law_1113 : decode cL_law 1113 = .ok (.ifCond .eq 5, 3) := by decide +kernel
theorem dL_law_1116 : decode cL_law 1116 = .ok (.iconst 0, 1) := by decide +kernel
theorem dL_law_1117 : decode cL_law 1117 = .ok (.ireturn, 1) := by decide +kernel
theorem dL_law_1118 : decode cL_law 1118 = .ok (.goto 524, 3) := by decide +kernel
theorem dL_law_1121 : decode cL_law 1121 = .ok (.aload_n 1, 1) := by decide +kernel
theorem dL_law_1122 : decode cL_law 1122 = .ok (.invokevirtual 154, 3) := by decide +kernel
theorem dL_law_1125 : decode cL_law 1125 = .ok (.aload_n 2, 1) := by decide +kernel
theorem dL_law_1126 : decode cL_law 1126 = .ok (.invokevirtual 157, 3) := by decide +kernel
theorem dL_law_1129 : decode cL_law 1129 = .ok (.if_icmp .eq 513, 3) := by decide +kernel
theorem dL_law_1132 : decode cL_law 1132 = .ok (.iconst 0, 1) := by decide +kernel
theorem dL_law_1133 : decode cL_law 1133 = .ok (.ireturn, 1) := by decide +kernel
theorem dL_law_1134 : decode cL_law 1134 = .ok (.aload_n 1, 1) := by decide +kernel
theorem dL_law_1135 : decode cL_law 1135 = .ok (.aload_n 0, 1) := by decide +kernel
theorem dL_law_1136 : decode cL_law 1136 = .ok (.iload 4, 2) := by decide +kernel
theorem dL_law_1138 : decode cL_law 1138 = .ok (.iconst 1, 1) := by decide +kernel
theorem dL_law_1139 : decode cL_law 1139 = .ok (.iadd, 1) := by decide +kernel
theorem dL_law_1140 : decode cL_law 1140 = .ok (.iaload, 1) := by decide +kernel
theorem dL_law_1141 : decode cL_law 1141 = .ok (.aload_n 3, 1) := by decide +kernel
theorem dL_law_1142 : decode cL_law 1142 = .ok (.invokestatic 158, 3) := by decide +kernel
theorem dL_law_1145 : decode cL_law 1145 = .ok (.istore 5, 2) := by decide +kernel
theorem dL_law_1147 : decode cL_law 1147 = .ok (.aload_n 2, 1) := by decide +kernel
theorem dL_law_1148 : decode cL_law 1148 = .ok (.aload_n 0, 1) := by decide +kernel
theorem dL_law_1149 : decode cL_law 1149 = .ok (.iload 4, 2) := by decide +kernel
theorem dL_law_1151 : decode cL_law 1151 = .ok (.iconst 1, 1) := by decide +kernel
theorem dL_law_1152 : decode cL_law 1152 = .ok (.iadd, 1) := by decide +kernel
theorem dL_law_1153 : decode cL_law 1153 = .ok (.iaload, 1) := by decide +kernel
theorem dL_law_1154 : decode cL_law 1154 = .ok (.invokevirtual 160, 3) := by decide +kernel
theorem dL_law_1157 : decode cL_law 1157 = .ok (.istore 6, 2) := by decide +kernel
theorem dL_law_1159 : decode cL_law 1159 = .ok (.aload_n 2, 1) := by decide +kernel
theorem dL_law_1160 : decode cL_law 1160 = .ok (.invokevirtual 100, 3) := by decide +kernel
theorem dL_law_1163 : decode cL_law 1163 = .ok (.iload 5, 2) := by decide +kernel
theorem dL_law_1165 : decode cL_law 1165 = .ok (.if_icmp .eq 5, 3) := by decide +kernel
theorem dL_law_1168 : decode cL_law 1168 = .ok (.iconst 0, 1) := by decide +kernel
theorem dL_law_1169 : decode cL_law 1169 = .ok (.ireturn, 1) := by decide +kernel
theorem dL_law_1170 : decode cL_law 1170 = .ok (.iload 5, 2) := by decide +kernel
theorem dL_law_1172 : decode cL_law 1172 = .ok (.ifCond .ne 15, 3) := by decide +kernel
theorem dL_law_1175 : decode cL_law 1175 = .ok (.aload_n 3, 1) := by decide +kernel
theorem dL_law_1176 : decode cL_law 1176 = .ok (.iconst 0, 1) := by decide +kernel
theorem dL_law_1177 : decode cL_law 1177 = .ok (.laload, 1) := by decide +kernel
theorem dL_law_1178 : decode cL_law 1178 = .ok (.iload 6, 2) := by decide +kernel
theorem dL_law_1180 : decode cL_law 1180 = .ok (.i2l, 1) := by decide +kernel
theorem dL_law_1181 : decode cL_law 1181 = .ok (.lcmp, 1) := by decide +kernel
theorem dL_law_1182 : decode cL_law 1182 = .ok (.ifCond .eq 5, 3) := by decide +kernel
theorem dL_law_1185 : decode cL_law 1185 = .ok (.iconst 0, 1) := by decide +kernel
theorem dL_law_1186 : decode cL_law 1186 = .ok (.ireturn, 1) := by decide +kernel
theorem dL_law_1187 : decode cL_law 1187 = .ok (.goto 455, 3) := by decide +kernel
theorem dL_law_1190 : decode cL_law 1190 = .ok (.aload_n 1, 1) := by decide +kernel
theorem dL_law_1191 : decode cL_law 1191 = .ok (.aload_n 0, 1) := by decide +kernel
theorem dL_law_1192 : decode cL_law 1192 = .ok (.iload 4, 2) := by decide +kernel
theorem dL_law_1194 : decode cL_law 1194 = .ok (.iconst 1, 1) := by decide +kernel
theorem dL_law_1195 : decode cL_law 1195 = .ok (.iadd, 1) := by decide +kernel
theorem dL_law_1196 : decode cL_law 1196 = .ok (.iaload, 1) := by decide +kernel
theorem dL_law_1197 : decode cL_law 1197 = .ok (.aload_n 3, 1) := by decide +kernel
theorem dL_law_1198 : decode cL_law 1198 = .ok (.invokestatic 161, 3) := by decide +kernel
theorem dL_law_1201 : decode cL_law 1201 = .ok (.istore 5, 2) := by decide +kernel
theorem dL_law_1203 : decode cL_law 1203 = .ok (.aload_n 2, 1) := by decide +kernel
theorem dL_law_1204 : decode cL_law 1204 = .ok (.aload_n 0, 1) := by decide +kernel
theorem dL_law_1205 : decode cL_law 1205 = .ok (.iload 4, 2) := by decide +kernel
theorem dL_law_1207 : decode cL_law 1207 = .ok (.iconst 1, 1) := by decide +kernel
theorem dL_law_1208 : decode cL_law 1208 = .ok (.iadd, 1) := by decide +kernel
theorem dL_law_1209 : decode cL_law 1209 = .ok (.iaload, 1) := by decide +kernel
theorem dL_law_1210 : decode cL_law 1210 = .ok (.invokevirtual 163, 3) := by decide +kernel
theorem dL_law_1213 : decode cL_law 1213 = .ok (.istore 6, 2) := by decide +kernel
theorem dL_law_1215 : decode cL_law 1215 = .ok (.aload_n 2, 1) := by decide +kernel
theorem dL_law_1216 : decode cL_law 1216 = .ok (.invokevirtual 100, 3) := by decide +kernel
theorem dL_law_1219 : decode cL_law 1219 = .ok (.iload 5, 2) := by decide +kernel
theorem dL_law_1221 : decode cL_law 1221 = .ok (.if_icmp .eq 5, 3) := by decide +kernel
theorem dL_law_1224 : decode cL_law 1224 = .ok (.iconst 0, 1) := by decide +kernel
theorem dL_law_1225 : decode cL_law 1225 = .ok (.ireturn, 1) := by decide +kernel
theorem dL_law_1226 : decode cL_law 1226 = .ok (.iload 5, 2) := by decide +kernel
theorem dL_law_1228 : decode cL_law 1228 = .ok (.ifCond .ne 15, 3) := by decide +kernel
theorem dL_law_1231 : decode cL_law 1231 = .ok (.aload_n 3, 1) := by decide +kernel
theorem dL_law_1232 : decode cL_law 1232 = .ok (.iconst 0, 1) := by decide +kernel
theorem dL_law_1233 : decode cL_law 1233 = .ok (.laload, 1) := by decide +kernel
theorem dL_law_1234 : decode cL_law 1234 = .ok (.iload 6, 2) := by decide +kernel
theorem dL_law_1236 : decode cL_law 1236 = .ok (.i2l, 1) := by decide +kernel
theorem dL_law_1237 : decode cL_law 1237 = .ok (.lcmp, 1) := by decide +kernel
theorem dL_law_1238 : decode cL_law 1238 = .ok (.ifCond .eq 5, 3) := by decide +kernel
theorem dL_law_1241 : decode cL_law 1241 = .ok (.iconst 0, 1) := by decide +kernel
theorem dL_law_1242 : decode cL_law 1242 = .ok (.ireturn, 1) := by decide +kernel
theorem dL_law_1243 : decode cL_law 1243 = .ok (.goto 399, 3) := by decide +kernel
theorem dL_law_1246 : decode cL_law 1246 = .ok (.aload_n 1, 1) := by decide +kernel
theorem dL_law_1247 : decode cL_law 1247 = .ok (.aload_n 0, 1) := by decide +kernel
theorem dL_law_1248 : decode cL_law 1248 = .ok (.iload 4, 2) := by decide +kernel
theorem dL_law_1250 : decode cL_law 1250 = .ok (.iconst 1, 1) := by decide +kernel
theorem dL_law_1251 : decode cL_law 1251 = .ok (.iadd, 1) := by decide +kernel
theorem dL_law_1252 : decode cL_law 1252 = .ok (.iaload, 1) := by decide +kernel
theorem dL_law_1253 : decode cL_law 1253 = .ok (.aload_n 0, 1) := by decide +kernel
theorem dL_law_1254 : decode cL_law 1254 = .ok (.iload 4, 2) := by decide +kernel
theorem dL_law_1256 : decode cL_law 1256 = .ok (.iconst 2, 1) := by decide +kernel
theorem dL_law_1257 : decode cL_law 1257 = .ok (.iadd, 1) := by decide +kernel
theorem dL_law_1258 : decode cL_law 1258 = .ok (.iaload, 1) := by decide +kernel
theorem dL_law_1259 : decode cL_law 1259 = .ok (.aload_n 3, 1) := by decide +kernel
theorem dL_law_1260 : decode cL_law 1260 = .ok (.invokestatic 164, 3) := by decide +kernel
theorem dL_law_1263 : decode cL_law 1263 = .ok (.istore 5, 2) := by decide +kernel
theorem dL_law_1265 : decode cL_law 1265 = .ok (.aload_n 2, 1) := by decide +kernel
theorem dL_law_1266 : decode cL_law 1266 = .ok (.aload_n 0, 1) := by decide +kernel
theorem dL_law_1267 : decode cL_law 1267 = .ok (.iload 4, 2) := by decide +kernel
theorem dL_law_1269 : decode cL_law 1269 = .ok (.iconst 1, 1) := by decide +kernel
theorem dL_law_1270 : decode cL_law 1270 = .ok (.iadd, 1) := by decide +kernel
theorem dL_law_1271 : decode cL_law 1271 = .ok (.iaload, 1) := by decide +kernel
theorem dL_law_1272 : decode cL_law 1272 = .ok (.aload_n 0, 1) := by decide +kernel
theorem dL_law_1273 : decode cL_law 1273 = .ok (.iload 4, 2) := by decide +kernel
theorem dL_law_1275 : decode cL_law 1275 = .ok (.iconst 2, 1) := by decide +kernel
theorem dL_law_1276 : decode cL_law 1276 = .ok (.iadd, 1) := by decide +kernel
theorem dL_law_1277 : decode cL_law 1277 = .ok (.iaload, 1) := by decide +kernel
theorem dL_law_1278 : decode cL_law 1278 = .ok (.invokevirtual 166, 3) := by decide +kernel
theorem dL_law_1281 : decode cL_law 1281 = .ok (.istore 6, 2) := by decide +kernel
theorem dL_law_1283 : decode cL_law 1283 = .ok (.aload_n 2, 1) := by decide +kernel
theorem dL_law_1284 : decode cL_law 1284 = .ok (.invokevirtual 100, 3) := by decide +kernel
theorem dL_law_1287 : decode cL_law 1287 = .ok (.iload 5, 2) := by decide +kernel
theorem dL_law_1289 : decode cL_law 1289 = .ok (.if_icmp .eq 5, 3) := by decide +kernel
theorem dL_law_1292 : decode cL_law 1292 = .ok (.iconst 0, 1) := by decide +kernel
theorem dL_law_1293 : decode cL_law 1293 = .ok (.ireturn, 1) := by decide +kernel
theorem dL_law_1294 : decode cL_law 1294 = .ok (.iload 5, 2) := by decide +kernel
theorem dL_law_1296 : decode cL_law 1296 = .ok (.ifCond .ne 15, 3) := by decide +kernel
theorem dL_law_1299 : decode cL_law 1299 = .ok (.aload_n 3, 1) := by decide +kernel
theorem dL_law_1300 : decode cL_law 1300 = .ok (.iconst 0, 1) := by decide +kernel
theorem dL_law_1301 : decode cL_law 1301 = .ok (.laload, 1) := by decide +kernel
theorem dL_law_1302 : decode cL_law 1302 = .ok (.iload 6, 2) := by decide +kernel
theorem dL_law_1304 : decode cL_law 1304 = .ok (.i2l, 1) := by decide +kernel
theorem dL_law_1305 : decode cL_law 1305 = .ok (.lcmp, 1) := by decide +kernel
theorem dL_law_1306 : decode cL_law 1306 = .ok (.ifCond .eq 5, 3) := by decide +kernel
theorem dL_law_1309 : decode cL_law 1309 = .ok (.iconst 0, 1) := by decide +kernel
theorem dL_law_1310 : decode cL_law 1310 = .ok (.ireturn, 1) := by decide +kernel
theorem dL_law_1311 : decode cL_law 1311 = .ok (.goto 331, 3) := by decide +kernel
theorem dL_law_1314 : decode cL_law 1314 = .ok (.aload_n 1, 1) := by decide +kernel
theorem dL_law_1315 : decode cL_law 1315 = .ok (.aload_n 0, 1) := by decide +kernel
theorem dL_law_1316 : decode cL_law 1316 = .ok (.iload 4, 2) := by decide +kernel
theorem dL_law_1318 : decode cL_law 1318 = .ok (.iconst 1, 1) := by decide +kernel
theorem dL_law_1319 : decode cL_law 1319 = .ok (.iadd, 1) := by decide +kernel
theorem dL_law_1320 : decode cL_law 1320 = .ok (.iaload, 1) := by decide +kernel
theorem dL_law_1321 : decode cL_law 1321 = .ok (.aload_n 0, 1) := by decide +kernel
theorem dL_law_1322 : decode cL_law 1322 = .ok (.iload 4, 2) := by decide +kernel
theorem dL_law_1324 : decode cL_law 1324 = .ok (.iconst 2, 1) := by decide +kernel
theorem dL_law_1325 : decode cL_law 1325 = .ok (.iadd, 1) := by decide +kernel
theorem dL_law_1326 : decode cL_law 1326 = .ok (.iaload, 1) := by decide +kernel
theorem dL_law_1327 : decode cL_law 1327 = .ok (.aload_n 3, 1) := by decide +kernel
theorem dL_law_1328 : decode cL_law 1328 = .ok (.invokestatic 167, 3) := by decide +kernel
theorem dL_law_1331 : decode cL_law 1331 = .ok (.istore 5, 2) := by decide +kernel
theorem dL_law_1333 : decode cL_law 1333 = .ok (.aload_n 2, 1) := by decide +kernel
theorem dL_law_1334 : decode cL_law 1334 = .ok (.aload_n 0, 1) := by decide +kernel
theorem dL_law_1335 : decode cL_law 1335 = .ok (.iload 4, 2) := by decide +kernel
theorem dL_law_1337 : decode cL_law 1337 = .ok (.iconst 1, 1) := by decide +kernel
theorem dL_law_1338 : decode cL_law 1338 = .ok (.iadd, 1) := by decide +kernel
theorem dL_law_1339 : decode cL_law 1339 = .ok (.iaload, 1) := by decide +kernel
theorem dL_law_1340 : decode cL_law 1340 = .ok (.aload_n 0, 1) := by decide +kernel
theorem dL_law_1341 : decode cL_law 1341 = .ok (.iload 4, 2) := by decide +kernel
theorem dL_law_1343 : decode cL_law 1343 = .ok (.iconst 2, 1) := by decide +kernel
theorem dL_law_1344 : decode cL_law 1344 = .ok (.iadd, 1) := by decide +kernel
theorem dL_law_1345 : decode cL_law 1345 = .ok (.iaload, 1) := by decide +kernel
theorem dL_law_1346 : decode cL_law 1346 = .ok (.invokevirtual 169, 3) := by decide +kernel
theorem dL_law_1349 : decode cL_law 1349 = .ok (.istore 6, 2) := by decide +kernel
theorem dL_law_1351 : decode cL_law 1351 = .ok (.aload_n 2, 1) := by decide +kernel
theorem dL_law_1352 : decode cL_law 1352 = .ok (.invokevirtual 100, 3) := by decide +kernel
theorem dL_law_1355 : decode cL_law 1355 = .ok (.iload 5, 2) := by decide +kernel
theorem dL_law_1357 : decode cL_law 1357 = .ok (.if_icmp .eq 5, 3) := by decide +kernel
theorem dL_law_1360 : decode cL_law 1360 = .ok (.iconst 0, 1) := by decide +kernel
theorem dL_law_1361 : decode cL_law 1361 = .ok (.ireturn, 1) := by decide +kernel
theorem dL_law_1362 : decode cL_law 1362 = .ok (.iload 5, 2) := by decide +kernel
theorem dL_law_1364 : decode cL_law 1364 = .ok (.ifCond .ne 22, 3) := by decide +kernel
theorem dL_law_1367 : decode cL_law 1367 = .ok (.aload_n 3, 1) := by decide +kernel
theorem dL_law_1368 : decode cL_law 1368 = .ok (.iconst 0, 1) := by decide +kernel
theorem dL_law_1369 : decode cL_law 1369 = .ok (.laload, 1) := by decide +kernel
theorem dL_law_1370 : decode cL_law 1370 = .ok (.iload 6, 2) := by decide +kernel
theorem dL_law_1372 : decode cL_law 1372 = .ok (.ifCond .eq 7, 3) := by decide +kernel
theorem dL_law_1375 : decode cL_law 1375 = .ok (.lconst 1, 1) := by decide +kernel
theorem dL_law_1376 : decode cL_law 1376 = .ok (.goto 4, 3) := by decide +kernel
theorem dL_law_1379 : decode cL_law 1379 = .ok (.lconst 0, 1) := by decide +kernel
theorem dL_law_1380 : decode cL_law 1380 = .ok (.lcmp, 1) := by decide +kernel
theorem dL_law_1381 : decode cL_law 1381 = .ok (.ifCond .eq 5, 3) := by decide +kernel
theorem dL_law_1384 : decode cL_law 1384 = .ok (.iconst 0, 1) := by decide +kernel
theorem dL_law_1385 : decode cL_law 1385 = .ok (.ireturn, 1) := by decide +kernel
theorem dL_law_1386 : decode cL_law 1386 = .ok (.goto 256, 3) := by decide +kernel
theorem dL_law_1389 : decode cL_law 1389 = .ok (.aload_n 1, 1) := by decide +kernel
theorem dL_law_1390 : decode cL_law 1390 = .ok (.aload_n 0, 1) := by decide +kernel
theorem dL_law_1391 : decode cL_law 1391 = .ok (.iload 4, 2) := by decide +kernel
theorem dL_law_1393 : decode cL_law 1393 = .ok (.iconst 1, 1) := by decide +kernel
theorem dL_law_1394 : decode cL_law 1394 = .ok (.iadd, 1) := by decide +kernel
theorem dL_law_1395 : decode cL_law 1395 = .ok (.iaload, 1) := by decide +kernel
theorem dL_law_1396 : decode cL_law 1396 = .ok (.aload_n 0, 1) := by decide +kernel
theorem dL_law_1397 : decode cL_law 1397 = .ok (.iload 4, 2) := by decide +kernel
theorem dL_law_1399 : decode cL_law 1399 = .ok (.iconst 2, 1) := by decide +kernel
theorem dL_law_1400 : decode cL_law 1400 = .ok (.iadd, 1) := by decide +kernel
theorem dL_law_1401 : decode cL_law 1401 = .ok (.iaload, 1) := by decide +kernel
theorem dL_law_1402 : decode cL_law 1402 = .ok (.aload_n 0, 1) := by decide +kernel
theorem dL_law_1403 : decode cL_law 1403 = .ok (.iload 4, 2) := by decide +kernel
theorem dL_law_1405 : decode cL_law 1405 = .ok (.iconst 3, 1) := by decide +kernel
theorem dL_law_1406 : decode cL_law 1406 = .ok (.iadd, 1) := by decide +kernel
theorem dL_law_1407 : decode cL_law 1407 = .ok (.iaload, 1) := by decide +kernel
theorem dL_law_1408 : decode cL_law 1408 = .ok (.aload_n 3, 1) := by decide +kernel
theorem dL_law_1409 : decode cL_law 1409 = .ok (.invokestatic 170, 3) := by decide +kernel
theorem dL_law_1412 : decode cL_law 1412 = .ok (.istore 5, 2) := by decide +kernel
theorem dL_law_1414 : decode cL_law 1414 = .ok (.aload_n 2, 1) := by decide +kernel
theorem dL_law_1415 : decode cL_law 1415 = .ok (.aload_n 0, 1) := by decide +kernel
theorem dL_law_1416 : decode cL_law 1416 = .ok (.iload 4, 2) := by decide +kernel
theorem dL_law_1418 : decode cL_law 1418 = .ok (.iconst 1, 1) := by decide +kernel
theorem dL_law_1419 : decode cL_law 1419 = .ok (.iadd, 1) := by decide +kernel
theorem dL_law_1420 : decode cL_law 1420 = .ok (.iaload, 1) := by decide +kernel
theorem dL_law_1421 : decode cL_law 1421 = .ok (.aload_n 0, 1) := by decide +kernel
theorem dL_law_1422 : decode cL_law 1422 = .ok (.iload 4, 2) := by decide +kernel
theorem dL_law_1424 : decode cL_law 1424 = .ok (.iconst 2, 1) := by decide +kernel
theorem dL_law_1425 : decode cL_law 1425 = .ok (.iadd, 1) := by decide +kernel
theorem dL_law_1426 : decode cL_law 1426 = .ok (.iaload, 1) := by decide +kernel
theorem dL_law_1427 : decode cL_law 1427 = .ok (.aload_n 0, 1) := by decide +kernel
theorem dL_law_1428 : decode cL_law 1428 = .ok (.iload 4, 2) := by decide +kernel
theorem dL_law_1430 : decode cL_law 1430 = .ok (.iconst 3, 1) := by decide +kernel
theorem dL_law_1431 : decode cL_law 1431 = .ok (.iadd, 1) := by decide +kernel
theorem dL_law_1432 : decode cL_law 1432 = .ok (.iaload, 1) := by decide +kernel
theorem dL_law_1433 : decode cL_law 1433 = .ok (.invokevirtual 172, 3) := by decide +kernel
theorem dL_law_1436 : decode cL_law 1436 = .ok (.istore 6, 2) := by decide +kernel
theorem dL_law_1438 : decode cL_law 1438 = .ok (.aload_n 2, 1) := by decide +kernel
theorem dL_law_1439 : decode cL_law 1439 = .ok (.invokevirtual 100, 3) := by decide +kernel
theorem dL_law_1442 : decode cL_law 1442 = .ok (.iload 5, 2) := by decide +kernel
theorem dL_law_1444 : decode cL_law 1444 = .ok (.if_icmp .eq 5, 3) := by decide +kernel
theorem dL_law_1447 : decode cL_law 1447 = .ok (.iconst 0, 1) := by decide +kernel
theorem dL_law_1448 : decode cL_law 1448 = .ok (.ireturn, 1) := by decide +kernel
theorem dL_law_1449 : decode cL_law 1449 = .ok (.iload 5, 2) := by decide +kernel
theorem dL_law_1451 : decode cL_law 1451 = .ok (.ifCond .ne 15, 3) := by decide +kernel
theorem dL_law_1454 : decode cL_law 1454 = .ok (.aload_n 3, 1) := by decide +kernel
theorem dL_law_1455 : decode cL_law 1455 = .ok (.iconst 0, 1) := by decide +kernel
theorem dL_law_1456 : decode cL_law 1456 = .ok (.laload, 1) := by decide +kernel
theorem dL_law_1457 : decode cL_law 1457 = .ok (.iload 6, 2) := by decide +kernel
theorem dL_law_1459 : decode cL_law 1459 = .ok (.i2l, 1) := by decide +kernel
theorem dL_law_1460 : decode cL_law 1460 = .ok (.lcmp, 1) := by decide +kernel
theorem dL_law_1461 : decode cL_law 1461 = .ok (.ifCond .eq 5, 3) := by decide +kernel
theorem dL_law_1464 : decode cL_law 1464 = .ok (.iconst 0, 1) := by decide +kernel
theorem dL_law_1465 : decode cL_law 1465 = .ok (.ireturn, 1) := by decide +kernel
theorem dL_law_1466 : decode cL_law 1466 = .ok (.goto 176, 3) := by decide +kernel
theorem dL_law_1469 : decode cL_law 1469 = .ok (.aload_n 1, 1) := by decide +kernel
theorem dL_law_1470 : decode cL_law 1470 = .ok (.aload_n 0, 1) := by decide +kernel
theorem dL_law_1471 : decode cL_law 1471 = .ok (.iload 4, 2) := by decide +kernel
theorem dL_law_1473 : decode cL_law 1473 = .ok (.iconst 1, 1) := by decide +kernel
theorem dL_law_1474 : decode cL_law 1474 = .ok (.iadd, 1) := by decide +kernel
theorem dL_law_1475 : decode cL_law 1475 = .ok (.iaload, 1) := by decide +kernel
theorem dL_law_1476 : decode cL_law 1476 = .ok (.aload_n 0, 1) := by decide +kernel
theorem dL_law_1477 : decode cL_law 1477 = .ok (.iload 4, 2) := by decide +kernel
theorem dL_law_1479 : decode cL_law 1479 = .ok (.iconst 2, 1) := by decide +kernel
theorem dL_law_1480 : decode cL_law 1480 = .ok (.iadd, 1) := by decide +kernel
theorem dL_law_1481 : decode cL_law 1481 = .ok (.iaload, 1) := by decide +kernel
theorem dL_law_1482 : decode cL_law 1482 = .ok (.aload_n 0, 1) := by decide +kernel
theorem dL_law_1483 : decode cL_law 1483 = .ok (.iload 4, 2) := by decide +kernel
theorem dL_law_1485 : decode cL_law 1485 = .ok (.iconst 3, 1) := by decide +kernel
theorem dL_law_1486 : decode cL_law 1486 = .ok (.iadd, 1) := by decide +kernel
theorem dL_law_1487 : decode cL_law 1487 = .ok (.iaload, 1) := by decide +kernel
theorem dL_law_1488 : decode cL_law 1488 = .ok (.aload_n 3, 1) := by decide +kernel
theorem dL_law_1489 : decode cL_law 1489 = .ok (.invokestatic 173, 3) := by decide +kernel
theorem dL_law_1492 : decode cL_law 1492 = .ok (.istore 5, 2) := by decide +kernel
theorem dL_law_1494 : decode cL_law 1494 = .ok (.aload_n 2, 1) := by decide +kernel
theorem dL_law_1495 : decode cL_law 1495 = .ok (.aload_n 0, 1) := by decide +kernel
theorem dL_law_1496 : decode cL_law 1496 = .ok (.iload 4, 2) := by decide +kernel
theorem dL_law_1498 : decode cL_law 1498 = .ok (.iconst 1, 1) := by decide +kernel
theorem dL_law_1499 : decode cL_law 1499 = .ok (.iadd, 1) := by decide +kernel
theorem dL_law_1500 : decode cL_law 1500 = .ok (.iaload, 1) := by decide +kernel
theorem dL_law_1501 : decode cL_law 1501 = .ok (.aload_n 0, 1) := by decide +kernel
theorem dL_law_1502 : decode cL_law 1502 = .ok (.iload 4, 2) := by decide +kernel
theorem dL_law_1504 : decode cL_law 1504 = .ok (.iconst 2, 1) := by decide +kernel
theorem dL_law_1505 : decode cL_law 1505 = .ok (.iadd, 1) := by decide +kernel
theorem dL_law_1506 : decode cL_law 1506 = .ok (.iaload, 1) := by decide +kernel
theorem dL_law_1507 : decode cL_law 1507 = .ok (.aload_n 0, 1) := by decide +kernel
theorem dL_law_1508 : decode cL_law 1508 = .ok (.iload 4, 2) := by decide +kernel
theorem dL_law_1510 : decode cL_law 1510 = .ok (.iconst 3, 1) := by decide +kernel
theorem dL_law_1511 : decode cL_law 1511 = .ok (.iadd, 1) := by decide +kernel
theorem dL_law_1512 : decode cL_law 1512 = .ok (.iaload, 1) := by decide +kernel
theorem dL_law_1513 : decode cL_law 1513 = .ok (.invokevirtual 175, 3) := by decide +kernel
theorem dL_law_1516 : decode cL_law 1516 = .ok (.istore 6, 2) := by decide +kernel
theorem dL_law_1518 : decode cL_law 1518 = .ok (.aload_n 2, 1) := by decide +kernel
theorem dL_law_1519 : decode cL_law 1519 = .ok (.invokevirtual 100, 3) := by decide +kernel
theorem dL_law_1522 : decode cL_law 1522 = .ok (.iload 5, 2) := by decide +kernel
theorem dL_law_1524 : decode cL_law 1524 = .ok (.if_icmp .eq 5, 3) := by decide +kernel
theorem dL_law_1527 : decode cL_law 1527 = .ok (.iconst 0, 1) := by decide +kernel
theorem dL_law_1528 : decode cL_law 1528 = .ok (.ireturn, 1) := by decide +kernel
theorem dL_law_1529 : decode cL_law 1529 = .ok (.iload 5, 2) := by decide +kernel
theorem dL_law_1531 : decode cL_law 1531 = .ok (.ifCond .ne 15, 3) := by decide +kernel
theorem dL_law_1534 : decode cL_law 1534 = .ok (.aload_n 3, 1) := by decide +kernel
theorem dL_law_1535 : decode cL_law 1535 = .ok (.iconst 0, 1) := by decide +kernel
theorem dL_law_1536 : decode cL_law 1536 = .ok (.laload, 1) := by decide +kernel
theorem dL_law_1537 : decode cL_law 1537 = .ok (.iload 6, 2) := by decide +kernel
theorem dL_law_1539 : decode cL_law 1539 = .ok (.i2l, 1) := by decide +kernel
theorem dL_law_1540 : decode cL_law 1540 = .ok (.lcmp, 1) := by decide +kernel
theorem dL_law_1541 : decode cL_law 1541 = .ok (.ifCond .eq 5, 3) := by decide +kernel
theorem dL_law_1544 : decode cL_law 1544 = .ok (.iconst 0, 1) := by decide +kernel
theorem dL_law_1545 : decode cL_law 1545 = .ok (.ireturn, 1) := by decide +kernel
theorem dL_law_1546 : decode cL_law 1546 = .ok (.goto 96, 3) := by decide +kernel
theorem dL_law_1549 : decode cL_law 1549 = .ok (.aload_n 1, 1) := by decide +kernel
theorem dL_law_1550 : decode cL_law 1550 = .ok (.aload_n 0, 1) := by decide +kernel
theorem dL_law_1551 : decode cL_law 1551 = .ok (.iload 4, 2) := by decide +kernel
theorem dL_law_1553 : decode cL_law 1553 = .ok (.iconst 1, 1) := by decide +kernel
theorem dL_law_1554 : decode cL_law 1554 = .ok (.iadd, 1) := by decide +kernel
theorem dL_law_1555 : decode cL_law 1555 = .ok (.iaload, 1) := by decide +kernel
theorem dL_law_1556 : decode cL_law 1556 = .ok (.aload_n 0, 1) := by decide +kernel
theorem dL_law_1557 : decode cL_law 1557 = .ok (.iload 4, 2) := by decide +kernel
theorem dL_law_1559 : decode cL_law 1559 = .ok (.iconst 2, 1) := by decide +kernel
theorem dL_law_1560 : decode cL_law 1560 = .ok (.iadd, 1) := by decide +kernel
theorem dL_law_1561 : decode cL_law 1561 = .ok (.iaload, 1) := by decide +kernel
theorem dL_law_1562 : decode cL_law 1562 = .ok (.aload_n 0, 1) := by decide +kernel
theorem dL_law_1563 : decode cL_law 1563 = .ok (.iload 4, 2) := by decide +kernel
theorem dL_law_1565 : decode cL_law 1565 = .ok (.iconst 3, 1) := by decide +kernel
theorem dL_law_1566 : decode cL_law 1566 = .ok (.iadd, 1) := by decide +kernel
theorem dL_law_1567 : decode cL_law 1567 = .ok (.iaload, 1) := by decide +kernel
theorem dL_law_1568 : decode cL_law 1568 = .ok (.aload_n 3, 1) := by decide +kernel
theorem dL_law_1569 : decode cL_law 1569 = .ok (.invokestatic 176, 3) := by decide +kernel
theorem dL_law_1572 : decode cL_law 1572 = .ok (.istore 5, 2) := by decide +kernel
theorem dL_law_1574 : decode cL_law 1574 = .ok (.aload_n 2, 1) := by decide +kernel
theorem dL_law_1575 : decode cL_law 1575 = .ok (.aload_n 0, 1) := by decide +kernel
theorem dL_law_1576 : decode cL_law 1576 = .ok (.iload 4, 2) := by decide +kernel
theorem dL_law_1578 : decode cL_law 1578 = .ok (.iconst 1, 1) := by decide +kernel
theorem dL_law_1579 : decode cL_law 1579 = .ok (.iadd, 1) := by decide +kernel
theorem dL_law_1580 : decode cL_law 1580 = .ok (.iaload, 1) := by decide +kernel
theorem dL_law_1581 : decode cL_law 1581 = .ok (.aload_n 0, 1) := by decide +kernel
theorem dL_law_1582 : decode cL_law 1582 = .ok (.iload 4, 2) := by decide +kernel
theorem dL_law_1584 : decode cL_law 1584 = .ok (.iconst 2, 1) := by decide +kernel
theorem dL_law_1585 : decode cL_law 1585 = .ok (.iadd, 1) := by decide +kernel
theorem dL_law_1586 : decode cL_law 1586 = .ok (.iaload, 1) := by decide +kernel
theorem dL_law_1587 : decode cL_law 1587 = .ok (.aload_n 0, 1) := by decide +kernel
theorem dL_law_1588 : decode cL_law 1588 = .ok (.iload 4, 2) := by decide +kernel
theorem dL_law_1590 : decode cL_law 1590 = .ok (.iconst 3, 1) := by decide +kernel
theorem dL_law_1591 : decode cL_law 1591 = .ok (.iadd, 1) := by decide +kernel
theorem dL_law_1592 : decode cL_law 1592 = .ok (.iaload, 1) := by decide +kernel
theorem dL_law_1593 : decode cL_law 1593 = .ok (.invokevirtual 178, 3) := by decide +kernel
theorem dL_law_1596 : decode cL_law 1596 = .ok (.istore 6, 2) := by decide +kernel
theorem dL_law_1598 : decode cL_law 1598 = .ok (.aload_n 2, 1) := by decide +kernel
theorem dL_law_1599 : decode cL_law 1599 = .ok (.invokevirtual 100, 3) := by decide +kernel
theorem dL_law_1602 : decode cL_law 1602 = .ok (.iload 5, 2) := by decide +kernel
theorem dL_law_1604 : decode cL_law 1604 = .ok (.if_icmp .eq 5, 3) := by decide +kernel
theorem dL_law_1607 : decode cL_law 1607 = .ok (.iconst 0, 1) := by decide +kernel
theorem dL_law_1608 : decode cL_law 1608 = .ok (.ireturn, 1) := by decide +kernel
theorem dL_law_1609 : decode cL_law 1609 = .ok (.iload 5, 2) := by decide +kernel
theorem dL_law_1611 : decode cL_law 1611 = .ok (.ifCond .ne 15, 3) := by decide +kernel
theorem dL_law_1614 : decode cL_law 1614 = .ok (.aload_n 3, 1) := by decide +kernel
theorem dL_law_1615 : decode cL_law 1615 = .ok (.iconst 0, 1) := by decide +kernel
theorem dL_law_1616 : decode cL_law 1616 = .ok (.laload, 1) := by decide +kernel
theorem dL_law_1617 : decode cL_law 1617 = .ok (.iload 6, 2) := by decide +kernel
theorem dL_law_1619 : decode cL_law 1619 = .ok (.i2l, 1) := by decide +kernel
theorem dL_law_1620 : decode cL_law 1620 = .ok (.lcmp, 1) := by decide +kernel
theorem dL_law_1621 : decode cL_law 1621 = .ok (.ifCond .eq 5, 3) := by decide +kernel
theorem dL_law_1624 : decode cL_law 1624 = .ok (.iconst 0, 1) := by decide +kernel
theorem dL_law_1625 : decode cL_law 1625 = .ok (.ireturn, 1) := by decide +kernel
theorem dL_law_1626 : decode cL_law 1626 = .ok (.goto 16, 3) := by decide +kernel
theorem dL_law_1629 : decode cL_law 1629 = .ok (.aload_n 1, 1) := by decide +kernel
theorem dL_law_1630 : decode cL_law 1630 = .ok (.invokevirtual 179, 3) := by decide +kernel
theorem dL_law_1633 : decode cL_law 1633 = .ok (.aload_n 2, 1) := by decide +kernel
theorem dL_law_1634 : decode cL_law 1634 = .ok (.invokevirtual 182, 3) := by decide +kernel
theorem dL_law_1637 : decode cL_law 1637 = .ok (.if_icmp .eq 5, 3) := by decide +kernel
theorem dL_law_1640 : decode cL_law 1640 = .ok (.iconst 0, 1) := by decide +kernel
theorem dL_law_1641 : decode cL_law 1641 = .ok (.ireturn, 1) := by decide +kernel
theorem dL_law_1642 : decode cL_law 1642 = .ok (.iinc 4 6, 3) := by decide +kernel
theorem dL_law_1645 : decode cL_law 1645 = .ok (.goto (-1622), 3) := by decide +kernel
theorem dL_law_1648 : decode cL_law 1648 = .ok (.iconst 1, 1) := by decide +kernel
theorem dL_law_1649 : decode cL_law 1649 = .ok (.ireturn, 1) := by decide +kernel
end
section
theorem dL_addBook_0 : decode cL_addBook 0 = .ok (.aload_n 1, 1) := by decide +kernel
theorem dL_addBook_1 : decode cL_addBook 1 = .ok (.iconst 0, 1) := by decide +kernel
theorem dL_addBook_2 : decode cL_addBook 2 = .ok (.aload_n 0, 1) := by decide +kernel
theorem dL_addBook_3 : decode cL_addBook 3 = .ok (.invokevirtual 7, 3) := by decide +kernel
theorem dL_addBook_6 : decode cL_addBook 6 = .ok (.i2l, 1) := by decide +kernel
theorem dL_addBook_7 : decode cL_addBook 7 = .ok (.lastore, 1) := by decide +kernel
theorem dL_addBook_8 : decode cL_addBook 8 = .ok (.goto 6, 3) := by decide +kernel
theorem dL_addBook_11 : decode cL_addBook 11 = .ok (.astore_n 2, 1) := by decide +kernel
theorem dL_addBook_12 : decode cL_addBook 12 = .ok (.iconst 1, 1) := by decide +kernel
theorem dL_addBook_13 : decode cL_addBook 13 = .ok (.ireturn, 1) := by decide +kernel
theorem dL_addBook_14 : decode cL_addBook 14 = .ok (.iconst 0, 1) := by decide +kernel
theorem dL_addBook_15 : decode cL_addBook 15 = .ok (.ireturn, 1) := by decide +kernel
theorem dL_draw_0 : decode cL_draw 0 = .ok (.aload 6, 2) := by decide +kernel
theorem dL_draw_2 : decode cL_draw 2 = .ok (.iconst 0, 1) := by decide +kernel
theorem dL_draw_3 : decode cL_draw 3 = .ok (.aload_n 0, 1) := by decide +kernel
theorem dL_draw_4 : decode cL_draw 4 = .ok (.iload_n 1, 1) := by decide +kernel
theorem dL_draw_5 : decode cL_draw 5 = .ok (.iload_n 2, 1) := by decide +kernel
theorem dL_draw_6 : decode cL_draw 6 = .ok (.iload_n 3, 1) := by decide +kernel
theorem dL_draw_7 : decode cL_draw 7 = .ok (.iload 4, 2) := by decide +kernel
theorem dL_draw_9 : decode cL_draw 9 = .ok (.iload 5, 2) := by decide +kernel
theorem dL_draw_11 : decode cL_draw 11 = .ok (.invokevirtual 15, 3) := by decide +kernel
theorem dL_draw_14 : decode cL_draw 14 = .ok (.i2l, 1) := by decide +kernel
theorem dL_draw_15 : decode cL_draw 15 = .ok (.lastore, 1) := by decide +kernel
theorem dL_draw_16 : decode cL_draw 16 = .ok (.goto 15, 3) := by decide +kernel
theorem dL_draw_19 : decode cL_draw 19 = .ok (.astore 7, 2) := by decide +kernel
theorem dL_draw_21 : decode cL_draw 21 = .ok (.iconst 1, 1) := by decide +kernel
theorem dL_draw_22 : decode cL_draw 22 = .ok (.ireturn, 1) := by decide +kernel
theorem dL_draw_23 : decode cL_draw 23 = .ok (.astore 7, 2) := by decide +kernel
theorem dL_draw_25 : decode cL_draw 25 = .ok (.iconst 2, 1) := by decide +kernel
theorem dL_draw_26 : decode cL_draw 26 = .ok (.ireturn, 1) := by decide +kernel
theorem dL_draw_27 : decode cL_draw 27 = .ok (.astore 7, 2) := by decide +kernel
theorem dL_draw_29 : decode cL_draw 29 = .ok (.iconst 3, 1) := by decide +kernel
theorem dL_draw_30 : decode cL_draw 30 = .ok (.ireturn, 1) := by decide +kernel
theorem dL_draw_31 : decode cL_draw 31 = .ok (.iconst 0, 1) := by decide +kernel
theorem dL_draw_32 : decode cL_draw 32 = .ok (.ireturn, 1) := by decide +kernel
theorem dL_erase_0 : decode cL_erase 0 = .ok (.aload_n 3, 1) := by decide +kernel
theorem dL_erase_1 : decode cL_erase 1 = .ok (.iconst 0, 1) := by decide +kernel
theorem dL_erase_2 : decode cL_erase 2 = .ok (.aload_n 0, 1) := by decide +kernel
theorem dL_erase_3 : decode cL_erase 3 = .ok (.iload_n 1, 1) := by decide +kernel
theorem dL_erase_4 : decode cL_erase 4 = .ok (.iload_n 2, 1) := by decide +kernel
theorem dL_erase_5 : decode cL_erase 5 = .ok (.invokevirtual 23, 3) := by decide +kernel
theorem dL_erase_8 : decode cL_erase 8 = .ok (.i2l, 1) := by decide +kernel
theorem dL_erase_9 : decode cL_erase 9 = .ok (.lastore, 1) := by decide +kernel
theorem dL_erase_10 : decode cL_erase 10 = .ok (.goto 7, 3) := by decide +kernel
theorem dL_erase_13 : decode cL_erase 13 = .ok (.astore 4, 2) := by decide +kernel
theorem dL_erase_15 : decode cL_erase 15 = .ok (.iconst 1, 1) := by decide +kernel
theorem dL_erase_16 : decode cL_erase 16 = .ok (.ireturn, 1) := by decide +kernel
theorem dL_erase_17 : decode cL_erase 17 = .ok (.iconst 0, 1) := by decide +kernel
theorem dL_erase_18 : decode cL_erase 18 = .ok (.ireturn, 1) := by decide +kernel
theorem dL_move_0 : decode cL_move 0 = .ok (.aload 4, 2) := by decide +kernel
theorem dL_move_2 : decode cL_move 2 = .ok (.iconst 0, 1) := by decide +kernel
theorem dL_move_3 : decode cL_move 3 = .ok (.aload_n 0, 1) := by decide +kernel
theorem dL_move_4 : decode cL_move 4 = .ok (.iload_n 1, 1) := by decide +kernel
theorem dL_move_5 : decode cL_move 5 = .ok (.iload_n 2, 1) := by decide +kernel
theorem dL_move_6 : decode cL_move 6 = .ok (.iload_n 3, 1) := by decide +kernel
theorem dL_move_7 : decode cL_move 7 = .ok (.invokevirtual 27, 3) := by decide +kernel
theorem dL_move_10 : decode cL_move 10 = .ok (.i2l, 1) := by decide +kernel
theorem dL_move_11 : decode cL_move 11 = .ok (.lastore, 1) := by decide +kernel
theorem dL_move_12 : decode cL_move 12 = .ok (.goto 11, 3) := by decide +kernel
theorem dL_move_15 : decode cL_move 15 = .ok (.astore 5, 2) := by decide +kernel
theorem dL_move_17 : decode cL_move 17 = .ok (.iconst 1, 1) := by decide +kernel
theorem dL_move_18 : decode cL_move 18 = .ok (.ireturn, 1) := by decide +kernel
theorem dL_move_19 : decode cL_move 19 = .ok (.astore 5, 2) := by decide +kernel
theorem dL_move_21 : decode cL_move 21 = .ok (.iconst 2, 1) := by decide +kernel
theorem dL_move_22 : decode cL_move 22 = .ok (.ireturn, 1) := by decide +kernel
theorem dL_move_23 : decode cL_move 23 = .ok (.iconst 0, 1) := by decide +kernel
theorem dL_move_24 : decode cL_move 24 = .ok (.ireturn, 1) := by decide +kernel
theorem dL_frames_0 : decode cL_frames 0 = .ok (.aload_n 2, 1) := by decide +kernel
theorem dL_frames_1 : decode cL_frames 1 = .ok (.iconst 0, 1) := by decide +kernel
theorem dL_frames_2 : decode cL_frames 2 = .ok (.aload_n 0, 1) := by decide +kernel
theorem dL_frames_3 : decode cL_frames 3 = .ok (.iload_n 1, 1) := by decide +kernel
theorem dL_frames_4 : decode cL_frames 4 = .ok (.invokevirtual 31, 3) := by decide +kernel
theorem dL_frames_7 : decode cL_frames 7 = .ok (.i2l, 1) := by decide +kernel
theorem dL_frames_8 : decode cL_frames 8 = .ok (.lastore, 1) := by decide +kernel
theorem dL_frames_9 : decode cL_frames 9 = .ok (.goto 6, 3) := by decide +kernel
theorem dL_frames_12 : decode cL_frames 12 = .ok (.astore_n 3, 1) := by decide +kernel
theorem dL_frames_13 : decode cL_frames 13 = .ok (.iconst 1, 1) := by decide +kernel
theorem dL_frames_14 : decode cL_frames 14 = .ok (.ireturn, 1) := by decide +kernel
theorem dL_frames_15 : decode cL_frames 15 = .ok (.iconst 0, 1) := by decide +kernel
theorem dL_frames_16 : decode cL_frames 16 = .ok (.ireturn, 1) := by decide +kernel
theorem dL_frameAt_0 : decode cL_frameAt 0 = .ok (.aload_n 3, 1) := by decide +kernel
theorem dL_frameAt_1 : decode cL_frameAt 1 = .ok (.iconst 0, 1) := by decide +kernel
theorem dL_frameAt_2 : decode cL_frameAt 2 = .ok (.aload_n 0, 1) := by decide +kernel
theorem dL_frameAt_3 : decode cL_frameAt 3 = .ok (.iload_n 1, 1) := by decide +kernel
theorem dL_frameAt_4 : decode cL_frameAt 4 = .ok (.iload_n 2, 1) := by decide +kernel
theorem dL_frameAt_5 : decode cL_frameAt 5 = .ok (.invokevirtual 35, 3) := by decide +kernel
theorem dL_frameAt_8 : decode cL_frameAt 8 = .ok (.i2l, 1) := by decide +kernel
theorem dL_frameAt_9 : decode cL_frameAt 9 = .ok (.lastore, 1) := by decide +kernel
theorem dL_frameAt_10 : decode cL_frameAt 10 = .ok (.goto 7, 3) := by decide +kernel
theorem dL_frameAt_13 : decode cL_frameAt 13 = .ok (.astore 4, 2) := by decide +kernel
theorem dL_frameAt_15 : decode cL_frameAt 15 = .ok (.iconst 1, 1) := by decide +kernel
theorem dL_frameAt_16 : decode cL_frameAt 16 = .ok (.ireturn, 1) := by decide +kernel
theorem dL_frameAt_17 : decode cL_frameAt 17 = .ok (.iconst 0, 1) := by decide +kernel
theorem dL_frameAt_18 : decode cL_frameAt 18 = .ok (.ireturn, 1) := by decide +kernel
theorem dL_order_0 : decode cL_order 0 = .ok (.aload_n 3, 1) := by decide +kernel
theorem dL_order_1 : decode cL_order 1 = .ok (.iconst 0, 1) := by decide +kernel
theorem dL_order_2 : decode cL_order 2 = .ok (.aload_n 0, 1) := by decide +kernel
theorem dL_order_3 : decode cL_order 3 = .ok (.iload_n 1, 1) := by decide +kernel
theorem dL_order_4 : decode cL_order 4 = .ok (.iload_n 2, 1) := by decide +kernel
theorem dL_order_5 : decode cL_order 5 = .ok (.invokevirtual 38, 3) := by decide +kernel
theorem dL_order_8 : decode cL_order 8 = .ok (.i2l, 1) := by decide +kernel
theorem dL_order_9 : decode cL_order 9 = .ok (.lastore, 1) := by decide +kernel
theorem dL_order_10 : decode cL_order 10 = .ok (.goto 15, 3) := by decide +kernel
theorem dL_order_13 : decode cL_order 13 = .ok (.astore 4, 2) := by decide +kernel
theorem dL_order_15 : decode cL_order 15 = .ok (.iconst 1, 1) := by decide +kernel
theorem dL_order_16 : decode cL_order 16 = .ok (.ireturn, 1) := by decide +kernel
theorem dL_order_17 : decode cL_order 17 = .ok (.astore 4, 2) := by decide +kernel
theorem dL_order_19 : decode cL_order 19 = .ok (.iconst 2, 1) := by decide +kernel
theorem dL_order_20 : decode cL_order 20 = .ok (.ireturn, 1) := by decide +kernel
theorem dL_order_21 : decode cL_order 21 = .ok (.astore 4, 2) := by decide +kernel
theorem dL_order_23 : decode cL_order 23 = .ok (.iconst 3, 1) := by decide +kernel
theorem dL_order_24 : decode cL_order 24 = .ok (.ireturn, 1) := by decide +kernel
theorem dL_order_25 : decode cL_order 25 = .ok (.iconst 0, 1) := by decide +kernel
theorem dL_order_26 : decode cL_order 26 = .ok (.ireturn, 1) := by decide +kernel
theorem dL_lacking_0 : decode cL_lacking 0 = .ok (.aload_n 2, 1) := by decide +kernel
theorem dL_lacking_1 : decode cL_lacking 1 = .ok (.iconst 0, 1) := by decide +kernel
theorem dL_lacking_2 : decode cL_lacking 2 = .ok (.aload_n 0, 1) := by decide +kernel
theorem dL_lacking_3 : decode cL_lacking 3 = .ok (.iload_n 1, 1) := by decide +kernel
theorem dL_lacking_4 : decode cL_lacking 4 = .ok (.invokevirtual 41, 3) := by decide +kernel
theorem dL_lacking_7 : decode cL_lacking 7 = .ok (.i2l, 1) := by decide +kernel
theorem dL_lacking_8 : decode cL_lacking 8 = .ok (.lastore, 1) := by decide +kernel
theorem dL_lacking_9 : decode cL_lacking 9 = .ok (.goto 6, 3) := by decide +kernel
theorem dL_lacking_12 : decode cL_lacking 12 = .ok (.astore_n 3, 1) := by decide +kernel
theorem dL_lacking_13 : decode cL_lacking 13 = .ok (.iconst 1, 1) := by decide +kernel
theorem dL_lacking_14 : decode cL_lacking 14 = .ok (.ireturn, 1) := by decide +kernel
theorem dL_lacking_15 : decode cL_lacking 15 = .ok (.iconst 0, 1) := by decide +kernel
theorem dL_lacking_16 : decode cL_lacking 16 = .ok (.ireturn, 1) := by decide +kernel
theorem dL_waits_0 : decode cL_waits 0 = .ok (.aload_n 2, 1) := by decide +kernel
theorem dL_waits_1 : decode cL_waits 1 = .ok (.iconst 0, 1) := by decide +kernel
theorem dL_waits_2 : decode cL_waits 2 = .ok (.aload_n 0, 1) := by decide +kernel
theorem dL_waits_3 : decode cL_waits 3 = .ok (.iload_n 1, 1) := by decide +kernel
theorem dL_waits_4 : decode cL_waits 4 = .ok (.invokevirtual 44, 3) := by decide +kernel
theorem dL_waits_7 : decode cL_waits 7 = .ok (.i2l, 1) := by decide +kernel
theorem dL_waits_8 : decode cL_waits 8 = .ok (.lastore, 1) := by decide +kernel
theorem dL_waits_9 : decode cL_waits 9 = .ok (.goto 6, 3) := by decide +kernel
theorem dL_waits_12 : decode cL_waits 12 = .ok (.astore_n 3, 1) := by decide +kernel
theorem dL_waits_13 : decode cL_waits 13 = .ok (.iconst 1, 1) := by decide +kernel
theorem dL_waits_14 : decode cL_waits 14 = .ok (.ireturn, 1) := by decide +kernel
theorem dL_waits_15 : decode cL_waits 15 = .ok (.iconst 0, 1) := by decide +kernel
theorem dL_waits_16 : decode cL_waits 16 = .ok (.ireturn, 1) := by decide +kernel
theorem dL_setFolds_0 : decode cL_setFolds 0 = .ok (.aload_n 0, 1) := by decide +kernel
theorem dL_setFolds_1 : decode cL_setFolds 1 = .ok (.iload_n 1, 1) := by decide +kernel
theorem dL_setFolds_2 : decode cL_setFolds 2 = .ok (.iload_n 2, 1) := by decide +kernel
theorem dL_setFolds_3 : decode cL_setFolds 3 = .ok (.iload_n 3, 1) := by decide +kernel
theorem dL_setFolds_4 : decode cL_setFolds 4 = .ok (.invokevirtual 47, 3) := by decide +kernel
theorem dL_setFolds_7 : decode cL_setFolds 7 = .ok (.goto 7, 3) := by decide +kernel
theorem dL_setFolds_10 : decode cL_setFolds 10 = .ok (.astore 4, 2) := by decide +kernel
theorem dL_setFolds_12 : decode cL_setFolds 12 = .ok (.iconst 1, 1) := by decide +kernel
theorem dL_setFolds_13 : decode cL_setFolds 13 = .ok (.ireturn, 1) := by decide +kernel
theorem dL_setFolds_14 : decode cL_setFolds 14 = .ok (.iconst 0, 1) := by decide +kernel
theorem dL_setFolds_15 : decode cL_setFolds 15 = .ok (.ireturn, 1) := by decide +kernel
theorem dL_cellOf_0 : decode cL_cellOf 0 = .ok (.aload_n 2, 1) := by decide +kernel
theorem dL_cellOf_1 : decode cL_cellOf 1 = .ok (.iconst 0, 1) := by decide +kernel
theorem dL_cellOf_2 : decode cL_cellOf 2 = .ok (.aload_n 0, 1) := by decide +kernel
theorem dL_cellOf_3 : decode cL_cellOf 3 = .ok (.iload_n 1, 1) := by decide +kernel
theorem dL_cellOf_4 : decode cL_cellOf 4 = .ok (.invokevirtual 51, 3) := by decide +kernel
theorem dL_cellOf_7 : decode cL_cellOf 7 = .ok (.i2l, 1) := by decide +kernel
theorem dL_cellOf_8 : decode cL_cellOf 8 = .ok (.lastore, 1) := by decide +kernel
theorem dL_cellOf_9 : decode cL_cellOf 9 = .ok (.goto 6, 3) := by decide +kernel
theorem dL_cellOf_12 : decode cL_cellOf 12 = .ok (.astore_n 3, 1) := by decide +kernel
theorem dL_cellOf_13 : decode cL_cellOf 13 = .ok (.iconst 1, 1) := by decide +kernel
theorem dL_cellOf_14 : decode cL_cellOf 14 = .ok (.ireturn, 1) := by decide +kernel
theorem dL_cellOf_15 : decode cL_cellOf 15 = .ok (.iconst 0, 1) := by decide +kernel
theorem dL_cellOf_16 : decode cL_cellOf 16 = .ok (.ireturn, 1) := by decide +kernel
theorem dL_placeOf_0 : decode cL_placeOf 0 = .ok (.aload_n 2, 1) := by decide +kernel
theorem dL_placeOf_1 : decode cL_placeOf 1 = .ok (.iconst 0, 1) := by decide +kernel
theorem dL_placeOf_2 : decode cL_placeOf 2 = .ok (.aload_n 0, 1) := by decide +kernel
theorem dL_placeOf_3 : decode cL_placeOf 3 = .ok (.iload_n 1, 1) := by decide +kernel
theorem dL_placeOf_4 : decode cL_placeOf 4 = .ok (.invokevirtual 54, 3) := by decide +kernel
theorem dL_placeOf_7 : decode cL_placeOf 7 = .ok (.i2l, 1) := by decide +kernel
theorem dL_placeOf_8 : decode cL_placeOf 8 = .ok (.lastore, 1) := by decide +kernel
theorem dL_placeOf_9 : decode cL_placeOf 9 = .ok (.goto 6, 3) := by decide +kernel
theorem dL_placeOf_12 : decode cL_placeOf 12 = .ok (.astore_n 3, 1) := by decide +kernel
theorem dL_placeOf_13 : decode cL_placeOf 13 = .ok (.iconst 1, 1) := by decide +kernel
theorem dL_placeOf_14 : decode cL_placeOf 14 = .ok (.ireturn, 1) := by decide +kernel
theorem dL_placeOf_15 : decode cL_placeOf 15 = .ok (.iconst 0, 1) := by decide +kernel
theorem dL_placeOf_16 : decode cL_placeOf 16 = .ok (.ireturn, 1) := by decide +kernel
theorem dL_print_0 : decode cL_print 0 = .ok (.aload_n 2, 1) := by decide +kernel
theorem dL_print_1 : decode cL_print 1 = .ok (.iconst 0, 1) := by decide +kernel
theorem dL_print_2 : decode cL_print 2 = .ok (.aload_n 0, 1) := by decide +kernel
theorem dL_print_3 : decode cL_print 3 = .ok (.iload_n 1, 1) := by decide +kernel
theorem dL_print_4 : decode cL_print 4 = .ok (.invokevirtual 57, 3) := by decide +kernel
theorem dL_print_7 : decode cL_print 7 = .ok (.i2l, 1) := by decide +kernel
theorem dL_print_8 : decode cL_print 8 = .ok (.lastore, 1) := by decide +kernel
theorem dL_print_9 : decode cL_print 9 = .ok (.goto 9, 3) := by decide +kernel
theorem dL_print_12 : decode cL_print 12 = .ok (.astore_n 3, 1) := by decide +kernel
theorem dL_print_13 : decode cL_print 13 = .ok (.iconst 1, 1) := by decide +kernel
theorem dL_print_14 : decode cL_print 14 = .ok (.ireturn, 1) := by decide +kernel
theorem dL_print_15 : decode cL_print 15 = .ok (.astore_n 3, 1) := by decide +kernel
theorem dL_print_16 : decode cL_print 16 = .ok (.iconst 2, 1) := by decide +kernel
theorem dL_print_17 : decode cL_print 17 = .ok (.ireturn, 1) := by decide +kernel
theorem dL_print_18 : decode cL_print 18 = .ok (.iconst 0, 1) := by decide +kernel
theorem dL_print_19 : decode cL_print 19 = .ok (.ireturn, 1) := by decide +kernel
theorem dL_onSheet_0 : decode cL_onSheet 0 = .ok (.aload_n 3, 1) := by decide +kernel
theorem dL_onSheet_1 : decode cL_onSheet 1 = .ok (.iconst 0, 1) := by decide +kernel
theorem dL_onSheet_2 : decode cL_onSheet 2 = .ok (.aload_n 0, 1) := by decide +kernel
theorem dL_onSheet_3 : decode cL_onSheet 3 = .ok (.iload_n 1, 1) := by decide +kernel
theorem dL_onSheet_4 : decode cL_onSheet 4 = .ok (.iload_n 2, 1) := by decide +kernel
theorem dL_onSheet_5 : decode cL_onSheet 5 = .ok (.invokevirtual 60, 3) := by decide +kernel
theorem dL_onSheet_8 : decode cL_onSheet 8 = .ok (.i2l, 1) := by decide +kernel
theorem dL_onSheet_9 : decode cL_onSheet 9 = .ok (.lastore, 1) := by decide +kernel
theorem dL_onSheet_10 : decode cL_onSheet 10 = .ok (.goto 11, 3) := by decide +kernel
theorem dL_onSheet_13 : decode cL_onSheet 13 = .ok (.astore 4, 2) := by decide +kernel
theorem dL_onSheet_15 : decode cL_onSheet 15 = .ok (.iconst 1, 1) := by decide +kernel
theorem dL_onSheet_16 : decode cL_onSheet 16 = .ok (.ireturn, 1) := by decide +kernel
theorem dL_onSheet_17 : decode cL_onSheet 17 = .ok (.astore 4, 2) := by decide +kernel
theorem dL_onSheet_19 : decode cL_onSheet 19 = .ok (.iconst 2, 1) := by decide +kernel
theorem dL_onSheet_20 : decode cL_onSheet 20 = .ok (.ireturn, 1) := by decide +kernel
theorem dL_onSheet_21 : decode cL_onSheet 21 = .ok (.iconst 0, 1) := by decide +kernel
theorem dL_onSheet_22 : decode cL_onSheet 22 = .ok (.ireturn, 1) := by decide +kernel
theorem dL_cut_0 : decode cL_cut 0 = .ok (.aload_n 2, 1) := by decide +kernel
theorem dL_cut_1 : decode cL_cut 1 = .ok (.iconst 0, 1) := by decide +kernel
theorem dL_cut_2 : decode cL_cut 2 = .ok (.aload_n 0, 1) := by decide +kernel
theorem dL_cut_3 : decode cL_cut 3 = .ok (.iload_n 1, 1) := by decide +kernel
theorem dL_cut_4 : decode cL_cut 4 = .ok (.invokevirtual 65, 3) := by decide +kernel
theorem dL_cut_7 : decode cL_cut 7 = .ok (.i2l, 1) := by decide +kernel
theorem dL_cut_8 : decode cL_cut 8 = .ok (.lastore, 1) := by decide +kernel
theorem dL_cut_9 : decode cL_cut 9 = .ok (.goto 9, 3) := by decide +kernel
theorem dL_cut_12 : decode cL_cut 12 = .ok (.astore_n 3, 1) := by decide +kernel
theorem dL_cut_13 : decode cL_cut 13 = .ok (.iconst 1, 1) := by decide +kernel
theorem dL_cut_14 : decode cL_cut 14 = .ok (.ireturn, 1) := by decide +kernel
theorem dL_cut_15 : decode cL_cut 15 = .ok (.astore_n 3, 1) := by decide +kernel
theorem dL_cut_16 : decode cL_cut 16 = .ok (.iconst 2, 1) := by decide +kernel
theorem dL_cut_17 : decode cL_cut 17 = .ok (.ireturn, 1) := by decide +kernel
theorem dL_cut_18 : decode cL_cut 18 = .ok (.iconst 0, 1) := by decide +kernel
theorem dL_cut_19 : decode cL_cut 19 = .ok (.ireturn, 1) := by decide +kernel
theorem dL_sharpen_0 : decode cL_sharpen 0 = .ok (.aload_n 2, 1) := by decide +kernel
theorem dL_sharpen_1 : decode cL_sharpen 1 = .ok (.iconst 0, 1) := by decide +kernel
theorem dL_sharpen_2 : decode cL_sharpen 2 = .ok (.aload_n 0, 1) := by decide +kernel
theorem dL_sharpen_3 : decode cL_sharpen 3 = .ok (.iload_n 1, 1) := by decide +kernel
theorem dL_sharpen_4 : decode cL_sharpen 4 = .ok (.invokevirtual 68, 3) := by decide +kernel
theorem dL_sharpen_7 : decode cL_sharpen 7 = .ok (.i2l, 1) := by decide +kernel
theorem dL_sharpen_8 : decode cL_sharpen 8 = .ok (.lastore, 1) := by decide +kernel
theorem dL_sharpen_9 : decode cL_sharpen 9 = .ok (.goto 6, 3) := by decide +kernel
theorem dL_sharpen_12 : decode cL_sharpen 12 = .ok (.astore_n 3, 1) := by decide +kernel
theorem dL_sharpen_13 : decode cL_sharpen 13 = .ok (.iconst 1, 1) := by decide +kernel
theorem dL_sharpen_14 : decode cL_sharpen 14 = .ok (.ireturn, 1) := by decide +kernel
theorem dL_sharpen_15 : decode cL_sharpen 15 = .ok (.iconst 0, 1) := by decide +kernel
theorem dL_sharpen_16 : decode cL_sharpen 16 = .ok (.ireturn, 1) := by decide +kernel
theorem dL_setTolerance_0 : decode cL_setTolerance 0 = .ok (.aload_n 2, 1) := by decide +kernel
theorem dL_setTolerance_1 : decode cL_setTolerance 1 = .ok (.iconst 0, 1) := by decide +kernel
theorem dL_setTolerance_2 : decode cL_setTolerance 2 = .ok (.aload_n 0, 1) := by decide +kernel
theorem dL_setTolerance_3 : decode cL_setTolerance 3 = .ok (.iload_n 1, 1) := by decide +kernel
theorem dL_setTolerance_4 : decode cL_setTolerance 4 = .ok (.invokevirtual 71, 3) := by decide +kernel
theorem dL_setTolerance_7 : decode cL_setTolerance 7 = .ok (.i2l, 1) := by decide +kernel
theorem dL_setTolerance_8 : decode cL_setTolerance 8 = .ok (.lastore, 1) := by decide +kernel
theorem dL_setTolerance_9 : decode cL_setTolerance 9 = .ok (.goto 6, 3) := by decide +kernel
theorem dL_setTolerance_12 : decode cL_setTolerance 12 = .ok (.astore_n 3, 1) := by decide +kernel
theorem dL_setTolerance_13 : decode cL_setTolerance 13 = .ok (.iconst 1, 1) := by decide +kernel
theorem dL_setTolerance_14 : decode cL_setTolerance 14 = .ok (.ireturn, 1) := by decide +kernel
theorem dL_setTolerance_15 : decode cL_setTolerance 15 = .ok (.iconst 0, 1) := by decide +kernel
theorem dL_setTolerance_16 : decode cL_setTolerance 16 = .ok (.ireturn, 1) := by decide +kernel
theorem dL_bind_0 : decode cL_bind 0 = .ok (.aload_n 3, 1) := by decide +kernel
theorem dL_bind_1 : decode cL_bind 1 = .ok (.iconst 0, 1) := by decide +kernel
theorem dL_bind_2 : decode cL_bind 2 = .ok (.aload_n 0, 1) := by decide +kernel
theorem dL_bind_3 : decode cL_bind 3 = .ok (.iload_n 1, 1) := by decide +kernel
theorem dL_bind_4 : decode cL_bind 4 = .ok (.iload_n 2, 1) := by decide +kernel
theorem dL_bind_5 : decode cL_bind 5 = .ok (.invokevirtual 74, 3) := by decide +kernel
theorem dL_bind_8 : decode cL_bind 8 = .ok (.i2l, 1) := by decide +kernel
theorem dL_bind_9 : decode cL_bind 9 = .ok (.lastore, 1) := by decide +kernel
theorem dL_bind_10 : decode cL_bind 10 = .ok (.goto 11, 3) := by decide +kernel
theorem dL_bind_13 : decode cL_bind 13 = .ok (.astore 4, 2) := by decide +kernel
theorem dL_bind_15 : decode cL_bind 15 = .ok (.iconst 1, 1) := by decide +kernel
theorem dL_bind_16 : decode cL_bind 16 = .ok (.ireturn, 1) := by decide +kernel
theorem dL_bind_17 : decode cL_bind 17 = .ok (.astore 4, 2) := by decide +kernel
theorem dL_bind_19 : decode cL_bind 19 = .ok (.iconst 2, 1) := by decide +kernel
theorem dL_bind_20 : decode cL_bind 20 = .ok (.ireturn, 1) := by decide +kernel
theorem dL_bind_21 : decode cL_bind 21 = .ok (.iconst 0, 1) := by decide +kernel
theorem dL_bind_22 : decode cL_bind 22 = .ok (.ireturn, 1) := by decide +kernel
theorem dL_isBound_0 : decode cL_isBound 0 = .ok (.aload_n 3, 1) := by decide +kernel
theorem dL_isBound_1 : decode cL_isBound 1 = .ok (.iconst 0, 1) := by decide +kernel
theorem dL_isBound_2 : decode cL_isBound 2 = .ok (.aload_n 0, 1) := by decide +kernel
theorem dL_isBound_3 : decode cL_isBound 3 = .ok (.iload_n 1, 1) := by decide +kernel
theorem dL_isBound_4 : decode cL_isBound 4 = .ok (.iload_n 2, 1) := by decide +kernel
theorem dL_isBound_5 : decode cL_isBound 5 = .ok (.invokevirtual 77, 3) := by decide +kernel
theorem dL_isBound_8 : decode cL_isBound 8 = .ok (.ifCond .eq 7, 3) := by decide +kernel
theorem dL_isBound_11 : decode cL_isBound 11 = .ok (.lconst 1, 1) := by decide +kernel
theorem dL_isBound_12 : decode cL_isBound 12 = .ok (.goto 4, 3) := by decide +kernel
theorem dL_isBound_15 : decode cL_isBound 15 = .ok (.lconst 0, 1) := by decide +kernel
theorem dL_isBound_16 : decode cL_isBound 16 = .ok (.lastore, 1) := by decide +kernel
theorem dL_isBound_17 : decode cL_isBound 17 = .ok (.goto 7, 3) := by decide +kernel
theorem dL_isBound_20 : decode cL_isBound 20 = .ok (.astore 4, 2) := by decide +kernel
theorem dL_isBound_22 : decode cL_isBound 22 = .ok (.iconst 1, 1) := by decide +kernel
theorem dL_isBound_23 : decode cL_isBound 23 = .ok (.ireturn, 1) := by decide +kernel
theorem dL_isBound_24 : decode cL_isBound 24 = .ok (.iconst 0, 1) := by decide +kernel
theorem dL_isBound_25 : decode cL_isBound 25 = .ok (.ireturn, 1) := by decide +kernel
theorem dL_trim_0 : decode cL_trim 0 = .ok (.aload 4, 2) := by decide +kernel
theorem dL_trim_2 : decode cL_trim 2 = .ok (.iconst 0, 1) := by decide +kernel
theorem dL_trim_3 : decode cL_trim 3 = .ok (.aload_n 0, 1) := by decide +kernel
theorem dL_trim_4 : decode cL_trim 4 = .ok (.iload_n 1, 1) := by decide +kernel
theorem dL_trim_5 : decode cL_trim 5 = .ok (.iload_n 2, 1) := by decide +kernel
theorem dL_trim_6 : decode cL_trim 6 = .ok (.iload_n 3, 1) := by decide +kernel
theorem dL_trim_7 : decode cL_trim 7 = .ok (.invokevirtual 81, 3) := by decide +kernel
theorem dL_trim_10 : decode cL_trim 10 = .ok (.i2l, 1) := by decide +kernel
theorem dL_trim_11 : decode cL_trim 11 = .ok (.lastore, 1) := by decide +kernel
theorem dL_trim_12 : decode cL_trim 12 = .ok (.goto 7, 3) := by decide +kernel
theorem dL_trim_15 : decode cL_trim 15 = .ok (.astore 5, 2) := by decide +kernel
theorem dL_trim_17 : decode cL_trim 17 = .ok (.iconst 1, 1) := by decide +kernel
theorem dL_trim_18 : decode cL_trim 18 = .ok (.ireturn, 1) := by decide +kernel
theorem dL_trim_19 : decode cL_trim 19 = .ok (.iconst 0, 1) := by decide +kernel
theorem dL_trim_20 : decode cL_trim 20 = .ok (.ireturn, 1) := by decide +kernel
theorem dL_leaf_0 : decode cL_leaf 0 = .ok (.aload 4, 2) := by decide +kernel
theorem dL_leaf_2 : decode cL_leaf 2 = .ok (.iconst 0, 1) := by decide +kernel
theorem dL_leaf_3 : decode cL_leaf 3 = .ok (.aload_n 0, 1) := by decide +kernel
theorem dL_leaf_4 : decode cL_leaf 4 = .ok (.iload_n 1, 1) := by decide +kernel
theorem dL_leaf_5 : decode cL_leaf 5 = .ok (.iload_n 2, 1) := by decide +kernel
theorem dL_leaf_6 : decode cL_leaf 6 = .ok (.iload_n 3, 1) := by decide +kernel
theorem dL_leaf_7 : decode cL_leaf 7 = .ok (.invokevirtual 84, 3) := by decide +kernel
theorem dL_leaf_10 : decode cL_leaf 10 = .ok (.i2l, 1) := by decide +kernel
theorem dL_leaf_11 : decode cL_leaf 11 = .ok (.lastore, 1) := by decide +kernel
theorem dL_leaf_12 : decode cL_leaf 12 = .ok (.goto 7, 3) := by decide +kernel
theorem dL_leaf_15 : decode cL_leaf 15 = .ok (.astore 5, 2) := by decide +kernel
theorem dL_leaf_17 : decode cL_leaf 17 = .ok (.iconst 1, 1) := by decide +kernel
theorem dL_leaf_18 : decode cL_leaf 18 = .ok (.ireturn, 1) := by decide +kernel
theorem dL_leaf_19 : decode cL_leaf 19 = .ok (.iconst 0, 1) := by decide +kernel
theorem dL_leaf_20 : decode cL_leaf 20 = .ok (.ireturn, 1) := by decide +kernel
theorem dL_leafByPiles_0 : decode cL_leafByPiles 0 = .ok (.aload 4, 2) := by decide +kernel
theorem dL_leafByPiles_2 : decode cL_leafByPiles 2 = .ok (.iconst 0, 1) := by decide +kernel
theorem dL_leafByPiles_3 : decode cL_leafByPiles 3 = .ok (.aload_n 0, 1) := by decide +kernel
theorem dL_leafByPiles_4 : decode cL_leafByPiles 4 = .ok (.iload_n 1, 1) := by decide +kernel
theorem dL_leafByPiles_5 : decode cL_leafByPiles 5 = .ok (.iload_n 2, 1) := by decide +kernel
theorem dL_leafByPiles_6 : decode cL_leafByPiles 6 = .ok (.iload_n 3, 1) := by decide +kernel
theorem dL_leafByPiles_7 : decode cL_leafByPiles 7 = .ok (.invokevirtual 87, 3) := by decide +kernel
theorem dL_leafByPiles_10 : decode cL_leafByPiles 10 = .ok (.i2l, 1) := by decide +kernel
theorem dL_leafByPiles_11 : decode cL_leafByPiles 11 = .ok (.lastore, 1) := by decide +kernel
theorem dL_leafByPiles_12 : decode cL_leafByPiles 12 = .ok (.goto 7, 3) := by decide +kernel
theorem dL_leafByPiles_15 : decode cL_leafByPiles 15 = .ok (.astore 5, 2) := by decide +kernel
theorem dL_leafByPiles_17 : decode cL_leafByPiles 17 = .ok (.iconst 1, 1) := by decide +kernel
theorem dL_leafByPiles_18 : decode cL_leafByPiles 18 = .ok (.ireturn, 1) := by decide +kernel
theorem dL_leafByPiles_19 : decode cL_leafByPiles 19 = .ok (.iconst 0, 1) := by decide +kernel
theorem dL_leafByPiles_20 : decode cL_leafByPiles 20 = .ok (.ireturn, 1) := by decide +kernel
end
section
theorem dX7_init_0 : decode cX7_init 0 = .ok (.aload_n 0, 1) := by decide +kernel
theorem dX7_init_1 : decode cX7_init 1 = .ok (.invokespecial 3, 3) := by decide +kernel
theorem dX7_init_4 : decode cX7_init 4 = .ok (.aload_n 0, 1) := by decide +kernel
theorem dX7_init_5 : decode cX7_init 5 = .ok (.new 9, 3) := by decide +kernel
theorem dX7_init_8 : decode cX7_init 8 = .ok (.dup, 1) := by decide +kernel
theorem dX7_init_9 : decode cX7_init 9 = .ok (.invokespecial 11, 3) := by decide +kernel
theorem dX7_init_12 : decode cX7_init 12 = .ok (.putfield 12, 3) := by decide +kernel
theorem dX7_init_15 : decode cX7_init 15 = .ok (.aload_n 0, 1) := by decide +kernel
theorem dX7_init_16 : decode cX7_init 16 = .ok (.new 9, 3) := by decide +kernel
theorem dX7_init_19 : decode cX7_init 19 = .ok (.dup, 1) := by decide +kernel
theorem dX7_init_20 : decode cX7_init 20 = .ok (.invokespecial 11, 3) := by decide +kernel
theorem dX7_init_23 : decode cX7_init 23 = .ok (.putfield 16, 3) := by decide +kernel
theorem dX7_init_26 : decode cX7_init 26 = .ok (.aload_n 0, 1) := by decide +kernel
theorem dX7_init_27 : decode cX7_init 27 = .ok (.new 9, 3) := by decide +kernel
theorem dX7_init_30 : decode cX7_init 30 = .ok (.dup, 1) := by decide +kernel
theorem dX7_init_31 : decode cX7_init 31 = .ok (.invokespecial 11, 3) := by decide +kernel
theorem dX7_init_34 : decode cX7_init 34 = .ok (.putfield 19, 3) := by decide +kernel
theorem dX7_init_37 : decode cX7_init 37 = .ok (.aload_n 0, 1) := by decide +kernel
theorem dX7_init_38 : decode cX7_init 38 = .ok (.iconst 5, 1) := by decide +kernel
theorem dX7_init_39 : decode cX7_init 39 = .ok (.newarray .int, 2) := by decide +kernel
theorem dX7_init_41 : decode cX7_init 41 = .ok (.putfield 22, 3) := by decide +kernel
theorem dX7_init_44 : decode cX7_init 44 = .ok (.aload_n 0, 1) := by decide +kernel
theorem dX7_init_45 : decode cX7_init 45 = .ok (.iconst 2, 1) := by decide +kernel
theorem dX7_init_46 : decode cX7_init 46 = .ok (.newarray .int, 2) := by decide +kernel
theorem dX7_init_48 : decode cX7_init 48 = .ok (.putfield 26, 3) := by decide +kernel
theorem dX7_init_51 : decode cX7_init 51 = .ok (.aload_n 0, 1) := by decide +kernel
theorem dX7_init_52 : decode cX7_init 52 = .ok (.new 29, 3) := by decide +kernel
theorem dX7_init_55 : decode cX7_init 55 = .ok (.dup, 1) := by decide +kernel
theorem dX7_init_56 : decode cX7_init 56 = .ok (.invokespecial 31, 3) := by decide +kernel
theorem dX7_init_59 : decode cX7_init 59 = .ok (.putfield 32, 3) := by decide +kernel
theorem dX7_init_62 : decode cX7_init 62 = .ok (.aload_n 0, 1) := by decide +kernel
theorem dX7_init_63 : decode cX7_init 63 = .ok (.new 36, 3) := by decide +kernel
theorem dX7_init_66 : decode cX7_init 66 = .ok (.dup, 1) := by decide +kernel
theorem dX7_init_67 : decode cX7_init 67 = .ok (.iconst 1, 1) := by decide +kernel
theorem dX7_init_68 : decode cX7_init 68 = .ok (.iconst 1, 1) := by decide +kernel
theorem dX7_init_69 : decode cX7_init 69 = .ok (.iconst 2, 1) := by decide +kernel
theorem dX7_init_70 : decode cX7_init 70 = .ok (.invokespecial 38, 3) := by decide +kernel
theorem dX7_init_73 : decode cX7_init 73 = .ok (.putfield 41, 3) := by decide +kernel
theorem dX7_init_76 : decode cX7_init 76 = .ok (.aload_n 0, 1) := by decide +kernel
theorem dX7_init_77 : decode cX7_init 77 = .ok (.iconst 2, 1) := by decide +kernel
theorem dX7_init_78 : decode cX7_init 78 = .ok (.putfield 45, 3) := by decide +kernel
theorem dX7_init_81 : decode cX7_init 81 = .ok (.aload_n 0, 1) := by decide +kernel
theorem dX7_init_82 : decode cX7_init 82 = .ok (.iconst 0, 1) := by decide +kernel
theorem dX7_init_83 : decode cX7_init 83 = .ok (.putfield 49, 3) := by decide +kernel
theorem dX7_init_86 : decode cX7_init 86 = .ok (.return_, 1) := by decide +kernel
theorem dX7_addBook_0 : decode cX7_addBook 0 = .ok (.aload_n 0, 1) := by decide +kernel
theorem dX7_addBook_1 : decode cX7_addBook 1 = .ok (.getfield 12, 3) := by decide +kernel
theorem dX7_addBook_4 : decode cX7_addBook 4 = .ok (.invokevirtual 52, 3) := by decide +kernel
theorem dX7_addBook_7 : decode cX7_addBook 7 = .ok (.iconst 4, 1) := by decide +kernel
theorem dX7_addBook_8 : decode cX7_addBook 8 = .ok (.if_icmp .lt 13, 3) := by decide +kernel
theorem dX7_addBook_11 : decode cX7_addBook 11 = .ok (.new 56, 3) := by decide +kernel
theorem dX7_addBook_14 : decode cX7_addBook 14 = .ok (.dup, 1) := by decide +kernel
theorem dX7_addBook_15 : decode cX7_addBook 15 = .ok (.ldc 58, 2) := by decide +kernel
theorem dX7_addBook_17 : decode cX7_addBook 17 = .ok (.invokespecial 60, 3) := by decide +kernel
theorem dX7_addBook_20 : decode cX7_addBook 20 = .ok (.athrow, 1) := by decide +kernel
theorem dX7_addBook_21 : decode cX7_addBook 21 = .ok (.aload_n 0, 1) := by decide +kernel
theorem dX7_addBook_22 : decode cX7_addBook 22 = .ok (.getfield 12, 3) := by decide +kernel
theorem dX7_addBook_25 : decode cX7_addBook 25 = .ok (.new 63, 3) := by decide +kernel
theorem dX7_addBook_28 : decode cX7_addBook 28 = .ok (.dup, 1) := by decide +kernel
theorem dX7_addBook_29 : decode cX7_addBook 29 = .ok (.invokespecial 65, 3) := by decide +kernel
theorem dX7_addBook_32 : decode cX7_addBook 32 = .ok (.invokevirtual 66, 3) := by decide +kernel
theorem dX7_addBook_35 : decode cX7_addBook 35 = .ok (.pop, 1) := by decide +kernel
theorem dX7_addBook_36 : decode cX7_addBook 36 = .ok (.aload_n 0, 1) := by decide +kernel
theorem dX7_addBook_37 : decode cX7_addBook 37 = .ok (.getfield 12, 3) := by decide +kernel
theorem dX7_addBook_40 : decode cX7_addBook 40 = .ok (.invokevirtual 52, 3) := by decide +kernel
theorem dX7_addBook_43 : decode cX7_addBook 43 = .ok (.iconst 1, 1) := by decide +kernel
theorem dX7_addBook_44 : decode cX7_addBook 44 = .ok (.isub, 1) := by decide +kernel
theorem dX7_addBook_45 : decode cX7_addBook 45 = .ok (.ireturn, 1) := by decide +kernel
theorem dX7_draw_0 : decode cX7_draw 0 = .ok (.aload_n 0, 1) := by decide +kernel
theorem dX7_draw_1 : decode cX7_draw 1 = .ok (.iload_n 1, 1) := by decide +kernel
theorem dX7_draw_2 : decode cX7_draw 2 = .ok (.invokevirtual 70, 3) := by decide +kernel
theorem dX7_draw_5 : decode cX7_draw 5 = .ok (.astore 6, 2) := by decide +kernel
theorem dX7_draw_7 : decode cX7_draw 7 = .ok (.iload_n 2, 1) := by decide +kernel
theorem dX7_draw_8 : decode cX7_draw 8 = .ok (.ifCond .lt 12, 3) := by decide +kernel
theorem dX7_draw_11 : decode cX7_draw 11 = .ok (.iload_n 2, 1) := by decide +kernel
theorem dX7_draw_12 : decode cX7_draw 12 = .ok (.aload 6, 2) := by decide +kernel
theorem dX7_draw_14 : decode cX7_draw 14 = .ok (.getfield 74, 3) := by decide +kernel
theorem dX7_draw_17 : decode cX7_draw 17 = .ok (.if_icmp .le 13, 3) := by decide +kernel
theorem dX7_draw_20 : decode cX7_draw 20 = .ok (.new 77, 3) := by decide +kernel
theorem dX7_draw_23 : decode cX7_draw 23 = .ok (.dup, 1) := by decide +kernel
theorem dX7_draw_24 : decode cX7_draw 24 = .ok (.ldc 79, 2) := by decide +kernel
theorem dX7_draw_26 : decode cX7_draw 26 = .ok (.invokespecial 81, 3) := by decide +kernel
theorem dX7_draw_29 : decode cX7_draw 29 = .ok (.athrow, 1) := by decide +kernel
theorem dX7_draw_30 : decode cX7_draw 30 = .ok (.iload_n 3, 1) := by decide +kernel
theorem dX7_draw_31 : decode cX7_draw 31 = .ok (.iconst 0, 1) := by decide +kernel
theorem dX7_draw_32 : decode cX7_draw 32 = .ok (.sipush 999, 3) := by decide +kernel
theorem dX7_draw_35 : decode cX7_draw 35 = .ok (.invokestatic 82, 3) := by decide +kernel
theorem dX7_draw_38 : decode cX7_draw 38 = .ok (.iload 4, 2) := by decide +kernel
theorem dX7_draw_40 : decode cX7_draw 40 = .ok (.iconst 0, 1) := by decide +kernel
theorem dX7_draw_41 : decode cX7_draw 41 = .ok (.iconst 5, 1) := by decide +kernel
theorem dX7_draw_42 : decode cX7_draw 42 = .ok (.invokestatic 82, 3) := by decide +kernel
theorem dX7_draw_45 : decode cX7_draw 45 = .ok (.iload 5, 2) := by decide +kernel
theorem dX7_draw_47 : decode cX7_draw 47 = .ok (.iconst 0, 1) := by decide +kernel
theorem dX7_draw_48 : decode cX7_draw 48 = .ok (.iconst 3, 1) := by decide +kernel
theorem dX7_draw_49 : decode cX7_draw 49 = .ok (.invokestatic 82, 3) := by decide +kernel
theorem dX7_draw_52 : decode cX7_draw 52 = .ok (.aload 6, 2) := by decide +kernel
theorem dX7_draw_54 : decode cX7_draw 54 = .ok (.getfield 74, 3) := by decide +kernel
theorem dX7_draw_57 : decode cX7_draw 57 = .ok (.bipush 8, 2) := by decide +kernel
theorem dX7_draw_59 : decode cX7_draw 59 = .ok (.if_icmp .lt 13, 3) := by decide +kernel
theorem dX7_draw_62 : decode cX7_draw 62 = .ok (.new 56, 3) := by decide +kernel
theorem dX7_draw_65 : decode cX7_draw 65 = .ok (.dup, 1) := by decide +kernel
theorem dX7_draw_66 : decode cX7_draw 66 = .ok (.ldc 85, 2) := by decide +kernel
theorem dX7_draw_68 : decode cX7_draw 68 = .ok (.invokespecial 60, 3) := by decide +kernel
theorem dX7_draw_71 : decode cX7_draw 71 = .ok (.athrow, 1) := by decide +kernel
theorem dX7_draw_72 : decode cX7_draw 72 = .ok (.aload 6, 2) := by decide +kernel
theorem dX7_draw_74 : decode cX7_draw 74 = .ok (.iload_n 2, 1) := by decide +kernel
theorem dX7_draw_75 : decode cX7_draw 75 = .ok (.iload_n 3, 1) := by decide +kernel
theorem dX7_draw_76 : decode cX7_draw 76 = .ok (.iload 4, 2) := by decide +kernel
theorem dX7_draw_78 : decode cX7_draw 78 = .ok (.iload 5, 2) := by decide +kernel
theorem dX7_draw_80 : decode cX7_draw 80 = .ok (.invokevirtual 87, 3) := by decide +kernel
theorem dX7_draw_83 : decode cX7_draw 83 = .ok (.aload_n 0, 1) := by decide +kernel
theorem dX7_draw_84 : decode cX7_draw 84 = .ok (.aload 6, 2) := by decide +kernel
theorem dX7_draw_86 : decode cX7_draw 86 = .ok (.invokevirtual 91, 3) := by decide +kernel
theorem dX7_draw_89 : decode cX7_draw 89 = .ok (.ireturn, 1) := by decide +kernel
theorem dX7_erase_0 : decode cX7_erase 0 = .ok (.aload_n 0, 1) := by decide +kernel
theorem dX7_erase_1 : decode cX7_erase 1 = .ok (.iload_n 1, 1) := by decide +kernel
theorem dX7_erase_2 : decode cX7_erase 2 = .ok (.invokevirtual 70, 3) := by decide +kernel
theorem dX7_erase_5 : decode cX7_erase 5 = .ok (.astore_n 3, 1) := by decide +kernel
theorem dX7_erase_6 : decode cX7_erase 6 = .ok (.iload_n 2, 1) := by decide +kernel
theorem dX7_erase_7 : decode cX7_erase 7 = .ok (.aload_n 3, 1) := by decide +kernel
theorem dX7_erase_8 : decode cX7_erase 8 = .ok (.getfield 74, 3) := by decide +kernel
theorem dX7_erase_11 : decode cX7_erase 11 = .ok (.invokestatic 95, 3) := by decide +kernel
theorem dX7_erase_14 : decode cX7_erase 14 = .ok (.aload_n 3, 1) := by decide +kernel
theorem dX7_erase_15 : decode cX7_erase 15 = .ok (.iload_n 2, 1) := by decide +kernel
theorem dX7_erase_16 : decode cX7_erase 16 = .ok (.invokevirtual 99, 3) := by decide +kernel
theorem dX7_erase_19 : decode cX7_erase 19 = .ok (.aload_n 0, 1) := by decide +kernel
theorem dX7_erase_20 : decode cX7_erase 20 = .ok (.aload_n 3, 1) := by decide +kernel
theorem dX7_erase_21 : decode cX7_erase 21 = .ok (.invokevirtual 91, 3) := by decide +kernel
theorem dX7_erase_24 : decode cX7_erase 24 = .ok (.ireturn, 1) := by decide +kernel
theorem dX7_move_0 : decode cX7_move 0 = .ok (.aload_n 0, 1) := by decide +kernel
theorem dX7_move_1 : decode cX7_move 1 = .ok (.iload_n 1, 1) := by decide +kernel
theorem dX7_move_2 : decode cX7_move 2 = .ok (.invokevirtual 70, 3) := by decide +kernel
theorem dX7_move_5 : decode cX7_move 5 = .ok (.astore 4, 2) := by decide +kernel
theorem dX7_move_7 : decode cX7_move 7 = .ok (.iload_n 2, 1) := by decide +kernel
theorem dX7_move_8 : decode cX7_move 8 = .ok (.aload 4, 2) := by decide +kernel
theorem dX7_move_10 : decode cX7_move 10 = .ok (.getfield 74, 3) := by decide +kernel
theorem dX7_move_13 : decode cX7_move 13 = .ok (.invokestatic 95, 3) := by decide +kernel
theorem dX7_move_16 : decode cX7_move 16 = .ok (.iload_n 3, 1) := by decide +kernel
theorem dX7_move_17 : decode cX7_move 17 = .ok (.iconst 0, 1) := by decide +kernel
theorem dX7_move_18 : decode cX7_move 18 = .ok (.sipush 999, 3) := by decide +kernel
theorem dX7_move_21 : decode cX7_move 21 = .ok (.invokestatic 82, 3) := by decide +kernel
theorem dX7_move_24 : decode cX7_move 24 = .ok (.aload 4, 2) := by decide +kernel
theorem dX7_move_26 : decode cX7_move 26 = .ok (.iload_n 2, 1) := by decide +kernel
theorem dX7_move_27 : decode cX7_move 27 = .ok (.iload_n 3, 1) := by decide +kernel
theorem dX7_move_28 : decode cX7_move 28 = .ok (.invokevirtual 103, 3) := by decide +kernel
theorem dX7_move_31 : decode cX7_move 31 = .ok (.aload_n 0, 1) := by decide +kernel
theorem dX7_move_32 : decode cX7_move 32 = .ok (.aload 4, 2) := by decide +kernel
theorem dX7_move_34 : decode cX7_move 34 = .ok (.invokevirtual 91, 3) := by decide +kernel
theorem dX7_move_37 : decode cX7_move 37 = .ok (.ireturn, 1) := by decide +kernel
theorem dX7_frames_0 : decode cX7_frames 0 = .ok (.aload_n 0, 1) := by decide +kernel
theorem dX7_frames_1 : decode cX7_frames 1 = .ok (.iload_n 1, 1) := by decide +kernel
theorem dX7_frames_2 : decode cX7_frames 2 = .ok (.invokevirtual 70, 3) := by decide +kernel
theorem dX7_frames_5 : decode cX7_frames 5 = .ok (.getfield 106, 3) := by decide +kernel
theorem dX7_frames_8 : decode cX7_frames 8 = .ok (.ireturn, 1) := by decide +kernel
theorem dX7_frameAt_0 : decode cX7_frameAt 0 = .ok (.aload_n 0, 1) := by decide +kernel
theorem dX7_frameAt_1 : decode cX7_frameAt 1 = .ok (.iload_n 1, 1) := by decide +kernel
theorem dX7_frameAt_2 : decode cX7_frameAt 2 = .ok (.invokevirtual 70, 3) := by decide +kernel
theorem dX7_frameAt_5 : decode cX7_frameAt 5 = .ok (.astore_n 3, 1) := by decide +kernel
theorem dX7_frameAt_6 : decode cX7_frameAt 6 = .ok (.iload_n 2, 1) := by decide +kernel
theorem dX7_frameAt_7 : decode cX7_frameAt 7 = .ok (.aload_n 3, 1) := by decide +kernel
theorem dX7_frameAt_8 : decode cX7_frameAt 8 = .ok (.getfield 106, 3) := by decide +kernel
theorem dX7_frameAt_11 : decode cX7_frameAt 11 = .ok (.invokestatic 95, 3) := by decide +kernel
theorem dX7_frameAt_14 : decode cX7_frameAt 14 = .ok (.aload_n 3, 1) := by decide +kernel
theorem dX7_frameAt_15 : decode cX7_frameAt 15 = .ok (.iload_n 2, 1) := by decide +kernel
theorem dX7_frameAt_16 : decode cX7_frameAt 16 = .ok (.invokevirtual 109, 3) := by decide +kernel
theorem dX7_frameAt_19 : decode cX7_frameAt 19 = .ok (.ireturn, 1) := by decide +kernel
theorem dX7_order_0 : decode cX7_order 0 = .ok (.aload_n 0, 1) := by decide +kernel
theorem dX7_order_1 : decode cX7_order 1 = .ok (.iload_n 1, 1) := by decide +kernel
theorem dX7_order_2 : decode cX7_order 2 = .ok (.invokevirtual 70, 3) := by decide +kernel
theorem dX7_order_5 : decode cX7_order 5 = .ok (.astore_n 3, 1) := by decide +kernel
theorem dX7_order_6 : decode cX7_order 6 = .ok (.iload_n 2, 1) := by decide +kernel
theorem dX7_order_7 : decode cX7_order 7 = .ok (.iconst 1, 1) := by decide +kernel
theorem dX7_order_8 : decode cX7_order 8 = .ok (.iconst 3, 1) := by decide +kernel
theorem dX7_order_9 : decode cX7_order 9 = .ok (.invokestatic 82, 3) := by decide +kernel
theorem dX7_order_12 : decode cX7_order 12 = .ok (.aload_n 0, 1) := by decide +kernel
theorem dX7_order_13 : decode cX7_order 13 = .ok (.getfield 16, 3) := by decide +kernel
theorem dX7_order_16 : decode cX7_order 16 = .ok (.invokevirtual 52, 3) := by decide +kernel
theorem dX7_order_19 : decode cX7_order 19 = .ok (.iconst 5, 1) := by decide +kernel
theorem dX7_order_20 : decode cX7_order 20 = .ok (.if_icmp .lt 13, 3) := by decide +kernel
theorem dX7_order_23 : decode cX7_order 23 = .ok (.new 56, 3) := by decide +kernel
theorem dX7_order_26 : decode cX7_order 26 = .ok (.dup, 1) := by decide +kernel
theorem dX7_order_27 : decode cX7_order 27 = .ok (.ldc 113, 2) := by decide +kernel
theorem dX7_order_29 : decode cX7_order 29 = .ok (.invokespecial 60, 3) := by decide +kernel
theorem dX7_order_32 : decode cX7_order 32 = .ok (.athrow, 1) := by decide +kernel
theorem dX7_order_33 : decode cX7_order 33 = .ok (.aload_n 0, 1) := by decide +kernel
theorem dX7_order_34 : decode cX7_order 34 = .ok (.getfield 16, 3) := by decide +kernel
theorem dX7_order_37 : decode cX7_order 37 = .ok (.new 115, 3) := by decide +kernel
theorem dX7_order_40 : decode cX7_order 40 = .ok (.dup, 1) := by decide +kernel
theorem dX7_order_41 : decode cX7_order 41 = .ok (.aload_n 0, 1) := by decide +kernel
theorem dX7_order_42 : decode cX7_order 42 = .ok (.getfield 16, 3) := by decide +kernel
theorem dX7_order_45 : decode cX7_order 45 = .ok (.invokevirtual 52, 3) := by decide +kernel
theorem dX7_order_48 : decode cX7_order 48 = .ok (.aload_n 3, 1) := by decide +kernel
theorem dX7_order_49 : decode cX7_order 49 = .ok (.iload_n 2, 1) := by decide +kernel
theorem dX7_order_50 : decode cX7_order 50 = .ok (.invokespecial 117, 3) := by decide +kernel
theorem dX7_order_53 : decode cX7_order 53 = .ok (.invokevirtual 66, 3) := by decide +kernel
theorem dX7_order_56 : decode cX7_order 56 = .ok (.pop, 1) := by decide +kernel
theorem dX7_order_57 : decode cX7_order 57 = .ok (.aload_n 0, 1) := by decide +kernel
theorem dX7_order_58 : decode cX7_order 58 = .ok (.getfield 16, 3) := by decide +kernel
theorem dX7_order_61 : decode cX7_order 61 = .ok (.invokevirtual 52, 3) := by decide +kernel
theorem dX7_order_64 : decode cX7_order 64 = .ok (.iconst 1, 1) := by decide +kernel
theorem dX7_order_65 : decode cX7_order 65 = .ok (.isub, 1) := by decide +kernel
theorem dX7_order_66 : decode cX7_order 66 = .ok (.ireturn, 1) := by decide +kernel
theorem dX7_lacking_0 : decode cX7_lacking 0 = .ok (.aload_n 0, 1) := by decide +kernel
theorem dX7_lacking_1 : decode cX7_lacking 1 = .ok (.iload_n 1, 1) := by decide +kernel
theorem dX7_lacking_2 : decode cX7_lacking 2 = .ok (.invokevirtual 120, 3) := by decide +kernel
theorem dX7_lacking_5 : decode cX7_lacking 5 = .ok (.invokevirtual 124, 3) := by decide +kernel
theorem dX7_lacking_8 : decode cX7_lacking 8 = .ok (.ireturn, 1) := by decide +kernel
theorem dX7_waits_0 : decode cX7_waits 0 = .ok (.aload_n 0, 1) := by decide +kernel
theorem dX7_waits_1 : decode cX7_waits 1 = .ok (.iload_n 1, 1) := by decide +kernel
theorem dX7_waits_2 : decode cX7_waits 2 = .ok (.invokevirtual 120, 3) := by decide +kernel
theorem dX7_waits_5 : decode cX7_waits 5 = .ok (.astore_n 2, 1) := by decide +kernel
theorem dX7_waits_6 : decode cX7_waits 6 = .ok (.aload_n 2, 1) := by decide +kernel
theorem dX7_waits_7 : decode cX7_waits 7 = .ok (.invokevirtual 124, 3) := by decide +kernel
theorem dX7_waits_10 : decode cX7_waits 10 = .ok (.istore_n 3, 1) := by decide +kernel
theorem dX7_waits_11 : decode cX7_waits 11 = .ok (.iload_n 3, 1) := by decide +kernel
theorem dX7_waits_12 : decode cX7_waits 12 = .ok (.ifCond .ne 5, 3) := by decide +kernel
theorem dX7_waits_15 : decode cX7_waits 15 = .ok (.iconst 0, 1) := by decide +kernel
theorem dX7_waits_16 : decode cX7_waits 16 = .ok (.ireturn, 1) := by decide +kernel
theorem dX7_waits_17 : decode cX7_waits 17 = .ok (.iconst 0, 1) := by decide +kernel
theorem dX7_waits_18 : decode cX7_waits 18 = .ok (.istore 4, 2) := by decide +kernel
theorem dX7_waits_20 : decode cX7_waits 20 = .ok (.iconst 0, 1) := by decide +kernel
theorem dX7_waits_21 : decode cX7_waits 21 = .ok (.istore 5, 2) := by decide +kernel
theorem dX7_waits_23 : decode cX7_waits 23 = .ok (.iload 5, 2) := by decide +kernel
theorem dX7_waits_25 : decode cX7_waits 25 = .ok (.aload_n 0, 1) := by decide +kernel
theorem dX7_waits_26 : decode cX7_waits 26 = .ok (.getfield 16, 3) := by decide +kernel
theorem dX7_waits_29 : decode cX7_waits 29 = .ok (.invokevirtual 52, 3) := by decide +kernel
theorem dX7_waits_32 : decode cX7_waits 32 = .ok (.if_icmp .ge 42, 3) := by decide +kernel
theorem dX7_waits_35 : decode cX7_waits 35 = .ok (.aload_n 0, 1) := by decide +kernel
theorem dX7_waits_36 : decode cX7_waits 36 = .ok (.getfield 16, 3) := by decide +kernel
theorem dX7_waits_39 : decode cX7_waits 39 = .ok (.iload 5, 2) := by decide +kernel
theorem dX7_waits_41 : decode cX7_waits 41 = .ok (.invokevirtual 127, 3) := by decide +kernel
theorem dX7_waits_44 : decode cX7_waits 44 = .ok (.checkcast 115, 3) := by decide +kernel
theorem dX7_waits_47 : decode cX7_waits 47 = .ok (.astore 6, 2) := by decide +kernel
theorem dX7_waits_49 : decode cX7_waits 49 = .ok (.aload 6, 2) := by decide +kernel
theorem dX7_waits_51 : decode cX7_waits 51 = .ok (.aload_n 2, 1) := by decide +kernel
theorem dX7_waits_52 : decode cX7_waits 52 = .ok (.invokevirtual 131, 3) := by decide +kernel
theorem dX7_waits_55 : decode cX7_waits 55 = .ok (.ifCond .eq 13, 3) := by decide +kernel
theorem dX7_waits_58 : decode cX7_waits 58 = .ok (.iload 4, 2) := by decide +kernel
theorem dX7_waits_60 : decode cX7_waits 60 = .ok (.aload 6, 2) := by decide +kernel
theorem dX7_waits_62 : decode cX7_waits 62 = .ok (.invokevirtual 124, 3) := by decide +kernel
theorem dX7_waits_65 : decode cX7_waits 65 = .ok (.iadd, 1) := by decide +kernel
theorem dX7_waits_66 : decode cX7_waits 66 = .ok (.istore 4, 2) := by decide +kernel
theorem dX7_waits_68 : decode cX7_waits 68 = .ok (.iinc 5 1, 3) := by decide +kernel
theorem dX7_waits_71 : decode cX7_waits 71 = .ok (.goto (-48), 3) := by decide +kernel
theorem dX7_waits_74 : decode cX7_waits 74 = .ok (.iload 4, 2) := by decide +kernel
theorem dX7_waits_76 : decode cX7_waits 76 = .ok (.iload_n 3, 1) := by decide +kernel
theorem dX7_waits_77 : decode cX7_waits 77 = .ok (.iadd, 1) := by decide +kernel
theorem dX7_waits_78 : decode cX7_waits 78 = .ok (.invokestatic 135, 3) := by decide +kernel
theorem dX7_waits_81 : decode cX7_waits 81 = .ok (.ireturn, 1) := by decide +kernel
theorem dX7_setFolds_0 : decode cX7_setFolds 0 = .ok (.iload_n 1, 1) := by decide +kernel
theorem dX7_setFolds_1 : decode cX7_setFolds 1 = .ok (.iconst 0, 1) := by decide +kernel
theorem dX7_setFolds_2 : decode cX7_setFolds 2 = .ok (.iconst 3, 1) := by decide +kernel
theorem dX7_setFolds_3 : decode cX7_setFolds 3 = .ok (.invokestatic 82, 3) := by decide +kernel
theorem dX7_setFolds_6 : decode cX7_setFolds 6 = .ok (.iload_n 2, 1) := by decide +kernel
theorem dX7_setFolds_7 : decode cX7_setFolds 7 = .ok (.iconst 0, 1) := by decide +kernel
theorem dX7_setFolds_8 : decode cX7_setFolds 8 = .ok (.iconst 3, 1) := by decide +kernel
theorem dX7_setFolds_9 : decode cX7_setFolds 9 = .ok (.invokestatic 82, 3) := by decide +kernel
theorem dX7_setFolds_12 : decode cX7_setFolds 12 = .ok (.iload_n 3, 1) := by decide +kernel
theorem dX7_setFolds_13 : decode cX7_setFolds 13 = .ok (.iconst 0, 1) := by decide +kernel
theorem dX7_setFolds_14 : decode cX7_setFolds 14 = .ok (.iconst 3, 1) := by decide +kernel
theorem dX7_setFolds_15 : decode cX7_setFolds 15 = .ok (.invokestatic 82, 3) := by decide +kernel
theorem dX7_setFolds_18 : decode cX7_setFolds 18 = .ok (.iload_n 1, 1) := by decide +kernel
theorem dX7_setFolds_19 : decode cX7_setFolds 19 = .ok (.invokestatic 138, 3) := by decide +kernel
theorem dX7_setFolds_22 : decode cX7_setFolds 22 = .ok (.iload_n 2, 1) := by decide +kernel
theorem dX7_setFolds_23 : decode cX7_setFolds 23 = .ok (.invokestatic 138, 3) := by decide +kernel
theorem dX7_setFolds_26 : decode cX7_setFolds 26 = .ok (.iadd, 1) := by decide +kernel
theorem dX7_setFolds_27 : decode cX7_setFolds 27 = .ok (.iload_n 3, 1) := by decide +kernel
theorem dX7_setFolds_28 : decode cX7_setFolds 28 = .ok (.invokestatic 138, 3) := by decide +kernel
theorem dX7_setFolds_31 : decode cX7_setFolds 31 = .ok (.iadd, 1) := by decide +kernel
theorem dX7_setFolds_32 : decode cX7_setFolds 32 = .ok (.istore 4, 2) := by decide +kernel
theorem dX7_setFolds_34 : decode cX7_setFolds 34 = .ok (.iload 4, 2) := by decide +kernel
theorem dX7_setFolds_36 : decode cX7_setFolds 36 = .ok (.iconst 2, 1) := by decide +kernel
theorem dX7_setFolds_37 : decode cX7_setFolds 37 = .ok (.if_icmp .eq 13, 3) := by decide +kernel
theorem dX7_setFolds_40 : decode cX7_setFolds 40 = .ok (.new 141, 3) := by decide +kernel
theorem dX7_setFolds_43 : decode cX7_setFolds 43 = .ok (.dup, 1) := by decide +kernel
theorem dX7_setFolds_44 : decode cX7_setFolds 44 = .ok (.ldc 143, 2) := by decide +kernel
theorem dX7_setFolds_46 : decode cX7_setFolds 46 = .ok (.invokespecial 145, 3) := by decide +kernel
theorem dX7_setFolds_49 : decode cX7_setFolds 49 = .ok (.athrow, 1) := by decide +kernel
theorem dX7_setFolds_50 : decode cX7_setFolds 50 = .ok (.aload_n 0, 1) := by decide +kernel
theorem dX7_setFolds_51 : decode cX7_setFolds 51 = .ok (.new 36, 3) := by decide +kernel
theorem dX7_setFolds_54 : decode cX7_setFolds 54 = .ok (.dup, 1) := by decide +kernel
theorem dX7_setFolds_55 : decode cX7_setFolds 55 = .ok (.iload_n 1, 1) := by decide +kernel
theorem dX7_setFolds_56 : decode cX7_setFolds 56 = .ok (.iload_n 2, 1) := by decide +kernel
theorem dX7_setFolds_57 : decode cX7_setFolds 57 = .ok (.iload_n 3, 1) := by decide +kernel
theorem dX7_setFolds_58 : decode cX7_setFolds 58 = .ok (.invokespecial 38, 3) := by decide +kernel
theorem dX7_setFolds_61 : decode cX7_setFolds 61 = .ok (.putfield 41, 3) := by decide +kernel
theorem dX7_setFolds_64 : decode cX7_setFolds 64 = .ok (.return_, 1) := by decide +kernel
theorem dX7_cellOf_0 : decode cX7_cellOf 0 = .ok (.iload_n 1, 1) := by decide +kernel
theorem dX7_cellOf_1 : decode cX7_cellOf 1 = .ok (.bipush 8, 2) := by decide +kernel
theorem dX7_cellOf_3 : decode cX7_cellOf 3 = .ok (.invokestatic 95, 3) := by decide +kernel
theorem dX7_cellOf_6 : decode cX7_cellOf 6 = .ok (.aload_n 0, 1) := by decide +kernel
theorem dX7_cellOf_7 : decode cX7_cellOf 7 = .ok (.getfield 41, 3) := by decide +kernel
theorem dX7_cellOf_10 : decode cX7_cellOf 10 = .ok (.iload_n 1, 1) := by decide +kernel
theorem dX7_cellOf_11 : decode cX7_cellOf 11 = .ok (.invokevirtual 146, 3) := by decide +kernel
theorem dX7_cellOf_14 : decode cX7_cellOf 14 = .ok (.ireturn, 1) := by decide +kernel
theorem dX7_placeOf_0 : decode cX7_placeOf 0 = .ok (.iload_n 1, 1) := by decide +kernel
theorem dX7_placeOf_1 : decode cX7_placeOf 1 = .ok (.bipush 8, 2) := by decide +kernel
theorem dX7_placeOf_3 : decode cX7_placeOf 3 = .ok (.invokestatic 95, 3) := by decide +kernel
theorem dX7_placeOf_6 : decode cX7_placeOf 6 = .ok (.aload_n 0, 1) := by decide +kernel
theorem dX7_placeOf_7 : decode cX7_placeOf 7 = .ok (.getfield 32, 3) := by decide +kernel
theorem dX7_placeOf_10 : decode cX7_placeOf 10 = .ok (.aload_n 0, 1) := by decide +kernel
theorem dX7_placeOf_11 : decode cX7_placeOf 11 = .ok (.getfield 41, 3) := by decide +kernel
theorem dX7_placeOf_14 : decode cX7_placeOf 14 = .ok (.invokevirtual 149, 3) := by decide +kernel
theorem dX7_placeOf_17 : decode cX7_placeOf 17 = .ok (.iconst 0, 1) := by decide +kernel
theorem dX7_placeOf_18 : decode cX7_placeOf 18 = .ok (.istore_n 2, 1) := by decide +kernel
theorem dX7_placeOf_19 : decode cX7_placeOf 19 = .ok (.iload_n 2, 1) := by decide +kernel
theorem dX7_placeOf_20 : decode cX7_placeOf 20 = .ok (.bipush 8, 2) := by decide +kernel
theorem dX7_placeOf_22 : decode cX7_placeOf 22 = .ok (.if_icmp .ge 23, 3) := by decide +kernel
theorem dX7_placeOf_25 : decode cX7_placeOf 25 = .ok (.aload_n 0, 1) := by decide +kernel
theorem dX7_placeOf_26 : decode cX7_placeOf 26 = .ok (.getfield 32, 3) := by decide +kernel
theorem dX7_placeOf_29 : decode cX7_placeOf 29 = .ok (.iload_n 2, 1) := by decide +kernel
theorem dX7_placeOf_30 : decode cX7_placeOf 30 = .ok (.invokevirtual 153, 3) := by decide +kernel
theorem dX7_placeOf_33 : decode cX7_placeOf 33 = .ok (.iload_n 1, 1) := by decide +kernel
theorem dX7_placeOf_34 : decode cX7_placeOf 34 = .ok (.if_icmp .ne 5, 3) := by decide +kernel
theorem dX7_placeOf_37 : decode cX7_placeOf 37 = .ok (.iload_n 2, 1) := by decide +kernel
theorem dX7_placeOf_38 : decode cX7_placeOf 38 = .ok (.ireturn, 1) := by decide +kernel
theorem dX7_placeOf_39 : decode cX7_placeOf 39 = .ok (.iinc 2 1, 3) := by decide +kernel
theorem dX7_placeOf_42 : decode cX7_placeOf 42 = .ok (.goto (-23), 3) := by decide +kernel
theorem dX7_placeOf_45 : decode cX7_placeOf 45 = .ok (.iconst (-1), 1) := by decide +kernel
theorem dX7_placeOf_46 : decode cX7_placeOf 46 = .ok (.ireturn, 1) := by decide +kernel
theorem dX7_print_0 : decode cX7_print 0 = .ok (.iload_n 1, 1) := by decide +kernel
theorem dX7_print_1 : decode cX7_print 1 = .ok (.iconst 1, 1) := by decide +kernel
theorem dX7_print_2 : decode cX7_print 2 = .ok (.bipush 10, 2) := by decide +kernel
theorem dX7_print_4 : decode cX7_print 4 = .ok (.invokestatic 82, 3) := by decide +kernel
theorem dX7_print_7 : decode cX7_print 7 = .ok (.iload_n 1, 1) := by decide +kernel
theorem dX7_print_8 : decode cX7_print 8 = .ok (.aload_n 0, 1) := by decide +kernel
theorem dX7_print_9 : decode cX7_print 9 = .ok (.invokevirtual 156, 3) := by decide +kernel
theorem dX7_print_12 : decode cX7_print 12 = .ok (.invokestatic 135, 3) := by decide +kernel
theorem dX7_print_15 : decode cX7_print 15 = .ok (.invokestatic 159, 3) := by decide +kernel
theorem dX7_print_18 : decode cX7_print 18 = .ok (.istore_n 2, 1) := by decide +kernel
theorem dX7_print_19 : decode cX7_print 19 = .ok (.aload_n 0, 1) := by decide +kernel
theorem dX7_print_20 : decode cX7_print 20 = .ok (.getfield 19, 3) := by decide +kernel
theorem dX7_print_23 : decode cX7_print 23 = .ok (.invokevirtual 52, 3) := by decide +kernel
theorem dX7_print_26 : decode cX7_print 26 = .ok (.iload_n 2, 1) := by decide +kernel
theorem dX7_print_27 : decode cX7_print 27 = .ok (.iadd, 1) := by decide +kernel
theorem dX7_print_28 : decode cX7_print 28 = .ok (.bipush 50, 2) := by decide +kernel
theorem dX7_print_30 : decode cX7_print 30 = .ok (.if_icmp .le 13, 3) := by decide +kernel
theorem dX7_print_33 : decode cX7_print 33 = .ok (.new 56, 3) := by decide +kernel
theorem dX7_print_36 : decode cX7_print 36 = .ok (.dup, 1) := by decide +kernel
theorem dX7_print_37 : decode cX7_print 37 = .ok (.ldc 165, 2) := by decide +kernel
theorem dX7_print_39 : decode cX7_print 39 = .ok (.invokespecial 60, 3) := by decide +kernel
theorem dX7_print_42 : decode cX7_print 42 = .ok (.athrow, 1) := by decide +kernel
theorem dX7_print_43 : decode cX7_print 43 = .ok (.aload_n 0, 1) := by decide +kernel
theorem dX7_print_44 : decode cX7_print 44 = .ok (.invokevirtual 167, 3) := by decide +kernel
theorem dX7_print_47 : decode cX7_print 47 = .ok (.iconst 0, 1) := by decide +kernel
theorem dX7_print_48 : decode cX7_print 48 = .ok (.istore_n 3, 1) := by decide +kernel
theorem dX7_print_49 : decode cX7_print 49 = .ok (.iload_n 3, 1) := by decide +kernel
theorem dX7_print_50 : decode cX7_print 50 = .ok (.iload_n 2, 1) := by decide +kernel
theorem dX7_print_51 : decode cX7_print 51 = .ok (.if_icmp .ge 21, 3) := by decide +kernel
theorem dX7_print_54 : decode cX7_print 54 = .ok (.aload_n 0, 1) := by decide +kernel
theorem dX7_print_55 : decode cX7_print 55 = .ok (.getfield 19, 3) := by decide +kernel
theorem dX7_print_58 : decode cX7_print 58 = .ok (.aload_n 0, 1) := by decide +kernel
theorem dX7_print_59 : decode cX7_print 59 = .ok (.invokevirtual 170, 3) := by decide +kernel
theorem dX7_print_62 : decode cX7_print 62 = .ok (.invokevirtual 66, 3) := by decide +kernel
theorem dX7_print_65 : decode cX7_print 65 = .ok (.pop, 1) := by decide +kernel
theorem dX7_print_66 : decode cX7_print 66 = .ok (.iinc 3 1, 3) := by decide +kernel
theorem dX7_print_69 : decode cX7_print 69 = .ok (.goto (-20), 3) := by decide +kernel
theorem dX7_print_72 : decode cX7_print 72 = .ok (.iload_n 2, 1) := by decide +kernel
theorem dX7_print_73 : decode cX7_print 73 = .ok (.ireturn, 1) := by decide +kernel
theorem dX7_waiting_0 : decode cX7_waiting 0 = .ok (.iconst 0, 1) := by decide +kernel
theorem dX7_waiting_1 : decode cX7_waiting 1 = .ok (.istore_n 1, 1) := by decide +kernel
theorem dX7_waiting_2 : decode cX7_waiting 2 = .ok (.iconst 0, 1) := by decide +kernel
theorem dX7_waiting_3 : decode cX7_waiting 3 = .ok (.istore_n 2, 1) := by decide +kernel
theorem dX7_waiting_4 : decode cX7_waiting 4 = .ok (.iload_n 2, 1) := by decide +kernel
theorem dX7_waiting_5 : decode cX7_waiting 5 = .ok (.aload_n 0, 1) := by decide +kernel
theorem dX7_waiting_6 : decode cX7_waiting 6 = .ok (.getfield 19, 3) := by decide +kernel
theorem dX7_waiting_9 : decode cX7_waiting 9 = .ok (.invokevirtual 52, 3) := by decide +kernel
theorem dX7_waiting_12 : decode cX7_waiting 12 = .ok (.if_icmp .ge 29, 3) := by decide +kernel
theorem dX7_waiting_15 : decode cX7_waiting 15 = .ok (.aload_n 0, 1) := by decide +kernel
theorem dX7_waiting_16 : decode cX7_waiting 16 = .ok (.getfield 19, 3) := by decide +kernel
theorem dX7_waiting_19 : decode cX7_waiting 19 = .ok (.iload_n 2, 1) := by decide +kernel
theorem dX7_waiting_20 : decode cX7_waiting 20 = .ok (.invokevirtual 127, 3) := by decide +kernel
theorem dX7_waiting_23 : decode cX7_waiting 23 = .ok (.checkcast 174, 3) := by decide +kernel
theorem dX7_waiting_26 : decode cX7_waiting 26 = .ok (.getfield 176, 3) := by decide +kernel
theorem dX7_waiting_29 : decode cX7_waiting 29 = .ok (.ifCond .eq 6, 3) := by decide +kernel
theorem dX7_waiting_32 : decode cX7_waiting 32 = .ok (.iinc 1 1, 3) := by decide +kernel
theorem dX7_waiting_35 : decode cX7_waiting 35 = .ok (.iinc 2 1, 3) := by decide +kernel
theorem dX7_waiting_38 : decode cX7_waiting 38 = .ok (.goto (-34), 3) := by decide +kernel
theorem dX7_waiting_41 : decode cX7_waiting 41 = .ok (.iload_n 1, 1) := by decide +kernel
theorem dX7_waiting_42 : decode cX7_waiting 42 = .ok (.ireturn, 1) := by decide +kernel
theorem dX7_onSheet_0 : decode cX7_onSheet 0 = .ok (.iload_n 2, 1) := by decide +kernel
theorem dX7_onSheet_1 : decode cX7_onSheet 1 = .ok (.bipush 8, 2) := by decide +kernel
theorem dX7_onSheet_3 : decode cX7_onSheet 3 = .ok (.invokestatic 95, 3) := by decide +kernel
theorem dX7_onSheet_6 : decode cX7_onSheet 6 = .ok (.iload_n 1, 1) := by decide +kernel
theorem dX7_onSheet_7 : decode cX7_onSheet 7 = .ok (.ifCond .lt 14, 3) := by decide +kernel
theorem dX7_onSheet_10 : decode cX7_onSheet 10 = .ok (.iload_n 1, 1) := by decide +kernel
theorem dX7_onSheet_11 : decode cX7_onSheet 11 = .ok (.aload_n 0, 1) := by decide +kernel
theorem dX7_onSheet_12 : decode cX7_onSheet 12 = .ok (.getfield 19, 3) := by decide +kernel
theorem dX7_onSheet_15 : decode cX7_onSheet 15 = .ok (.invokevirtual 52, 3) := by decide +kernel
theorem dX7_onSheet_18 : decode cX7_onSheet 18 = .ok (.if_icmp .lt 13, 3) := by decide +kernel
theorem dX7_onSheet_21 : decode cX7_onSheet 21 = .ok (.new 180, 3) := by decide +kernel
theorem dX7_onSheet_24 : decode cX7_onSheet 24 = .ok (.dup, 1) := by decide +kernel
theorem dX7_onSheet_25 : decode cX7_onSheet 25 = .ok (.ldc 182, 2) := by decide +kernel
theorem dX7_onSheet_27 : decode cX7_onSheet 27 = .ok (.invokespecial 184, 3) := by decide +kernel
theorem dX7_onSheet_30 : decode cX7_onSheet 30 = .ok (.athrow, 1) := by decide +kernel
theorem dX7_onSheet_31 : decode cX7_onSheet 31 = .ok (.aload_n 0, 1) := by decide +kernel
theorem dX7_onSheet_32 : decode cX7_onSheet 32 = .ok (.getfield 19, 3) := by decide +kernel
theorem dX7_onSheet_35 : decode cX7_onSheet 35 = .ok (.iload_n 1, 1) := by decide +kernel
theorem dX7_onSheet_36 : decode cX7_onSheet 36 = .ok (.invokevirtual 127, 3) := by decide +kernel
theorem dX7_onSheet_39 : decode cX7_onSheet 39 = .ok (.checkcast 174, 3) := by decide +kernel
theorem dX7_onSheet_42 : decode cX7_onSheet 42 = .ok (.iload_n 2, 1) := by decide +kernel
theorem dX7_onSheet_43 : decode cX7_onSheet 43 = .ok (.invokevirtual 185, 3) := by decide +kernel
theorem dX7_onSheet_46 : decode cX7_onSheet 46 = .ok (.astore_n 3, 1) := by decide +kernel
theorem dX7_onSheet_47 : decode cX7_onSheet 47 = .ok (.aload_n 3, 1) := by decide +kernel
theorem dX7_onSheet_48 : decode cX7_onSheet 48 = .ok (.ifnonnull 7, 3) := by decide +kernel
theorem dX7_onSheet_51 : decode cX7_onSheet 51 = .ok (.iconst (-1), 1) := by decide +kernel
theorem dX7_onSheet_52 : decode cX7_onSheet 52 = .ok (.goto 7, 3) := by decide +kernel
theorem dX7_onSheet_55 : decode cX7_onSheet 55 = .ok (.aload_n 3, 1) := by decide +kernel
theorem dX7_onSheet_56 : decode cX7_onSheet 56 = .ok (.invokevirtual 189, 3) := by decide +kernel
theorem dX7_onSheet_59 : decode cX7_onSheet 59 = .ok (.ireturn, 1) := by decide +kernel
theorem dX7_cut_0 : decode cX7_cut 0 = .ok (.iload_n 1, 1) := by decide +kernel
theorem dX7_cut_1 : decode cX7_cut 1 = .ok (.iconst 2, 1) := by decide +kernel
theorem dX7_cut_2 : decode cX7_cut 2 = .ok (.invokestatic 95, 3) := by decide +kernel
theorem dX7_cut_5 : decode cX7_cut 5 = .ok (.aload_n 0, 1) := by decide +kernel
theorem dX7_cut_6 : decode cX7_cut 6 = .ok (.invokevirtual 194, 3) := by decide +kernel
theorem dX7_cut_9 : decode cX7_cut 9 = .ok (.astore_n 2, 1) := by decide +kernel
theorem dX7_cut_10 : decode cX7_cut 10 = .ok (.aload_n 2, 1) := by decide +kernel
theorem dX7_cut_11 : decode cX7_cut 11 = .ok (.ifnonnull 13, 3) := by decide +kernel
theorem dX7_cut_14 : decode cX7_cut 14 = .ok (.new 180, 3) := by decide +kernel
theorem dX7_cut_17 : decode cX7_cut 17 = .ok (.dup, 1) := by decide +kernel
theorem dX7_cut_18 : decode cX7_cut 18 = .ok (.ldc 197, 2) := by decide +kernel
theorem dX7_cut_20 : decode cX7_cut 20 = .ok (.invokespecial 184, 3) := by decide +kernel
theorem dX7_cut_23 : decode cX7_cut 23 = .ok (.athrow, 1) := by decide +kernel
theorem dX7_cut_24 : decode cX7_cut 24 = .ok (.aload_n 0, 1) := by decide +kernel
theorem dX7_cut_25 : decode cX7_cut 25 = .ok (.getfield 26, 3) := by decide +kernel
theorem dX7_cut_28 : decode cX7_cut 28 = .ok (.iload_n 1, 1) := by decide +kernel
theorem dX7_cut_29 : decode cX7_cut 29 = .ok (.iaload, 1) := by decide +kernel
theorem dX7_cut_30 : decode cX7_cut 30 = .ok (.iconst 4, 1) := by decide +kernel
theorem dX7_cut_31 : decode cX7_cut 31 = .ok (.idiv, 1) := by decide +kernel
theorem dX7_cut_32 : decode cX7_cut 32 = .ok (.istore_n 3, 1) := by decide +kernel
theorem dX7_cut_33 : decode cX7_cut 33 = .ok (.aload_n 0, 1) := by decide +kernel
theorem dX7_cut_34 : decode cX7_cut 34 = .ok (.getfield 26, 3) := by decide +kernel
theorem dX7_cut_37 : decode cX7_cut 37 = .ok (.iload_n 1, 1) := by decide +kernel
theorem dX7_cut_38 : decode cX7_cut 38 = .ok (.aload_n 0, 1) := by decide +kernel
theorem dX7_cut_39 : decode cX7_cut 39 = .ok (.getfield 26, 3) := by decide +kernel
theorem dX7_cut_42 : decode cX7_cut 42 = .ok (.iload_n 1, 1) := by decide +kernel
theorem dX7_cut_43 : decode cX7_cut 43 = .ok (.iaload, 1) := by decide +kernel
theorem dX7_cut_44 : decode cX7_cut 44 = .ok (.iconst 1, 1) := by decide +kernel
theorem dX7_cut_45 : decode cX7_cut 45 = .ok (.iadd, 1) := by decide +kernel
theorem dX7_cut_46 : decode cX7_cut 46 = .ok (.bipush 60, 2) := by decide +kernel
theorem dX7_cut_48 : decode cX7_cut 48 = .ok (.invokestatic 159, 3) := by decide +kernel
theorem dX7_cut_51 : decode cX7_cut 51 = .ok (.iastore, 1) := by decide +kernel
theorem dX7_cut_52 : decode cX7_cut 52 = .ok (.aload_n 2, 1) := by decide +kernel
theorem dX7_cut_53 : decode cX7_cut 53 = .ok (.iload_n 3, 1) := by decide +kernel
theorem dX7_cut_54 : decode cX7_cut 54 = .ok (.invokevirtual 199, 3) := by decide +kernel
theorem dX7_cut_57 : decode cX7_cut 57 = .ok (.iload_n 3, 1) := by decide +kernel
theorem dX7_cut_58 : decode cX7_cut 58 = .ok (.ireturn, 1) := by decide +kernel
theorem dX7_discard_0 : decode cX7_discard 0 = .ok (.iconst 0, 1) := by decide +kernel
theorem dX7_discard_1 : decode cX7_discard 1 = .ok (.istore_n 1, 1) := by decide +kernel
theorem dX7_discard_2 : decode cX7_discard 2 = .ok (.iconst 0, 1) := by decide +kernel
theorem dX7_discard_3 : decode cX7_discard 3 = .ok (.istore_n 2, 1) := by decide +kernel
theorem dX7_discard_4 : decode cX7_discard 4 = .ok (.iload_n 2, 1) := by decide +kernel
theorem dX7_discard_5 : decode cX7_discard 5 = .ok (.aload_n 0, 1) := by decide +kernel
theorem dX7_discard_6 : decode cX7_discard 6 = .ok (.getfield 19, 3) := by decide +kernel
theorem dX7_discard_9 : decode cX7_discard 9 = .ok (.invokevirtual 52, 3) := by decide +kernel
theorem dX7_discard_12 : decode cX7_discard 12 = .ok (.if_icmp .ge 43, 3) := by decide +kernel
theorem dX7_discard_15 : decode cX7_discard 15 = .ok (.aload_n 0, 1) := by decide +kernel
theorem dX7_discard_16 : decode cX7_discard 16 = .ok (.getfield 19, 3) := by decide +kernel
theorem dX7_discard_19 : decode cX7_discard 19 = .ok (.iload_n 2, 1) := by decide +kernel
theorem dX7_discard_20 : decode cX7_discard 20 = .ok (.invokevirtual 127, 3) := by decide +kernel
theorem dX7_discard_23 : decode cX7_discard 23 = .ok (.checkcast 174, 3) := by decide +kernel
theorem dX7_discard_26 : decode cX7_discard 26 = .ok (.astore_n 3, 1) := by decide +kernel
theorem dX7_discard_27 : decode cX7_discard 27 = .ok (.aload_n 3, 1) := by decide +kernel
theorem dX7_discard_28 : decode cX7_discard 28 = .ok (.getfield 176, 3) := by decide +kernel
theorem dX7_discard_31 : decode cX7_discard 31 = .ok (.ifCond .eq 18, 3) := by decide +kernel
theorem dX7_discard_34 : decode cX7_discard 34 = .ok (.aload_n 3, 1) := by decide +kernel
theorem dX7_discard_35 : decode cX7_discard 35 = .ok (.invokevirtual 202, 3) := by decide +kernel
theorem dX7_discard_38 : decode cX7_discard 38 = .ok (.ifCond .ne 11, 3) := by decide +kernel
theorem dX7_discard_41 : decode cX7_discard 41 = .ok (.aload_n 3, 1) := by decide +kernel
theorem dX7_discard_42 : decode cX7_discard 42 = .ok (.iconst 0, 1) := by decide +kernel
theorem dX7_discard_43 : decode cX7_discard 43 = .ok (.putfield 176, 3) := by decide +kernel
theorem dX7_discard_46 : decode cX7_discard 46 = .ok (.iinc 1 1, 3) := by decide +kernel
theorem dX7_discard_49 : decode cX7_discard 49 = .ok (.iinc 2 1, 3) := by decide +kernel
theorem dX7_discard_52 : decode cX7_discard 52 = .ok (.goto (-48), 3) := by decide +kernel
theorem dX7_discard_55 : decode cX7_discard 55 = .ok (.iload_n 1, 1) := by decide +kernel
theorem dX7_discard_56 : decode cX7_discard 56 = .ok (.ireturn, 1) := by decide +kernel
theorem dX7_sharpen_0 : decode cX7_sharpen 0 = .ok (.iload_n 1, 1) := by decide +kernel
theorem dX7_sharpen_1 : decode cX7_sharpen 1 = .ok (.iconst 2, 1) := by decide +kernel
theorem dX7_sharpen_2 : decode cX7_sharpen 2 = .ok (.invokestatic 95, 3) := by decide +kernel
theorem dX7_sharpen_5 : decode cX7_sharpen 5 = .ok (.aload_n 0, 1) := by decide +kernel
theorem dX7_sharpen_6 : decode cX7_sharpen 6 = .ok (.getfield 26, 3) := by decide +kernel
theorem dX7_sharpen_9 : decode cX7_sharpen 9 = .ok (.iload_n 1, 1) := by decide +kernel
theorem dX7_sharpen_10 : decode cX7_sharpen 10 = .ok (.iaload, 1) := by decide +kernel
theorem dX7_sharpen_11 : decode cX7_sharpen 11 = .ok (.istore_n 2, 1) := by decide +kernel
theorem dX7_sharpen_12 : decode cX7_sharpen 12 = .ok (.aload_n 0, 1) := by decide +kernel
theorem dX7_sharpen_13 : decode cX7_sharpen 13 = .ok (.getfield 26, 3) := by decide +kernel
theorem dX7_sharpen_16 : decode cX7_sharpen 16 = .ok (.iload_n 1, 1) := by decide +kernel
theorem dX7_sharpen_17 : decode cX7_sharpen 17 = .ok (.iconst 0, 1) := by decide +kernel
theorem dX7_sharpen_18 : decode cX7_sharpen 18 = .ok (.iastore, 1) := by decide +kernel
theorem dX7_sharpen_19 : decode cX7_sharpen 19 = .ok (.iload_n 2, 1) := by decide +kernel
theorem dX7_sharpen_20 : decode cX7_sharpen 20 = .ok (.ireturn, 1) := by decide +kernel
theorem dX7_setTolerance_0 : decode cX7_setTolerance 0 = .ok (.iload_n 1, 1) := by decide +kernel
theorem dX7_setTolerance_1 : decode cX7_setTolerance 1 = .ok (.iconst 0, 1) := by decide +kernel
theorem dX7_setTolerance_2 : decode cX7_setTolerance 2 = .ok (.bipush 15, 2) := by decide +kernel
theorem dX7_setTolerance_4 : decode cX7_setTolerance 4 = .ok (.invokestatic 82, 3) := by decide +kernel
theorem dX7_setTolerance_7 : decode cX7_setTolerance 7 = .ok (.aload_n 0, 1) := by decide +kernel
theorem dX7_setTolerance_8 : decode cX7_setTolerance 8 = .ok (.getfield 45, 3) := by decide +kernel
theorem dX7_setTolerance_11 : decode cX7_setTolerance 11 = .ok (.istore_n 2, 1) := by decide +kernel
theorem dX7_setTolerance_12 : decode cX7_setTolerance 12 = .ok (.aload_n 0, 1) := by decide +kernel
theorem dX7_setTolerance_13 : decode cX7_setTolerance 13 = .ok (.iload_n 1, 1) := by decide +kernel
theorem dX7_setTolerance_14 : decode cX7_setTolerance 14 = .ok (.putfield 45, 3) := by decide +kernel
theorem dX7_setTolerance_17 : decode cX7_setTolerance 17 = .ok (.iload_n 2, 1) := by decide +kernel
theorem dX7_setTolerance_18 : decode cX7_setTolerance 18 = .ok (.ireturn, 1) := by decide +kernel
theorem dX7_bind_0 : decode cX7_bind 0 = .ok (.aload_n 0, 1) := by decide +kernel
theorem dX7_bind_1 : decode cX7_bind 1 = .ok (.iload_n 1, 1) := by decide +kernel
theorem dX7_bind_2 : decode cX7_bind 2 = .ok (.invokevirtual 120, 3) := by decide +kernel
theorem dX7_bind_5 : decode cX7_bind 5 = .ok (.astore_n 3, 1) := by decide +kernel
theorem dX7_bind_6 : decode cX7_bind 6 = .ok (.aload_n 3, 1) := by decide +kernel
theorem dX7_bind_7 : decode cX7_bind 7 = .ok (.iload_n 2, 1) := by decide +kernel
theorem dX7_bind_8 : decode cX7_bind 8 = .ok (.invokestatic 206, 3) := by decide +kernel
theorem dX7_bind_11 : decode cX7_bind 11 = .ok (.astore 4, 2) := by decide +kernel
theorem dX7_bind_13 : decode cX7_bind 13 = .ok (.aload_n 3, 1) := by decide +kernel
theorem dX7_bind_14 : decode cX7_bind 14 = .ok (.getfield 210, 3) := by decide +kernel
theorem dX7_bind_17 : decode cX7_bind 17 = .ok (.getfield 106, 3) := by decide +kernel
theorem dX7_bind_20 : decode cX7_bind 20 = .ok (.istore 5, 2) := by decide +kernel
theorem dX7_bind_22 : decode cX7_bind 22 = .ok (.aload 4, 2) := by decide +kernel
theorem dX7_bind_24 : decode cX7_bind 24 = .ok (.getfield 214, 3) := by decide +kernel
theorem dX7_bind_27 : decode cX7_bind 27 = .ok (.ifCond .ne 13, 3) := by decide +kernel
theorem dX7_bind_30 : decode cX7_bind 30 = .ok (.aload 4, 2) := by decide +kernel
theorem dX7_bind_32 : decode cX7_bind 32 = .ok (.iload 5, 2) := by decide +kernel
theorem dX7_bind_34 : decode cX7_bind 34 = .ok (.invokevirtual 219, 3) := by decide +kernel
theorem dX7_bind_37 : decode cX7_bind 37 = .ok (.ifCond .ne 13, 3) := by decide +kernel
theorem dX7_bind_40 : decode cX7_bind 40 = .ok (.new 56, 3) := by decide +kernel
theorem dX7_bind_43 : decode cX7_bind 43 = .ok (.dup, 1) := by decide +kernel
theorem dX7_bind_44 : decode cX7_bind 44 = .ok (.ldc 223, 2) := by decide +kernel
theorem dX7_bind_46 : decode cX7_bind 46 = .ok (.invokespecial 60, 3) := by decide +kernel
theorem dX7_bind_49 : decode cX7_bind 49 = .ok (.athrow, 1) := by decide +kernel
theorem dX7_bind_50 : decode cX7_bind 50 = .ok (.aload 4, 2) := by decide +kernel
theorem dX7_bind_52 : decode cX7_bind 52 = .ok (.aload 4, 2) := by decide +kernel
theorem dX7_bind_54 : decode cX7_bind 54 = .ok (.iload 5, 2) := by decide +kernel
theorem dX7_bind_56 : decode cX7_bind 56 = .ok (.invokevirtual 225, 3) := by decide +kernel
theorem dX7_bind_59 : decode cX7_bind 59 = .ok (.aload_n 0, 1) := by decide +kernel
theorem dX7_bind_60 : decode cX7_bind 60 = .ok (.getfield 45, 3) := by decide +kernel
theorem dX7_bind_63 : decode cX7_bind 63 = .ok (.iadd, 1) := by decide +kernel
theorem dX7_bind_64 : decode cX7_bind 64 = .ok (.invokevirtual 228, 3) := by decide +kernel
theorem dX7_bind_67 : decode cX7_bind 67 = .ok (.istore 6, 2) := by decide +kernel
theorem dX7_bind_69 : decode cX7_bind 69 = .ok (.iload 6, 2) := by decide +kernel
theorem dX7_bind_71 : decode cX7_bind 71 = .ok (.ifCond .le 18, 3) := by decide +kernel
theorem dX7_bind_74 : decode cX7_bind 74 = .ok (.aload_n 0, 1) := by decide +kernel
theorem dX7_bind_75 : decode cX7_bind 75 = .ok (.dup, 1) := by decide +kernel
theorem dX7_bind_76 : decode cX7_bind 76 = .ok (.getfield 49, 3) := by decide +kernel
theorem dX7_bind_79 : decode cX7_bind 79 = .ok (.iload 6, 2) := by decide +kernel
theorem dX7_bind_81 : decode cX7_bind 81 = .ok (.iadd, 1) := by decide +kernel
theorem dX7_bind_82 : decode cX7_bind 82 = .ok (.putfield 49, 3) := by decide +kernel
theorem dX7_bind_85 : decode cX7_bind 85 = .ok (.iload 6, 2) := by decide +kernel
theorem dX7_bind_87 : decode cX7_bind 87 = .ok (.ineg, 1) := by decide +kernel
theorem dX7_bind_88 : decode cX7_bind 88 = .ok (.ireturn, 1) := by decide +kernel
theorem dX7_bind_89 : decode cX7_bind 89 = .ok (.aload 4, 2) := by decide +kernel
theorem dX7_bind_91 : decode cX7_bind 91 = .ok (.iconst 1, 1) := by decide +kernel
theorem dX7_bind_92 : decode cX7_bind 92 = .ok (.putfield 214, 3) := by decide +kernel
theorem dX7_bind_95 : decode cX7_bind 95 = .ok (.aload 4, 2) := by decide +kernel
theorem dX7_bind_97 : decode cX7_bind 97 = .ok (.iload 5, 2) := by decide +kernel
theorem dX7_bind_99 : decode cX7_bind 99 = .ok (.putfield 231, 3) := by decide +kernel
theorem dX7_bind_102 : decode cX7_bind 102 = .ok (.iload 5, 2) := by decide +kernel
theorem dX7_bind_104 : decode cX7_bind 104 = .ok (.ireturn, 1) := by decide +kernel
theorem dX7_isBound_0 : decode cX7_isBound 0 = .ok (.aload_n 0, 1) := by decide +kernel
theorem dX7_isBound_1 : decode cX7_isBound 1 = .ok (.iload_n 1, 1) := by decide +kernel
theorem dX7_isBound_2 : decode cX7_isBound 2 = .ok (.invokevirtual 120, 3) := by decide +kernel
theorem dX7_isBound_5 : decode cX7_isBound 5 = .ok (.iload_n 2, 1) := by decide +kernel
theorem dX7_isBound_6 : decode cX7_isBound 6 = .ok (.invokestatic 206, 3) := by decide +kernel
theorem dX7_isBound_9 : decode cX7_isBound 9 = .ok (.getfield 214, 3) := by decide +kernel
theorem dX7_isBound_12 : decode cX7_isBound 12 = .ok (.ireturn, 1) := by decide +kernel
theorem dX7_trim_0 : decode cX7_trim 0 = .ok (.aload_n 0, 1) := by decide +kernel
theorem dX7_trim_1 : decode cX7_trim 1 = .ok (.iload_n 1, 1) := by decide +kernel
theorem dX7_trim_2 : decode cX7_trim 2 = .ok (.iload_n 2, 1) := by decide +kernel
theorem dX7_trim_3 : decode cX7_trim 3 = .ok (.iload_n 3, 1) := by decide +kernel
theorem dX7_trim_4 : decode cX7_trim 4 = .ok (.invokevirtual 234, 3) := by decide +kernel
theorem dX7_trim_7 : decode cX7_trim 7 = .ok (.astore 4, 2) := by decide +kernel
theorem dX7_trim_9 : decode cX7_trim 9 = .ok (.aload 4, 2) := by decide +kernel
theorem dX7_trim_11 : decode cX7_trim 11 = .ok (.ifnonnull 7, 3) := by decide +kernel
theorem dX7_trim_14 : decode cX7_trim 14 = .ok (.iconst (-1), 1) := by decide +kernel
theorem dX7_trim_15 : decode cX7_trim 15 = .ok (.goto 11, 3) := by decide +kernel
theorem dX7_trim_18 : decode cX7_trim 18 = .ok (.aload 4, 2) := by decide +kernel
theorem dX7_trim_20 : decode cX7_trim 20 = .ok (.getfield 238, 3) := by decide +kernel
theorem dX7_trim_23 : decode cX7_trim 23 = .ok (.getfield 242, 3) := by decide +kernel
theorem dX7_trim_26 : decode cX7_trim 26 = .ok (.ireturn, 1) := by decide +kernel
theorem dX7_leaf_0 : decode cX7_leaf 0 = .ok (.aload_n 0, 1) := by decide +kernel
theorem dX7_leaf_1 : decode cX7_leaf 1 = .ok (.iload_n 1, 1) := by decide +kernel
theorem dX7_leaf_2 : decode cX7_leaf 2 = .ok (.iload_n 2, 1) := by decide +kernel
theorem dX7_leaf_3 : decode cX7_leaf 3 = .ok (.iload_n 3, 1) := by decide +kernel
theorem dX7_leaf_4 : decode cX7_leaf 4 = .ok (.invokevirtual 234, 3) := by decide +kernel
theorem dX7_leaf_7 : decode cX7_leaf 7 = .ok (.astore 4, 2) := by decide +kernel
theorem dX7_leaf_9 : decode cX7_leaf 9 = .ok (.aload 4, 2) := by decide +kernel
theorem dX7_leaf_11 : decode cX7_leaf 11 = .ok (.ifnonnull 7, 3) := by decide +kernel
theorem dX7_leaf_14 : decode cX7_leaf 14 = .ok (.iconst (-1), 1) := by decide +kernel
theorem dX7_leaf_15 : decode cX7_leaf 15 = .ok (.goto 8, 3) := by decide +kernel
theorem dX7_leaf_18 : decode cX7_leaf 18 = .ok (.aload 4, 2) := by decide +kernel
theorem dX7_leaf_20 : decode cX7_leaf 20 = .ok (.getfield 245, 3) := by decide +kernel
theorem dX7_leaf_23 : decode cX7_leaf 23 = .ok (.ireturn, 1) := by decide +kernel
theorem dX7_leafByPiles_0 : decode cX7_leafByPiles 0 = .ok (.aload_n 0, 1) := by decide +kernel
theorem dX7_leafByPiles_1 : decode cX7_leafByPiles 1 = .ok (.iload_n 1, 1) := by decide +kernel
theorem dX7_leafByPiles_2 : decode cX7_leafByPiles 2 = .ok (.invokevirtual 120, 3) := by decide +kernel
theorem dX7_leafByPiles_5 : decode cX7_leafByPiles 5 = .ok (.astore 4, 2) := by decide +kernel
theorem dX7_leafByPiles_7 : decode cX7_leafByPiles 7 = .ok (.aload 4, 2) := by decide +kernel
theorem dX7_leafByPiles_9 : decode cX7_leafByPiles 9 = .ok (.iload_n 2, 1) := by decide +kernel
theorem dX7_leafByPiles_10 : decode cX7_leafByPiles 10 = .ok (.invokestatic 206, 3) := by decide +kernel
theorem dX7_leafByPiles_13 : decode cX7_leafByPiles 13 = .ok (.astore 5, 2) := by decide +kernel
theorem dX7_leafByPiles_15 : decode cX7_leafByPiles 15 = .ok (.iload_n 3, 1) := by decide +kernel
theorem dX7_leafByPiles_16 : decode cX7_leafByPiles 16 = .ok (.aload 4, 2) := by decide +kernel
theorem dX7_leafByPiles_18 : decode cX7_leafByPiles 18 = .ok (.aload 5, 2) := by decide +kernel
theorem dX7_leafByPiles_20 : decode cX7_leafByPiles 20 = .ok (.invokevirtual 248, 3) := by decide +kernel
theorem dX7_leafByPiles_23 : decode cX7_leafByPiles 23 = .ok (.invokestatic 95, 3) := by decide +kernel
theorem dX7_leafByPiles_26 : decode cX7_leafByPiles 26 = .ok (.iconst 0, 1) := by decide +kernel
theorem dX7_leafByPiles_27 : decode cX7_leafByPiles 27 = .ok (.istore 6, 2) := by decide +kernel
theorem dX7_leafByPiles_29 : decode cX7_leafByPiles 29 = .ok (.iload 6, 2) := by decide +kernel
theorem dX7_leafByPiles_31 : decode cX7_leafByPiles 31 = .ok (.aload_n 0, 1) := by decide +kernel
theorem dX7_leafByPiles_32 : decode cX7_leafByPiles 32 = .ok (.getfield 19, 3) := by decide +kernel
theorem dX7_leafByPiles_35 : decode cX7_leafByPiles 35 = .ok (.invokevirtual 52, 3) := by decide +kernel
theorem dX7_leafByPiles_38 : decode cX7_leafByPiles 38 = .ok (.if_icmp .ge 53, 3) := by decide +kernel
theorem dX7_leafByPiles_41 : decode cX7_leafByPiles 41 = .ok (.aload_n 0, 1) := by decide +kernel
theorem dX7_leafByPiles_42 : decode cX7_leafByPiles 42 = .ok (.getfield 19, 3) := by decide +kernel
theorem dX7_leafByPiles_45 : decode cX7_leafByPiles 45 = .ok (.iload 6, 2) := by decide +kernel
theorem dX7_leafByPiles_47 : decode cX7_leafByPiles 47 = .ok (.invokevirtual 127, 3) := by decide +kernel
theorem dX7_leafByPiles_50 : decode cX7_leafByPiles 50 = .ok (.checkcast 174, 3) := by decide +kernel
theorem dX7_leafByPiles_53 : decode cX7_leafByPiles 53 = .ok (.astore 7, 2) := by decide +kernel
theorem dX7_leafByPiles_55 : decode cX7_leafByPiles 55 = .ok (.aload 7, 2) := by decide +kernel
theorem dX7_leafByPiles_57 : decode cX7_leafByPiles 57 = .ok (.invokevirtual 252, 3) := by decide +kernel
theorem dX7_leafByPiles_60 : decode cX7_leafByPiles 60 = .ok (.ifCond .eq 25, 3) := by decide +kernel
theorem dX7_leafByPiles_63 : decode cX7_leafByPiles 63 = .ok (.aload_n 0, 1) := by decide +kernel
theorem dX7_leafByPiles_64 : decode cX7_leafByPiles 64 = .ok (.aload 7, 2) := by decide +kernel
theorem dX7_leafByPiles_66 : decode cX7_leafByPiles 66 = .ok (.iload_n 1, 1) := by decide +kernel
theorem dX7_leafByPiles_67 : decode cX7_leafByPiles 67 = .ok (.iload_n 2, 1) := by decide +kernel
theorem dX7_leafByPiles_68 : decode cX7_leafByPiles 68 = .ok (.iload_n 3, 1) := by decide +kernel
theorem dX7_leafByPiles_69 : decode cX7_leafByPiles 69 = .ok (.invokevirtual 255, 3) := by decide +kernel
theorem dX7_leafByPiles_72 : decode cX7_leafByPiles 72 = .ok (.astore 8, 2) := by decide +kernel
theorem dX7_leafByPiles_74 : decode cX7_leafByPiles 74 = .ok (.aload 8, 2) := by decide +kernel
theorem dX7_leafByPiles_76 : decode cX7_leafByPiles 76 = .ok (.ifnull 9, 3) := by decide +kernel
theorem dX7_leafByPiles_79 : decode cX7_leafByPiles 79 = .ok (.aload 8, 2) := by decide +kernel
theorem dX7_leafByPiles_81 : decode cX7_leafByPiles 81 = .ok (.getfield 245, 3) := by decide +kernel
theorem dX7_leafByPiles_84 : decode cX7_leafByPiles 84 = .ok (.ireturn, 1) := by decide +kernel
theorem dX7_leafByPiles_85 : decode cX7_leafByPiles 85 = .ok (.iinc 6 1, 3) := by decide +kernel
theorem dX7_leafByPiles_88 : decode cX7_leafByPiles 88 = .ok (.goto (-59), 3) := by decide +kernel
theorem dX7_leafByPiles_91 : decode cX7_leafByPiles 91 = .ok (.iconst (-1), 1) := by decide +kernel
theorem dX7_leafByPiles_92 : decode cX7_leafByPiles 92 = .ok (.ireturn, 1) := by decide +kernel
theorem dX7_spoiled_0 : decode cX7_spoiled 0 = .ok (.aload_n 0, 1) := by decide +kernel
theorem dX7_spoiled_1 : decode cX7_spoiled 1 = .ok (.getfield 49, 3) := by decide +kernel
theorem dX7_spoiled_4 : decode cX7_spoiled 4 = .ok (.ireturn, 1) := by decide +kernel
theorem dX7_checkIndex_0 : decode cX7_checkIndex 0 = .ok (.iload_n 0, 1) := by decide +kernel
theorem dX7_checkIndex_1 : decode cX7_checkIndex 1 = .ok (.ifCond .lt 8, 3) := by decide +kernel
theorem dX7_checkIndex_4 : decode cX7_checkIndex 4 = .ok (.iload_n 0, 1) := by decide +kernel
theorem dX7_checkIndex_5 : decode cX7_checkIndex 5 = .ok (.iload_n 1, 1) := by decide +kernel
theorem dX7_checkIndex_6 : decode cX7_checkIndex 6 = .ok (.if_icmp .lt 14, 3) := by decide +kernel
theorem dX7_checkIndex_9 : decode cX7_checkIndex 9 = .ok (.new 77, 3) := by decide +kernel
theorem dX7_checkIndex_12 : decode cX7_checkIndex 12 = .ok (.dup, 1) := by decide +kernel
theorem dX7_checkIndex_13 : decode cX7_checkIndex 13 = .ok (.ldc_w 259, 3) := by decide +kernel
theorem dX7_checkIndex_16 : decode cX7_checkIndex 16 = .ok (.invokespecial 81, 3) := by decide +kernel
theorem dX7_checkIndex_19 : decode cX7_checkIndex 19 = .ok (.athrow, 1) := by decide +kernel
theorem dX7_checkIndex_20 : decode cX7_checkIndex 20 = .ok (.return_, 1) := by decide +kernel
theorem dX7_checkRange_0 : decode cX7_checkRange 0 = .ok (.iload_n 0, 1) := by decide +kernel
theorem dX7_checkRange_1 : decode cX7_checkRange 1 = .ok (.iload_n 1, 1) := by decide +kernel
theorem dX7_checkRange_2 : decode cX7_checkRange 2 = .ok (.if_icmp .lt 8, 3) := by decide +kernel
theorem dX7_checkRange_5 : decode cX7_checkRange 5 = .ok (.iload_n 0, 1) := by decide +kernel
theorem dX7_checkRange_6 : decode cX7_checkRange 6 = .ok (.iload_n 2, 1) := by decide +kernel
theorem dX7_checkRange_7 : decode cX7_checkRange 7 = .ok (.if_icmp .le 14, 3) := by decide +kernel
theorem dX7_checkRange_10 : decode cX7_checkRange 10 = .ok (.new 141, 3) := by decide +kernel
theorem dX7_checkRange_13 : decode cX7_checkRange 13 = .ok (.dup, 1) := by decide +kernel
theorem dX7_checkRange_14 : decode cX7_checkRange 14 = .ok (.ldc_w 261, 3) := by decide +kernel
theorem dX7_checkRange_17 : decode cX7_checkRange 17 = .ok (.invokespecial 145, 3) := by decide +kernel
theorem dX7_checkRange_20 : decode cX7_checkRange 20 = .ok (.athrow, 1) := by decide +kernel
theorem dX7_checkRange_21 : decode cX7_checkRange 21 = .ok (.return_, 1) := by decide +kernel
theorem dX7_bookNumbered_0 : decode cX7_bookNumbered 0 = .ok (.iload_n 1, 1) := by decide +kernel
theorem dX7_bookNumbered_1 : decode cX7_bookNumbered 1 = .ok (.aload_n 0, 1) := by decide +kernel
theorem dX7_bookNumbered_2 : decode cX7_bookNumbered 2 = .ok (.getfield 12, 3) := by decide +kernel
theorem dX7_bookNumbered_5 : decode cX7_bookNumbered 5 = .ok (.invokevirtual 52, 3) := by decide +kernel
theorem dX7_bookNumbered_8 : decode cX7_bookNumbered 8 = .ok (.invokestatic 95, 3) := by decide +kernel
theorem dX7_bookNumbered_11 : decode cX7_bookNumbered 11 = .ok (.aload_n 0, 1) := by decide +kernel
theorem dX7_bookNumbered_12 : decode cX7_bookNumbered 12 = .ok (.getfield 12, 3) := by decide +kernel
theorem dX7_bookNumbered_15 : decode cX7_bookNumbered 15 = .ok (.iload_n 1, 1) := by decide +kernel
theorem dX7_bookNumbered_16 : decode cX7_bookNumbered 16 = .ok (.invokevirtual 127, 3) := by decide +kernel
theorem dX7_bookNumbered_19 : decode cX7_bookNumbered 19 = .ok (.checkcast 63, 3) := by decide +kernel
theorem dX7_bookNumbered_22 : decode cX7_bookNumbered 22 = .ok (.areturn, 1) := by decide +kernel
theorem dX7_orderNumbered_0 : decode cX7_orderNumbered 0 = .ok (.iload_n 1, 1) := by decide +kernel
theorem dX7_orderNumbered_1 : decode cX7_orderNumbered 1 = .ok (.aload_n 0, 1) := by decide +kernel
theorem dX7_orderNumbered_2 : decode cX7_orderNumbered 2 = .ok (.getfield 16, 3) := by decide +kernel
theorem dX7_orderNumbered_5 : decode cX7_orderNumbered 5 = .ok (.invokevirtual 52, 3) := by decide +kernel
theorem dX7_orderNumbered_8 : decode cX7_orderNumbered 8 = .ok (.invokestatic 95, 3) := by decide +kernel
theorem dX7_orderNumbered_11 : decode cX7_orderNumbered 11 = .ok (.aload_n 0, 1) := by decide +kernel
theorem dX7_orderNumbered_12 : decode cX7_orderNumbered 12 = .ok (.getfield 16, 3) := by decide +kernel
theorem dX7_orderNumbered_15 : decode cX7_orderNumbered 15 = .ok (.iload_n 1, 1) := by decide +kernel
theorem dX7_orderNumbered_16 : decode cX7_orderNumbered 16 = .ok (.invokevirtual 127, 3) := by decide +kernel
theorem dX7_orderNumbered_19 : decode cX7_orderNumbered 19 = .ok (.checkcast 115, 3) := by decide +kernel
theorem dX7_orderNumbered_22 : decode cX7_orderNumbered 22 = .ok (.areturn, 1) := by decide +kernel
theorem dX7_copyNumbered_0 : decode cX7_copyNumbered 0 = .ok (.iload_n 1, 1) := by decide +kernel
theorem dX7_copyNumbered_1 : decode cX7_copyNumbered 1 = .ok (.aload_n 0, 1) := by decide +kernel
theorem dX7_copyNumbered_2 : decode cX7_copyNumbered 2 = .ok (.getfield 263, 3) := by decide +kernel
theorem dX7_copyNumbered_5 : decode cX7_copyNumbered 5 = .ok (.invokevirtual 52, 3) := by decide +kernel
theorem dX7_copyNumbered_8 : decode cX7_copyNumbered 8 = .ok (.invokestatic 95, 3) := by decide +kernel
theorem dX7_copyNumbered_11 : decode cX7_copyNumbered 11 = .ok (.aload_n 0, 1) := by decide +kernel
theorem dX7_copyNumbered_12 : decode cX7_copyNumbered 12 = .ok (.getfield 263, 3) := by decide +kernel
theorem dX7_copyNumbered_15 : decode cX7_copyNumbered 15 = .ok (.iload_n 1, 1) := by decide +kernel
theorem dX7_copyNumbered_16 : decode cX7_copyNumbered 16 = .ok (.invokevirtual 127, 3) := by decide +kernel
theorem dX7_copyNumbered_19 : decode cX7_copyNumbered 19 = .ok (.checkcast 215, 3) := by decide +kernel
theorem dX7_copyNumbered_22 : decode cX7_copyNumbered 22 = .ok (.areturn, 1) := by decide +kernel
theorem dX7_oneIfSideways_0 : decode cX7_oneIfSideways 0 = .ok (.iload_n 0, 1) := by decide +kernel
theorem dX7_oneIfSideways_1 : decode cX7_oneIfSideways 1 = .ok (.ifCond .eq 8, 3) := by decide +kernel
theorem dX7_oneIfSideways_4 : decode cX7_oneIfSideways 4 = .ok (.iload_n 0, 1) := by decide +kernel
theorem dX7_oneIfSideways_5 : decode cX7_oneIfSideways 5 = .ok (.iconst 1, 1) := by decide +kernel
theorem dX7_oneIfSideways_6 : decode cX7_oneIfSideways 6 = .ok (.if_icmp .ne 7, 3) := by decide +kernel
theorem dX7_oneIfSideways_9 : decode cX7_oneIfSideways 9 = .ok (.iconst 1, 1) := by decide +kernel
theorem dX7_oneIfSideways_10 : decode cX7_oneIfSideways 10 = .ok (.goto 4, 3) := by decide +kernel
theorem dX7_oneIfSideways_13 : decode cX7_oneIfSideways 13 = .ok (.iconst 0, 1) := by decide +kernel
theorem dX7_oneIfSideways_14 : decode cX7_oneIfSideways 14 = .ok (.ireturn, 1) := by decide +kernel
theorem dX7_sheetsFor_0 : decode cX7_sheetsFor 0 = .ok (.iload_n 0, 1) := by decide +kernel
theorem dX7_sheetsFor_1 : decode cX7_sheetsFor 1 = .ok (.bipush 8, 2) := by decide +kernel
theorem dX7_sheetsFor_3 : decode cX7_sheetsFor 3 = .ok (.iadd, 1) := by decide +kernel
theorem dX7_sheetsFor_4 : decode cX7_sheetsFor 4 = .ok (.iconst 1, 1) := by decide +kernel
theorem dX7_sheetsFor_5 : decode cX7_sheetsFor 5 = .ok (.isub, 1) := by decide +kernel
theorem dX7_sheetsFor_6 : decode cX7_sheetsFor 6 = .ok (.bipush 8, 2) := by decide +kernel
theorem dX7_sheetsFor_8 : decode cX7_sheetsFor 8 = .ok (.idiv, 1) := by decide +kernel
theorem dX7_sheetsFor_9 : decode cX7_sheetsFor 9 = .ok (.ireturn, 1) := by decide +kernel
theorem dX7_spoilChanged_0 : decode cX7_spoilChanged 0 = .ok (.iconst 0, 1) := by decide +kernel
theorem dX7_spoilChanged_1 : decode cX7_spoilChanged 1 = .ok (.istore_n 2, 1) := by decide +kernel
theorem dX7_spoilChanged_2 : decode cX7_spoilChanged 2 = .ok (.iconst 0, 1) := by decide +kernel
theorem dX7_spoilChanged_3 : decode cX7_spoilChanged 3 = .ok (.istore_n 3, 1) := by decide +kernel
theorem dX7_spoilChanged_4 : decode cX7_spoilChanged 4 = .ok (.iload_n 3, 1) := by decide +kernel
theorem dX7_spoilChanged_5 : decode cX7_spoilChanged 5 = .ok (.aload_n 0, 1) := by decide +kernel
theorem dX7_spoilChanged_6 : decode cX7_spoilChanged 6 = .ok (.getfield 16, 3) := by decide +kernel
theorem dX7_spoilChanged_9 : decode cX7_spoilChanged 9 = .ok (.invokevirtual 52, 3) := by decide +kernel
theorem dX7_spoilChanged_12 : decode cX7_spoilChanged 12 = .ok (.if_icmp .ge 39, 3) := by decide +kernel
theorem dX7_spoilChanged_15 : decode cX7_spoilChanged 15 = .ok (.aload_n 0, 1) := by decide +kernel
theorem dX7_spoilChanged_16 : decode cX7_spoilChanged 16 = .ok (.getfield 16, 3) := by decide +kernel
theorem dX7_spoilChanged_19 : decode cX7_spoilChanged 19 = .ok (.iload_n 3, 1) := by decide +kernel
theorem dX7_spoilChanged_20 : decode cX7_spoilChanged 20 = .ok (.invokevirtual 127, 3) := by decide +kernel
theorem dX7_spoilChanged_23 : decode cX7_spoilChanged 23 = .ok (.checkcast 115, 3) := by decide +kernel
theorem dX7_spoilChanged_26 : decode cX7_spoilChanged 26 = .ok (.astore 4, 2) := by decide +kernel
theorem dX7_spoilChanged_28 : decode cX7_spoilChanged 28 = .ok (.aload 4, 2) := by decide +kernel
theorem dX7_spoilChanged_30 : decode cX7_spoilChanged 30 = .ok (.getfield 210, 3) := by decide +kernel
theorem dX7_spoilChanged_33 : decode cX7_spoilChanged 33 = .ok (.aload_n 1, 1) := by decide +kernel
theorem dX7_spoilChanged_34 : decode cX7_spoilChanged 34 = .ok (.if_acmp .ne 11, 3) := by decide +kernel
theorem dX7_spoilChanged_37 : decode cX7_spoilChanged 37 = .ok (.iload_n 2, 1) := by decide +kernel
theorem dX7_spoilChanged_38 : decode cX7_spoilChanged 38 = .ok (.aload 4, 2) := by decide +kernel
theorem dX7_spoilChanged_40 : decode cX7_spoilChanged 40 = .ok (.invokevirtual 266, 3) := by decide +kernel
theorem dX7_spoilChanged_43 : decode cX7_spoilChanged 43 = .ok (.iadd, 1) := by decide +kernel
theorem dX7_spoilChanged_44 : decode cX7_spoilChanged 44 = .ok (.istore_n 2, 1) := by decide +kernel
theorem dX7_spoilChanged_45 : decode cX7_spoilChanged 45 = .ok (.iinc 3 1, 3) := by decide +kernel
theorem dX7_spoilChanged_48 : decode cX7_spoilChanged 48 = .ok (.goto (-44), 3) := by decide +kernel
theorem dX7_spoilChanged_51 : decode cX7_spoilChanged 51 = .ok (.aload_n 0, 1) := by decide +kernel
theorem dX7_spoilChanged_52 : decode cX7_spoilChanged 52 = .ok (.dup, 1) := by decide +kernel
theorem dX7_spoilChanged_53 : decode cX7_spoilChanged 53 = .ok (.getfield 49, 3) := by decide +kernel
theorem dX7_spoilChanged_56 : decode cX7_spoilChanged 56 = .ok (.iload_n 2, 1) := by decide +kernel
theorem dX7_spoilChanged_57 : decode cX7_spoilChanged 57 = .ok (.iadd, 1) := by decide +kernel
theorem dX7_spoilChanged_58 : decode cX7_spoilChanged 58 = .ok (.putfield 49, 3) := by decide +kernel
theorem dX7_spoilChanged_61 : decode cX7_spoilChanged 61 = .ok (.iload_n 2, 1) := by decide +kernel
theorem dX7_spoilChanged_62 : decode cX7_spoilChanged 62 = .ok (.ireturn, 1) := by decide +kernel
theorem dX7_countAllLacking_0 : decode cX7_countAllLacking 0 = .ok (.iconst 0, 1) := by decide +kernel
theorem dX7_countAllLacking_1 : decode cX7_countAllLacking 1 = .ok (.istore_n 1, 1) := by decide +kernel
theorem dX7_countAllLacking_2 : decode cX7_countAllLacking 2 = .ok (.iconst 0, 1) := by decide +kernel
theorem dX7_countAllLacking_3 : decode cX7_countAllLacking 3 = .ok (.istore_n 2, 1) := by decide +kernel
theorem dX7_countAllLacking_4 : decode cX7_countAllLacking 4 = .ok (.iload_n 2, 1) := by decide +kernel
theorem dX7_countAllLacking_5 : decode cX7_countAllLacking 5 = .ok (.aload_n 0, 1) := by decide +kernel
theorem dX7_countAllLacking_6 : decode cX7_countAllLacking 6 = .ok (.getfield 16, 3) := by decide +kernel
theorem dX7_countAllLacking_9 : decode cX7_countAllLacking 9 = .ok (.invokevirtual 52, 3) := by decide +kernel
theorem dX7_countAllLacking_12 : decode cX7_countAllLacking 12 = .ok (.if_icmp .ge 26, 3) := by decide +kernel
theorem dX7_countAllLacking_15 : decode cX7_countAllLacking 15 = .ok (.iload_n 1, 1) := by decide +kernel
theorem dX7_countAllLacking_16 : decode cX7_countAllLacking 16 = .ok (.aload_n 0, 1) := by decide +kernel
theorem dX7_countAllLacking_17 : decode cX7_countAllLacking 17 = .ok (.getfield 16, 3) := by decide +kernel
theorem dX7_countAllLacking_20 : decode cX7_countAllLacking 20 = .ok (.iload_n 2, 1) := by decide +kernel
theorem dX7_countAllLacking_21 : decode cX7_countAllLacking 21 = .ok (.invokevirtual 127, 3) := by decide +kernel
theorem dX7_countAllLacking_24 : decode cX7_countAllLacking 24 = .ok (.checkcast 115, 3) := by decide +kernel
theorem dX7_countAllLacking_27 : decode cX7_countAllLacking 27 = .ok (.invokevirtual 124, 3) := by decide +kernel
theorem dX7_countAllLacking_30 : decode cX7_countAllLacking 30 = .ok (.iadd, 1) := by decide +kernel
theorem dX7_countAllLacking_31 : decode cX7_countAllLacking 31 = .ok (.istore_n 1, 1) := by decide +kernel
theorem dX7_countAllLacking_32 : decode cX7_countAllLacking 32 = .ok (.iinc 2 1, 3) := by decide +kernel
theorem dX7_countAllLacking_35 : decode cX7_countAllLacking 35 = .ok (.goto (-31), 3) := by decide +kernel
theorem dX7_countAllLacking_38 : decode cX7_countAllLacking 38 = .ok (.iload_n 1, 1) := by decide +kernel
theorem dX7_countAllLacking_39 : decode cX7_countAllLacking 39 = .ok (.ireturn, 1) := by decide +kernel
theorem dX7_sortOrders_0 : decode cX7_sortOrders 0 = .ok (.iconst 0, 1) := by decide +kernel
theorem dX7_sortOrders_1 : decode cX7_sortOrders 1 = .ok (.istore_n 1, 1) := by decide +kernel
theorem dX7_sortOrders_2 : decode cX7_sortOrders 2 = .ok (.iload_n 1, 1) := by decide +kernel
theorem dX7_sortOrders_3 : decode cX7_sortOrders 3 = .ok (.aload_n 0, 1) := by decide +kernel
theorem dX7_sortOrders_4 : decode cX7_sortOrders 4 = .ok (.getfield 16, 3) := by decide +kernel
theorem dX7_sortOrders_7 : decode cX7_sortOrders 7 = .ok (.invokevirtual 52, 3) := by decide +kernel
theorem dX7_sortOrders_10 : decode cX7_sortOrders 10 = .ok (.if_icmp .ge 77, 3) := by decide +kernel
theorem dX7_sortOrders_13 : decode cX7_sortOrders 13 = .ok (.iconst 0, 1) := by decide +kernel
theorem dX7_sortOrders_14 : decode cX7_sortOrders 14 = .ok (.istore_n 2, 1) := by decide +kernel
theorem dX7_sortOrders_15 : decode cX7_sortOrders 15 = .ok (.iconst 0, 1) := by decide +kernel
theorem dX7_sortOrders_16 : decode cX7_sortOrders 16 = .ok (.istore_n 3, 1) := by decide +kernel
theorem dX7_sortOrders_17 : decode cX7_sortOrders 17 = .ok (.iload_n 3, 1) := by decide +kernel
theorem dX7_sortOrders_18 : decode cX7_sortOrders 18 = .ok (.aload_n 0, 1) := by decide +kernel
theorem dX7_sortOrders_19 : decode cX7_sortOrders 19 = .ok (.getfield 16, 3) := by decide +kernel
theorem dX7_sortOrders_22 : decode cX7_sortOrders 22 = .ok (.invokevirtual 52, 3) := by decide +kernel
theorem dX7_sortOrders_25 : decode cX7_sortOrders 25 = .ok (.if_icmp .ge 40, 3) := by decide +kernel
theorem dX7_sortOrders_28 : decode cX7_sortOrders 28 = .ok (.aload_n 0, 1) := by decide +kernel
theorem dX7_sortOrders_29 : decode cX7_sortOrders 29 = .ok (.getfield 16, 3) := by decide +kernel
theorem dX7_sortOrders_32 : decode cX7_sortOrders 32 = .ok (.iload_n 3, 1) := by decide +kernel
theorem dX7_sortOrders_33 : decode cX7_sortOrders 33 = .ok (.invokevirtual 127, 3) := by decide +kernel
theorem dX7_sortOrders_36 : decode cX7_sortOrders 36 = .ok (.checkcast 115, 3) := by decide +kernel
theorem dX7_sortOrders_39 : decode cX7_sortOrders 39 = .ok (.aload_n 0, 1) := by decide +kernel
theorem dX7_sortOrders_40 : decode cX7_sortOrders 40 = .ok (.getfield 16, 3) := by decide +kernel
theorem dX7_sortOrders_43 : decode cX7_sortOrders 43 = .ok (.iload_n 1, 1) := by decide +kernel
theorem dX7_sortOrders_44 : decode cX7_sortOrders 44 = .ok (.invokevirtual 127, 3) := by decide +kernel
theorem dX7_sortOrders_47 : decode cX7_sortOrders 47 = .ok (.checkcast 115, 3) := by decide +kernel
theorem dX7_sortOrders_50 : decode cX7_sortOrders 50 = .ok (.invokevirtual 131, 3) := by decide +kernel
theorem dX7_sortOrders_53 : decode cX7_sortOrders 53 = .ok (.ifCond .eq 6, 3) := by decide +kernel
theorem dX7_sortOrders_56 : decode cX7_sortOrders 56 = .ok (.iinc 2 1, 3) := by decide +kernel
theorem dX7_sortOrders_59 : decode cX7_sortOrders 59 = .ok (.iinc 3 1, 3) := by decide +kernel
theorem dX7_sortOrders_62 : decode cX7_sortOrders 62 = .ok (.goto (-45), 3) := by decide +kernel
theorem dX7_sortOrders_65 : decode cX7_sortOrders 65 = .ok (.iload_n 2, 1) := by decide +kernel
theorem dX7_sortOrders_66 : decode cX7_sortOrders 66 = .ok (.aload_n 0, 1) := by decide +kernel
theorem dX7_sortOrders_67 : decode cX7_sortOrders 67 = .ok (.getfield 22, 3) := by decide +kernel
theorem dX7_sortOrders_70 : decode cX7_sortOrders 70 = .ok (.arraylength, 1) := by decide +kernel
theorem dX7_sortOrders_71 : decode cX7_sortOrders 71 = .ok (.if_icmp .ge 10, 3) := by decide +kernel
theorem dX7_sortOrders_74 : decode cX7_sortOrders 74 = .ok (.aload_n 0, 1) := by decide +kernel
theorem dX7_sortOrders_75 : decode cX7_sortOrders 75 = .ok (.getfield 22, 3) := by decide +kernel
theorem dX7_sortOrders_78 : decode cX7_sortOrders 78 = .ok (.iload_n 2, 1) := by decide +kernel
theorem dX7_sortOrders_79 : decode cX7_sortOrders 79 = .ok (.iload_n 1, 1) := by decide +kernel
theorem dX7_sortOrders_80 : decode cX7_sortOrders 80 = .ok (.iastore, 1) := by decide +kernel
theorem dX7_sortOrders_81 : decode cX7_sortOrders 81 = .ok (.iinc 1 1, 3) := by decide +kernel
theorem dX7_sortOrders_84 : decode cX7_sortOrders 84 = .ok (.goto (-82), 3) := by decide +kernel
theorem dX7_sortOrders_87 : decode cX7_sortOrders 87 = .ok (.return_, 1) := by decide +kernel
theorem dX7_printSheet_0 : decode cX7_printSheet 0 = .ok (.new 174, 3) := by decide +kernel
theorem dX7_printSheet_3 : decode cX7_printSheet 3 = .ok (.dup, 1) := by decide +kernel
theorem dX7_printSheet_4 : decode cX7_printSheet 4 = .ok (.aload_n 0, 1) := by decide +kernel
theorem dX7_printSheet_5 : decode cX7_printSheet 5 = .ok (.getfield 41, 3) := by decide +kernel
theorem dX7_printSheet_8 : decode cX7_printSheet 8 = .ok (.invokespecial 268, 3) := by decide +kernel
theorem dX7_printSheet_11 : decode cX7_printSheet 11 = .ok (.astore_n 1, 1) := by decide +kernel
theorem dX7_printSheet_12 : decode cX7_printSheet 12 = .ok (.iconst 0, 1) := by decide +kernel
theorem dX7_printSheet_13 : decode cX7_printSheet 13 = .ok (.istore_n 2, 1) := by decide +kernel
theorem dX7_printSheet_14 : decode cX7_printSheet 14 = .ok (.iconst 0, 1) := by decide +kernel
theorem dX7_printSheet_15 : decode cX7_printSheet 15 = .ok (.istore_n 3, 1) := by decide +kernel
theorem dX7_printSheet_16 : decode cX7_printSheet 16 = .ok (.iload_n 3, 1) := by decide +kernel
theorem dX7_printSheet_17 : decode cX7_printSheet 17 = .ok (.aload_n 0, 1) := by decide +kernel
theorem dX7_printSheet_18 : decode cX7_printSheet 18 = .ok (.getfield 16, 3) := by decide +kernel
theorem dX7_printSheet_21 : decode cX7_printSheet 21 = .ok (.invokevirtual 52, 3) := by decide +kernel
theorem dX7_printSheet_24 : decode cX7_printSheet 24 = .ok (.if_icmp .ge 56, 3) := by decide +kernel
theorem dX7_printSheet_27 : decode cX7_printSheet 27 = .ok (.iload_n 3, 1) := by decide +kernel
theorem dX7_printSheet_28 : decode cX7_printSheet 28 = .ok (.aload_n 0, 1) := by decide +kernel
theorem dX7_printSheet_29 : decode cX7_printSheet 29 = .ok (.getfield 22, 3) := by decide +kernel
theorem dX7_printSheet_32 : decode cX7_printSheet 32 = .ok (.arraylength, 1) := by decide +kernel
theorem dX7_printSheet_33 : decode cX7_printSheet 33 = .ok (.if_icmp .ge 47, 3) := by decide +kernel
theorem dX7_printSheet_36 : decode cX7_printSheet 36 = .ok (.aload_n 0, 1) := by decide +kernel
theorem dX7_printSheet_37 : decode cX7_printSheet 37 = .ok (.getfield 22, 3) := by decide +kernel
theorem dX7_printSheet_40 : decode cX7_printSheet 40 = .ok (.iload_n 3, 1) := by decide +kernel
theorem dX7_printSheet_41 : decode cX7_printSheet 41 = .ok (.iaload, 1) := by decide +kernel
theorem dX7_printSheet_42 : decode cX7_printSheet 42 = .ok (.istore 4, 2) := by decide +kernel
theorem dX7_printSheet_44 : decode cX7_printSheet 44 = .ok (.iload 4, 2) := by decide +kernel
theorem dX7_printSheet_46 : decode cX7_printSheet 46 = .ok (.aload_n 0, 1) := by decide +kernel
theorem dX7_printSheet_47 : decode cX7_printSheet 47 = .ok (.getfield 16, 3) := by decide +kernel
theorem dX7_printSheet_50 : decode cX7_printSheet 50 = .ok (.invokevirtual 52, 3) := by decide +kernel
theorem dX7_printSheet_53 : decode cX7_printSheet 53 = .ok (.if_icmp .ge 21, 3) := by decide +kernel
theorem dX7_printSheet_56 : decode cX7_printSheet 56 = .ok (.aload_n 0, 1) := by decide +kernel
theorem dX7_printSheet_57 : decode cX7_printSheet 57 = .ok (.getfield 16, 3) := by decide +kernel
theorem dX7_printSheet_60 : decode cX7_printSheet 60 = .ok (.iload 4, 2) := by decide +kernel
theorem dX7_printSheet_62 : decode cX7_printSheet 62 = .ok (.invokevirtual 127, 3) := by decide +kernel
theorem dX7_printSheet_65 : decode cX7_printSheet 65 = .ok (.checkcast 115, 3) := by decide +kernel
theorem dX7_printSheet_68 : decode cX7_printSheet 68 = .ok (.aload_n 1, 1) := by decide +kernel
theorem dX7_printSheet_69 : decode cX7_printSheet 69 = .ok (.iload_n 2, 1) := by decide +kernel
theorem dX7_printSheet_70 : decode cX7_printSheet 70 = .ok (.invokevirtual 270, 3) := by decide +kernel
theorem dX7_printSheet_73 : decode cX7_printSheet 73 = .ok (.istore_n 2, 1) := by decide +kernel
theorem dX7_printSheet_74 : decode cX7_printSheet 74 = .ok (.iinc 3 1, 3) := by decide +kernel
theorem dX7_printSheet_77 : decode cX7_printSheet 77 = .ok (.goto (-61), 3) := by decide +kernel
theorem dX7_printSheet_80 : decode cX7_printSheet 80 = .ok (.aload_n 1, 1) := by decide +kernel
theorem dX7_printSheet_81 : decode cX7_printSheet 81 = .ok (.areturn, 1) := by decide +kernel
theorem dX7_longestWaiting_0 : decode cX7_longestWaiting 0 = .ok (.iconst 0, 1) := by decide +kernel
theorem dX7_longestWaiting_1 : decode cX7_longestWaiting 1 = .ok (.istore_n 1, 1) := by decide +kernel
theorem dX7_longestWaiting_2 : decode cX7_longestWaiting 2 = .ok (.iload_n 1, 1) := by decide +kernel
theorem dX7_longestWaiting_3 : decode cX7_longestWaiting 3 = .ok (.aload_n 0, 1) := by decide +kernel
theorem dX7_longestWaiting_4 : decode cX7_longestWaiting 4 = .ok (.getfield 19, 3) := by decide +kernel
theorem dX7_longestWaiting_7 : decode cX7_longestWaiting 7 = .ok (.invokevirtual 52, 3) := by decide +kernel
theorem dX7_longestWaiting_10 : decode cX7_longestWaiting 10 = .ok (.if_icmp .ge 38, 3) := by decide +kernel
theorem dX7_longestWaiting_13 : decode cX7_longestWaiting 13 = .ok (.aload_n 0, 1) := by decide +kernel
theorem dX7_longestWaiting_14 : decode cX7_longestWaiting 14 = .ok (.getfield 19, 3) := by decide +kernel
theorem dX7_longestWaiting_17 : decode cX7_longestWaiting 17 = .ok (.iload_n 1, 1) := by decide +kernel
theorem dX7_longestWaiting_18 : decode cX7_longestWaiting 18 = .ok (.invokevirtual 127, 3) := by decide +kernel
theorem dX7_longestWaiting_21 : decode cX7_longestWaiting 21 = .ok (.checkcast 174, 3) := by decide +kernel
theorem dX7_longestWaiting_24 : decode cX7_longestWaiting 24 = .ok (.getfield 176, 3) := by decide +kernel
theorem dX7_longestWaiting_27 : decode cX7_longestWaiting 27 = .ok (.ifCond .eq 15, 3) := by decide +kernel
theorem dX7_longestWaiting_30 : decode cX7_longestWaiting 30 = .ok (.aload_n 0, 1) := by decide +kernel
theorem dX7_longestWaiting_31 : decode cX7_longestWaiting 31 = .ok (.getfield 19, 3) := by decide +kernel
theorem dX7_longestWaiting_34 : decode cX7_longestWaiting 34 = .ok (.iload_n 1, 1) := by decide +kernel
theorem dX7_longestWaiting_35 : decode cX7_longestWaiting 35 = .ok (.invokevirtual 127, 3) := by decide +kernel
theorem dX7_longestWaiting_38 : decode cX7_longestWaiting 38 = .ok (.checkcast 174, 3) := by decide +kernel
theorem dX7_longestWaiting_41 : decode cX7_longestWaiting 41 = .ok (.areturn, 1) := by decide +kernel
theorem dX7_longestWaiting_42 : decode cX7_longestWaiting 42 = .ok (.iinc 1 1, 3) := by decide +kernel
theorem dX7_longestWaiting_45 : decode cX7_longestWaiting 45 = .ok (.goto (-43), 3) := by decide +kernel
theorem dX7_longestWaiting_48 : decode cX7_longestWaiting 48 = .ok (.aconst_null, 1) := by decide +kernel
theorem dX7_longestWaiting_49 : decode cX7_longestWaiting 49 = .ok (.areturn, 1) := by decide +kernel
theorem dX7_keptLeaf_0 : decode cX7_keptLeaf 0 = .ok (.aload_n 0, 1) := by decide +kernel
theorem dX7_keptLeaf_1 : decode cX7_keptLeaf 1 = .ok (.iload_n 1, 1) := by decide +kernel
theorem dX7_keptLeaf_2 : decode cX7_keptLeaf 2 = .ok (.invokevirtual 120, 3) := by decide +kernel
theorem dX7_keptLeaf_5 : decode cX7_keptLeaf 5 = .ok (.astore 4, 2) := by decide +kernel
theorem dX7_keptLeaf_7 : decode cX7_keptLeaf 7 = .ok (.aload 4, 2) := by decide +kernel
theorem dX7_keptLeaf_9 : decode cX7_keptLeaf 9 = .ok (.iload_n 2, 1) := by decide +kernel
theorem dX7_keptLeaf_10 : decode cX7_keptLeaf 10 = .ok (.invokestatic 206, 3) := by decide +kernel
theorem dX7_keptLeaf_13 : decode cX7_keptLeaf 13 = .ok (.astore 5, 2) := by decide +kernel
theorem dX7_keptLeaf_15 : decode cX7_keptLeaf 15 = .ok (.iload_n 3, 1) := by decide +kernel
theorem dX7_keptLeaf_16 : decode cX7_keptLeaf 16 = .ok (.aload 4, 2) := by decide +kernel
theorem dX7_keptLeaf_18 : decode cX7_keptLeaf 18 = .ok (.aload 5, 2) := by decide +kernel
theorem dX7_keptLeaf_20 : decode cX7_keptLeaf 20 = .ok (.invokevirtual 248, 3) := by decide +kernel
theorem dX7_keptLeaf_23 : decode cX7_keptLeaf 23 = .ok (.invokestatic 95, 3) := by decide +kernel
theorem dX7_keptLeaf_26 : decode cX7_keptLeaf 26 = .ok (.aload 5, 2) := by decide +kernel
theorem dX7_keptLeaf_28 : decode cX7_keptLeaf 28 = .ok (.iload_n 3, 1) := by decide +kernel
theorem dX7_keptLeaf_29 : decode cX7_keptLeaf 29 = .ok (.invokevirtual 274, 3) := by decide +kernel
theorem dX7_keptLeaf_32 : decode cX7_keptLeaf 32 = .ok (.astore 6, 2) := by decide +kernel
theorem dX7_keptLeaf_34 : decode cX7_keptLeaf 34 = .ok (.aload 6, 2) := by decide +kernel
theorem dX7_keptLeaf_36 : decode cX7_keptLeaf 36 = .ok (.ifnull 19, 3) := by decide +kernel
theorem dX7_keptLeaf_39 : decode cX7_keptLeaf 39 = .ok (.aload 6, 2) := by decide +kernel
theorem dX7_keptLeaf_41 : decode cX7_keptLeaf 41 = .ok (.getfield 238, 3) := by decide +kernel
theorem dX7_keptLeaf_44 : decode cX7_keptLeaf 44 = .ok (.invokevirtual 252, 3) := by decide +kernel
theorem dX7_keptLeaf_47 : decode cX7_keptLeaf 47 = .ok (.ifCond .eq 8, 3) := by decide +kernel
theorem dX7_keptLeaf_50 : decode cX7_keptLeaf 50 = .ok (.aload 6, 2) := by decide +kernel
theorem dX7_keptLeaf_52 : decode cX7_keptLeaf 52 = .ok (.goto 4, 3) := by decide +kernel
theorem dX7_keptLeaf_55 : decode cX7_keptLeaf 55 = .ok (.aconst_null, 1) := by decide +kernel
theorem dX7_keptLeaf_56 : decode cX7_keptLeaf 56 = .ok (.areturn, 1) := by decide +kernel
theorem dX7_findInPile_0 : decode cX7_findInPile 0 = .ok (.aload_n 0, 1) := by decide +kernel
theorem dX7_findInPile_1 : decode cX7_findInPile 1 = .ok (.getfield 32, 3) := by decide +kernel
theorem dX7_findInPile_4 : decode cX7_findInPile 4 = .ok (.aload_n 1, 1) := by decide +kernel
theorem dX7_findInPile_5 : decode cX7_findInPile 5 = .ok (.getfield 277, 3) := by decide +kernel
theorem dX7_findInPile_8 : decode cX7_findInPile 8 = .ok (.invokevirtual 149, 3) := by decide +kernel
theorem dX7_findInPile_11 : decode cX7_findInPile 11 = .ok (.iconst 0, 1) := by decide +kernel
theorem dX7_findInPile_12 : decode cX7_findInPile 12 = .ok (.istore 5, 2) := by decide +kernel
theorem dX7_findInPile_14 : decode cX7_findInPile 14 = .ok (.iload 5, 2) := by decide +kernel
theorem dX7_findInPile_16 : decode cX7_findInPile 16 = .ok (.bipush 8, 2) := by decide +kernel
theorem dX7_findInPile_18 : decode cX7_findInPile 18 = .ok (.if_icmp .ge 52, 3) := by decide +kernel
theorem dX7_findInPile_21 : decode cX7_findInPile 21 = .ok (.aload_n 1, 1) := by decide +kernel
theorem dX7_findInPile_22 : decode cX7_findInPile 22 = .ok (.aload_n 0, 1) := by decide +kernel
theorem dX7_findInPile_23 : decode cX7_findInPile 23 = .ok (.getfield 32, 3) := by decide +kernel
theorem dX7_findInPile_26 : decode cX7_findInPile 26 = .ok (.iload 5, 2) := by decide +kernel
theorem dX7_findInPile_28 : decode cX7_findInPile 28 = .ok (.invokevirtual 153, 3) := by decide +kernel
theorem dX7_findInPile_31 : decode cX7_findInPile 31 = .ok (.invokevirtual 185, 3) := by decide +kernel
theorem dX7_findInPile_34 : decode cX7_findInPile 34 = .ok (.astore 6, 2) := by decide +kernel
theorem dX7_findInPile_36 : decode cX7_findInPile 36 = .ok (.aload 6, 2) := by decide +kernel
theorem dX7_findInPile_38 : decode cX7_findInPile 38 = .ok (.ifnull 26, 3) := by decide +kernel
theorem dX7_findInPile_41 : decode cX7_findInPile 41 = .ok (.aload 6, 2) := by decide +kernel
theorem dX7_findInPile_43 : decode cX7_findInPile 43 = .ok (.getfield 278, 3) := by decide +kernel
theorem dX7_findInPile_46 : decode cX7_findInPile 46 = .ok (.ifCond .ne 18, 3) := by decide +kernel
theorem dX7_findInPile_49 : decode cX7_findInPile 49 = .ok (.aload 6, 2) := by decide +kernel
theorem dX7_findInPile_51 : decode cX7_findInPile 51 = .ok (.iload_n 2, 1) := by decide +kernel
theorem dX7_findInPile_52 : decode cX7_findInPile 52 = .ok (.iload_n 3, 1) := by decide +kernel
theorem dX7_findInPile_53 : decode cX7_findInPile 53 = .ok (.iload 4, 2) := by decide +kernel
theorem dX7_findInPile_55 : decode cX7_findInPile 55 = .ok (.invokevirtual 281, 3) := by decide +kernel
theorem dX7_findInPile_58 : decode cX7_findInPile 58 = .ok (.ifCond .eq 6, 3) := by decide +kernel
theorem dX7_findInPile_61 : decode cX7_findInPile 61 = .ok (.aload 6, 2) := by decide +kernel
theorem dX7_findInPile_63 : decode cX7_findInPile 63 = .ok (.areturn, 1) := by decide +kernel
theorem dX7_findInPile_64 : decode cX7_findInPile 64 = .ok (.iinc 5 1, 3) := by decide +kernel
theorem dX7_findInPile_67 : decode cX7_findInPile 67 = .ok (.goto (-53), 3) := by decide +kernel
theorem dX7_findInPile_70 : decode cX7_findInPile 70 = .ok (.aconst_null, 1) := by decide +kernel
theorem dX7_findInPile_71 : decode cX7_findInPile 71 = .ok (.areturn, 1) := by decide +kernel
end
section
theorem dX8_init_0 : decode cX8_init 0 = .ok (.aload_n 0, 1) := by decide +kernel
theorem dX8_init_1 : decode cX8_init 1 = .ok (.invokespecial 1, 3) := by decide +kernel
theorem dX8_init_4 : decode cX8_init 4 = .ok (.aload_n 0, 1) := by decide +kernel
theorem dX8_init_5 : decode cX8_init 5 = .ok (.iconst 4, 1) := by decide +kernel
theorem dX8_init_6 : decode cX8_init 6 = .ok (.newarray .int, 2) := by decide +kernel
theorem dX8_init_8 : decode cX8_init 8 = .ok (.putfield 7, 3) := by decide +kernel
theorem dX8_init_11 : decode cX8_init 11 = .ok (.aload_n 0, 1) := by decide +kernel
theorem dX8_init_12 : decode cX8_init 12 = .ok (.bipush 32, 2) := by decide +kernel
theorem dX8_init_14 : decode cX8_init 14 = .ok (.newarray .int, 2) := by decide +kernel
theorem dX8_init_16 : decode cX8_init 16 = .ok (.putfield 13, 3) := by decide +kernel
theorem dX8_init_19 : decode cX8_init 19 = .ok (.aload_n 0, 1) := by decide +kernel
theorem dX8_init_20 : decode cX8_init 20 = .ok (.bipush 32, 2) := by decide +kernel
theorem dX8_init_22 : decode cX8_init 22 = .ok (.newarray .int, 2) := by decide +kernel
theorem dX8_init_24 : decode cX8_init 24 = .ok (.putfield 16, 3) := by decide +kernel
theorem dX8_init_27 : decode cX8_init 27 = .ok (.aload_n 0, 1) := by decide +kernel
theorem dX8_init_28 : decode cX8_init 28 = .ok (.bipush 32, 2) := by decide +kernel
theorem dX8_init_30 : decode cX8_init 30 = .ok (.newarray .int, 2) := by decide +kernel
theorem dX8_init_32 : decode cX8_init 32 = .ok (.putfield 19, 3) := by decide +kernel
theorem dX8_init_35 : decode cX8_init 35 = .ok (.aload_n 0, 1) := by decide +kernel
theorem dX8_init_36 : decode cX8_init 36 = .ok (.iconst 5, 1) := by decide +kernel
theorem dX8_init_37 : decode cX8_init 37 = .ok (.newarray .int, 2) := by decide +kernel
theorem dX8_init_39 : decode cX8_init 39 = .ok (.putfield 22, 3) := by decide +kernel
theorem dX8_init_42 : decode cX8_init 42 = .ok (.aload_n 0, 1) := by decide +kernel
theorem dX8_init_43 : decode cX8_init 43 = .ok (.iconst 5, 1) := by decide +kernel
theorem dX8_init_44 : decode cX8_init 44 = .ok (.newarray .int, 2) := by decide +kernel
theorem dX8_init_46 : decode cX8_init 46 = .ok (.putfield 25, 3) := by decide +kernel
theorem dX8_init_49 : decode cX8_init 49 = .ok (.aload_n 0, 1) := by decide +kernel
theorem dX8_init_50 : decode cX8_init 50 = .ok (.bipush 15, 2) := by decide +kernel
theorem dX8_init_52 : decode cX8_init 52 = .ok (.newarray .int, 2) := by decide +kernel
theorem dX8_init_54 : decode cX8_init 54 = .ok (.putfield 28, 3) := by decide +kernel
theorem dX8_init_57 : decode cX8_init 57 = .ok (.aload_n 0, 1) := by decide +kernel
theorem dX8_init_58 : decode cX8_init 58 = .ok (.sipush 645, 3) := by decide +kernel
theorem dX8_init_61 : decode cX8_init 61 = .ok (.newarray .int, 2) := by decide +kernel
theorem dX8_init_63 : decode cX8_init 63 = .ok (.putfield 31, 3) := by decide +kernel
theorem dX8_init_66 : decode cX8_init 66 = .ok (.aload_n 0, 1) := by decide +kernel
theorem dX8_init_67 : decode cX8_init 67 = .ok (.sipush 645, 3) := by decide +kernel
theorem dX8_init_70 : decode cX8_init 70 = .ok (.newarray .int, 2) := by decide +kernel
theorem dX8_init_72 : decode cX8_init 72 = .ok (.putfield 34, 3) := by decide +kernel
theorem dX8_init_75 : decode cX8_init 75 = .ok (.aload_n 0, 1) := by decide +kernel
theorem dX8_init_76 : decode cX8_init 76 = .ok (.sipush 645, 3) := by decide +kernel
theorem dX8_init_79 : decode cX8_init 79 = .ok (.newarray .int, 2) := by decide +kernel
theorem dX8_init_81 : decode cX8_init 81 = .ok (.putfield 37, 3) := by decide +kernel
theorem dX8_init_84 : decode cX8_init 84 = .ok (.aload_n 0, 1) := by decide +kernel
theorem dX8_init_85 : decode cX8_init 85 = .ok (.iconst 3, 1) := by decide +kernel
theorem dX8_init_86 : decode cX8_init 86 = .ok (.newarray .int, 2) := by decide +kernel
theorem dX8_init_88 : decode cX8_init 88 = .ok (.putfield 40, 3) := by decide +kernel
theorem dX8_init_91 : decode cX8_init 91 = .ok (.aload_n 0, 1) := by decide +kernel
theorem dX8_init_92 : decode cX8_init 92 = .ok (.bipush 8, 2) := by decide +kernel
theorem dX8_init_94 : decode cX8_init 94 = .ok (.newarray .int, 2) := by decide +kernel
theorem dX8_init_96 : decode cX8_init 96 = .ok (.putfield 43, 3) := by decide +kernel
theorem dX8_init_99 : decode cX8_init 99 = .ok (.aload_n 0, 1) := by decide +kernel
theorem dX8_init_100 : decode cX8_init 100 = .ok (.sipush 400, 3) := by decide +kernel
theorem dX8_init_103 : decode cX8_init 103 = .ok (.newarray .int, 2) := by decide +kernel
theorem dX8_init_105 : decode cX8_init 105 = .ok (.putfield 46, 3) := by decide +kernel
theorem dX8_init_108 : decode cX8_init 108 = .ok (.aload_n 0, 1) := by decide +kernel
theorem dX8_init_109 : decode cX8_init 109 = .ok (.bipush 50, 2) := by decide +kernel
theorem dX8_init_111 : decode cX8_init 111 = .ok (.newarray .boolean, 2) := by decide +kernel
theorem dX8_init_113 : decode cX8_init 113 = .ok (.putfield 49, 3) := by decide +kernel
theorem dX8_init_116 : decode cX8_init 116 = .ok (.aload_n 0, 1) := by decide +kernel
theorem dX8_init_117 : decode cX8_init 117 = .ok (.iconst 2, 1) := by decide +kernel
theorem dX8_init_118 : decode cX8_init 118 = .ok (.newarray .int, 2) := by decide +kernel
theorem dX8_init_120 : decode cX8_init 120 = .ok (.putfield 53, 3) := by decide +kernel
theorem dX8_init_123 : decode cX8_init 123 = .ok (.aload_n 0, 1) := by decide +kernel
theorem dX8_init_124 : decode cX8_init 124 = .ok (.iconst 2, 1) := by decide +kernel
theorem dX8_init_125 : decode cX8_init 125 = .ok (.putfield 56, 3) := by decide +kernel
theorem dX8_init_128 : decode cX8_init 128 = .ok (.aload_n 0, 1) := by decide +kernel
theorem dX8_init_129 : decode cX8_init 129 = .ok (.iconst 5, 1) := by decide +kernel
theorem dX8_init_130 : decode cX8_init 130 = .ok (.newarray .int, 2) := by decide +kernel
theorem dX8_init_132 : decode cX8_init 132 = .ok (.putfield 60, 3) := by decide +kernel
theorem dX8_init_135 : decode cX8_init 135 = .ok (.aload_n 0, 1) := by decide +kernel
theorem dX8_init_136 : decode cX8_init 136 = .ok (.sipush 645, 3) := by decide +kernel
theorem dX8_init_139 : decode cX8_init 139 = .ok (.newarray .int, 2) := by decide +kernel
theorem dX8_init_141 : decode cX8_init 141 = .ok (.putfield 63, 3) := by decide +kernel
theorem dX8_init_144 : decode cX8_init 144 = .ok (.aload_n 0, 1) := by decide +kernel
theorem dX8_init_145 : decode cX8_init 145 = .ok (.getfield 40, 3) := by decide +kernel
theorem dX8_init_148 : decode cX8_init 148 = .ok (.iconst 0, 1) := by decide +kernel
theorem dX8_init_149 : decode cX8_init 149 = .ok (.iconst 1, 1) := by decide +kernel
theorem dX8_init_150 : decode cX8_init 150 = .ok (.iastore, 1) := by decide +kernel
theorem dX8_init_151 : decode cX8_init 151 = .ok (.aload_n 0, 1) := by decide +kernel
theorem dX8_init_152 : decode cX8_init 152 = .ok (.getfield 40, 3) := by decide +kernel
theorem dX8_init_155 : decode cX8_init 155 = .ok (.iconst 1, 1) := by decide +kernel
theorem dX8_init_156 : decode cX8_init 156 = .ok (.iconst 1, 1) := by decide +kernel
theorem dX8_init_157 : decode cX8_init 157 = .ok (.iastore, 1) := by decide +kernel
theorem dX8_init_158 : decode cX8_init 158 = .ok (.aload_n 0, 1) := by decide +kernel
theorem dX8_init_159 : decode cX8_init 159 = .ok (.getfield 40, 3) := by decide +kernel
theorem dX8_init_162 : decode cX8_init 162 = .ok (.iconst 2, 1) := by decide +kernel
theorem dX8_init_163 : decode cX8_init 163 = .ok (.iconst 2, 1) := by decide +kernel
theorem dX8_init_164 : decode cX8_init 164 = .ok (.iastore, 1) := by decide +kernel
theorem dX8_init_165 : decode cX8_init 165 = .ok (.aload_n 0, 1) := by decide +kernel
theorem dX8_init_166 : decode cX8_init 166 = .ok (.invokevirtual 66, 3) := by decide +kernel
theorem dX8_init_169 : decode cX8_init 169 = .ok (.return_, 1) := by decide +kernel
theorem dX8_thrown_0 : decode cX8_thrown 0 = .ok (.aload_n 0, 1) := by decide +kernel
theorem dX8_thrown_1 : decode cX8_thrown 1 = .ok (.getfield 69, 3) := by decide +kernel
theorem dX8_thrown_4 : decode cX8_thrown 4 = .ok (.ireturn, 1) := by decide +kernel
theorem dX8_goes_0 : decode cX8_goes 0 = .ok (.aload_n 0, 1) := by decide +kernel
theorem dX8_goes_1 : decode cX8_goes 1 = .ok (.iload_n 1, 1) := by decide +kernel
theorem dX8_goes_2 : decode cX8_goes 2 = .ok (.putfield 69, 3) := by decide +kernel
theorem dX8_goes_5 : decode cX8_goes 5 = .ok (.iload_n 1, 1) := by decide +kernel
theorem dX8_goes_6 : decode cX8_goes 6 = .ok (.ifCond .ne 7, 3) := by decide +kernel
theorem dX8_goes_9 : decode cX8_goes 9 = .ok (.iconst 1, 1) := by decide +kernel
theorem dX8_goes_10 : decode cX8_goes 10 = .ok (.goto 4, 3) := by decide +kernel
theorem dX8_goes_13 : decode cX8_goes 13 = .ok (.iconst 0, 1) := by decide +kernel
theorem dX8_goes_14 : decode cX8_goes 14 = .ok (.ireturn, 1) := by decide +kernel
theorem dX8_isIn_0 : decode cX8_isIn 0 = .ok (.iload_n 0, 1) := by decide +kernel
theorem dX8_isIn_1 : decode cX8_isIn 1 = .ok (.iload_n 1, 1) := by decide +kernel
theorem dX8_isIn_2 : decode cX8_isIn 2 = .ok (.if_icmp .lt 12, 3) := by decide +kernel
theorem dX8_isIn_5 : decode cX8_isIn 5 = .ok (.iload_n 0, 1) := by decide +kernel
theorem dX8_isIn_6 : decode cX8_isIn 6 = .ok (.iload_n 2, 1) := by decide +kernel
theorem dX8_isIn_7 : decode cX8_isIn 7 = .ok (.if_icmp .gt 7, 3) := by decide +kernel
theorem dX8_isIn_10 : decode cX8_isIn 10 = .ok (.iconst 1, 1) := by decide +kernel
theorem dX8_isIn_11 : decode cX8_isIn 11 = .ok (.goto 4, 3) := by decide +kernel
theorem dX8_isIn_14 : decode cX8_isIn 14 = .ok (.iconst 0, 1) := by decide +kernel
theorem dX8_isIn_15 : decode cX8_isIn 15 = .ok (.ireturn, 1) := by decide +kernel
theorem dX8_isBook_0 : decode cX8_isBook 0 = .ok (.iload_n 1, 1) := by decide +kernel
theorem dX8_isBook_1 : decode cX8_isBook 1 = .ok (.iconst 0, 1) := by decide +kernel
theorem dX8_isBook_2 : decode cX8_isBook 2 = .ok (.aload_n 0, 1) := by decide +kernel
theorem dX8_isBook_3 : decode cX8_isBook 3 = .ok (.getfield 72, 3) := by decide +kernel
theorem dX8_isBook_6 : decode cX8_isBook 6 = .ok (.iconst 1, 1) := by decide +kernel
theorem dX8_isBook_7 : decode cX8_isBook 7 = .ok (.isub, 1) := by decide +kernel
theorem dX8_isBook_8 : decode cX8_isBook 8 = .ok (.invokestatic 75, 3) := by decide +kernel
theorem dX8_isBook_11 : decode cX8_isBook 11 = .ok (.ireturn, 1) := by decide +kernel
theorem dX8_isOrder_0 : decode cX8_isOrder 0 = .ok (.iload_n 1, 1) := by decide +kernel
theorem dX8_isOrder_1 : decode cX8_isOrder 1 = .ok (.iconst 0, 1) := by decide +kernel
theorem dX8_isOrder_2 : decode cX8_isOrder 2 = .ok (.aload_n 0, 1) := by decide +kernel
theorem dX8_isOrder_3 : decode cX8_isOrder 3 = .ok (.getfield 79, 3) := by decide +kernel
theorem dX8_isOrder_6 : decode cX8_isOrder 6 = .ok (.iconst 1, 1) := by decide +kernel
theorem dX8_isOrder_7 : decode cX8_isOrder 7 = .ok (.isub, 1) := by decide +kernel
theorem dX8_isOrder_8 : decode cX8_isOrder 8 = .ok (.invokestatic 75, 3) := by decide +kernel
theorem dX8_isOrder_11 : decode cX8_isOrder 11 = .ok (.ireturn, 1) := by decide +kernel
theorem dX8_isCopy_0 : decode cX8_isCopy 0 = .ok (.aload_n 0, 1) := by decide +kernel
theorem dX8_isCopy_1 : decode cX8_isCopy 1 = .ok (.iload_n 1, 1) := by decide +kernel
theorem dX8_isCopy_2 : decode cX8_isCopy 2 = .ok (.invokevirtual 82, 3) := by decide +kernel
theorem dX8_isCopy_5 : decode cX8_isCopy 5 = .ok (.ifCond .eq 23, 3) := by decide +kernel
theorem dX8_isCopy_8 : decode cX8_isCopy 8 = .ok (.iload_n 2, 1) := by decide +kernel
theorem dX8_isCopy_9 : decode cX8_isCopy 9 = .ok (.iconst 0, 1) := by decide +kernel
theorem dX8_isCopy_10 : decode cX8_isCopy 10 = .ok (.aload_n 0, 1) := by decide +kernel
theorem dX8_isCopy_11 : decode cX8_isCopy 11 = .ok (.getfield 25, 3) := by decide +kernel
theorem dX8_isCopy_14 : decode cX8_isCopy 14 = .ok (.iload_n 1, 1) := by decide +kernel
theorem dX8_isCopy_15 : decode cX8_isCopy 15 = .ok (.iaload, 1) := by decide +kernel
theorem dX8_isCopy_16 : decode cX8_isCopy 16 = .ok (.iconst 1, 1) := by decide +kernel
theorem dX8_isCopy_17 : decode cX8_isCopy 17 = .ok (.isub, 1) := by decide +kernel
theorem dX8_isCopy_18 : decode cX8_isCopy 18 = .ok (.invokestatic 75, 3) := by decide +kernel
theorem dX8_isCopy_21 : decode cX8_isCopy 21 = .ok (.ifCond .eq 7, 3) := by decide +kernel
theorem dX8_isCopy_24 : decode cX8_isCopy 24 = .ok (.iconst 1, 1) := by decide +kernel
theorem dX8_isCopy_25 : decode cX8_isCopy 25 = .ok (.goto 4, 3) := by decide +kernel
theorem dX8_isCopy_28 : decode cX8_isCopy 28 = .ok (.iconst 0, 1) := by decide +kernel
theorem dX8_isCopy_29 : decode cX8_isCopy 29 = .ok (.ireturn, 1) := by decide +kernel
theorem dX8_framesOf_0 : decode cX8_framesOf 0 = .ok (.aload_n 0, 1) := by decide +kernel
theorem dX8_framesOf_1 : decode cX8_framesOf 1 = .ok (.getfield 7, 3) := by decide +kernel
theorem dX8_framesOf_4 : decode cX8_framesOf 4 = .ok (.iload_n 1, 1) := by decide +kernel
theorem dX8_framesOf_5 : decode cX8_framesOf 5 = .ok (.iaload, 1) := by decide +kernel
theorem dX8_framesOf_6 : decode cX8_framesOf 6 = .ok (.istore_n 2, 1) := by decide +kernel
theorem dX8_framesOf_7 : decode cX8_framesOf 7 = .ok (.iconst 0, 1) := by decide +kernel
theorem dX8_framesOf_8 : decode cX8_framesOf 8 = .ok (.istore_n 3, 1) := by decide +kernel
theorem dX8_framesOf_9 : decode cX8_framesOf 9 = .ok (.iload_n 3, 1) := by decide +kernel
theorem dX8_framesOf_10 : decode cX8_framesOf 10 = .ok (.aload_n 0, 1) := by decide +kernel
theorem dX8_framesOf_11 : decode cX8_framesOf 11 = .ok (.getfield 7, 3) := by decide +kernel
theorem dX8_framesOf_14 : decode cX8_framesOf 14 = .ok (.iload_n 1, 1) := by decide +kernel
theorem dX8_framesOf_15 : decode cX8_framesOf 15 = .ok (.iaload, 1) := by decide +kernel
theorem dX8_framesOf_16 : decode cX8_framesOf 16 = .ok (.iconst 1, 1) := by decide +kernel
theorem dX8_framesOf_17 : decode cX8_framesOf 17 = .ok (.isub, 1) := by decide +kernel
theorem dX8_framesOf_18 : decode cX8_framesOf 18 = .ok (.if_icmp .ge 23, 3) := by decide +kernel
theorem dX8_framesOf_21 : decode cX8_framesOf 21 = .ok (.iload_n 2, 1) := by decide +kernel
theorem dX8_framesOf_22 : decode cX8_framesOf 22 = .ok (.aload_n 0, 1) := by decide +kernel
theorem dX8_framesOf_23 : decode cX8_framesOf 23 = .ok (.getfield 16, 3) := by decide +kernel
theorem dX8_framesOf_26 : decode cX8_framesOf 26 = .ok (.bipush 8, 2) := by decide +kernel
theorem dX8_framesOf_28 : decode cX8_framesOf 28 = .ok (.iload_n 1, 1) := by decide +kernel
theorem dX8_framesOf_29 : decode cX8_framesOf 29 = .ok (.imul, 1) := by decide +kernel
theorem dX8_framesOf_30 : decode cX8_framesOf 30 = .ok (.iload_n 3, 1) := by decide +kernel
theorem dX8_framesOf_31 : decode cX8_framesOf 31 = .ok (.iadd, 1) := by decide +kernel
theorem dX8_framesOf_32 : decode cX8_framesOf 32 = .ok (.iaload, 1) := by decide +kernel
theorem dX8_framesOf_33 : decode cX8_framesOf 33 = .ok (.iadd, 1) := by decide +kernel
theorem dX8_framesOf_34 : decode cX8_framesOf 34 = .ok (.istore_n 2, 1) := by decide +kernel
theorem dX8_framesOf_35 : decode cX8_framesOf 35 = .ok (.iinc 3 1, 3) := by decide +kernel
theorem dX8_framesOf_38 : decode cX8_framesOf 38 = .ok (.goto (-29), 3) := by decide +kernel
theorem dX8_framesOf_41 : decode cX8_framesOf 41 = .ok (.iload_n 2, 1) := by decide +kernel
theorem dX8_framesOf_42 : decode cX8_framesOf 42 = .ok (.ireturn, 1) := by decide +kernel
theorem dX8_part_0 : decode cX8_part 0 = .ok (.iload_n 2, 1) := by decide +kernel
theorem dX8_part_1 : decode cX8_part 1 = .ok (.iload_n 1, 1) := by decide +kernel
theorem dX8_part_2 : decode cX8_part 2 = .ok (.isub, 1) := by decide +kernel
theorem dX8_part_3 : decode cX8_part 3 = .ok (.istore 4, 2) := by decide +kernel
theorem dX8_part_5 : decode cX8_part 5 = .ok (.iload_n 3, 1) := by decide +kernel
theorem dX8_part_6 : decode cX8_part 6 = .ok (.ifCond .ne 9, 3) := by decide +kernel
theorem dX8_part_9 : decode cX8_part 9 = .ok (.iload_n 0, 1) := by decide +kernel
theorem dX8_part_10 : decode cX8_part 10 = .ok (.iload_n 1, 1) := by decide +kernel
theorem dX8_part_11 : decode cX8_part 11 = .ok (.imul, 1) := by decide +kernel
theorem dX8_part_12 : decode cX8_part 12 = .ok (.iload_n 2, 1) := by decide +kernel
theorem dX8_part_13 : decode cX8_part 13 = .ok (.idiv, 1) := by decide +kernel
theorem dX8_part_14 : decode cX8_part 14 = .ok (.ireturn, 1) := by decide +kernel
theorem dX8_part_15 : decode cX8_part 15 = .ok (.iload_n 3, 1) := by decide +kernel
theorem dX8_part_16 : decode cX8_part 16 = .ok (.iconst 1, 1) := by decide +kernel
theorem dX8_part_17 : decode cX8_part 17 = .ok (.if_icmp .ne 13, 3) := by decide +kernel
theorem dX8_part_20 : decode cX8_part 20 = .ok (.iload_n 0, 1) := by decide +kernel
theorem dX8_part_21 : decode cX8_part 21 = .ok (.iload_n 1, 1) := by decide +kernel
theorem dX8_part_22 : decode cX8_part 22 = .ok (.iload_n 1, 1) := by decide +kernel
theorem dX8_part_23 : decode cX8_part 23 = .ok (.imul, 1) := by decide +kernel
theorem dX8_part_24 : decode cX8_part 24 = .ok (.imul, 1) := by decide +kernel
theorem dX8_part_25 : decode cX8_part 25 = .ok (.iload_n 2, 1) := by decide +kernel
theorem dX8_part_26 : decode cX8_part 26 = .ok (.iload_n 2, 1) := by decide +kernel
theorem dX8_part_27 : decode cX8_part 27 = .ok (.imul, 1) := by decide +kernel
theorem dX8_part_28 : decode cX8_part 28 = .ok (.idiv, 1) := by decide +kernel
theorem dX8_part_29 : decode cX8_part 29 = .ok (.ireturn, 1) := by decide +kernel
theorem dX8_part_30 : decode cX8_part 30 = .ok (.iload_n 3, 1) := by decide +kernel
theorem dX8_part_31 : decode cX8_part 31 = .ok (.iconst 2, 1) := by decide +kernel
theorem dX8_part_32 : decode cX8_part 32 = .ok (.if_icmp .ne 19, 3) := by decide +kernel
theorem dX8_part_35 : decode cX8_part 35 = .ok (.iload_n 0, 1) := by decide +kernel
theorem dX8_part_36 : decode cX8_part 36 = .ok (.iload_n 2, 1) := by decide +kernel
theorem dX8_part_37 : decode cX8_part 37 = .ok (.iload_n 2, 1) := by decide +kernel
theorem dX8_part_38 : decode cX8_part 38 = .ok (.imul, 1) := by decide +kernel
theorem dX8_part_39 : decode cX8_part 39 = .ok (.iload 4, 2) := by decide +kernel
theorem dX8_part_41 : decode cX8_part 41 = .ok (.iload 4, 2) := by decide +kernel
theorem dX8_part_43 : decode cX8_part 43 = .ok (.imul, 1) := by decide +kernel
theorem dX8_part_44 : decode cX8_part 44 = .ok (.isub, 1) := by decide +kernel
theorem dX8_part_45 : decode cX8_part 45 = .ok (.imul, 1) := by decide +kernel
theorem dX8_part_46 : decode cX8_part 46 = .ok (.iload_n 2, 1) := by decide +kernel
theorem dX8_part_47 : decode cX8_part 47 = .ok (.iload_n 2, 1) := by decide +kernel
theorem dX8_part_48 : decode cX8_part 48 = .ok (.imul, 1) := by decide +kernel
theorem dX8_part_49 : decode cX8_part 49 = .ok (.idiv, 1) := by decide +kernel
theorem dX8_part_50 : decode cX8_part 50 = .ok (.ireturn, 1) := by decide +kernel
theorem dX8_part_51 : decode cX8_part 51 = .ok (.iload_n 0, 1) := by decide +kernel
theorem dX8_part_52 : decode cX8_part 52 = .ok (.iconst 2, 1) := by decide +kernel
theorem dX8_part_53 : decode cX8_part 53 = .ok (.iload_n 1, 1) := by decide +kernel
theorem dX8_part_54 : decode cX8_part 54 = .ok (.imul, 1) := by decide +kernel
theorem dX8_part_55 : decode cX8_part 55 = .ok (.iload_n 2, 1) := by decide +kernel
theorem dX8_part_56 : decode cX8_part 56 = .ok (.if_icmp .gt 11, 3) := by decide +kernel
theorem dX8_part_59 : decode cX8_part 59 = .ok (.iconst 2, 1) := by decide +kernel
theorem dX8_part_60 : decode cX8_part 60 = .ok (.iload_n 1, 1) := by decide +kernel
theorem dX8_part_61 : decode cX8_part 61 = .ok (.imul, 1) := by decide +kernel
theorem dX8_part_62 : decode cX8_part 62 = .ok (.iload_n 1, 1) := by decide +kernel
theorem dX8_part_63 : decode cX8_part 63 = .ok (.imul, 1) := by decide +kernel
theorem dX8_part_64 : decode cX8_part 64 = .ok (.goto 14, 3) := by decide +kernel
theorem dX8_part_67 : decode cX8_part 67 = .ok (.iload_n 2, 1) := by decide +kernel
theorem dX8_part_68 : decode cX8_part 68 = .ok (.iload_n 2, 1) := by decide +kernel
theorem dX8_part_69 : decode cX8_part 69 = .ok (.imul, 1) := by decide +kernel
theorem dX8_part_70 : decode cX8_part 70 = .ok (.iconst 2, 1) := by decide +kernel
theorem dX8_part_71 : decode cX8_part 71 = .ok (.iload 4, 2) := by decide +kernel
theorem dX8_part_73 : decode cX8_part 73 = .ok (.imul, 1) := by decide +kernel
theorem dX8_part_74 : decode cX8_part 74 = .ok (.iload 4, 2) := by decide +kernel
theorem dX8_part_76 : decode cX8_part 76 = .ok (.imul, 1) := by decide +kernel
theorem dX8_part_77 : decode cX8_part 77 = .ok (.isub, 1) := by decide +kernel
theorem dX8_part_78 : decode cX8_part 78 = .ok (.imul, 1) := by decide +kernel
theorem dX8_part_79 : decode cX8_part 79 = .ok (.iload_n 2, 1) := by decide +kernel
theorem dX8_part_80 : decode cX8_part 80 = .ok (.iload_n 2, 1) := by decide +kernel
theorem dX8_part_81 : decode cX8_part 81 = .ok (.imul, 1) := by decide +kernel
theorem dX8_part_82 : decode cX8_part 82 = .ok (.idiv, 1) := by decide +kernel
theorem dX8_part_83 : decode cX8_part 83 = .ok (.ireturn, 1) := by decide +kernel
theorem dX8_positionOf_0 : decode cX8_positionOf 0 = .ok (.bipush 8, 2) := by decide +kernel
theorem dX8_positionOf_2 : decode cX8_positionOf 2 = .ok (.iload_n 1, 1) := by decide +kernel
theorem dX8_positionOf_3 : decode cX8_positionOf 3 = .ok (.imul, 1) := by decide +kernel
theorem dX8_positionOf_4 : decode cX8_positionOf 4 = .ok (.istore_n 3, 1) := by decide +kernel
theorem dX8_positionOf_5 : decode cX8_positionOf 5 = .ok (.iload_n 2, 1) := by decide +kernel
theorem dX8_positionOf_6 : decode cX8_positionOf 6 = .ok (.istore 4, 2) := by decide +kernel
theorem dX8_positionOf_8 : decode cX8_positionOf 8 = .ok (.iload 4, 2) := by decide +kernel
theorem dX8_positionOf_10 : decode cX8_positionOf 10 = .ok (.aload_n 0, 1) := by decide +kernel
theorem dX8_positionOf_11 : decode cX8_positionOf 11 = .ok (.getfield 16, 3) := by decide +kernel
theorem dX8_positionOf_14 : decode cX8_positionOf 14 = .ok (.iload_n 3, 1) := by decide +kernel
theorem dX8_positionOf_15 : decode cX8_positionOf 15 = .ok (.iaload, 1) := by decide +kernel
theorem dX8_positionOf_16 : decode cX8_positionOf 16 = .ok (.if_icmp .le 39, 3) := by decide +kernel
theorem dX8_positionOf_19 : decode cX8_positionOf 19 = .ok (.iload_n 3, 1) := by decide +kernel
theorem dX8_positionOf_20 : decode cX8_positionOf 20 = .ok (.bipush 8, 2) := by decide +kernel
theorem dX8_positionOf_22 : decode cX8_positionOf 22 = .ok (.iload_n 1, 1) := by decide +kernel
theorem dX8_positionOf_23 : decode cX8_positionOf 23 = .ok (.imul, 1) := by decide +kernel
theorem dX8_positionOf_24 : decode cX8_positionOf 24 = .ok (.aload_n 0, 1) := by decide +kernel
theorem dX8_positionOf_25 : decode cX8_positionOf 25 = .ok (.getfield 7, 3) := by decide +kernel
theorem dX8_positionOf_28 : decode cX8_positionOf 28 = .ok (.iload_n 1, 1) := by decide +kernel
theorem dX8_positionOf_29 : decode cX8_positionOf 29 = .ok (.iaload, 1) := by decide +kernel
theorem dX8_positionOf_30 : decode cX8_positionOf 30 = .ok (.iadd, 1) := by decide +kernel
theorem dX8_positionOf_31 : decode cX8_positionOf 31 = .ok (.iconst 1, 1) := by decide +kernel
theorem dX8_positionOf_32 : decode cX8_positionOf 32 = .ok (.isub, 1) := by decide +kernel
theorem dX8_positionOf_33 : decode cX8_positionOf 33 = .ok (.if_icmp .ge 22, 3) := by decide +kernel
theorem dX8_positionOf_36 : decode cX8_positionOf 36 = .ok (.iload 4, 2) := by decide +kernel
theorem dX8_positionOf_38 : decode cX8_positionOf 38 = .ok (.aload_n 0, 1) := by decide +kernel
theorem dX8_positionOf_39 : decode cX8_positionOf 39 = .ok (.getfield 16, 3) := by decide +kernel
theorem dX8_positionOf_42 : decode cX8_positionOf 42 = .ok (.iload_n 3, 1) := by decide +kernel
theorem dX8_positionOf_43 : decode cX8_positionOf 43 = .ok (.iaload, 1) := by decide +kernel
theorem dX8_positionOf_44 : decode cX8_positionOf 44 = .ok (.iconst 1, 1) := by decide +kernel
theorem dX8_positionOf_45 : decode cX8_positionOf 45 = .ok (.iadd, 1) := by decide +kernel
theorem dX8_positionOf_46 : decode cX8_positionOf 46 = .ok (.isub, 1) := by decide +kernel
theorem dX8_positionOf_47 : decode cX8_positionOf 47 = .ok (.istore 4, 2) := by decide +kernel
theorem dX8_positionOf_49 : decode cX8_positionOf 49 = .ok (.iinc 3 1, 3) := by decide +kernel
theorem dX8_positionOf_52 : decode cX8_positionOf 52 = .ok (.goto (-44), 3) := by decide +kernel
theorem dX8_positionOf_55 : decode cX8_positionOf 55 = .ok (.iload 4, 2) := by decide +kernel
theorem dX8_positionOf_57 : decode cX8_positionOf 57 = .ok (.ifCond .ne 12, 3) := by decide +kernel
theorem dX8_positionOf_60 : decode cX8_positionOf 60 = .ok (.aload_n 0, 1) := by decide +kernel
theorem dX8_positionOf_61 : decode cX8_positionOf 61 = .ok (.getfield 13, 3) := by decide +kernel
theorem dX8_positionOf_64 : decode cX8_positionOf 64 = .ok (.iload_n 3, 1) := by decide +kernel
theorem dX8_positionOf_65 : decode cX8_positionOf 65 = .ok (.iaload, 1) := by decide +kernel
theorem dX8_positionOf_66 : decode cX8_positionOf 66 = .ok (.goto 44, 3) := by decide +kernel
theorem dX8_positionOf_69 : decode cX8_positionOf 69 = .ok (.aload_n 0, 1) := by decide +kernel
theorem dX8_positionOf_70 : decode cX8_positionOf 70 = .ok (.getfield 13, 3) := by decide +kernel
theorem dX8_positionOf_73 : decode cX8_positionOf 73 = .ok (.iload_n 3, 1) := by decide +kernel
theorem dX8_positionOf_74 : decode cX8_positionOf 74 = .ok (.iaload, 1) := by decide +kernel
theorem dX8_positionOf_75 : decode cX8_positionOf 75 = .ok (.aload_n 0, 1) := by decide +kernel
theorem dX8_positionOf_76 : decode cX8_positionOf 76 = .ok (.getfield 13, 3) := by decide +kernel
theorem dX8_positionOf_79 : decode cX8_positionOf 79 = .ok (.iload_n 3, 1) := by decide +kernel
theorem dX8_positionOf_80 : decode cX8_positionOf 80 = .ok (.iconst 1, 1) := by decide +kernel
theorem dX8_positionOf_81 : decode cX8_positionOf 81 = .ok (.iadd, 1) := by decide +kernel
theorem dX8_positionOf_82 : decode cX8_positionOf 82 = .ok (.iaload, 1) := by decide +kernel
theorem dX8_positionOf_83 : decode cX8_positionOf 83 = .ok (.aload_n 0, 1) := by decide +kernel
theorem dX8_positionOf_84 : decode cX8_positionOf 84 = .ok (.getfield 13, 3) := by decide +kernel
theorem dX8_positionOf_87 : decode cX8_positionOf 87 = .ok (.iload_n 3, 1) := by decide +kernel
theorem dX8_positionOf_88 : decode cX8_positionOf 88 = .ok (.iaload, 1) := by decide +kernel
theorem dX8_positionOf_89 : decode cX8_positionOf 89 = .ok (.isub, 1) := by decide +kernel
theorem dX8_positionOf_90 : decode cX8_positionOf 90 = .ok (.iload 4, 2) := by decide +kernel
theorem dX8_positionOf_92 : decode cX8_positionOf 92 = .ok (.aload_n 0, 1) := by decide +kernel
theorem dX8_positionOf_93 : decode cX8_positionOf 93 = .ok (.getfield 16, 3) := by decide +kernel
theorem dX8_positionOf_96 : decode cX8_positionOf 96 = .ok (.iload_n 3, 1) := by decide +kernel
theorem dX8_positionOf_97 : decode cX8_positionOf 97 = .ok (.iaload, 1) := by decide +kernel
theorem dX8_positionOf_98 : decode cX8_positionOf 98 = .ok (.iconst 1, 1) := by decide +kernel
theorem dX8_positionOf_99 : decode cX8_positionOf 99 = .ok (.iadd, 1) := by decide +kernel
theorem dX8_positionOf_100 : decode cX8_positionOf 100 = .ok (.aload_n 0, 1) := by decide +kernel
theorem dX8_positionOf_101 : decode cX8_positionOf 101 = .ok (.getfield 19, 3) := by decide +kernel
theorem dX8_positionOf_104 : decode cX8_positionOf 104 = .ok (.iload_n 3, 1) := by decide +kernel
theorem dX8_positionOf_105 : decode cX8_positionOf 105 = .ok (.iaload, 1) := by decide +kernel
theorem dX8_positionOf_106 : decode cX8_positionOf 106 = .ok (.invokestatic 86, 3) := by decide +kernel
theorem dX8_positionOf_109 : decode cX8_positionOf 109 = .ok (.iadd, 1) := by decide +kernel
theorem dX8_positionOf_110 : decode cX8_positionOf 110 = .ok (.ireturn, 1) := by decide +kernel
theorem dX8_leafAt_0 : decode cX8_leafAt 0 = .ok (.bipush 43, 2) := by decide +kernel
theorem dX8_leafAt_2 : decode cX8_leafAt 2 = .ok (.iconst 3, 1) := by decide +kernel
theorem dX8_leafAt_3 : decode cX8_leafAt 3 = .ok (.iload_n 0, 1) := by decide +kernel
theorem dX8_leafAt_4 : decode cX8_leafAt 4 = .ok (.imul, 1) := by decide +kernel
theorem dX8_leafAt_5 : decode cX8_leafAt 5 = .ok (.iload_n 1, 1) := by decide +kernel
theorem dX8_leafAt_6 : decode cX8_leafAt 6 = .ok (.iadd, 1) := by decide +kernel
theorem dX8_leafAt_7 : decode cX8_leafAt 7 = .ok (.imul, 1) := by decide +kernel
theorem dX8_leafAt_8 : decode cX8_leafAt 8 = .ok (.iload_n 2, 1) := by decide +kernel
theorem dX8_leafAt_9 : decode cX8_leafAt 9 = .ok (.iadd, 1) := by decide +kernel
theorem dX8_leafAt_10 : decode cX8_leafAt 10 = .ok (.ireturn, 1) := by decide +kernel
theorem dX8_isBoundCopy_0 : decode cX8_isBoundCopy 0 = .ok (.aload_n 0, 1) := by decide +kernel
theorem dX8_isBoundCopy_1 : decode cX8_isBoundCopy 1 = .ok (.getfield 28, 3) := by decide +kernel
theorem dX8_isBoundCopy_4 : decode cX8_isBoundCopy 4 = .ok (.iconst 3, 1) := by decide +kernel
theorem dX8_isBoundCopy_5 : decode cX8_isBoundCopy 5 = .ok (.iload_n 1, 1) := by decide +kernel
theorem dX8_isBoundCopy_6 : decode cX8_isBoundCopy 6 = .ok (.imul, 1) := by decide +kernel
theorem dX8_isBoundCopy_7 : decode cX8_isBoundCopy 7 = .ok (.iload_n 2, 1) := by decide +kernel
theorem dX8_isBoundCopy_8 : decode cX8_isBoundCopy 8 = .ok (.iadd, 1) := by decide +kernel
theorem dX8_isBoundCopy_9 : decode cX8_isBoundCopy 9 = .ok (.iaload, 1) := by decide +kernel
theorem dX8_isBoundCopy_10 : decode cX8_isBoundCopy 10 = .ok (.iconst (-1), 1) := by decide +kernel
theorem dX8_isBoundCopy_11 : decode cX8_isBoundCopy 11 = .ok (.if_icmp .eq 7, 3) := by decide +kernel
theorem dX8_isBoundCopy_14 : decode cX8_isBoundCopy 14 = .ok (.iconst 1, 1) := by decide +kernel
theorem dX8_isBoundCopy_15 : decode cX8_isBoundCopy 15 = .ok (.goto 4, 3) := by decide +kernel
theorem dX8_isBoundCopy_18 : decode cX8_isBoundCopy 18 = .ok (.iconst 0, 1) := by decide +kernel
theorem dX8_isBoundCopy_19 : decode cX8_isBoundCopy 19 = .ok (.ireturn, 1) := by decide +kernel
theorem dX8_spoils_0 : decode cX8_spoils 0 = .ok (.aload_n 0, 1) := by decide +kernel
theorem dX8_spoils_1 : decode cX8_spoils 1 = .ok (.getfield 31, 3) := by decide +kernel
theorem dX8_spoils_4 : decode cX8_spoils 4 = .ok (.iload_n 1, 1) := by decide +kernel
theorem dX8_spoils_5 : decode cX8_spoils 5 = .ok (.iconst (-1), 1) := by decide +kernel
theorem dX8_spoils_6 : decode cX8_spoils 6 = .ok (.iastore, 1) := by decide +kernel
theorem dX8_spoils_7 : decode cX8_spoils 7 = .ok (.aload_n 0, 1) := by decide +kernel
theorem dX8_spoils_8 : decode cX8_spoils 8 = .ok (.getfield 37, 3) := by decide +kernel
theorem dX8_spoils_11 : decode cX8_spoils 11 = .ok (.iload_n 1, 1) := by decide +kernel
theorem dX8_spoils_12 : decode cX8_spoils 12 = .ok (.iconst (-1), 1) := by decide +kernel
theorem dX8_spoils_13 : decode cX8_spoils 13 = .ok (.iastore, 1) := by decide +kernel
theorem dX8_spoils_14 : decode cX8_spoils 14 = .ok (.aload_n 0, 1) := by decide +kernel
theorem dX8_spoils_15 : decode cX8_spoils 15 = .ok (.dup, 1) := by decide +kernel
theorem dX8_spoils_16 : decode cX8_spoils 16 = .ok (.getfield 90, 3) := by decide +kernel
theorem dX8_spoils_19 : decode cX8_spoils 19 = .ok (.iconst 1, 1) := by decide +kernel
theorem dX8_spoils_20 : decode cX8_spoils 20 = .ok (.iadd, 1) := by decide +kernel
theorem dX8_spoils_21 : decode cX8_spoils 21 = .ok (.putfield 90, 3) := by decide +kernel
theorem dX8_spoils_24 : decode cX8_spoils 24 = .ok (.return_, 1) := by decide +kernel
theorem dX8_flows_0 : decode cX8_flows 0 = .ok (.aload_n 0, 1) := by decide +kernel
theorem dX8_flows_1 : decode cX8_flows 1 = .ok (.getfield 90, 3) := by decide +kernel
theorem dX8_flows_4 : decode cX8_flows 4 = .ok (.istore_n 2, 1) := by decide +kernel
theorem dX8_flows_5 : decode cX8_flows 5 = .ok (.aload_n 0, 1) := by decide +kernel
theorem dX8_flows_6 : decode cX8_flows 6 = .ok (.iload_n 1, 1) := by decide +kernel
theorem dX8_flows_7 : decode cX8_flows 7 = .ok (.invokevirtual 93, 3) := by decide +kernel
theorem dX8_flows_10 : decode cX8_flows 10 = .ok (.istore_n 3, 1) := by decide +kernel
theorem dX8_flows_11 : decode cX8_flows 11 = .ok (.iconst 0, 1) := by decide +kernel
theorem dX8_flows_12 : decode cX8_flows 12 = .ok (.istore 4, 2) := by decide +kernel
theorem dX8_flows_14 : decode cX8_flows 14 = .ok (.iload 4, 2) := by decide +kernel
theorem dX8_flows_16 : decode cX8_flows 16 = .ok (.sipush 645, 3) := by decide +kernel
theorem dX8_flows_19 : decode cX8_flows 19 = .ok (.if_icmp .ge 129, 3) := by decide +kernel
theorem dX8_flows_22 : decode cX8_flows 22 = .ok (.iload 4, 2) := by decide +kernel
theorem dX8_flows_24 : decode cX8_flows 24 = .ok (.bipush 43, 2) := by decide +kernel
theorem dX8_flows_26 : decode cX8_flows 26 = .ok (.idiv, 1) := by decide +kernel
theorem dX8_flows_27 : decode cX8_flows 27 = .ok (.iconst 3, 1) := by decide +kernel
theorem dX8_flows_28 : decode cX8_flows 28 = .ok (.idiv, 1) := by decide +kernel
theorem dX8_flows_29 : decode cX8_flows 29 = .ok (.istore 5, 2) := by decide +kernel
theorem dX8_flows_31 : decode cX8_flows 31 = .ok (.iload 4, 2) := by decide +kernel
theorem dX8_flows_33 : decode cX8_flows 33 = .ok (.bipush 43, 2) := by decide +kernel
theorem dX8_flows_35 : decode cX8_flows 35 = .ok (.idiv, 1) := by decide +kernel
theorem dX8_flows_36 : decode cX8_flows 36 = .ok (.iconst 3, 1) := by decide +kernel
theorem dX8_flows_37 : decode cX8_flows 37 = .ok (.irem, 1) := by decide +kernel
theorem dX8_flows_38 : decode cX8_flows 38 = .ok (.istore 6, 2) := by decide +kernel
theorem dX8_flows_40 : decode cX8_flows 40 = .ok (.iload 4, 2) := by decide +kernel
theorem dX8_flows_42 : decode cX8_flows 42 = .ok (.bipush 43, 2) := by decide +kernel
theorem dX8_flows_44 : decode cX8_flows 44 = .ok (.irem, 1) := by decide +kernel
theorem dX8_flows_45 : decode cX8_flows 45 = .ok (.istore 7, 2) := by decide +kernel
theorem dX8_flows_47 : decode cX8_flows 47 = .ok (.iload 5, 2) := by decide +kernel
theorem dX8_flows_49 : decode cX8_flows 49 = .ok (.aload_n 0, 1) := by decide +kernel
theorem dX8_flows_50 : decode cX8_flows 50 = .ok (.getfield 79, 3) := by decide +kernel
theorem dX8_flows_53 : decode cX8_flows 53 = .ok (.if_icmp .ge 30, 3) := by decide +kernel
theorem dX8_flows_56 : decode cX8_flows 56 = .ok (.aload_n 0, 1) := by decide +kernel
theorem dX8_flows_57 : decode cX8_flows 57 = .ok (.getfield 22, 3) := by decide +kernel
theorem dX8_flows_60 : decode cX8_flows 60 = .ok (.iload 5, 2) := by decide +kernel
theorem dX8_flows_62 : decode cX8_flows 62 = .ok (.iaload, 1) := by decide +kernel
theorem dX8_flows_63 : decode cX8_flows 63 = .ok (.iload_n 1, 1) := by decide +kernel
theorem dX8_flows_64 : decode cX8_flows 64 = .ok (.if_icmp .ne 19, 3) := by decide +kernel
theorem dX8_flows_67 : decode cX8_flows 67 = .ok (.iload 6, 2) := by decide +kernel
theorem dX8_flows_69 : decode cX8_flows 69 = .ok (.aload_n 0, 1) := by decide +kernel
theorem dX8_flows_70 : decode cX8_flows 70 = .ok (.getfield 25, 3) := by decide +kernel
theorem dX8_flows_73 : decode cX8_flows 73 = .ok (.iload 5, 2) := by decide +kernel
theorem dX8_flows_75 : decode cX8_flows 75 = .ok (.iaload, 1) := by decide +kernel
theorem dX8_flows_76 : decode cX8_flows 76 = .ok (.if_icmp .ge 7, 3) := by decide +kernel
theorem dX8_flows_79 : decode cX8_flows 79 = .ok (.iconst 1, 1) := by decide +kernel
theorem dX8_flows_80 : decode cX8_flows 80 = .ok (.goto 4, 3) := by decide +kernel
theorem dX8_flows_83 : decode cX8_flows 83 = .ok (.iconst 0, 1) := by decide +kernel
theorem dX8_flows_84 : decode cX8_flows 84 = .ok (.istore 8, 2) := by decide +kernel
theorem dX8_flows_86 : decode cX8_flows 86 = .ok (.iload 8, 2) := by decide +kernel
theorem dX8_flows_88 : decode cX8_flows 88 = .ok (.ifCond .eq 54, 3) := by decide +kernel
theorem dX8_flows_91 : decode cX8_flows 91 = .ok (.aload_n 0, 1) := by decide +kernel
theorem dX8_flows_92 : decode cX8_flows 92 = .ok (.getfield 31, 3) := by decide +kernel
theorem dX8_flows_95 : decode cX8_flows 95 = .ok (.iload 4, 2) := by decide +kernel
theorem dX8_flows_97 : decode cX8_flows 97 = .ok (.iaload, 1) := by decide +kernel
theorem dX8_flows_98 : decode cX8_flows 98 = .ok (.iconst (-1), 1) := by decide +kernel
theorem dX8_flows_99 : decode cX8_flows 99 = .ok (.if_icmp .eq 43, 3) := by decide +kernel
theorem dX8_flows_102 : decode cX8_flows 102 = .ok (.aload_n 0, 1) := by decide +kernel
theorem dX8_flows_103 : decode cX8_flows 103 = .ok (.iload 5, 2) := by decide +kernel
theorem dX8_flows_105 : decode cX8_flows 105 = .ok (.iload 6, 2) := by decide +kernel
theorem dX8_flows_107 : decode cX8_flows 107 = .ok (.invokevirtual 97, 3) := by decide +kernel
theorem dX8_flows_110 : decode cX8_flows 110 = .ok (.ifCond .ne 32, 3) := by decide +kernel
theorem dX8_flows_113 : decode cX8_flows 113 = .ok (.iload 7, 2) := by decide +kernel
theorem dX8_flows_115 : decode cX8_flows 115 = .ok (.iload_n 3, 1) := by decide +kernel
theorem dX8_flows_116 : decode cX8_flows 116 = .ok (.if_icmp .ge 20, 3) := by decide +kernel
theorem dX8_flows_119 : decode cX8_flows 119 = .ok (.aload_n 0, 1) := by decide +kernel
theorem dX8_flows_120 : decode cX8_flows 120 = .ok (.iload_n 1, 1) := by decide +kernel
theorem dX8_flows_121 : decode cX8_flows 121 = .ok (.iload 7, 2) := by decide +kernel
theorem dX8_flows_123 : decode cX8_flows 123 = .ok (.invokevirtual 101, 3) := by decide +kernel
theorem dX8_flows_126 : decode cX8_flows 126 = .ok (.aload_n 0, 1) := by decide +kernel
theorem dX8_flows_127 : decode cX8_flows 127 = .ok (.getfield 31, 3) := by decide +kernel
theorem dX8_flows_130 : decode cX8_flows 130 = .ok (.iload 4, 2) := by decide +kernel
theorem dX8_flows_132 : decode cX8_flows 132 = .ok (.iaload, 1) := by decide +kernel
theorem dX8_flows_133 : decode cX8_flows 133 = .ok (.if_icmp .eq 9, 3) := by decide +kernel
theorem dX8_flows_136 : decode cX8_flows 136 = .ok (.aload_n 0, 1) := by decide +kernel
theorem dX8_flows_137 : decode cX8_flows 137 = .ok (.iload 4, 2) := by decide +kernel
theorem dX8_flows_139 : decode cX8_flows 139 = .ok (.invokevirtual 105, 3) := by decide +kernel
theorem dX8_flows_142 : decode cX8_flows 142 = .ok (.iinc 4 1, 3) := by decide +kernel
theorem dX8_flows_145 : decode cX8_flows 145 = .ok (.goto (-131), 3) := by decide +kernel
theorem dX8_flows_148 : decode cX8_flows 148 = .ok (.aload_n 0, 1) := by decide +kernel
theorem dX8_flows_149 : decode cX8_flows 149 = .ok (.getfield 90, 3) := by decide +kernel
theorem dX8_flows_152 : decode cX8_flows 152 = .ok (.iload_n 2, 1) := by decide +kernel
theorem dX8_flows_153 : decode cX8_flows 153 = .ok (.isub, 1) := by decide +kernel
theorem dX8_flows_154 : decode cX8_flows 154 = .ok (.ireturn, 1) := by decide +kernel
theorem dX8_addBook_0 : decode cX8_addBook 0 = .ok (.aload_n 0, 1) := by decide +kernel
theorem dX8_addBook_1 : decode cX8_addBook 1 = .ok (.aload_n 0, 1) := by decide +kernel
theorem dX8_addBook_2 : decode cX8_addBook 2 = .ok (.getfield 72, 3) := by decide +kernel
theorem dX8_addBook_5 : decode cX8_addBook 5 = .ok (.iconst 4, 1) := by decide +kernel
theorem dX8_addBook_6 : decode cX8_addBook 6 = .ok (.if_icmp .ne 7, 3) := by decide +kernel
theorem dX8_addBook_9 : decode cX8_addBook 9 = .ok (.iconst 1, 1) := by decide +kernel
theorem dX8_addBook_10 : decode cX8_addBook 10 = .ok (.goto 4, 3) := by decide +kernel
theorem dX8_addBook_13 : decode cX8_addBook 13 = .ok (.iconst 0, 1) := by decide +kernel
theorem dX8_addBook_14 : decode cX8_addBook 14 = .ok (.invokevirtual 109, 3) := by decide +kernel
theorem dX8_addBook_17 : decode cX8_addBook 17 = .ok (.ifCond .ne 5, 3) := by decide +kernel
theorem dX8_addBook_20 : decode cX8_addBook 20 = .ok (.iconst 0, 1) := by decide +kernel
theorem dX8_addBook_21 : decode cX8_addBook 21 = .ok (.ireturn, 1) := by decide +kernel
theorem dX8_addBook_22 : decode cX8_addBook 22 = .ok (.aload_n 0, 1) := by decide +kernel
theorem dX8_addBook_23 : decode cX8_addBook 23 = .ok (.dup, 1) := by decide +kernel
theorem dX8_addBook_24 : decode cX8_addBook 24 = .ok (.getfield 72, 3) := by decide +kernel
theorem dX8_addBook_27 : decode cX8_addBook 27 = .ok (.iconst 1, 1) := by decide +kernel
theorem dX8_addBook_28 : decode cX8_addBook 28 = .ok (.iadd, 1) := by decide +kernel
theorem dX8_addBook_29 : decode cX8_addBook 29 = .ok (.putfield 72, 3) := by decide +kernel
theorem dX8_addBook_32 : decode cX8_addBook 32 = .ok (.aload_n 0, 1) := by decide +kernel
theorem dX8_addBook_33 : decode cX8_addBook 33 = .ok (.getfield 72, 3) := by decide +kernel
theorem dX8_addBook_36 : decode cX8_addBook 36 = .ok (.iconst 1, 1) := by decide +kernel
theorem dX8_addBook_37 : decode cX8_addBook 37 = .ok (.isub, 1) := by decide +kernel
theorem dX8_addBook_38 : decode cX8_addBook 38 = .ok (.ireturn, 1) := by decide +kernel
theorem dX8_draw_0 : decode cX8_draw 0 = .ok (.aload_n 0, 1) := by decide +kernel
theorem dX8_draw_1 : decode cX8_draw 1 = .ok (.aload_n 0, 1) := by decide +kernel
theorem dX8_draw_2 : decode cX8_draw 2 = .ok (.iload_n 1, 1) := by decide +kernel
theorem dX8_draw_3 : decode cX8_draw 3 = .ok (.invokevirtual 112, 3) := by decide +kernel
theorem dX8_draw_6 : decode cX8_draw 6 = .ok (.ifCond .ne 7, 3) := by decide +kernel
theorem dX8_draw_9 : decode cX8_draw 9 = .ok (.iconst 1, 1) := by decide +kernel
theorem dX8_draw_10 : decode cX8_draw 10 = .ok (.goto 22, 3) := by decide +kernel
theorem dX8_draw_13 : decode cX8_draw 13 = .ok (.iload_n 2, 1) := by decide +kernel
theorem dX8_draw_14 : decode cX8_draw 14 = .ok (.iconst 0, 1) := by decide +kernel
theorem dX8_draw_15 : decode cX8_draw 15 = .ok (.aload_n 0, 1) := by decide +kernel
theorem dX8_draw_16 : decode cX8_draw 16 = .ok (.getfield 7, 3) := by decide +kernel
theorem dX8_draw_19 : decode cX8_draw 19 = .ok (.iload_n 1, 1) := by decide +kernel
theorem dX8_draw_20 : decode cX8_draw 20 = .ok (.iaload, 1) := by decide +kernel
theorem dX8_draw_21 : decode cX8_draw 21 = .ok (.invokestatic 75, 3) := by decide +kernel
theorem dX8_draw_24 : decode cX8_draw 24 = .ok (.ifCond .eq 7, 3) := by decide +kernel
theorem dX8_draw_27 : decode cX8_draw 27 = .ok (.iconst 0, 1) := by decide +kernel
theorem dX8_draw_28 : decode cX8_draw 28 = .ok (.goto 4, 3) := by decide +kernel
theorem dX8_draw_31 : decode cX8_draw 31 = .ok (.iconst 1, 1) := by decide +kernel
theorem dX8_draw_32 : decode cX8_draw 32 = .ok (.invokevirtual 109, 3) := by decide +kernel
theorem dX8_draw_35 : decode cX8_draw 35 = .ok (.ifCond .ne 5, 3) := by decide +kernel
theorem dX8_draw_38 : decode cX8_draw 38 = .ok (.iconst 0, 1) := by decide +kernel
theorem dX8_draw_39 : decode cX8_draw 39 = .ok (.ireturn, 1) := by decide +kernel
theorem dX8_draw_40 : decode cX8_draw 40 = .ok (.iload_n 3, 1) := by decide +kernel
theorem dX8_draw_41 : decode cX8_draw 41 = .ok (.iconst 0, 1) := by decide +kernel
theorem dX8_draw_42 : decode cX8_draw 42 = .ok (.sipush 999, 3) := by decide +kernel
theorem dX8_draw_45 : decode cX8_draw 45 = .ok (.invokestatic 75, 3) := by decide +kernel
theorem dX8_draw_48 : decode cX8_draw 48 = .ok (.ifCond .eq 27, 3) := by decide +kernel
theorem dX8_draw_51 : decode cX8_draw 51 = .ok (.iload 4, 2) := by decide +kernel
theorem dX8_draw_53 : decode cX8_draw 53 = .ok (.iconst 0, 1) := by decide +kernel
theorem dX8_draw_54 : decode cX8_draw 54 = .ok (.iconst 5, 1) := by decide +kernel
theorem dX8_draw_55 : decode cX8_draw 55 = .ok (.invokestatic 75, 3) := by decide +kernel
theorem dX8_draw_58 : decode cX8_draw 58 = .ok (.ifCond .eq 17, 3) := by decide +kernel
theorem dX8_draw_61 : decode cX8_draw 61 = .ok (.iload 5, 2) := by decide +kernel
theorem dX8_draw_63 : decode cX8_draw 63 = .ok (.iconst 0, 1) := by decide +kernel
theorem dX8_draw_64 : decode cX8_draw 64 = .ok (.iconst 3, 1) := by decide +kernel
theorem dX8_draw_65 : decode cX8_draw 65 = .ok (.invokestatic 75, 3) := by decide +kernel
theorem dX8_draw_68 : decode cX8_draw 68 = .ok (.ifCond .eq 7, 3) := by decide +kernel
theorem dX8_draw_71 : decode cX8_draw 71 = .ok (.iconst 1, 1) := by decide +kernel
theorem dX8_draw_72 : decode cX8_draw 72 = .ok (.goto 4, 3) := by decide +kernel
theorem dX8_draw_75 : decode cX8_draw 75 = .ok (.iconst 0, 1) := by decide +kernel
theorem dX8_draw_76 : decode cX8_draw 76 = .ok (.istore 6, 2) := by decide +kernel
theorem dX8_draw_78 : decode cX8_draw 78 = .ok (.aload_n 0, 1) := by decide +kernel
theorem dX8_draw_79 : decode cX8_draw 79 = .ok (.iload 6, 2) := by decide +kernel
theorem dX8_draw_81 : decode cX8_draw 81 = .ok (.ifCond .ne 7, 3) := by decide +kernel
theorem dX8_draw_84 : decode cX8_draw 84 = .ok (.iconst 2, 1) := by decide +kernel
theorem dX8_draw_85 : decode cX8_draw 85 = .ok (.goto 19, 3) := by decide +kernel
theorem dX8_draw_88 : decode cX8_draw 88 = .ok (.aload_n 0, 1) := by decide +kernel
theorem dX8_draw_89 : decode cX8_draw 89 = .ok (.getfield 7, 3) := by decide +kernel
theorem dX8_draw_92 : decode cX8_draw 92 = .ok (.iload_n 1, 1) := by decide +kernel
theorem dX8_draw_93 : decode cX8_draw 93 = .ok (.iaload, 1) := by decide +kernel
theorem dX8_draw_94 : decode cX8_draw 94 = .ok (.bipush 8, 2) := by decide +kernel
theorem dX8_draw_96 : decode cX8_draw 96 = .ok (.if_icmp .ne 7, 3) := by decide +kernel
theorem dX8_draw_99 : decode cX8_draw 99 = .ok (.iconst 3, 1) := by decide +kernel
theorem dX8_draw_100 : decode cX8_draw 100 = .ok (.goto 4, 3) := by decide +kernel
theorem dX8_draw_103 : decode cX8_draw 103 = .ok (.iconst 0, 1) := by decide +kernel
theorem dX8_draw_104 : decode cX8_draw 104 = .ok (.invokevirtual 109, 3) := by decide +kernel
theorem dX8_draw_107 : decode cX8_draw 107 = .ok (.ifCond .ne 5, 3) := by decide +kernel
theorem dX8_draw_110 : decode cX8_draw 110 = .ok (.iconst 0, 1) := by decide +kernel
theorem dX8_draw_111 : decode cX8_draw 111 = .ok (.ireturn, 1) := by decide +kernel
theorem dX8_draw_112 : decode cX8_draw 112 = .ok (.bipush 8, 2) := by decide +kernel
theorem dX8_draw_114 : decode cX8_draw 114 = .ok (.iload_n 1, 1) := by decide +kernel
theorem dX8_draw_115 : decode cX8_draw 115 = .ok (.imul, 1) := by decide +kernel
theorem dX8_draw_116 : decode cX8_draw 116 = .ok (.aload_n 0, 1) := by decide +kernel
theorem dX8_draw_117 : decode cX8_draw 117 = .ok (.getfield 7, 3) := by decide +kernel
theorem dX8_draw_120 : decode cX8_draw 120 = .ok (.iload_n 1, 1) := by decide +kernel
theorem dX8_draw_121 : decode cX8_draw 121 = .ok (.iaload, 1) := by decide +kernel
theorem dX8_draw_122 : decode cX8_draw 122 = .ok (.iadd, 1) := by decide +kernel
theorem dX8_draw_123 : decode cX8_draw 123 = .ok (.istore 7, 2) := by decide +kernel
theorem dX8_draw_125 : decode cX8_draw 125 = .ok (.iload 7, 2) := by decide +kernel
theorem dX8_draw_127 : decode cX8_draw 127 = .ok (.bipush 8, 2) := by decide +kernel
theorem dX8_draw_129 : decode cX8_draw 129 = .ok (.iload_n 1, 1) := by decide +kernel
theorem dX8_draw_130 : decode cX8_draw 130 = .ok (.imul, 1) := by decide +kernel
theorem dX8_draw_131 : decode cX8_draw 131 = .ok (.iload_n 2, 1) := by decide +kernel
theorem dX8_draw_132 : decode cX8_draw 132 = .ok (.iadd, 1) := by decide +kernel
theorem dX8_draw_133 : decode cX8_draw 133 = .ok (.if_icmp .le 57, 3) := by decide +kernel
theorem dX8_draw_136 : decode cX8_draw 136 = .ok (.aload_n 0, 1) := by decide +kernel
theorem dX8_draw_137 : decode cX8_draw 137 = .ok (.getfield 13, 3) := by decide +kernel
theorem dX8_draw_140 : decode cX8_draw 140 = .ok (.iload 7, 2) := by decide +kernel
theorem dX8_draw_142 : decode cX8_draw 142 = .ok (.aload_n 0, 1) := by decide +kernel
theorem dX8_draw_143 : decode cX8_draw 143 = .ok (.getfield 13, 3) := by decide +kernel
theorem dX8_draw_146 : decode cX8_draw 146 = .ok (.iload 7, 2) := by decide +kernel
theorem dX8_draw_148 : decode cX8_draw 148 = .ok (.iconst 1, 1) := by decide +kernel
theorem dX8_draw_149 : decode cX8_draw 149 = .ok (.isub, 1) := by decide +kernel
theorem dX8_draw_150 : decode cX8_draw 150 = .ok (.iaload, 1) := by decide +kernel
theorem dX8_draw_151 : decode cX8_draw 151 = .ok (.iastore, 1) := by decide +kernel
theorem dX8_draw_152 : decode cX8_draw 152 = .ok (.aload_n 0, 1) := by decide +kernel
theorem dX8_draw_153 : decode cX8_draw 153 = .ok (.getfield 16, 3) := by decide +kernel
theorem dX8_draw_156 : decode cX8_draw 156 = .ok (.iload 7, 2) := by decide +kernel
theorem dX8_draw_158 : decode cX8_draw 158 = .ok (.aload_n 0, 1) := by decide +kernel
theorem dX8_draw_159 : decode cX8_draw 159 = .ok (.getfield 16, 3) := by decide +kernel
theorem dX8_draw_162 : decode cX8_draw 162 = .ok (.iload 7, 2) := by decide +kernel
theorem dX8_draw_164 : decode cX8_draw 164 = .ok (.iconst 1, 1) := by decide +kernel
theorem dX8_draw_165 : decode cX8_draw 165 = .ok (.isub, 1) := by decide +kernel
theorem dX8_draw_166 : decode cX8_draw 166 = .ok (.iaload, 1) := by decide +kernel
theorem dX8_draw_167 : decode cX8_draw 167 = .ok (.iastore, 1) := by decide +kernel
theorem dX8_draw_168 : decode cX8_draw 168 = .ok (.aload_n 0, 1) := by decide +kernel
theorem dX8_draw_169 : decode cX8_draw 169 = .ok (.getfield 19, 3) := by decide +kernel
theorem dX8_draw_172 : decode cX8_draw 172 = .ok (.iload 7, 2) := by decide +kernel
theorem dX8_draw_174 : decode cX8_draw 174 = .ok (.aload_n 0, 1) := by decide +kernel
theorem dX8_draw_175 : decode cX8_draw 175 = .ok (.getfield 19, 3) := by decide +kernel
theorem dX8_draw_178 : decode cX8_draw 178 = .ok (.iload 7, 2) := by decide +kernel
theorem dX8_draw_180 : decode cX8_draw 180 = .ok (.iconst 1, 1) := by decide +kernel
theorem dX8_draw_181 : decode cX8_draw 181 = .ok (.isub, 1) := by decide +kernel
theorem dX8_draw_182 : decode cX8_draw 182 = .ok (.iaload, 1) := by decide +kernel
theorem dX8_draw_183 : decode cX8_draw 183 = .ok (.iastore, 1) := by decide +kernel
theorem dX8_draw_184 : decode cX8_draw 184 = .ok (.iinc 7 (-1), 3) := by decide +kernel
theorem dX8_draw_187 : decode cX8_draw 187 = .ok (.goto (-62), 3) := by decide +kernel
theorem dX8_draw_190 : decode cX8_draw 190 = .ok (.aload_n 0, 1) := by decide +kernel
theorem dX8_draw_191 : decode cX8_draw 191 = .ok (.getfield 13, 3) := by decide +kernel
theorem dX8_draw_194 : decode cX8_draw 194 = .ok (.bipush 8, 2) := by decide +kernel
theorem dX8_draw_196 : decode cX8_draw 196 = .ok (.iload_n 1, 1) := by decide +kernel
theorem dX8_draw_197 : decode cX8_draw 197 = .ok (.imul, 1) := by decide +kernel
theorem dX8_draw_198 : decode cX8_draw 198 = .ok (.iload_n 2, 1) := by decide +kernel
theorem dX8_draw_199 : decode cX8_draw 199 = .ok (.iadd, 1) := by decide +kernel
theorem dX8_draw_200 : decode cX8_draw 200 = .ok (.iload_n 3, 1) := by decide +kernel
theorem dX8_draw_201 : decode cX8_draw 201 = .ok (.iastore, 1) := by decide +kernel
theorem dX8_draw_202 : decode cX8_draw 202 = .ok (.aload_n 0, 1) := by decide +kernel
theorem dX8_draw_203 : decode cX8_draw 203 = .ok (.getfield 16, 3) := by decide +kernel
theorem dX8_draw_206 : decode cX8_draw 206 = .ok (.bipush 8, 2) := by decide +kernel
theorem dX8_draw_208 : decode cX8_draw 208 = .ok (.iload_n 1, 1) := by decide +kernel
theorem dX8_draw_209 : decode cX8_draw 209 = .ok (.imul, 1) := by decide +kernel
theorem dX8_draw_210 : decode cX8_draw 210 = .ok (.iload_n 2, 1) := by decide +kernel
theorem dX8_draw_211 : decode cX8_draw 211 = .ok (.iadd, 1) := by decide +kernel
theorem dX8_draw_212 : decode cX8_draw 212 = .ok (.iload 4, 2) := by decide +kernel
theorem dX8_draw_214 : decode cX8_draw 214 = .ok (.iastore, 1) := by decide +kernel
theorem dX8_draw_215 : decode cX8_draw 215 = .ok (.aload_n 0, 1) := by decide +kernel
theorem dX8_draw_216 : decode cX8_draw 216 = .ok (.getfield 19, 3) := by decide +kernel
theorem dX8_draw_219 : decode cX8_draw 219 = .ok (.bipush 8, 2) := by decide +kernel
theorem dX8_draw_221 : decode cX8_draw 221 = .ok (.iload_n 1, 1) := by decide +kernel
theorem dX8_draw_222 : decode cX8_draw 222 = .ok (.imul, 1) := by decide +kernel
theorem dX8_draw_223 : decode cX8_draw 223 = .ok (.iload_n 2, 1) := by decide +kernel
theorem dX8_draw_224 : decode cX8_draw 224 = .ok (.iadd, 1) := by decide +kernel
theorem dX8_draw_225 : decode cX8_draw 225 = .ok (.iload 5, 2) := by decide +kernel
theorem dX8_draw_227 : decode cX8_draw 227 = .ok (.iastore, 1) := by decide +kernel
theorem dX8_draw_228 : decode cX8_draw 228 = .ok (.aload_n 0, 1) := by decide +kernel
theorem dX8_draw_229 : decode cX8_draw 229 = .ok (.getfield 7, 3) := by decide +kernel
theorem dX8_draw_232 : decode cX8_draw 232 = .ok (.iload_n 1, 1) := by decide +kernel
theorem dX8_draw_233 : decode cX8_draw 233 = .ok (.dup2, 1) := by decide +kernel
theorem dX8_draw_234 : decode cX8_draw 234 = .ok (.iaload, 1) := by decide +kernel
theorem dX8_draw_235 : decode cX8_draw 235 = .ok (.iconst 1, 1) := by decide +kernel
theorem dX8_draw_236 : decode cX8_draw 236 = .ok (.iadd, 1) := by decide +kernel
theorem dX8_draw_237 : decode cX8_draw 237 = .ok (.iastore, 1) := by decide +kernel
theorem dX8_draw_238 : decode cX8_draw 238 = .ok (.aload_n 0, 1) := by decide +kernel
theorem dX8_draw_239 : decode cX8_draw 239 = .ok (.iload_n 1, 1) := by decide +kernel
theorem dX8_draw_240 : decode cX8_draw 240 = .ok (.invokevirtual 115, 3) := by decide +kernel
theorem dX8_draw_243 : decode cX8_draw 243 = .ok (.ireturn, 1) := by decide +kernel
theorem dX8_wrong_0 : decode cX8_wrong 0 = .ok (.aload_n 0, 1) := by decide +kernel
theorem dX8_wrong_1 : decode cX8_wrong 1 = .ok (.iload_n 1, 1) := by decide +kernel
theorem dX8_wrong_2 : decode cX8_wrong 2 = .ok (.invokevirtual 112, 3) := by decide +kernel
theorem dX8_wrong_5 : decode cX8_wrong 5 = .ok (.ifCond .ne 7, 3) := by decide +kernel
theorem dX8_wrong_8 : decode cX8_wrong 8 = .ok (.iconst 1, 1) := by decide +kernel
theorem dX8_wrong_9 : decode cX8_wrong 9 = .ok (.goto 24, 3) := by decide +kernel
theorem dX8_wrong_12 : decode cX8_wrong 12 = .ok (.iload_n 2, 1) := by decide +kernel
theorem dX8_wrong_13 : decode cX8_wrong 13 = .ok (.iconst 0, 1) := by decide +kernel
theorem dX8_wrong_14 : decode cX8_wrong 14 = .ok (.aload_n 0, 1) := by decide +kernel
theorem dX8_wrong_15 : decode cX8_wrong 15 = .ok (.getfield 7, 3) := by decide +kernel
theorem dX8_wrong_18 : decode cX8_wrong 18 = .ok (.iload_n 1, 1) := by decide +kernel
theorem dX8_wrong_19 : decode cX8_wrong 19 = .ok (.iaload, 1) := by decide +kernel
theorem dX8_wrong_20 : decode cX8_wrong 20 = .ok (.iconst 1, 1) := by decide +kernel
theorem dX8_wrong_21 : decode cX8_wrong 21 = .ok (.isub, 1) := by decide +kernel
theorem dX8_wrong_22 : decode cX8_wrong 22 = .ok (.invokestatic 75, 3) := by decide +kernel
theorem dX8_wrong_25 : decode cX8_wrong 25 = .ok (.ifCond .eq 7, 3) := by decide +kernel
theorem dX8_wrong_28 : decode cX8_wrong 28 = .ok (.iconst 0, 1) := by decide +kernel
theorem dX8_wrong_29 : decode cX8_wrong 29 = .ok (.goto 4, 3) := by decide +kernel
theorem dX8_wrong_32 : decode cX8_wrong 32 = .ok (.iconst 1, 1) := by decide +kernel
theorem dX8_wrong_33 : decode cX8_wrong 33 = .ok (.ireturn, 1) := by decide +kernel
theorem dX8_erase_0 : decode cX8_erase 0 = .ok (.aload_n 0, 1) := by decide +kernel
theorem dX8_erase_1 : decode cX8_erase 1 = .ok (.aload_n 0, 1) := by decide +kernel
theorem dX8_erase_2 : decode cX8_erase 2 = .ok (.iload_n 1, 1) := by decide +kernel
theorem dX8_erase_3 : decode cX8_erase 3 = .ok (.iload_n 2, 1) := by decide +kernel
theorem dX8_erase_4 : decode cX8_erase 4 = .ok (.invokevirtual 118, 3) := by decide +kernel
theorem dX8_erase_7 : decode cX8_erase 7 = .ok (.invokevirtual 109, 3) := by decide +kernel
theorem dX8_erase_10 : decode cX8_erase 10 = .ok (.ifCond .ne 5, 3) := by decide +kernel
theorem dX8_erase_13 : decode cX8_erase 13 = .ok (.iconst 0, 1) := by decide +kernel
theorem dX8_erase_14 : decode cX8_erase 14 = .ok (.ireturn, 1) := by decide +kernel
theorem dX8_erase_15 : decode cX8_erase 15 = .ok (.aload_n 0, 1) := by decide +kernel
theorem dX8_erase_16 : decode cX8_erase 16 = .ok (.getfield 7, 3) := by decide +kernel
theorem dX8_erase_19 : decode cX8_erase 19 = .ok (.iload_n 1, 1) := by decide +kernel
theorem dX8_erase_20 : decode cX8_erase 20 = .ok (.dup2, 1) := by decide +kernel
theorem dX8_erase_21 : decode cX8_erase 21 = .ok (.iaload, 1) := by decide +kernel
theorem dX8_erase_22 : decode cX8_erase 22 = .ok (.iconst 1, 1) := by decide +kernel
theorem dX8_erase_23 : decode cX8_erase 23 = .ok (.isub, 1) := by decide +kernel
theorem dX8_erase_24 : decode cX8_erase 24 = .ok (.iastore, 1) := by decide +kernel
theorem dX8_erase_25 : decode cX8_erase 25 = .ok (.bipush 8, 2) := by decide +kernel
theorem dX8_erase_27 : decode cX8_erase 27 = .ok (.iload_n 1, 1) := by decide +kernel
theorem dX8_erase_28 : decode cX8_erase 28 = .ok (.imul, 1) := by decide +kernel
theorem dX8_erase_29 : decode cX8_erase 29 = .ok (.iload_n 2, 1) := by decide +kernel
theorem dX8_erase_30 : decode cX8_erase 30 = .ok (.iadd, 1) := by decide +kernel
theorem dX8_erase_31 : decode cX8_erase 31 = .ok (.istore_n 3, 1) := by decide +kernel
theorem dX8_erase_32 : decode cX8_erase 32 = .ok (.iload_n 3, 1) := by decide +kernel
theorem dX8_erase_33 : decode cX8_erase 33 = .ok (.bipush 8, 2) := by decide +kernel
theorem dX8_erase_35 : decode cX8_erase 35 = .ok (.iload_n 1, 1) := by decide +kernel
theorem dX8_erase_36 : decode cX8_erase 36 = .ok (.imul, 1) := by decide +kernel
theorem dX8_erase_37 : decode cX8_erase 37 = .ok (.aload_n 0, 1) := by decide +kernel
theorem dX8_erase_38 : decode cX8_erase 38 = .ok (.getfield 7, 3) := by decide +kernel
theorem dX8_erase_41 : decode cX8_erase 41 = .ok (.iload_n 1, 1) := by decide +kernel
theorem dX8_erase_42 : decode cX8_erase 42 = .ok (.iaload, 1) := by decide +kernel
theorem dX8_erase_43 : decode cX8_erase 43 = .ok (.iadd, 1) := by decide +kernel
theorem dX8_erase_44 : decode cX8_erase 44 = .ok (.if_icmp .ge 51, 3) := by decide +kernel
theorem dX8_erase_47 : decode cX8_erase 47 = .ok (.aload_n 0, 1) := by decide +kernel
theorem dX8_erase_48 : decode cX8_erase 48 = .ok (.getfield 13, 3) := by decide +kernel
theorem dX8_erase_51 : decode cX8_erase 51 = .ok (.iload_n 3, 1) := by decide +kernel
theorem dX8_erase_52 : decode cX8_erase 52 = .ok (.aload_n 0, 1) := by decide +kernel
theorem dX8_erase_53 : decode cX8_erase 53 = .ok (.getfield 13, 3) := by decide +kernel
theorem dX8_erase_56 : decode cX8_erase 56 = .ok (.iload_n 3, 1) := by decide +kernel
theorem dX8_erase_57 : decode cX8_erase 57 = .ok (.iconst 1, 1) := by decide +kernel
theorem dX8_erase_58 : decode cX8_erase 58 = .ok (.iadd, 1) := by decide +kernel
theorem dX8_erase_59 : decode cX8_erase 59 = .ok (.iaload, 1) := by decide +kernel
theorem dX8_erase_60 : decode cX8_erase 60 = .ok (.iastore, 1) := by decide +kernel
theorem dX8_erase_61 : decode cX8_erase 61 = .ok (.aload_n 0, 1) := by decide +kernel
theorem dX8_erase_62 : decode cX8_erase 62 = .ok (.getfield 16, 3) := by decide +kernel
theorem dX8_erase_65 : decode cX8_erase 65 = .ok (.iload_n 3, 1) := by decide +kernel
theorem dX8_erase_66 : decode cX8_erase 66 = .ok (.aload_n 0, 1) := by decide +kernel
theorem dX8_erase_67 : decode cX8_erase 67 = .ok (.getfield 16, 3) := by decide +kernel
theorem dX8_erase_70 : decode cX8_erase 70 = .ok (.iload_n 3, 1) := by decide +kernel
theorem dX8_erase_71 : decode cX8_erase 71 = .ok (.iconst 1, 1) := by decide +kernel
theorem dX8_erase_72 : decode cX8_erase 72 = .ok (.iadd, 1) := by decide +kernel
theorem dX8_erase_73 : decode cX8_erase 73 = .ok (.iaload, 1) := by decide +kernel
theorem dX8_erase_74 : decode cX8_erase 74 = .ok (.iastore, 1) := by decide +kernel
theorem dX8_erase_75 : decode cX8_erase 75 = .ok (.aload_n 0, 1) := by decide +kernel
theorem dX8_erase_76 : decode cX8_erase 76 = .ok (.getfield 19, 3) := by decide +kernel
theorem dX8_erase_79 : decode cX8_erase 79 = .ok (.iload_n 3, 1) := by decide +kernel
theorem dX8_erase_80 : decode cX8_erase 80 = .ok (.aload_n 0, 1) := by decide +kernel
theorem dX8_erase_81 : decode cX8_erase 81 = .ok (.getfield 19, 3) := by decide +kernel
theorem dX8_erase_84 : decode cX8_erase 84 = .ok (.iload_n 3, 1) := by decide +kernel
theorem dX8_erase_85 : decode cX8_erase 85 = .ok (.iconst 1, 1) := by decide +kernel
theorem dX8_erase_86 : decode cX8_erase 86 = .ok (.iadd, 1) := by decide +kernel
theorem dX8_erase_87 : decode cX8_erase 87 = .ok (.iaload, 1) := by decide +kernel
theorem dX8_erase_88 : decode cX8_erase 88 = .ok (.iastore, 1) := by decide +kernel
theorem dX8_erase_89 : decode cX8_erase 89 = .ok (.iinc 3 1, 3) := by decide +kernel
theorem dX8_erase_92 : decode cX8_erase 92 = .ok (.goto (-60), 3) := by decide +kernel
theorem dX8_erase_95 : decode cX8_erase 95 = .ok (.aload_n 0, 1) := by decide +kernel
theorem dX8_erase_96 : decode cX8_erase 96 = .ok (.iload_n 1, 1) := by decide +kernel
theorem dX8_erase_97 : decode cX8_erase 97 = .ok (.invokevirtual 115, 3) := by decide +kernel
theorem dX8_erase_100 : decode cX8_erase 100 = .ok (.ireturn, 1) := by decide +kernel
theorem dX8_move_0 : decode cX8_move 0 = .ok (.aload_n 0, 1) := by decide +kernel
theorem dX8_move_1 : decode cX8_move 1 = .ok (.aload_n 0, 1) := by decide +kernel
theorem dX8_move_2 : decode cX8_move 2 = .ok (.iload_n 1, 1) := by decide +kernel
theorem dX8_move_3 : decode cX8_move 3 = .ok (.iload_n 2, 1) := by decide +kernel
theorem dX8_move_4 : decode cX8_move 4 = .ok (.invokevirtual 118, 3) := by decide +kernel
theorem dX8_move_7 : decode cX8_move 7 = .ok (.invokevirtual 109, 3) := by decide +kernel
theorem dX8_move_10 : decode cX8_move 10 = .ok (.ifCond .eq 26, 3) := by decide +kernel
theorem dX8_move_13 : decode cX8_move 13 = .ok (.aload_n 0, 1) := by decide +kernel
theorem dX8_move_14 : decode cX8_move 14 = .ok (.iload_n 3, 1) := by decide +kernel
theorem dX8_move_15 : decode cX8_move 15 = .ok (.iconst 0, 1) := by decide +kernel
theorem dX8_move_16 : decode cX8_move 16 = .ok (.sipush 999, 3) := by decide +kernel
theorem dX8_move_19 : decode cX8_move 19 = .ok (.invokestatic 75, 3) := by decide +kernel
theorem dX8_move_22 : decode cX8_move 22 = .ok (.ifCond .eq 7, 3) := by decide +kernel
theorem dX8_move_25 : decode cX8_move 25 = .ok (.iconst 0, 1) := by decide +kernel
theorem dX8_move_26 : decode cX8_move 26 = .ok (.goto 4, 3) := by decide +kernel
theorem dX8_move_29 : decode cX8_move 29 = .ok (.iconst 2, 1) := by decide +kernel
theorem dX8_move_30 : decode cX8_move 30 = .ok (.invokevirtual 109, 3) := by decide +kernel
theorem dX8_move_33 : decode cX8_move 33 = .ok (.ifCond .ne 5, 3) := by decide +kernel
theorem dX8_move_36 : decode cX8_move 36 = .ok (.iconst 0, 1) := by decide +kernel
theorem dX8_move_37 : decode cX8_move 37 = .ok (.ireturn, 1) := by decide +kernel
theorem dX8_move_38 : decode cX8_move 38 = .ok (.aload_n 0, 1) := by decide +kernel
theorem dX8_move_39 : decode cX8_move 39 = .ok (.getfield 13, 3) := by decide +kernel
theorem dX8_move_42 : decode cX8_move 42 = .ok (.bipush 8, 2) := by decide +kernel
theorem dX8_move_44 : decode cX8_move 44 = .ok (.iload_n 1, 1) := by decide +kernel
theorem dX8_move_45 : decode cX8_move 45 = .ok (.imul, 1) := by decide +kernel
theorem dX8_move_46 : decode cX8_move 46 = .ok (.iload_n 2, 1) := by decide +kernel
theorem dX8_move_47 : decode cX8_move 47 = .ok (.iadd, 1) := by decide +kernel
theorem dX8_move_48 : decode cX8_move 48 = .ok (.iload_n 3, 1) := by decide +kernel
theorem dX8_move_49 : decode cX8_move 49 = .ok (.iastore, 1) := by decide +kernel
theorem dX8_move_50 : decode cX8_move 50 = .ok (.aload_n 0, 1) := by decide +kernel
theorem dX8_move_51 : decode cX8_move 51 = .ok (.iload_n 1, 1) := by decide +kernel
theorem dX8_move_52 : decode cX8_move 52 = .ok (.invokevirtual 115, 3) := by decide +kernel
theorem dX8_move_55 : decode cX8_move 55 = .ok (.ireturn, 1) := by decide +kernel
theorem dX8_frames_0 : decode cX8_frames 0 = .ok (.aload_n 0, 1) := by decide +kernel
theorem dX8_frames_1 : decode cX8_frames 1 = .ok (.aload_n 0, 1) := by decide +kernel
theorem dX8_frames_2 : decode cX8_frames 2 = .ok (.iload_n 1, 1) := by decide +kernel
theorem dX8_frames_3 : decode cX8_frames 3 = .ok (.invokevirtual 112, 3) := by decide +kernel
theorem dX8_frames_6 : decode cX8_frames 6 = .ok (.ifCond .eq 7, 3) := by decide +kernel
theorem dX8_frames_9 : decode cX8_frames 9 = .ok (.iconst 0, 1) := by decide +kernel
theorem dX8_frames_10 : decode cX8_frames 10 = .ok (.goto 4, 3) := by decide +kernel
theorem dX8_frames_13 : decode cX8_frames 13 = .ok (.iconst 1, 1) := by decide +kernel
theorem dX8_frames_14 : decode cX8_frames 14 = .ok (.invokevirtual 109, 3) := by decide +kernel
theorem dX8_frames_17 : decode cX8_frames 17 = .ok (.ifCond .eq 11, 3) := by decide +kernel
theorem dX8_frames_20 : decode cX8_frames 20 = .ok (.aload_n 0, 1) := by decide +kernel
theorem dX8_frames_21 : decode cX8_frames 21 = .ok (.iload_n 1, 1) := by decide +kernel
theorem dX8_frames_22 : decode cX8_frames 22 = .ok (.invokevirtual 93, 3) := by decide +kernel
theorem dX8_frames_25 : decode cX8_frames 25 = .ok (.goto 4, 3) := by decide +kernel
theorem dX8_frames_28 : decode cX8_frames 28 = .ok (.iconst 0, 1) := by decide +kernel
theorem dX8_frames_29 : decode cX8_frames 29 = .ok (.ireturn, 1) := by decide +kernel
theorem dX8_frameAt_0 : decode cX8_frameAt 0 = .ok (.aload_n 0, 1) := by decide +kernel
theorem dX8_frameAt_1 : decode cX8_frameAt 1 = .ok (.aload_n 0, 1) := by decide +kernel
theorem dX8_frameAt_2 : decode cX8_frameAt 2 = .ok (.iload_n 1, 1) := by decide +kernel
theorem dX8_frameAt_3 : decode cX8_frameAt 3 = .ok (.invokevirtual 112, 3) := by decide +kernel
theorem dX8_frameAt_6 : decode cX8_frameAt 6 = .ok (.ifCond .ne 7, 3) := by decide +kernel
theorem dX8_frameAt_9 : decode cX8_frameAt 9 = .ok (.iconst 1, 1) := by decide +kernel
theorem dX8_frameAt_10 : decode cX8_frameAt 10 = .ok (.goto 23, 3) := by decide +kernel
theorem dX8_frameAt_13 : decode cX8_frameAt 13 = .ok (.iload_n 2, 1) := by decide +kernel
theorem dX8_frameAt_14 : decode cX8_frameAt 14 = .ok (.iconst 0, 1) := by decide +kernel
theorem dX8_frameAt_15 : decode cX8_frameAt 15 = .ok (.aload_n 0, 1) := by decide +kernel
theorem dX8_frameAt_16 : decode cX8_frameAt 16 = .ok (.iload_n 1, 1) := by decide +kernel
theorem dX8_frameAt_17 : decode cX8_frameAt 17 = .ok (.invokevirtual 93, 3) := by decide +kernel
theorem dX8_frameAt_20 : decode cX8_frameAt 20 = .ok (.iconst 1, 1) := by decide +kernel
theorem dX8_frameAt_21 : decode cX8_frameAt 21 = .ok (.isub, 1) := by decide +kernel
theorem dX8_frameAt_22 : decode cX8_frameAt 22 = .ok (.invokestatic 75, 3) := by decide +kernel
theorem dX8_frameAt_25 : decode cX8_frameAt 25 = .ok (.ifCond .eq 7, 3) := by decide +kernel
theorem dX8_frameAt_28 : decode cX8_frameAt 28 = .ok (.iconst 0, 1) := by decide +kernel
theorem dX8_frameAt_29 : decode cX8_frameAt 29 = .ok (.goto 4, 3) := by decide +kernel
theorem dX8_frameAt_32 : decode cX8_frameAt 32 = .ok (.iconst 1, 1) := by decide +kernel
theorem dX8_frameAt_33 : decode cX8_frameAt 33 = .ok (.invokevirtual 109, 3) := by decide +kernel
theorem dX8_frameAt_36 : decode cX8_frameAt 36 = .ok (.ifCond .ne 5, 3) := by decide +kernel
theorem dX8_frameAt_39 : decode cX8_frameAt 39 = .ok (.iconst 0, 1) := by decide +kernel
theorem dX8_frameAt_40 : decode cX8_frameAt 40 = .ok (.ireturn, 1) := by decide +kernel
theorem dX8_frameAt_41 : decode cX8_frameAt 41 = .ok (.aload_n 0, 1) := by decide +kernel
theorem dX8_frameAt_42 : decode cX8_frameAt 42 = .ok (.iload_n 1, 1) := by decide +kernel
theorem dX8_frameAt_43 : decode cX8_frameAt 43 = .ok (.iload_n 2, 1) := by decide +kernel
theorem dX8_frameAt_44 : decode cX8_frameAt 44 = .ok (.invokevirtual 101, 3) := by decide +kernel
theorem dX8_frameAt_47 : decode cX8_frameAt 47 = .ok (.ireturn, 1) := by decide +kernel
theorem dX8_order_0 : decode cX8_order 0 = .ok (.aload_n 0, 1) := by decide +kernel
theorem dX8_order_1 : decode cX8_order 1 = .ok (.aload_n 0, 1) := by decide +kernel
theorem dX8_order_2 : decode cX8_order 2 = .ok (.iload_n 1, 1) := by decide +kernel
theorem dX8_order_3 : decode cX8_order 3 = .ok (.invokevirtual 112, 3) := by decide +kernel
theorem dX8_order_6 : decode cX8_order 6 = .ok (.ifCond .ne 7, 3) := by decide +kernel
theorem dX8_order_9 : decode cX8_order 9 = .ok (.iconst 1, 1) := by decide +kernel
theorem dX8_order_10 : decode cX8_order 10 = .ok (.goto 29, 3) := by decide +kernel
theorem dX8_order_13 : decode cX8_order 13 = .ok (.iload_n 2, 1) := by decide +kernel
theorem dX8_order_14 : decode cX8_order 14 = .ok (.iconst 1, 1) := by decide +kernel
theorem dX8_order_15 : decode cX8_order 15 = .ok (.iconst 3, 1) := by decide +kernel
theorem dX8_order_16 : decode cX8_order 16 = .ok (.invokestatic 75, 3) := by decide +kernel
theorem dX8_order_19 : decode cX8_order 19 = .ok (.ifCond .ne 7, 3) := by decide +kernel
theorem dX8_order_22 : decode cX8_order 22 = .ok (.iconst 2, 1) := by decide +kernel
theorem dX8_order_23 : decode cX8_order 23 = .ok (.goto 16, 3) := by decide +kernel
theorem dX8_order_26 : decode cX8_order 26 = .ok (.aload_n 0, 1) := by decide +kernel
theorem dX8_order_27 : decode cX8_order 27 = .ok (.getfield 79, 3) := by decide +kernel
theorem dX8_order_30 : decode cX8_order 30 = .ok (.iconst 5, 1) := by decide +kernel
theorem dX8_order_31 : decode cX8_order 31 = .ok (.if_icmp .ne 7, 3) := by decide +kernel
theorem dX8_order_34 : decode cX8_order 34 = .ok (.iconst 3, 1) := by decide +kernel
theorem dX8_order_35 : decode cX8_order 35 = .ok (.goto 4, 3) := by decide +kernel
theorem dX8_order_38 : decode cX8_order 38 = .ok (.iconst 0, 1) := by decide +kernel
theorem dX8_order_39 : decode cX8_order 39 = .ok (.invokevirtual 109, 3) := by decide +kernel
theorem dX8_order_42 : decode cX8_order 42 = .ok (.ifCond .ne 5, 3) := by decide +kernel
theorem dX8_order_45 : decode cX8_order 45 = .ok (.iconst 0, 1) := by decide +kernel
theorem dX8_order_46 : decode cX8_order 46 = .ok (.ireturn, 1) := by decide +kernel
theorem dX8_order_47 : decode cX8_order 47 = .ok (.aload_n 0, 1) := by decide +kernel
theorem dX8_order_48 : decode cX8_order 48 = .ok (.getfield 22, 3) := by decide +kernel
theorem dX8_order_51 : decode cX8_order 51 = .ok (.aload_n 0, 1) := by decide +kernel
theorem dX8_order_52 : decode cX8_order 52 = .ok (.getfield 79, 3) := by decide +kernel
theorem dX8_order_55 : decode cX8_order 55 = .ok (.iload_n 1, 1) := by decide +kernel
theorem dX8_order_56 : decode cX8_order 56 = .ok (.iastore, 1) := by decide +kernel
theorem dX8_order_57 : decode cX8_order 57 = .ok (.aload_n 0, 1) := by decide +kernel
theorem dX8_order_58 : decode cX8_order 58 = .ok (.getfield 25, 3) := by decide +kernel
theorem dX8_order_61 : decode cX8_order 61 = .ok (.aload_n 0, 1) := by decide +kernel
theorem dX8_order_62 : decode cX8_order 62 = .ok (.getfield 79, 3) := by decide +kernel
theorem dX8_order_65 : decode cX8_order 65 = .ok (.iload_n 2, 1) := by decide +kernel
theorem dX8_order_66 : decode cX8_order 66 = .ok (.iastore, 1) := by decide +kernel
theorem dX8_order_67 : decode cX8_order 67 = .ok (.iconst 0, 1) := by decide +kernel
theorem dX8_order_68 : decode cX8_order 68 = .ok (.istore_n 3, 1) := by decide +kernel
theorem dX8_order_69 : decode cX8_order 69 = .ok (.iload_n 3, 1) := by decide +kernel
theorem dX8_order_70 : decode cX8_order 70 = .ok (.iconst 3, 1) := by decide +kernel
theorem dX8_order_71 : decode cX8_order 71 = .ok (.if_icmp .ge 71, 3) := by decide +kernel
theorem dX8_order_74 : decode cX8_order 74 = .ok (.aload_n 0, 1) := by decide +kernel
theorem dX8_order_75 : decode cX8_order 75 = .ok (.getfield 28, 3) := by decide +kernel
theorem dX8_order_78 : decode cX8_order 78 = .ok (.iconst 3, 1) := by decide +kernel
theorem dX8_order_79 : decode cX8_order 79 = .ok (.aload_n 0, 1) := by decide +kernel
theorem dX8_order_80 : decode cX8_order 80 = .ok (.getfield 79, 3) := by decide +kernel
theorem dX8_order_83 : decode cX8_order 83 = .ok (.imul, 1) := by decide +kernel
theorem dX8_order_84 : decode cX8_order 84 = .ok (.iload_n 3, 1) := by decide +kernel
theorem dX8_order_85 : decode cX8_order 85 = .ok (.iadd, 1) := by decide +kernel
theorem dX8_order_86 : decode cX8_order 86 = .ok (.iconst (-1), 1) := by decide +kernel
theorem dX8_order_87 : decode cX8_order 87 = .ok (.iastore, 1) := by decide +kernel
theorem dX8_order_88 : decode cX8_order 88 = .ok (.iconst 0, 1) := by decide +kernel
theorem dX8_order_89 : decode cX8_order 89 = .ok (.istore 4, 2) := by decide +kernel
theorem dX8_order_91 : decode cX8_order 91 = .ok (.iload 4, 2) := by decide +kernel
theorem dX8_order_93 : decode cX8_order 93 = .ok (.bipush 43, 2) := by decide +kernel
theorem dX8_order_95 : decode cX8_order 95 = .ok (.if_icmp .ge 41, 3) := by decide +kernel
theorem dX8_order_98 : decode cX8_order 98 = .ok (.aload_n 0, 1) := by decide +kernel
theorem dX8_order_99 : decode cX8_order 99 = .ok (.getfield 31, 3) := by decide +kernel
theorem dX8_order_102 : decode cX8_order 102 = .ok (.aload_n 0, 1) := by decide +kernel
theorem dX8_order_103 : decode cX8_order 103 = .ok (.getfield 79, 3) := by decide +kernel
theorem dX8_order_106 : decode cX8_order 106 = .ok (.iload_n 3, 1) := by decide +kernel
theorem dX8_order_107 : decode cX8_order 107 = .ok (.iload 4, 2) := by decide +kernel
theorem dX8_order_109 : decode cX8_order 109 = .ok (.invokestatic 121, 3) := by decide +kernel
theorem dX8_order_112 : decode cX8_order 112 = .ok (.iconst (-1), 1) := by decide +kernel
theorem dX8_order_113 : decode cX8_order 113 = .ok (.iastore, 1) := by decide +kernel
theorem dX8_order_114 : decode cX8_order 114 = .ok (.aload_n 0, 1) := by decide +kernel
theorem dX8_order_115 : decode cX8_order 115 = .ok (.getfield 37, 3) := by decide +kernel
theorem dX8_order_118 : decode cX8_order 118 = .ok (.aload_n 0, 1) := by decide +kernel
theorem dX8_order_119 : decode cX8_order 119 = .ok (.getfield 79, 3) := by decide +kernel
theorem dX8_order_122 : decode cX8_order 122 = .ok (.iload_n 3, 1) := by decide +kernel
theorem dX8_order_123 : decode cX8_order 123 = .ok (.iload 4, 2) := by decide +kernel
theorem dX8_order_125 : decode cX8_order 125 = .ok (.invokestatic 121, 3) := by decide +kernel
theorem dX8_order_128 : decode cX8_order 128 = .ok (.iconst (-1), 1) := by decide +kernel
theorem dX8_order_129 : decode cX8_order 129 = .ok (.iastore, 1) := by decide +kernel
theorem dX8_order_130 : decode cX8_order 130 = .ok (.iinc 4 1, 3) := by decide +kernel
theorem dX8_order_133 : decode cX8_order 133 = .ok (.goto (-42), 3) := by decide +kernel
theorem dX8_order_136 : decode cX8_order 136 = .ok (.iinc 3 1, 3) := by decide +kernel
theorem dX8_order_139 : decode cX8_order 139 = .ok (.goto (-70), 3) := by decide +kernel
theorem dX8_order_142 : decode cX8_order 142 = .ok (.aload_n 0, 1) := by decide +kernel
theorem dX8_order_143 : decode cX8_order 143 = .ok (.dup, 1) := by decide +kernel
theorem dX8_order_144 : decode cX8_order 144 = .ok (.getfield 79, 3) := by decide +kernel
theorem dX8_order_147 : decode cX8_order 147 = .ok (.iconst 1, 1) := by decide +kernel
theorem dX8_order_148 : decode cX8_order 148 = .ok (.iadd, 1) := by decide +kernel
theorem dX8_order_149 : decode cX8_order 149 = .ok (.putfield 79, 3) := by decide +kernel
theorem dX8_order_152 : decode cX8_order 152 = .ok (.aload_n 0, 1) := by decide +kernel
theorem dX8_order_153 : decode cX8_order 153 = .ok (.getfield 79, 3) := by decide +kernel
theorem dX8_order_156 : decode cX8_order 156 = .ok (.iconst 1, 1) := by decide +kernel
theorem dX8_order_157 : decode cX8_order 157 = .ok (.isub, 1) := by decide +kernel
theorem dX8_order_158 : decode cX8_order 158 = .ok (.ireturn, 1) := by decide +kernel
theorem dX8_size_0 : decode cX8_size 0 = .ok (.aload_n 0, 1) := by decide +kernel
theorem dX8_size_1 : decode cX8_size 1 = .ok (.aload_n 0, 1) := by decide +kernel
theorem dX8_size_2 : decode cX8_size 2 = .ok (.getfield 22, 3) := by decide +kernel
theorem dX8_size_5 : decode cX8_size 5 = .ok (.iload_n 1, 1) := by decide +kernel
theorem dX8_size_6 : decode cX8_size 6 = .ok (.iaload, 1) := by decide +kernel
theorem dX8_size_7 : decode cX8_size 7 = .ok (.invokevirtual 93, 3) := by decide +kernel
theorem dX8_size_10 : decode cX8_size 10 = .ok (.ireturn, 1) := by decide +kernel
theorem dX8_laysRanks_0 : decode cX8_laysRanks 0 = .ok (.iconst 0, 1) := by decide +kernel
theorem dX8_laysRanks_1 : decode cX8_laysRanks 1 = .ok (.istore_n 1, 1) := by decide +kernel
theorem dX8_laysRanks_2 : decode cX8_laysRanks 2 = .ok (.iload_n 1, 1) := by decide +kernel
theorem dX8_laysRanks_3 : decode cX8_laysRanks 3 = .ok (.aload_n 0, 1) := by decide +kernel
theorem dX8_laysRanks_4 : decode cX8_laysRanks 4 = .ok (.getfield 79, 3) := by decide +kernel
theorem dX8_laysRanks_7 : decode cX8_laysRanks 7 = .ok (.if_icmp .ge 85, 3) := by decide +kernel
theorem dX8_laysRanks_10 : decode cX8_laysRanks 10 = .ok (.iconst 0, 1) := by decide +kernel
theorem dX8_laysRanks_11 : decode cX8_laysRanks 11 = .ok (.istore_n 2, 1) := by decide +kernel
theorem dX8_laysRanks_12 : decode cX8_laysRanks 12 = .ok (.iconst 0, 1) := by decide +kernel
theorem dX8_laysRanks_13 : decode cX8_laysRanks 13 = .ok (.istore_n 3, 1) := by decide +kernel
theorem dX8_laysRanks_14 : decode cX8_laysRanks 14 = .ok (.iload_n 3, 1) := by decide +kernel
theorem dX8_laysRanks_15 : decode cX8_laysRanks 15 = .ok (.aload_n 0, 1) := by decide +kernel
theorem dX8_laysRanks_16 : decode cX8_laysRanks 16 = .ok (.getfield 79, 3) := by decide +kernel
theorem dX8_laysRanks_19 : decode cX8_laysRanks 19 = .ok (.if_icmp .ge 60, 3) := by decide +kernel
theorem dX8_laysRanks_22 : decode cX8_laysRanks 22 = .ok (.aload_n 0, 1) := by decide +kernel
theorem dX8_laysRanks_23 : decode cX8_laysRanks 23 = .ok (.iload_n 3, 1) := by decide +kernel
theorem dX8_laysRanks_24 : decode cX8_laysRanks 24 = .ok (.invokevirtual 125, 3) := by decide +kernel
theorem dX8_laysRanks_27 : decode cX8_laysRanks 27 = .ok (.aload_n 0, 1) := by decide +kernel
theorem dX8_laysRanks_28 : decode cX8_laysRanks 28 = .ok (.iload_n 1, 1) := by decide +kernel
theorem dX8_laysRanks_29 : decode cX8_laysRanks 29 = .ok (.invokevirtual 125, 3) := by decide +kernel
theorem dX8_laysRanks_32 : decode cX8_laysRanks 32 = .ok (.if_icmp .gt 21, 3) := by decide +kernel
theorem dX8_laysRanks_35 : decode cX8_laysRanks 35 = .ok (.aload_n 0, 1) := by decide +kernel
theorem dX8_laysRanks_36 : decode cX8_laysRanks 36 = .ok (.iload_n 3, 1) := by decide +kernel
theorem dX8_laysRanks_37 : decode cX8_laysRanks 37 = .ok (.invokevirtual 125, 3) := by decide +kernel
theorem dX8_laysRanks_40 : decode cX8_laysRanks 40 = .ok (.aload_n 0, 1) := by decide +kernel
theorem dX8_laysRanks_41 : decode cX8_laysRanks 41 = .ok (.iload_n 1, 1) := by decide +kernel
theorem dX8_laysRanks_42 : decode cX8_laysRanks 42 = .ok (.invokevirtual 125, 3) := by decide +kernel
theorem dX8_laysRanks_45 : decode cX8_laysRanks 45 = .ok (.if_icmp .ne 12, 3) := by decide +kernel
theorem dX8_laysRanks_48 : decode cX8_laysRanks 48 = .ok (.iload_n 3, 1) := by decide +kernel
theorem dX8_laysRanks_49 : decode cX8_laysRanks 49 = .ok (.iload_n 1, 1) := by decide +kernel
theorem dX8_laysRanks_50 : decode cX8_laysRanks 50 = .ok (.if_icmp .ge 7, 3) := by decide +kernel
theorem dX8_laysRanks_53 : decode cX8_laysRanks 53 = .ok (.iconst 1, 1) := by decide +kernel
theorem dX8_laysRanks_54 : decode cX8_laysRanks 54 = .ok (.goto 4, 3) := by decide +kernel
theorem dX8_laysRanks_57 : decode cX8_laysRanks 57 = .ok (.iconst 0, 1) := by decide +kernel
theorem dX8_laysRanks_58 : decode cX8_laysRanks 58 = .ok (.istore 4, 2) := by decide +kernel
theorem dX8_laysRanks_60 : decode cX8_laysRanks 60 = .ok (.iload_n 2, 1) := by decide +kernel
theorem dX8_laysRanks_61 : decode cX8_laysRanks 61 = .ok (.iload 4, 2) := by decide +kernel
theorem dX8_laysRanks_63 : decode cX8_laysRanks 63 = .ok (.ifCond .eq 7, 3) := by decide +kernel
theorem dX8_laysRanks_66 : decode cX8_laysRanks 66 = .ok (.iconst 1, 1) := by decide +kernel
theorem dX8_laysRanks_67 : decode cX8_laysRanks 67 = .ok (.goto 4, 3) := by decide +kernel
theorem dX8_laysRanks_70 : decode cX8_laysRanks 70 = .ok (.iconst 0, 1) := by decide +kernel
theorem dX8_laysRanks_71 : decode cX8_laysRanks 71 = .ok (.iadd, 1) := by decide +kernel
theorem dX8_laysRanks_72 : decode cX8_laysRanks 72 = .ok (.istore_n 2, 1) := by decide +kernel
theorem dX8_laysRanks_73 : decode cX8_laysRanks 73 = .ok (.iinc 3 1, 3) := by decide +kernel
theorem dX8_laysRanks_76 : decode cX8_laysRanks 76 = .ok (.goto (-62), 3) := by decide +kernel
theorem dX8_laysRanks_79 : decode cX8_laysRanks 79 = .ok (.aload_n 0, 1) := by decide +kernel
theorem dX8_laysRanks_80 : decode cX8_laysRanks 80 = .ok (.getfield 60, 3) := by decide +kernel
theorem dX8_laysRanks_83 : decode cX8_laysRanks 83 = .ok (.iload_n 2, 1) := by decide +kernel
theorem dX8_laysRanks_84 : decode cX8_laysRanks 84 = .ok (.iload_n 1, 1) := by decide +kernel
theorem dX8_laysRanks_85 : decode cX8_laysRanks 85 = .ok (.iastore, 1) := by decide +kernel
theorem dX8_laysRanks_86 : decode cX8_laysRanks 86 = .ok (.iinc 1 1, 3) := by decide +kernel
theorem dX8_laysRanks_89 : decode cX8_laysRanks 89 = .ok (.goto (-87), 3) := by decide +kernel
theorem dX8_laysRanks_92 : decode cX8_laysRanks 92 = .ok (.return_, 1) := by decide +kernel
theorem dX8_laysWanted_0 : decode cX8_laysWanted 0 = .ok (.aload_n 0, 1) := by decide +kernel
theorem dX8_laysWanted_1 : decode cX8_laysWanted 1 = .ok (.iconst 0, 1) := by decide +kernel
theorem dX8_laysWanted_2 : decode cX8_laysWanted 2 = .ok (.putfield 128, 3) := by decide +kernel
theorem dX8_laysWanted_5 : decode cX8_laysWanted 5 = .ok (.aload_n 0, 1) := by decide +kernel
theorem dX8_laysWanted_6 : decode cX8_laysWanted 6 = .ok (.invokevirtual 131, 3) := by decide +kernel
theorem dX8_laysWanted_9 : decode cX8_laysWanted 9 = .ok (.iconst 0, 1) := by decide +kernel
theorem dX8_laysWanted_10 : decode cX8_laysWanted 10 = .ok (.istore_n 1, 1) := by decide +kernel
theorem dX8_laysWanted_11 : decode cX8_laysWanted 11 = .ok (.iload_n 1, 1) := by decide +kernel
theorem dX8_laysWanted_12 : decode cX8_laysWanted 12 = .ok (.aload_n 0, 1) := by decide +kernel
theorem dX8_laysWanted_13 : decode cX8_laysWanted 13 = .ok (.getfield 79, 3) := by decide +kernel
theorem dX8_laysWanted_16 : decode cX8_laysWanted 16 = .ok (.iconst 3, 1) := by decide +kernel
theorem dX8_laysWanted_17 : decode cX8_laysWanted 17 = .ok (.imul, 1) := by decide +kernel
theorem dX8_laysWanted_18 : decode cX8_laysWanted 18 = .ok (.bipush 43, 2) := by decide +kernel
theorem dX8_laysWanted_20 : decode cX8_laysWanted 20 = .ok (.imul, 1) := by decide +kernel
theorem dX8_laysWanted_21 : decode cX8_laysWanted 21 = .ok (.if_icmp .ge 117, 3) := by decide +kernel
theorem dX8_laysWanted_24 : decode cX8_laysWanted 24 = .ok (.aload_n 0, 1) := by decide +kernel
theorem dX8_laysWanted_25 : decode cX8_laysWanted 25 = .ok (.getfield 60, 3) := by decide +kernel
theorem dX8_laysWanted_28 : decode cX8_laysWanted 28 = .ok (.iload_n 1, 1) := by decide +kernel
theorem dX8_laysWanted_29 : decode cX8_laysWanted 29 = .ok (.bipush 43, 2) := by decide +kernel
theorem dX8_laysWanted_31 : decode cX8_laysWanted 31 = .ok (.idiv, 1) := by decide +kernel
theorem dX8_laysWanted_32 : decode cX8_laysWanted 32 = .ok (.iconst 3, 1) := by decide +kernel
theorem dX8_laysWanted_33 : decode cX8_laysWanted 33 = .ok (.idiv, 1) := by decide +kernel
theorem dX8_laysWanted_34 : decode cX8_laysWanted 34 = .ok (.iaload, 1) := by decide +kernel
theorem dX8_laysWanted_35 : decode cX8_laysWanted 35 = .ok (.istore_n 2, 1) := by decide +kernel
theorem dX8_laysWanted_36 : decode cX8_laysWanted 36 = .ok (.iload_n 1, 1) := by decide +kernel
theorem dX8_laysWanted_37 : decode cX8_laysWanted 37 = .ok (.bipush 43, 2) := by decide +kernel
theorem dX8_laysWanted_39 : decode cX8_laysWanted 39 = .ok (.idiv, 1) := by decide +kernel
theorem dX8_laysWanted_40 : decode cX8_laysWanted 40 = .ok (.iconst 3, 1) := by decide +kernel
theorem dX8_laysWanted_41 : decode cX8_laysWanted 41 = .ok (.irem, 1) := by decide +kernel
theorem dX8_laysWanted_42 : decode cX8_laysWanted 42 = .ok (.istore_n 3, 1) := by decide +kernel
theorem dX8_laysWanted_43 : decode cX8_laysWanted 43 = .ok (.iload_n 1, 1) := by decide +kernel
theorem dX8_laysWanted_44 : decode cX8_laysWanted 44 = .ok (.bipush 43, 2) := by decide +kernel
theorem dX8_laysWanted_46 : decode cX8_laysWanted 46 = .ok (.irem, 1) := by decide +kernel
theorem dX8_laysWanted_47 : decode cX8_laysWanted 47 = .ok (.istore 4, 2) := by decide +kernel
theorem dX8_laysWanted_49 : decode cX8_laysWanted 49 = .ok (.iload_n 3, 1) := by decide +kernel
theorem dX8_laysWanted_50 : decode cX8_laysWanted 50 = .ok (.aload_n 0, 1) := by decide +kernel
theorem dX8_laysWanted_51 : decode cX8_laysWanted 51 = .ok (.getfield 25, 3) := by decide +kernel
theorem dX8_laysWanted_54 : decode cX8_laysWanted 54 = .ok (.iload_n 2, 1) := by decide +kernel
theorem dX8_laysWanted_55 : decode cX8_laysWanted 55 = .ok (.iaload, 1) := by decide +kernel
theorem dX8_laysWanted_56 : decode cX8_laysWanted 56 = .ok (.if_icmp .ge 26, 3) := by decide +kernel
theorem dX8_laysWanted_59 : decode cX8_laysWanted 59 = .ok (.iload 4, 2) := by decide +kernel
theorem dX8_laysWanted_61 : decode cX8_laysWanted 61 = .ok (.aload_n 0, 1) := by decide +kernel
theorem dX8_laysWanted_62 : decode cX8_laysWanted 62 = .ok (.iload_n 2, 1) := by decide +kernel
theorem dX8_laysWanted_63 : decode cX8_laysWanted 63 = .ok (.invokevirtual 125, 3) := by decide +kernel
theorem dX8_laysWanted_66 : decode cX8_laysWanted 66 = .ok (.if_icmp .ge 16, 3) := by decide +kernel
theorem dX8_laysWanted_69 : decode cX8_laysWanted 69 = .ok (.aload_n 0, 1) := by decide +kernel
theorem dX8_laysWanted_70 : decode cX8_laysWanted 70 = .ok (.iload_n 2, 1) := by decide +kernel
theorem dX8_laysWanted_71 : decode cX8_laysWanted 71 = .ok (.iload_n 3, 1) := by decide +kernel
theorem dX8_laysWanted_72 : decode cX8_laysWanted 72 = .ok (.invokevirtual 97, 3) := by decide +kernel
theorem dX8_laysWanted_75 : decode cX8_laysWanted 75 = .ok (.ifCond .ne 7, 3) := by decide +kernel
theorem dX8_laysWanted_78 : decode cX8_laysWanted 78 = .ok (.iconst 1, 1) := by decide +kernel
theorem dX8_laysWanted_79 : decode cX8_laysWanted 79 = .ok (.goto 4, 3) := by decide +kernel
theorem dX8_laysWanted_82 : decode cX8_laysWanted 82 = .ok (.iconst 0, 1) := by decide +kernel
theorem dX8_laysWanted_83 : decode cX8_laysWanted 83 = .ok (.istore 5, 2) := by decide +kernel
theorem dX8_laysWanted_85 : decode cX8_laysWanted 85 = .ok (.iload 5, 2) := by decide +kernel
theorem dX8_laysWanted_87 : decode cX8_laysWanted 87 = .ok (.ifCond .eq 45, 3) := by decide +kernel
theorem dX8_laysWanted_90 : decode cX8_laysWanted 90 = .ok (.aload_n 0, 1) := by decide +kernel
theorem dX8_laysWanted_91 : decode cX8_laysWanted 91 = .ok (.getfield 31, 3) := by decide +kernel
theorem dX8_laysWanted_94 : decode cX8_laysWanted 94 = .ok (.iload_n 2, 1) := by decide +kernel
theorem dX8_laysWanted_95 : decode cX8_laysWanted 95 = .ok (.iload_n 3, 1) := by decide +kernel
theorem dX8_laysWanted_96 : decode cX8_laysWanted 96 = .ok (.iload 4, 2) := by decide +kernel
theorem dX8_laysWanted_98 : decode cX8_laysWanted 98 = .ok (.invokestatic 121, 3) := by decide +kernel
theorem dX8_laysWanted_101 : decode cX8_laysWanted 101 = .ok (.iaload, 1) := by decide +kernel
theorem dX8_laysWanted_102 : decode cX8_laysWanted 102 = .ok (.iconst (-1), 1) := by decide +kernel
theorem dX8_laysWanted_103 : decode cX8_laysWanted 103 = .ok (.if_icmp .ne 29, 3) := by decide +kernel
theorem dX8_laysWanted_106 : decode cX8_laysWanted 106 = .ok (.aload_n 0, 1) := by decide +kernel
theorem dX8_laysWanted_107 : decode cX8_laysWanted 107 = .ok (.getfield 63, 3) := by decide +kernel
theorem dX8_laysWanted_110 : decode cX8_laysWanted 110 = .ok (.aload_n 0, 1) := by decide +kernel
theorem dX8_laysWanted_111 : decode cX8_laysWanted 111 = .ok (.getfield 128, 3) := by decide +kernel
theorem dX8_laysWanted_114 : decode cX8_laysWanted 114 = .ok (.iload_n 2, 1) := by decide +kernel
theorem dX8_laysWanted_115 : decode cX8_laysWanted 115 = .ok (.iload_n 3, 1) := by decide +kernel
theorem dX8_laysWanted_116 : decode cX8_laysWanted 116 = .ok (.iload 4, 2) := by decide +kernel
theorem dX8_laysWanted_118 : decode cX8_laysWanted 118 = .ok (.invokestatic 121, 3) := by decide +kernel
theorem dX8_laysWanted_121 : decode cX8_laysWanted 121 = .ok (.iastore, 1) := by decide +kernel
theorem dX8_laysWanted_122 : decode cX8_laysWanted 122 = .ok (.aload_n 0, 1) := by decide +kernel
theorem dX8_laysWanted_123 : decode cX8_laysWanted 123 = .ok (.dup, 1) := by decide +kernel
theorem dX8_laysWanted_124 : decode cX8_laysWanted 124 = .ok (.getfield 128, 3) := by decide +kernel
theorem dX8_laysWanted_127 : decode cX8_laysWanted 127 = .ok (.iconst 1, 1) := by decide +kernel
theorem dX8_laysWanted_128 : decode cX8_laysWanted 128 = .ok (.iadd, 1) := by decide +kernel
theorem dX8_laysWanted_129 : decode cX8_laysWanted 129 = .ok (.putfield 128, 3) := by decide +kernel
theorem dX8_laysWanted_132 : decode cX8_laysWanted 132 = .ok (.iinc 1 1, 3) := by decide +kernel
theorem dX8_laysWanted_135 : decode cX8_laysWanted 135 = .ok (.goto (-124), 3) := by decide +kernel
theorem dX8_laysWanted_138 : decode cX8_laysWanted 138 = .ok (.return_, 1) := by decide +kernel
theorem dX8_lackingOf_0 : decode cX8_lackingOf 0 = .ok (.iconst 0, 1) := by decide +kernel
theorem dX8_lackingOf_1 : decode cX8_lackingOf 1 = .ok (.istore_n 2, 1) := by decide +kernel
theorem dX8_lackingOf_2 : decode cX8_lackingOf 2 = .ok (.iconst 0, 1) := by decide +kernel
theorem dX8_lackingOf_3 : decode cX8_lackingOf 3 = .ok (.istore_n 3, 1) := by decide +kernel
theorem dX8_lackingOf_4 : decode cX8_lackingOf 4 = .ok (.iload_n 3, 1) := by decide +kernel
theorem dX8_lackingOf_5 : decode cX8_lackingOf 5 = .ok (.aload_n 0, 1) := by decide +kernel
theorem dX8_lackingOf_6 : decode cX8_lackingOf 6 = .ok (.getfield 128, 3) := by decide +kernel
theorem dX8_lackingOf_9 : decode cX8_lackingOf 9 = .ok (.if_icmp .ge 32, 3) := by decide +kernel
theorem dX8_lackingOf_12 : decode cX8_lackingOf 12 = .ok (.iload_n 2, 1) := by decide +kernel
theorem dX8_lackingOf_13 : decode cX8_lackingOf 13 = .ok (.aload_n 0, 1) := by decide +kernel
theorem dX8_lackingOf_14 : decode cX8_lackingOf 14 = .ok (.getfield 63, 3) := by decide +kernel
theorem dX8_lackingOf_17 : decode cX8_lackingOf 17 = .ok (.iload_n 3, 1) := by decide +kernel
theorem dX8_lackingOf_18 : decode cX8_lackingOf 18 = .ok (.iaload, 1) := by decide +kernel
theorem dX8_lackingOf_19 : decode cX8_lackingOf 19 = .ok (.bipush 43, 2) := by decide +kernel
theorem dX8_lackingOf_21 : decode cX8_lackingOf 21 = .ok (.idiv, 1) := by decide +kernel
theorem dX8_lackingOf_22 : decode cX8_lackingOf 22 = .ok (.iconst 3, 1) := by decide +kernel
theorem dX8_lackingOf_23 : decode cX8_lackingOf 23 = .ok (.idiv, 1) := by decide +kernel
theorem dX8_lackingOf_24 : decode cX8_lackingOf 24 = .ok (.iload_n 1, 1) := by decide +kernel
theorem dX8_lackingOf_25 : decode cX8_lackingOf 25 = .ok (.if_icmp .ne 7, 3) := by decide +kernel
theorem dX8_lackingOf_28 : decode cX8_lackingOf 28 = .ok (.iconst 1, 1) := by decide +kernel
theorem dX8_lackingOf_29 : decode cX8_lackingOf 29 = .ok (.goto 4, 3) := by decide +kernel
theorem dX8_lackingOf_32 : decode cX8_lackingOf 32 = .ok (.iconst 0, 1) := by decide +kernel
theorem dX8_lackingOf_33 : decode cX8_lackingOf 33 = .ok (.iadd, 1) := by decide +kernel
theorem dX8_lackingOf_34 : decode cX8_lackingOf 34 = .ok (.istore_n 2, 1) := by decide +kernel
theorem dX8_lackingOf_35 : decode cX8_lackingOf 35 = .ok (.iinc 3 1, 3) := by decide +kernel
theorem dX8_lackingOf_38 : decode cX8_lackingOf 38 = .ok (.goto (-34), 3) := by decide +kernel
theorem dX8_lackingOf_41 : decode cX8_lackingOf 41 = .ok (.iload_n 2, 1) := by decide +kernel
theorem dX8_lackingOf_42 : decode cX8_lackingOf 42 = .ok (.ireturn, 1) := by decide +kernel
theorem dX8_lacking_0 : decode cX8_lacking 0 = .ok (.aload_n 0, 1) := by decide +kernel
theorem dX8_lacking_1 : decode cX8_lacking 1 = .ok (.aload_n 0, 1) := by decide +kernel
theorem dX8_lacking_2 : decode cX8_lacking 2 = .ok (.iload_n 1, 1) := by decide +kernel
theorem dX8_lacking_3 : decode cX8_lacking 3 = .ok (.invokevirtual 82, 3) := by decide +kernel
theorem dX8_lacking_6 : decode cX8_lacking 6 = .ok (.ifCond .eq 7, 3) := by decide +kernel
theorem dX8_lacking_9 : decode cX8_lacking 9 = .ok (.iconst 0, 1) := by decide +kernel
theorem dX8_lacking_10 : decode cX8_lacking 10 = .ok (.goto 4, 3) := by decide +kernel
theorem dX8_lacking_13 : decode cX8_lacking 13 = .ok (.iconst 1, 1) := by decide +kernel
theorem dX8_lacking_14 : decode cX8_lacking 14 = .ok (.invokevirtual 109, 3) := by decide +kernel
theorem dX8_lacking_17 : decode cX8_lacking 17 = .ok (.ifCond .ne 5, 3) := by decide +kernel
theorem dX8_lacking_20 : decode cX8_lacking 20 = .ok (.iconst 0, 1) := by decide +kernel
theorem dX8_lacking_21 : decode cX8_lacking 21 = .ok (.ireturn, 1) := by decide +kernel
theorem dX8_lacking_22 : decode cX8_lacking 22 = .ok (.aload_n 0, 1) := by decide +kernel
theorem dX8_lacking_23 : decode cX8_lacking 23 = .ok (.invokevirtual 134, 3) := by decide +kernel
theorem dX8_lacking_26 : decode cX8_lacking 26 = .ok (.aload_n 0, 1) := by decide +kernel
theorem dX8_lacking_27 : decode cX8_lacking 27 = .ok (.iload_n 1, 1) := by decide +kernel
theorem dX8_lacking_28 : decode cX8_lacking 28 = .ok (.invokevirtual 137, 3) := by decide +kernel
theorem dX8_lacking_31 : decode cX8_lacking 31 = .ok (.ireturn, 1) := by decide +kernel
theorem dX8_waits_0 : decode cX8_waits 0 = .ok (.aload_n 0, 1) := by decide +kernel
theorem dX8_waits_1 : decode cX8_waits 1 = .ok (.aload_n 0, 1) := by decide +kernel
theorem dX8_waits_2 : decode cX8_waits 2 = .ok (.iload_n 1, 1) := by decide +kernel
theorem dX8_waits_3 : decode cX8_waits 3 = .ok (.invokevirtual 82, 3) := by decide +kernel
theorem dX8_waits_6 : decode cX8_waits 6 = .ok (.ifCond .eq 7, 3) := by decide +kernel
theorem dX8_waits_9 : decode cX8_waits 9 = .ok (.iconst 0, 1) := by decide +kernel
theorem dX8_waits_10 : decode cX8_waits 10 = .ok (.goto 4, 3) := by decide +kernel
theorem dX8_waits_13 : decode cX8_waits 13 = .ok (.iconst 1, 1) := by decide +kernel
theorem dX8_waits_14 : decode cX8_waits 14 = .ok (.invokevirtual 109, 3) := by decide +kernel
theorem dX8_waits_17 : decode cX8_waits 17 = .ok (.ifCond .ne 5, 3) := by decide +kernel
theorem dX8_waits_20 : decode cX8_waits 20 = .ok (.iconst 0, 1) := by decide +kernel
theorem dX8_waits_21 : decode cX8_waits 21 = .ok (.ireturn, 1) := by decide +kernel
theorem dX8_waits_22 : decode cX8_waits 22 = .ok (.aload_n 0, 1) := by decide +kernel
theorem dX8_waits_23 : decode cX8_waits 23 = .ok (.invokevirtual 134, 3) := by decide +kernel
theorem dX8_waits_26 : decode cX8_waits 26 = .ok (.iconst (-1), 1) := by decide +kernel
theorem dX8_waits_27 : decode cX8_waits 27 = .ok (.istore_n 2, 1) := by decide +kernel
theorem dX8_waits_28 : decode cX8_waits 28 = .ok (.iconst 0, 1) := by decide +kernel
theorem dX8_waits_29 : decode cX8_waits 29 = .ok (.istore_n 3, 1) := by decide +kernel
theorem dX8_waits_30 : decode cX8_waits 30 = .ok (.iload_n 3, 1) := by decide +kernel
theorem dX8_waits_31 : decode cX8_waits 31 = .ok (.aload_n 0, 1) := by decide +kernel
theorem dX8_waits_32 : decode cX8_waits 32 = .ok (.getfield 128, 3) := by decide +kernel
theorem dX8_waits_35 : decode cX8_waits 35 = .ok (.if_icmp .ge 30, 3) := by decide +kernel
theorem dX8_waits_38 : decode cX8_waits 38 = .ok (.aload_n 0, 1) := by decide +kernel
theorem dX8_waits_39 : decode cX8_waits 39 = .ok (.getfield 63, 3) := by decide +kernel
theorem dX8_waits_42 : decode cX8_waits 42 = .ok (.iload_n 3, 1) := by decide +kernel
theorem dX8_waits_43 : decode cX8_waits 43 = .ok (.iaload, 1) := by decide +kernel
theorem dX8_waits_44 : decode cX8_waits 44 = .ok (.bipush 43, 2) := by decide +kernel
theorem dX8_waits_46 : decode cX8_waits 46 = .ok (.idiv, 1) := by decide +kernel
theorem dX8_waits_47 : decode cX8_waits 47 = .ok (.iconst 3, 1) := by decide +kernel
theorem dX8_waits_48 : decode cX8_waits 48 = .ok (.idiv, 1) := by decide +kernel
theorem dX8_waits_49 : decode cX8_waits 49 = .ok (.iload_n 1, 1) := by decide +kernel
theorem dX8_waits_50 : decode cX8_waits 50 = .ok (.if_icmp .ne 7, 3) := by decide +kernel
theorem dX8_waits_53 : decode cX8_waits 53 = .ok (.iload_n 3, 1) := by decide +kernel
theorem dX8_waits_54 : decode cX8_waits 54 = .ok (.goto 4, 3) := by decide +kernel
theorem dX8_waits_57 : decode cX8_waits 57 = .ok (.iload_n 2, 1) := by decide +kernel
theorem dX8_waits_58 : decode cX8_waits 58 = .ok (.istore_n 2, 1) := by decide +kernel
theorem dX8_waits_59 : decode cX8_waits 59 = .ok (.iinc 3 1, 3) := by decide +kernel
theorem dX8_waits_62 : decode cX8_waits 62 = .ok (.goto (-32), 3) := by decide +kernel
theorem dX8_waits_65 : decode cX8_waits 65 = .ok (.iload_n 2, 1) := by decide +kernel
theorem dX8_waits_66 : decode cX8_waits 66 = .ok (.iconst (-1), 1) := by decide +kernel
theorem dX8_waits_67 : decode cX8_waits 67 = .ok (.if_icmp .ne 7, 3) := by decide +kernel
theorem dX8_waits_70 : decode cX8_waits 70 = .ok (.iconst 0, 1) := by decide +kernel
theorem dX8_waits_71 : decode cX8_waits 71 = .ok (.goto 9, 3) := by decide +kernel
theorem dX8_waits_74 : decode cX8_waits 74 = .ok (.iload_n 2, 1) := by decide +kernel
theorem dX8_waits_75 : decode cX8_waits 75 = .ok (.bipush 8, 2) := by decide +kernel
theorem dX8_waits_77 : decode cX8_waits 77 = .ok (.idiv, 1) := by decide +kernel
theorem dX8_waits_78 : decode cX8_waits 78 = .ok (.iconst 1, 1) := by decide +kernel
theorem dX8_waits_79 : decode cX8_waits 79 = .ok (.iadd, 1) := by decide +kernel
theorem dX8_waits_80 : decode cX8_waits 80 = .ok (.ireturn, 1) := by decide +kernel
theorem dX8_unfolded_0 : decode cX8_unfolded 0 = .ok (.iconst 0, 1) := by decide +kernel
theorem dX8_unfolded_1 : decode cX8_unfolded 1 = .ok (.istore_n 2, 1) := by decide +kernel
theorem dX8_unfolded_2 : decode cX8_unfolded 2 = .ok (.iconst 0, 1) := by decide +kernel
theorem dX8_unfolded_3 : decode cX8_unfolded 3 = .ok (.istore_n 3, 1) := by decide +kernel
theorem dX8_unfolded_4 : decode cX8_unfolded 4 = .ok (.iconst 1, 1) := by decide +kernel
theorem dX8_unfolded_5 : decode cX8_unfolded 5 = .ok (.istore 4, 2) := by decide +kernel
theorem dX8_unfolded_7 : decode cX8_unfolded 7 = .ok (.iconst 1, 1) := by decide +kernel
theorem dX8_unfolded_8 : decode cX8_unfolded 8 = .ok (.istore 5, 2) := by decide +kernel
theorem dX8_unfolded_10 : decode cX8_unfolded 10 = .ok (.iload_n 1, 1) := by decide +kernel
theorem dX8_unfolded_11 : decode cX8_unfolded 11 = .ok (.istore 6, 2) := by decide +kernel
theorem dX8_unfolded_13 : decode cX8_unfolded 13 = .ok (.bipush 8, 2) := by decide +kernel
theorem dX8_unfolded_15 : decode cX8_unfolded 15 = .ok (.istore 7, 2) := by decide +kernel
theorem dX8_unfolded_17 : decode cX8_unfolded 17 = .ok (.iconst 2, 1) := by decide +kernel
theorem dX8_unfolded_18 : decode cX8_unfolded 18 = .ok (.istore 8, 2) := by decide +kernel
theorem dX8_unfolded_20 : decode cX8_unfolded 20 = .ok (.iload 8, 2) := by decide +kernel
theorem dX8_unfolded_22 : decode cX8_unfolded 22 = .ok (.ifCond .lt 153, 3) := by decide +kernel
theorem dX8_unfolded_25 : decode cX8_unfolded 25 = .ok (.aload_n 0, 1) := by decide +kernel
theorem dX8_unfolded_26 : decode cX8_unfolded 26 = .ok (.getfield 40, 3) := by decide +kernel
theorem dX8_unfolded_29 : decode cX8_unfolded 29 = .ok (.iload 8, 2) := by decide +kernel
theorem dX8_unfolded_31 : decode cX8_unfolded 31 = .ok (.iaload, 1) := by decide +kernel
theorem dX8_unfolded_32 : decode cX8_unfolded 32 = .ok (.istore 9, 2) := by decide +kernel
theorem dX8_unfolded_34 : decode cX8_unfolded 34 = .ok (.iload 7, 2) := by decide +kernel
theorem dX8_unfolded_36 : decode cX8_unfolded 36 = .ok (.iconst 2, 1) := by decide +kernel
theorem dX8_unfolded_37 : decode cX8_unfolded 37 = .ok (.idiv, 1) := by decide +kernel
theorem dX8_unfolded_38 : decode cX8_unfolded 38 = .ok (.istore 7, 2) := by decide +kernel
theorem dX8_unfolded_40 : decode cX8_unfolded 40 = .ok (.iload 6, 2) := by decide +kernel
theorem dX8_unfolded_42 : decode cX8_unfolded 42 = .ok (.iload 7, 2) := by decide +kernel
theorem dX8_unfolded_44 : decode cX8_unfolded 44 = .ok (.if_icmp .ge 7, 3) := by decide +kernel
theorem dX8_unfolded_47 : decode cX8_unfolded 47 = .ok (.iconst 1, 1) := by decide +kernel
theorem dX8_unfolded_48 : decode cX8_unfolded 48 = .ok (.goto 4, 3) := by decide +kernel
theorem dX8_unfolded_51 : decode cX8_unfolded 51 = .ok (.iconst 0, 1) := by decide +kernel
theorem dX8_unfolded_52 : decode cX8_unfolded 52 = .ok (.istore 10, 2) := by decide +kernel
theorem dX8_unfolded_54 : decode cX8_unfolded 54 = .ok (.iload 10, 2) := by decide +kernel
theorem dX8_unfolded_56 : decode cX8_unfolded 56 = .ok (.ifCond .eq 13, 3) := by decide +kernel
theorem dX8_unfolded_59 : decode cX8_unfolded 59 = .ok (.iload 7, 2) := by decide +kernel
theorem dX8_unfolded_61 : decode cX8_unfolded 61 = .ok (.iconst 1, 1) := by decide +kernel
theorem dX8_unfolded_62 : decode cX8_unfolded 62 = .ok (.isub, 1) := by decide +kernel
theorem dX8_unfolded_63 : decode cX8_unfolded 63 = .ok (.iload 6, 2) := by decide +kernel
theorem dX8_unfolded_65 : decode cX8_unfolded 65 = .ok (.isub, 1) := by decide +kernel
theorem dX8_unfolded_66 : decode cX8_unfolded 66 = .ok (.goto 8, 3) := by decide +kernel
theorem dX8_unfolded_69 : decode cX8_unfolded 69 = .ok (.iload 6, 2) := by decide +kernel
theorem dX8_unfolded_71 : decode cX8_unfolded 71 = .ok (.iload 7, 2) := by decide +kernel
theorem dX8_unfolded_73 : decode cX8_unfolded 73 = .ok (.isub, 1) := by decide +kernel
theorem dX8_unfolded_74 : decode cX8_unfolded 74 = .ok (.istore 6, 2) := by decide +kernel
theorem dX8_unfolded_76 : decode cX8_unfolded 76 = .ok (.iload 9, 2) := by decide +kernel
theorem dX8_unfolded_78 : decode cX8_unfolded 78 = .ok (.iconst 2, 1) := by decide +kernel
theorem dX8_unfolded_79 : decode cX8_unfolded 79 = .ok (.if_icmp .ge 48, 3) := by decide +kernel
theorem dX8_unfolded_82 : decode cX8_unfolded 82 = .ok (.iload 9, 2) := by decide +kernel
theorem dX8_unfolded_84 : decode cX8_unfolded 84 = .ok (.iconst 1, 1) := by decide +kernel
theorem dX8_unfolded_85 : decode cX8_unfolded 85 = .ok (.if_icmp .ne 7, 3) := by decide +kernel
theorem dX8_unfolded_88 : decode cX8_unfolded 88 = .ok (.iload_n 3, 1) := by decide +kernel
theorem dX8_unfolded_89 : decode cX8_unfolded 89 = .ok (.goto 7, 3) := by decide +kernel
theorem dX8_unfolded_92 : decode cX8_unfolded 92 = .ok (.iload 5, 2) := by decide +kernel
theorem dX8_unfolded_94 : decode cX8_unfolded 94 = .ok (.iload_n 3, 1) := by decide +kernel
theorem dX8_unfolded_95 : decode cX8_unfolded 95 = .ok (.iadd, 1) := by decide +kernel
theorem dX8_unfolded_96 : decode cX8_unfolded 96 = .ok (.istore 11, 2) := by decide +kernel
theorem dX8_unfolded_98 : decode cX8_unfolded 98 = .ok (.iload 10, 2) := by decide +kernel
theorem dX8_unfolded_100 : decode cX8_unfolded 100 = .ok (.ifCond .eq 15, 3) := by decide +kernel
theorem dX8_unfolded_103 : decode cX8_unfolded 103 = .ok (.iconst 2, 1) := by decide +kernel
theorem dX8_unfolded_104 : decode cX8_unfolded 104 = .ok (.iload 5, 2) := by decide +kernel
theorem dX8_unfolded_106 : decode cX8_unfolded 106 = .ok (.imul, 1) := by decide +kernel
theorem dX8_unfolded_107 : decode cX8_unfolded 107 = .ok (.iconst 1, 1) := by decide +kernel
theorem dX8_unfolded_108 : decode cX8_unfolded 108 = .ok (.isub, 1) := by decide +kernel
theorem dX8_unfolded_109 : decode cX8_unfolded 109 = .ok (.iload 11, 2) := by decide +kernel
theorem dX8_unfolded_111 : decode cX8_unfolded 111 = .ok (.isub, 1) := by decide +kernel
theorem dX8_unfolded_112 : decode cX8_unfolded 112 = .ok (.goto 5, 3) := by decide +kernel
theorem dX8_unfolded_115 : decode cX8_unfolded 115 = .ok (.iload 11, 2) := by decide +kernel
theorem dX8_unfolded_117 : decode cX8_unfolded 117 = .ok (.istore_n 3, 1) := by decide +kernel
theorem dX8_unfolded_118 : decode cX8_unfolded 118 = .ok (.iload 5, 2) := by decide +kernel
theorem dX8_unfolded_120 : decode cX8_unfolded 120 = .ok (.iconst 2, 1) := by decide +kernel
theorem dX8_unfolded_121 : decode cX8_unfolded 121 = .ok (.imul, 1) := by decide +kernel
theorem dX8_unfolded_122 : decode cX8_unfolded 122 = .ok (.istore 5, 2) := by decide +kernel
theorem dX8_unfolded_124 : decode cX8_unfolded 124 = .ok (.goto 45, 3) := by decide +kernel
theorem dX8_unfolded_127 : decode cX8_unfolded 127 = .ok (.iload 9, 2) := by decide +kernel
theorem dX8_unfolded_129 : decode cX8_unfolded 129 = .ok (.iconst 2, 1) := by decide +kernel
theorem dX8_unfolded_130 : decode cX8_unfolded 130 = .ok (.if_icmp .ne 7, 3) := by decide +kernel
theorem dX8_unfolded_133 : decode cX8_unfolded 133 = .ok (.iload_n 2, 1) := by decide +kernel
theorem dX8_unfolded_134 : decode cX8_unfolded 134 = .ok (.goto 7, 3) := by decide +kernel
theorem dX8_unfolded_137 : decode cX8_unfolded 137 = .ok (.iload 4, 2) := by decide +kernel
theorem dX8_unfolded_139 : decode cX8_unfolded 139 = .ok (.iload_n 2, 1) := by decide +kernel
theorem dX8_unfolded_140 : decode cX8_unfolded 140 = .ok (.iadd, 1) := by decide +kernel
theorem dX8_unfolded_141 : decode cX8_unfolded 141 = .ok (.istore 11, 2) := by decide +kernel
theorem dX8_unfolded_143 : decode cX8_unfolded 143 = .ok (.iload 10, 2) := by decide +kernel
theorem dX8_unfolded_145 : decode cX8_unfolded 145 = .ok (.ifCond .eq 15, 3) := by decide +kernel
theorem dX8_unfolded_148 : decode cX8_unfolded 148 = .ok (.iconst 2, 1) := by decide +kernel
theorem dX8_unfolded_149 : decode cX8_unfolded 149 = .ok (.iload 4, 2) := by decide +kernel
theorem dX8_unfolded_151 : decode cX8_unfolded 151 = .ok (.imul, 1) := by decide +kernel
theorem dX8_unfolded_152 : decode cX8_unfolded 152 = .ok (.iconst 1, 1) := by decide +kernel
theorem dX8_unfolded_153 : decode cX8_unfolded 153 = .ok (.isub, 1) := by decide +kernel
theorem dX8_unfolded_154 : decode cX8_unfolded 154 = .ok (.iload 11, 2) := by decide +kernel
theorem dX8_unfolded_156 : decode cX8_unfolded 156 = .ok (.isub, 1) := by decide +kernel
theorem dX8_unfolded_157 : decode cX8_unfolded 157 = .ok (.goto 5, 3) := by decide +kernel
theorem dX8_unfolded_160 : decode cX8_unfolded 160 = .ok (.iload 11, 2) := by decide +kernel
theorem dX8_unfolded_162 : decode cX8_unfolded 162 = .ok (.istore_n 2, 1) := by decide +kernel
theorem dX8_unfolded_163 : decode cX8_unfolded 163 = .ok (.iload 4, 2) := by decide +kernel
theorem dX8_unfolded_165 : decode cX8_unfolded 165 = .ok (.iconst 2, 1) := by decide +kernel
theorem dX8_unfolded_166 : decode cX8_unfolded 166 = .ok (.imul, 1) := by decide +kernel
theorem dX8_unfolded_167 : decode cX8_unfolded 167 = .ok (.istore 4, 2) := by decide +kernel
theorem dX8_unfolded_169 : decode cX8_unfolded 169 = .ok (.iinc 8 (-1), 3) := by decide +kernel
theorem dX8_unfolded_172 : decode cX8_unfolded 172 = .ok (.goto (-152), 3) := by decide +kernel
theorem dX8_unfolded_175 : decode cX8_unfolded 175 = .ok (.iconst 4, 1) := by decide +kernel
theorem dX8_unfolded_176 : decode cX8_unfolded 176 = .ok (.iload_n 2, 1) := by decide +kernel
theorem dX8_unfolded_177 : decode cX8_unfolded 177 = .ok (.imul, 1) := by decide +kernel
theorem dX8_unfolded_178 : decode cX8_unfolded 178 = .ok (.iload_n 3, 1) := by decide +kernel
theorem dX8_unfolded_179 : decode cX8_unfolded 179 = .ok (.iadd, 1) := by decide +kernel
theorem dX8_unfolded_180 : decode cX8_unfolded 180 = .ok (.ireturn, 1) := by decide +kernel
theorem dX8_laysCells_0 : decode cX8_laysCells 0 = .ok (.iconst 0, 1) := by decide +kernel
theorem dX8_laysCells_1 : decode cX8_laysCells 1 = .ok (.istore_n 1, 1) := by decide +kernel
theorem dX8_laysCells_2 : decode cX8_laysCells 2 = .ok (.iload_n 1, 1) := by decide +kernel
theorem dX8_laysCells_3 : decode cX8_laysCells 3 = .ok (.bipush 8, 2) := by decide +kernel
theorem dX8_laysCells_5 : decode cX8_laysCells 5 = .ok (.if_icmp .ge 20, 3) := by decide +kernel
theorem dX8_laysCells_8 : decode cX8_laysCells 8 = .ok (.aload_n 0, 1) := by decide +kernel
theorem dX8_laysCells_9 : decode cX8_laysCells 9 = .ok (.getfield 43, 3) := by decide +kernel
theorem dX8_laysCells_12 : decode cX8_laysCells 12 = .ok (.iload_n 1, 1) := by decide +kernel
theorem dX8_laysCells_13 : decode cX8_laysCells 13 = .ok (.aload_n 0, 1) := by decide +kernel
theorem dX8_laysCells_14 : decode cX8_laysCells 14 = .ok (.iload_n 1, 1) := by decide +kernel
theorem dX8_laysCells_15 : decode cX8_laysCells 15 = .ok (.invokevirtual 140, 3) := by decide +kernel
theorem dX8_laysCells_18 : decode cX8_laysCells 18 = .ok (.iastore, 1) := by decide +kernel
theorem dX8_laysCells_19 : decode cX8_laysCells 19 = .ok (.iinc 1 1, 3) := by decide +kernel
theorem dX8_laysCells_22 : decode cX8_laysCells 22 = .ok (.goto (-20), 3) := by decide +kernel
theorem dX8_laysCells_25 : decode cX8_laysCells 25 = .ok (.return_, 1) := by decide +kernel
theorem dX8_setFolds_0 : decode cX8_setFolds 0 = .ok (.iload_n 1, 1) := by decide +kernel
theorem dX8_setFolds_1 : decode cX8_setFolds 1 = .ok (.iconst 0, 1) := by decide +kernel
theorem dX8_setFolds_2 : decode cX8_setFolds 2 = .ok (.iconst 3, 1) := by decide +kernel
theorem dX8_setFolds_3 : decode cX8_setFolds 3 = .ok (.invokestatic 75, 3) := by decide +kernel
theorem dX8_setFolds_6 : decode cX8_setFolds 6 = .ok (.ifCond .eq 25, 3) := by decide +kernel
theorem dX8_setFolds_9 : decode cX8_setFolds 9 = .ok (.iload_n 2, 1) := by decide +kernel
theorem dX8_setFolds_10 : decode cX8_setFolds 10 = .ok (.iconst 0, 1) := by decide +kernel
theorem dX8_setFolds_11 : decode cX8_setFolds 11 = .ok (.iconst 3, 1) := by decide +kernel
theorem dX8_setFolds_12 : decode cX8_setFolds 12 = .ok (.invokestatic 75, 3) := by decide +kernel
theorem dX8_setFolds_15 : decode cX8_setFolds 15 = .ok (.ifCond .eq 16, 3) := by decide +kernel
theorem dX8_setFolds_18 : decode cX8_setFolds 18 = .ok (.iload_n 3, 1) := by decide +kernel
theorem dX8_setFolds_19 : decode cX8_setFolds 19 = .ok (.iconst 0, 1) := by decide +kernel
theorem dX8_setFolds_20 : decode cX8_setFolds 20 = .ok (.iconst 3, 1) := by decide +kernel
theorem dX8_setFolds_21 : decode cX8_setFolds 21 = .ok (.invokestatic 75, 3) := by decide +kernel
theorem dX8_setFolds_24 : decode cX8_setFolds 24 = .ok (.ifCond .eq 7, 3) := by decide +kernel
theorem dX8_setFolds_27 : decode cX8_setFolds 27 = .ok (.iconst 1, 1) := by decide +kernel
theorem dX8_setFolds_28 : decode cX8_setFolds 28 = .ok (.goto 4, 3) := by decide +kernel
theorem dX8_setFolds_31 : decode cX8_setFolds 31 = .ok (.iconst 0, 1) := by decide +kernel
theorem dX8_setFolds_32 : decode cX8_setFolds 32 = .ok (.istore 4, 2) := by decide +kernel
theorem dX8_setFolds_34 : decode cX8_setFolds 34 = .ok (.iload_n 1, 1) := by decide +kernel
theorem dX8_setFolds_35 : decode cX8_setFolds 35 = .ok (.iconst 2, 1) := by decide +kernel
theorem dX8_setFolds_36 : decode cX8_setFolds 36 = .ok (.if_icmp .ge 7, 3) := by decide +kernel
theorem dX8_setFolds_39 : decode cX8_setFolds 39 = .ok (.iconst 1, 1) := by decide +kernel
theorem dX8_setFolds_40 : decode cX8_setFolds 40 = .ok (.goto 4, 3) := by decide +kernel
theorem dX8_setFolds_43 : decode cX8_setFolds 43 = .ok (.iconst 0, 1) := by decide +kernel
theorem dX8_setFolds_44 : decode cX8_setFolds 44 = .ok (.iload_n 2, 1) := by decide +kernel
theorem dX8_setFolds_45 : decode cX8_setFolds 45 = .ok (.iconst 2, 1) := by decide +kernel
theorem dX8_setFolds_46 : decode cX8_setFolds 46 = .ok (.if_icmp .ge 7, 3) := by decide +kernel
theorem dX8_setFolds_49 : decode cX8_setFolds 49 = .ok (.iconst 1, 1) := by decide +kernel
theorem dX8_setFolds_50 : decode cX8_setFolds 50 = .ok (.goto 4, 3) := by decide +kernel
theorem dX8_setFolds_53 : decode cX8_setFolds 53 = .ok (.iconst 0, 1) := by decide +kernel
theorem dX8_setFolds_54 : decode cX8_setFolds 54 = .ok (.iadd, 1) := by decide +kernel
theorem dX8_setFolds_55 : decode cX8_setFolds 55 = .ok (.iload_n 3, 1) := by decide +kernel
theorem dX8_setFolds_56 : decode cX8_setFolds 56 = .ok (.iconst 2, 1) := by decide +kernel
theorem dX8_setFolds_57 : decode cX8_setFolds 57 = .ok (.if_icmp .ge 7, 3) := by decide +kernel
theorem dX8_setFolds_60 : decode cX8_setFolds 60 = .ok (.iconst 1, 1) := by decide +kernel
theorem dX8_setFolds_61 : decode cX8_setFolds 61 = .ok (.goto 4, 3) := by decide +kernel
theorem dX8_setFolds_64 : decode cX8_setFolds 64 = .ok (.iconst 0, 1) := by decide +kernel
theorem dX8_setFolds_65 : decode cX8_setFolds 65 = .ok (.iadd, 1) := by decide +kernel
theorem dX8_setFolds_66 : decode cX8_setFolds 66 = .ok (.istore 5, 2) := by decide +kernel
theorem dX8_setFolds_68 : decode cX8_setFolds 68 = .ok (.aload_n 0, 1) := by decide +kernel
theorem dX8_setFolds_69 : decode cX8_setFolds 69 = .ok (.iload 4, 2) := by decide +kernel
theorem dX8_setFolds_71 : decode cX8_setFolds 71 = .ok (.ifCond .eq 13, 3) := by decide +kernel
theorem dX8_setFolds_74 : decode cX8_setFolds 74 = .ok (.iload 5, 2) := by decide +kernel
theorem dX8_setFolds_76 : decode cX8_setFolds 76 = .ok (.iconst 2, 1) := by decide +kernel
theorem dX8_setFolds_77 : decode cX8_setFolds 77 = .ok (.if_icmp .ne 7, 3) := by decide +kernel
theorem dX8_setFolds_80 : decode cX8_setFolds 80 = .ok (.iconst 0, 1) := by decide +kernel
theorem dX8_setFolds_81 : decode cX8_setFolds 81 = .ok (.goto 4, 3) := by decide +kernel
theorem dX8_setFolds_84 : decode cX8_setFolds 84 = .ok (.iconst 1, 1) := by decide +kernel
theorem dX8_setFolds_85 : decode cX8_setFolds 85 = .ok (.invokevirtual 109, 3) := by decide +kernel
theorem dX8_setFolds_88 : decode cX8_setFolds 88 = .ok (.ifCond .eq 28, 3) := by decide +kernel
theorem dX8_setFolds_91 : decode cX8_setFolds 91 = .ok (.aload_n 0, 1) := by decide +kernel
theorem dX8_setFolds_92 : decode cX8_setFolds 92 = .ok (.getfield 40, 3) := by decide +kernel
theorem dX8_setFolds_95 : decode cX8_setFolds 95 = .ok (.iconst 0, 1) := by decide +kernel
theorem dX8_setFolds_96 : decode cX8_setFolds 96 = .ok (.iload_n 1, 1) := by decide +kernel
theorem dX8_setFolds_97 : decode cX8_setFolds 97 = .ok (.iastore, 1) := by decide +kernel
theorem dX8_setFolds_98 : decode cX8_setFolds 98 = .ok (.aload_n 0, 1) := by decide +kernel
theorem dX8_setFolds_99 : decode cX8_setFolds 99 = .ok (.getfield 40, 3) := by decide +kernel
theorem dX8_setFolds_102 : decode cX8_setFolds 102 = .ok (.iconst 1, 1) := by decide +kernel
theorem dX8_setFolds_103 : decode cX8_setFolds 103 = .ok (.iload_n 2, 1) := by decide +kernel
theorem dX8_setFolds_104 : decode cX8_setFolds 104 = .ok (.iastore, 1) := by decide +kernel
theorem dX8_setFolds_105 : decode cX8_setFolds 105 = .ok (.aload_n 0, 1) := by decide +kernel
theorem dX8_setFolds_106 : decode cX8_setFolds 106 = .ok (.getfield 40, 3) := by decide +kernel
theorem dX8_setFolds_109 : decode cX8_setFolds 109 = .ok (.iconst 2, 1) := by decide +kernel
theorem dX8_setFolds_110 : decode cX8_setFolds 110 = .ok (.iload_n 3, 1) := by decide +kernel
theorem dX8_setFolds_111 : decode cX8_setFolds 111 = .ok (.iastore, 1) := by decide +kernel
theorem dX8_setFolds_112 : decode cX8_setFolds 112 = .ok (.aload_n 0, 1) := by decide +kernel
theorem dX8_setFolds_113 : decode cX8_setFolds 113 = .ok (.invokevirtual 66, 3) := by decide +kernel
theorem dX8_setFolds_116 : decode cX8_setFolds 116 = .ok (.return_, 1) := by decide +kernel
theorem dX8_cellOf_0 : decode cX8_cellOf 0 = .ok (.aload_n 0, 1) := by decide +kernel
theorem dX8_cellOf_1 : decode cX8_cellOf 1 = .ok (.iload_n 1, 1) := by decide +kernel
theorem dX8_cellOf_2 : decode cX8_cellOf 2 = .ok (.iconst 0, 1) := by decide +kernel
theorem dX8_cellOf_3 : decode cX8_cellOf 3 = .ok (.bipush 7, 2) := by decide +kernel
theorem dX8_cellOf_5 : decode cX8_cellOf 5 = .ok (.invokestatic 75, 3) := by decide +kernel
theorem dX8_cellOf_8 : decode cX8_cellOf 8 = .ok (.ifCond .eq 7, 3) := by decide +kernel
theorem dX8_cellOf_11 : decode cX8_cellOf 11 = .ok (.iconst 0, 1) := by decide +kernel
theorem dX8_cellOf_12 : decode cX8_cellOf 12 = .ok (.goto 4, 3) := by decide +kernel
theorem dX8_cellOf_15 : decode cX8_cellOf 15 = .ok (.iconst 1, 1) := by decide +kernel
theorem dX8_cellOf_16 : decode cX8_cellOf 16 = .ok (.invokevirtual 109, 3) := by decide +kernel
theorem dX8_cellOf_19 : decode cX8_cellOf 19 = .ok (.ifCond .eq 12, 3) := by decide +kernel
theorem dX8_cellOf_22 : decode cX8_cellOf 22 = .ok (.aload_n 0, 1) := by decide +kernel
theorem dX8_cellOf_23 : decode cX8_cellOf 23 = .ok (.getfield 43, 3) := by decide +kernel
theorem dX8_cellOf_26 : decode cX8_cellOf 26 = .ok (.iload_n 1, 1) := by decide +kernel
theorem dX8_cellOf_27 : decode cX8_cellOf 27 = .ok (.iaload, 1) := by decide +kernel
theorem dX8_cellOf_28 : decode cX8_cellOf 28 = .ok (.goto 4, 3) := by decide +kernel
theorem dX8_cellOf_31 : decode cX8_cellOf 31 = .ok (.iconst 0, 1) := by decide +kernel
theorem dX8_cellOf_32 : decode cX8_cellOf 32 = .ok (.ireturn, 1) := by decide +kernel
theorem dX8_placeOf_0 : decode cX8_placeOf 0 = .ok (.iconst 0, 1) := by decide +kernel
theorem dX8_placeOf_1 : decode cX8_placeOf 1 = .ok (.istore_n 2, 1) := by decide +kernel
theorem dX8_placeOf_2 : decode cX8_placeOf 2 = .ok (.aload_n 0, 1) := by decide +kernel
theorem dX8_placeOf_3 : decode cX8_placeOf 3 = .ok (.iload_n 1, 1) := by decide +kernel
theorem dX8_placeOf_4 : decode cX8_placeOf 4 = .ok (.iconst 0, 1) := by decide +kernel
theorem dX8_placeOf_5 : decode cX8_placeOf 5 = .ok (.bipush 7, 2) := by decide +kernel
theorem dX8_placeOf_7 : decode cX8_placeOf 7 = .ok (.invokestatic 75, 3) := by decide +kernel
theorem dX8_placeOf_10 : decode cX8_placeOf 10 = .ok (.ifCond .eq 7, 3) := by decide +kernel
theorem dX8_placeOf_13 : decode cX8_placeOf 13 = .ok (.iconst 0, 1) := by decide +kernel
theorem dX8_placeOf_14 : decode cX8_placeOf 14 = .ok (.goto 4, 3) := by decide +kernel
theorem dX8_placeOf_17 : decode cX8_placeOf 17 = .ok (.iconst 1, 1) := by decide +kernel
theorem dX8_placeOf_18 : decode cX8_placeOf 18 = .ok (.invokevirtual 109, 3) := by decide +kernel
theorem dX8_placeOf_21 : decode cX8_placeOf 21 = .ok (.istore_n 3, 1) := by decide +kernel
theorem dX8_placeOf_22 : decode cX8_placeOf 22 = .ok (.iconst 0, 1) := by decide +kernel
theorem dX8_placeOf_23 : decode cX8_placeOf 23 = .ok (.istore 4, 2) := by decide +kernel
theorem dX8_placeOf_25 : decode cX8_placeOf 25 = .ok (.iload 4, 2) := by decide +kernel
theorem dX8_placeOf_27 : decode cX8_placeOf 27 = .ok (.bipush 8, 2) := by decide +kernel
theorem dX8_placeOf_29 : decode cX8_placeOf 29 = .ok (.if_icmp .ge 31, 3) := by decide +kernel
theorem dX8_placeOf_32 : decode cX8_placeOf 32 = .ok (.iload_n 3, 1) := by decide +kernel
theorem dX8_placeOf_33 : decode cX8_placeOf 33 = .ok (.ifCond .eq 27, 3) := by decide +kernel
theorem dX8_placeOf_36 : decode cX8_placeOf 36 = .ok (.aload_n 0, 1) := by decide +kernel
theorem dX8_placeOf_37 : decode cX8_placeOf 37 = .ok (.getfield 43, 3) := by decide +kernel
theorem dX8_placeOf_40 : decode cX8_placeOf 40 = .ok (.iload 4, 2) := by decide +kernel
theorem dX8_placeOf_42 : decode cX8_placeOf 42 = .ok (.iaload, 1) := by decide +kernel
theorem dX8_placeOf_43 : decode cX8_placeOf 43 = .ok (.iload_n 1, 1) := by decide +kernel
theorem dX8_placeOf_44 : decode cX8_placeOf 44 = .ok (.if_icmp .ne 8, 3) := by decide +kernel
theorem dX8_placeOf_47 : decode cX8_placeOf 47 = .ok (.iload 4, 2) := by decide +kernel
theorem dX8_placeOf_49 : decode cX8_placeOf 49 = .ok (.goto 4, 3) := by decide +kernel
theorem dX8_placeOf_52 : decode cX8_placeOf 52 = .ok (.iload_n 2, 1) := by decide +kernel
theorem dX8_placeOf_53 : decode cX8_placeOf 53 = .ok (.istore_n 2, 1) := by decide +kernel
theorem dX8_placeOf_54 : decode cX8_placeOf 54 = .ok (.iinc 4 1, 3) := by decide +kernel
theorem dX8_placeOf_57 : decode cX8_placeOf 57 = .ok (.goto (-32), 3) := by decide +kernel
theorem dX8_placeOf_60 : decode cX8_placeOf 60 = .ok (.iload_n 2, 1) := by decide +kernel
theorem dX8_placeOf_61 : decode cX8_placeOf 61 = .ok (.ireturn, 1) := by decide +kernel
theorem dX8_printsOne_0 : decode cX8_printsOne 0 = .ok (.iconst 0, 1) := by decide +kernel
theorem dX8_printsOne_1 : decode cX8_printsOne 1 = .ok (.istore_n 2, 1) := by decide +kernel
theorem dX8_printsOne_2 : decode cX8_printsOne 2 = .ok (.iload_n 2, 1) := by decide +kernel
theorem dX8_printsOne_3 : decode cX8_printsOne 3 = .ok (.bipush 8, 2) := by decide +kernel
theorem dX8_printsOne_5 : decode cX8_printsOne 5 = .ok (.if_icmp .ge 24, 3) := by decide +kernel
theorem dX8_printsOne_8 : decode cX8_printsOne 8 = .ok (.aload_n 0, 1) := by decide +kernel
theorem dX8_printsOne_9 : decode cX8_printsOne 9 = .ok (.getfield 46, 3) := by decide +kernel
theorem dX8_printsOne_12 : decode cX8_printsOne 12 = .ok (.bipush 8, 2) := by decide +kernel
theorem dX8_printsOne_14 : decode cX8_printsOne 14 = .ok (.aload_n 0, 1) := by decide +kernel
theorem dX8_printsOne_15 : decode cX8_printsOne 15 = .ok (.getfield 143, 3) := by decide +kernel
theorem dX8_printsOne_18 : decode cX8_printsOne 18 = .ok (.imul, 1) := by decide +kernel
theorem dX8_printsOne_19 : decode cX8_printsOne 19 = .ok (.iload_n 2, 1) := by decide +kernel
theorem dX8_printsOne_20 : decode cX8_printsOne 20 = .ok (.iadd, 1) := by decide +kernel
theorem dX8_printsOne_21 : decode cX8_printsOne 21 = .ok (.iconst (-1), 1) := by decide +kernel
theorem dX8_printsOne_22 : decode cX8_printsOne 22 = .ok (.iastore, 1) := by decide +kernel
theorem dX8_printsOne_23 : decode cX8_printsOne 23 = .ok (.iinc 2 1, 3) := by decide +kernel
theorem dX8_printsOne_26 : decode cX8_printsOne 26 = .ok (.goto (-24), 3) := by decide +kernel
theorem dX8_printsOne_29 : decode cX8_printsOne 29 = .ok (.iconst 0, 1) := by decide +kernel
theorem dX8_printsOne_30 : decode cX8_printsOne 30 = .ok (.istore_n 2, 1) := by decide +kernel
theorem dX8_printsOne_31 : decode cX8_printsOne 31 = .ok (.iload_n 2, 1) := by decide +kernel
theorem dX8_printsOne_32 : decode cX8_printsOne 32 = .ok (.bipush 8, 2) := by decide +kernel
theorem dX8_printsOne_34 : decode cX8_printsOne 34 = .ok (.if_icmp .ge 117, 3) := by decide +kernel
theorem dX8_printsOne_37 : decode cX8_printsOne 37 = .ok (.iload_n 1, 1) := by decide +kernel
theorem dX8_printsOne_38 : decode cX8_printsOne 38 = .ok (.iload_n 2, 1) := by decide +kernel
theorem dX8_printsOne_39 : decode cX8_printsOne 39 = .ok (.iadd, 1) := by decide +kernel
theorem dX8_printsOne_40 : decode cX8_printsOne 40 = .ok (.aload_n 0, 1) := by decide +kernel
theorem dX8_printsOne_41 : decode cX8_printsOne 41 = .ok (.getfield 128, 3) := by decide +kernel
theorem dX8_printsOne_44 : decode cX8_printsOne 44 = .ok (.if_icmp .ge 107, 3) := by decide +kernel
theorem dX8_printsOne_47 : decode cX8_printsOne 47 = .ok (.aload_n 0, 1) := by decide +kernel
theorem dX8_printsOne_48 : decode cX8_printsOne 48 = .ok (.getfield 63, 3) := by decide +kernel
theorem dX8_printsOne_51 : decode cX8_printsOne 51 = .ok (.iload_n 1, 1) := by decide +kernel
theorem dX8_printsOne_52 : decode cX8_printsOne 52 = .ok (.iload_n 2, 1) := by decide +kernel
theorem dX8_printsOne_53 : decode cX8_printsOne 53 = .ok (.iadd, 1) := by decide +kernel
theorem dX8_printsOne_54 : decode cX8_printsOne 54 = .ok (.iaload, 1) := by decide +kernel
theorem dX8_printsOne_55 : decode cX8_printsOne 55 = .ok (.istore_n 3, 1) := by decide +kernel
theorem dX8_printsOne_56 : decode cX8_printsOne 56 = .ok (.iload_n 3, 1) := by decide +kernel
theorem dX8_printsOne_57 : decode cX8_printsOne 57 = .ok (.bipush 43, 2) := by decide +kernel
theorem dX8_printsOne_59 : decode cX8_printsOne 59 = .ok (.idiv, 1) := by decide +kernel
theorem dX8_printsOne_60 : decode cX8_printsOne 60 = .ok (.iconst 3, 1) := by decide +kernel
theorem dX8_printsOne_61 : decode cX8_printsOne 61 = .ok (.idiv, 1) := by decide +kernel
theorem dX8_printsOne_62 : decode cX8_printsOne 62 = .ok (.istore 4, 2) := by decide +kernel
theorem dX8_printsOne_64 : decode cX8_printsOne 64 = .ok (.iload_n 3, 1) := by decide +kernel
theorem dX8_printsOne_65 : decode cX8_printsOne 65 = .ok (.bipush 43, 2) := by decide +kernel
theorem dX8_printsOne_67 : decode cX8_printsOne 67 = .ok (.irem, 1) := by decide +kernel
theorem dX8_printsOne_68 : decode cX8_printsOne 68 = .ok (.istore 5, 2) := by decide +kernel
theorem dX8_printsOne_70 : decode cX8_printsOne 70 = .ok (.aload_n 0, 1) := by decide +kernel
theorem dX8_printsOne_71 : decode cX8_printsOne 71 = .ok (.getfield 31, 3) := by decide +kernel
theorem dX8_printsOne_74 : decode cX8_printsOne 74 = .ok (.iload_n 3, 1) := by decide +kernel
theorem dX8_printsOne_75 : decode cX8_printsOne 75 = .ok (.aload_n 0, 1) := by decide +kernel
theorem dX8_printsOne_76 : decode cX8_printsOne 76 = .ok (.aload_n 0, 1) := by decide +kernel
theorem dX8_printsOne_77 : decode cX8_printsOne 77 = .ok (.getfield 22, 3) := by decide +kernel
theorem dX8_printsOne_80 : decode cX8_printsOne 80 = .ok (.iload 4, 2) := by decide +kernel
theorem dX8_printsOne_82 : decode cX8_printsOne 82 = .ok (.iaload, 1) := by decide +kernel
theorem dX8_printsOne_83 : decode cX8_printsOne 83 = .ok (.iload 5, 2) := by decide +kernel
theorem dX8_printsOne_85 : decode cX8_printsOne 85 = .ok (.invokevirtual 101, 3) := by decide +kernel
theorem dX8_printsOne_88 : decode cX8_printsOne 88 = .ok (.iastore, 1) := by decide +kernel
theorem dX8_printsOne_89 : decode cX8_printsOne 89 = .ok (.aload_n 0, 1) := by decide +kernel
theorem dX8_printsOne_90 : decode cX8_printsOne 90 = .ok (.getfield 34, 3) := by decide +kernel
theorem dX8_printsOne_93 : decode cX8_printsOne 93 = .ok (.iload_n 3, 1) := by decide +kernel
theorem dX8_printsOne_94 : decode cX8_printsOne 94 = .ok (.aload_n 0, 1) := by decide +kernel
theorem dX8_printsOne_95 : decode cX8_printsOne 95 = .ok (.getfield 143, 3) := by decide +kernel
theorem dX8_printsOne_98 : decode cX8_printsOne 98 = .ok (.iastore, 1) := by decide +kernel
theorem dX8_printsOne_99 : decode cX8_printsOne 99 = .ok (.aload_n 0, 1) := by decide +kernel
theorem dX8_printsOne_100 : decode cX8_printsOne 100 = .ok (.getfield 37, 3) := by decide +kernel
theorem dX8_printsOne_103 : decode cX8_printsOne 103 = .ok (.iload_n 3, 1) := by decide +kernel
theorem dX8_printsOne_104 : decode cX8_printsOne 104 = .ok (.iconst (-1), 1) := by decide +kernel
theorem dX8_printsOne_105 : decode cX8_printsOne 105 = .ok (.iastore, 1) := by decide +kernel
theorem dX8_printsOne_106 : decode cX8_printsOne 106 = .ok (.aload_n 0, 1) := by decide +kernel
theorem dX8_printsOne_107 : decode cX8_printsOne 107 = .ok (.getfield 46, 3) := by decide +kernel
theorem dX8_printsOne_110 : decode cX8_printsOne 110 = .ok (.bipush 8, 2) := by decide +kernel
theorem dX8_printsOne_112 : decode cX8_printsOne 112 = .ok (.aload_n 0, 1) := by decide +kernel
theorem dX8_printsOne_113 : decode cX8_printsOne 113 = .ok (.getfield 143, 3) := by decide +kernel
theorem dX8_printsOne_116 : decode cX8_printsOne 116 = .ok (.imul, 1) := by decide +kernel
theorem dX8_printsOne_117 : decode cX8_printsOne 117 = .ok (.aload_n 0, 1) := by decide +kernel
theorem dX8_printsOne_118 : decode cX8_printsOne 118 = .ok (.getfield 43, 3) := by decide +kernel
theorem dX8_printsOne_121 : decode cX8_printsOne 121 = .ok (.iload_n 2, 1) := by decide +kernel
theorem dX8_printsOne_122 : decode cX8_printsOne 122 = .ok (.iaload, 1) := by decide +kernel
theorem dX8_printsOne_123 : decode cX8_printsOne 123 = .ok (.iadd, 1) := by decide +kernel
theorem dX8_printsOne_124 : decode cX8_printsOne 124 = .ok (.sipush 10000, 3) := by decide +kernel
theorem dX8_printsOne_127 : decode cX8_printsOne 127 = .ok (.iload 4, 2) := by decide +kernel
theorem dX8_printsOne_129 : decode cX8_printsOne 129 = .ok (.imul, 1) := by decide +kernel
theorem dX8_printsOne_130 : decode cX8_printsOne 130 = .ok (.sipush 1000, 3) := by decide +kernel
theorem dX8_printsOne_133 : decode cX8_printsOne 133 = .ok (.iload_n 3, 1) := by decide +kernel
theorem dX8_printsOne_134 : decode cX8_printsOne 134 = .ok (.bipush 43, 2) := by decide +kernel
theorem dX8_printsOne_136 : decode cX8_printsOne 136 = .ok (.idiv, 1) := by decide +kernel
theorem dX8_printsOne_137 : decode cX8_printsOne 137 = .ok (.iconst 3, 1) := by decide +kernel
theorem dX8_printsOne_138 : decode cX8_printsOne 138 = .ok (.irem, 1) := by decide +kernel
theorem dX8_printsOne_139 : decode cX8_printsOne 139 = .ok (.imul, 1) := by decide +kernel
theorem dX8_printsOne_140 : decode cX8_printsOne 140 = .ok (.iadd, 1) := by decide +kernel
theorem dX8_printsOne_141 : decode cX8_printsOne 141 = .ok (.iload 5, 2) := by decide +kernel
theorem dX8_printsOne_143 : decode cX8_printsOne 143 = .ok (.iadd, 1) := by decide +kernel
theorem dX8_printsOne_144 : decode cX8_printsOne 144 = .ok (.iastore, 1) := by decide +kernel
theorem dX8_printsOne_145 : decode cX8_printsOne 145 = .ok (.iinc 2 1, 3) := by decide +kernel
theorem dX8_printsOne_148 : decode cX8_printsOne 148 = .ok (.goto (-117), 3) := by decide +kernel
theorem dX8_printsOne_151 : decode cX8_printsOne 151 = .ok (.aload_n 0, 1) := by decide +kernel
theorem dX8_printsOne_152 : decode cX8_printsOne 152 = .ok (.getfield 49, 3) := by decide +kernel
theorem dX8_printsOne_155 : decode cX8_printsOne 155 = .ok (.aload_n 0, 1) := by decide +kernel
theorem dX8_printsOne_156 : decode cX8_printsOne 156 = .ok (.getfield 143, 3) := by decide +kernel
theorem dX8_printsOne_159 : decode cX8_printsOne 159 = .ok (.iconst 1, 1) := by decide +kernel
theorem dX8_printsOne_160 : decode cX8_printsOne 160 = .ok (.bastore, 1) := by decide +kernel
theorem dX8_printsOne_161 : decode cX8_printsOne 161 = .ok (.aload_n 0, 1) := by decide +kernel
theorem dX8_printsOne_162 : decode cX8_printsOne 162 = .ok (.dup, 1) := by decide +kernel
theorem dX8_printsOne_163 : decode cX8_printsOne 163 = .ok (.getfield 143, 3) := by decide +kernel
theorem dX8_printsOne_166 : decode cX8_printsOne 166 = .ok (.iconst 1, 1) := by decide +kernel
theorem dX8_printsOne_167 : decode cX8_printsOne 167 = .ok (.iadd, 1) := by decide +kernel
theorem dX8_printsOne_168 : decode cX8_printsOne 168 = .ok (.putfield 143, 3) := by decide +kernel
theorem dX8_printsOne_171 : decode cX8_printsOne 171 = .ok (.return_, 1) := by decide +kernel
theorem dX8_print_0 : decode cX8_print 0 = .ok (.aload_n 0, 1) := by decide +kernel
theorem dX8_print_1 : decode cX8_print 1 = .ok (.iload_n 1, 1) := by decide +kernel
theorem dX8_print_2 : decode cX8_print 2 = .ok (.iconst 1, 1) := by decide +kernel
theorem dX8_print_3 : decode cX8_print 3 = .ok (.bipush 10, 2) := by decide +kernel
theorem dX8_print_5 : decode cX8_print 5 = .ok (.invokestatic 75, 3) := by decide +kernel
theorem dX8_print_8 : decode cX8_print 8 = .ok (.ifCond .eq 7, 3) := by decide +kernel
theorem dX8_print_11 : decode cX8_print 11 = .ok (.iconst 0, 1) := by decide +kernel
theorem dX8_print_12 : decode cX8_print 12 = .ok (.goto 4, 3) := by decide +kernel
theorem dX8_print_15 : decode cX8_print 15 = .ok (.iconst 1, 1) := by decide +kernel
theorem dX8_print_16 : decode cX8_print 16 = .ok (.invokevirtual 109, 3) := by decide +kernel
theorem dX8_print_19 : decode cX8_print 19 = .ok (.ifCond .ne 5, 3) := by decide +kernel
theorem dX8_print_22 : decode cX8_print 22 = .ok (.iconst 0, 1) := by decide +kernel
theorem dX8_print_23 : decode cX8_print 23 = .ok (.ireturn, 1) := by decide +kernel
theorem dX8_print_24 : decode cX8_print 24 = .ok (.aload_n 0, 1) := by decide +kernel
theorem dX8_print_25 : decode cX8_print 25 = .ok (.invokevirtual 134, 3) := by decide +kernel
theorem dX8_print_28 : decode cX8_print 28 = .ok (.aload_n 0, 1) := by decide +kernel
theorem dX8_print_29 : decode cX8_print 29 = .ok (.getfield 128, 3) := by decide +kernel
theorem dX8_print_32 : decode cX8_print 32 = .ok (.bipush 8, 2) := by decide +kernel
theorem dX8_print_34 : decode cX8_print 34 = .ok (.iadd, 1) := by decide +kernel
theorem dX8_print_35 : decode cX8_print 35 = .ok (.iconst 1, 1) := by decide +kernel
theorem dX8_print_36 : decode cX8_print 36 = .ok (.isub, 1) := by decide +kernel
theorem dX8_print_37 : decode cX8_print 37 = .ok (.bipush 8, 2) := by decide +kernel
theorem dX8_print_39 : decode cX8_print 39 = .ok (.idiv, 1) := by decide +kernel
theorem dX8_print_40 : decode cX8_print 40 = .ok (.istore_n 2, 1) := by decide +kernel
theorem dX8_print_41 : decode cX8_print 41 = .ok (.iload_n 2, 1) := by decide +kernel
theorem dX8_print_42 : decode cX8_print 42 = .ok (.iload_n 1, 1) := by decide +kernel
theorem dX8_print_43 : decode cX8_print 43 = .ok (.if_icmp .ge 7, 3) := by decide +kernel
theorem dX8_print_46 : decode cX8_print 46 = .ok (.iload_n 2, 1) := by decide +kernel
theorem dX8_print_47 : decode cX8_print 47 = .ok (.goto 4, 3) := by decide +kernel
theorem dX8_print_50 : decode cX8_print 50 = .ok (.iload_n 1, 1) := by decide +kernel
theorem dX8_print_51 : decode cX8_print 51 = .ok (.istore_n 3, 1) := by decide +kernel
theorem dX8_print_52 : decode cX8_print 52 = .ok (.aload_n 0, 1) := by decide +kernel
theorem dX8_print_53 : decode cX8_print 53 = .ok (.aload_n 0, 1) := by decide +kernel
theorem dX8_print_54 : decode cX8_print 54 = .ok (.getfield 143, 3) := by decide +kernel
theorem dX8_print_57 : decode cX8_print 57 = .ok (.iload_n 3, 1) := by decide +kernel
theorem dX8_print_58 : decode cX8_print 58 = .ok (.iadd, 1) := by decide +kernel
theorem dX8_print_59 : decode cX8_print 59 = .ok (.bipush 50, 2) := by decide +kernel
theorem dX8_print_61 : decode cX8_print 61 = .ok (.if_icmp .le 7, 3) := by decide +kernel
theorem dX8_print_64 : decode cX8_print 64 = .ok (.iconst 2, 1) := by decide +kernel
theorem dX8_print_65 : decode cX8_print 65 = .ok (.goto 4, 3) := by decide +kernel
theorem dX8_print_68 : decode cX8_print 68 = .ok (.iconst 0, 1) := by decide +kernel
theorem dX8_print_69 : decode cX8_print 69 = .ok (.invokevirtual 109, 3) := by decide +kernel
theorem dX8_print_72 : decode cX8_print 72 = .ok (.ifCond .ne 5, 3) := by decide +kernel
theorem dX8_print_75 : decode cX8_print 75 = .ok (.iconst 0, 1) := by decide +kernel
theorem dX8_print_76 : decode cX8_print 76 = .ok (.ireturn, 1) := by decide +kernel
theorem dX8_print_77 : decode cX8_print 77 = .ok (.iconst 0, 1) := by decide +kernel
theorem dX8_print_78 : decode cX8_print 78 = .ok (.istore 4, 2) := by decide +kernel
theorem dX8_print_80 : decode cX8_print 80 = .ok (.iload 4, 2) := by decide +kernel
theorem dX8_print_82 : decode cX8_print 82 = .ok (.iload_n 3, 1) := by decide +kernel
theorem dX8_print_83 : decode cX8_print 83 = .ok (.if_icmp .ge 18, 3) := by decide +kernel
theorem dX8_print_86 : decode cX8_print 86 = .ok (.aload_n 0, 1) := by decide +kernel
theorem dX8_print_87 : decode cX8_print 87 = .ok (.bipush 8, 2) := by decide +kernel
theorem dX8_print_89 : decode cX8_print 89 = .ok (.iload 4, 2) := by decide +kernel
theorem dX8_print_91 : decode cX8_print 91 = .ok (.imul, 1) := by decide +kernel
theorem dX8_print_92 : decode cX8_print 92 = .ok (.invokevirtual 146, 3) := by decide +kernel
theorem dX8_print_95 : decode cX8_print 95 = .ok (.iinc 4 1, 3) := by decide +kernel
theorem dX8_print_98 : decode cX8_print 98 = .ok (.goto (-18), 3) := by decide +kernel
theorem dX8_print_101 : decode cX8_print 101 = .ok (.iload_n 3, 1) := by decide +kernel
theorem dX8_print_102 : decode cX8_print 102 = .ok (.ireturn, 1) := by decide +kernel
theorem dX8_waiting_0 : decode cX8_waiting 0 = .ok (.aload_n 0, 1) := by decide +kernel
theorem dX8_waiting_1 : decode cX8_waiting 1 = .ok (.iconst 0, 1) := by decide +kernel
theorem dX8_waiting_2 : decode cX8_waiting 2 = .ok (.putfield 69, 3) := by decide +kernel
theorem dX8_waiting_5 : decode cX8_waiting 5 = .ok (.iconst 0, 1) := by decide +kernel
theorem dX8_waiting_6 : decode cX8_waiting 6 = .ok (.istore_n 1, 1) := by decide +kernel
theorem dX8_waiting_7 : decode cX8_waiting 7 = .ok (.iconst 0, 1) := by decide +kernel
theorem dX8_waiting_8 : decode cX8_waiting 8 = .ok (.istore_n 2, 1) := by decide +kernel
theorem dX8_waiting_9 : decode cX8_waiting 9 = .ok (.iload_n 2, 1) := by decide +kernel
theorem dX8_waiting_10 : decode cX8_waiting 10 = .ok (.aload_n 0, 1) := by decide +kernel
theorem dX8_waiting_11 : decode cX8_waiting 11 = .ok (.getfield 143, 3) := by decide +kernel
theorem dX8_waiting_14 : decode cX8_waiting 14 = .ok (.if_icmp .ge 26, 3) := by decide +kernel
theorem dX8_waiting_17 : decode cX8_waiting 17 = .ok (.iload_n 1, 1) := by decide +kernel
theorem dX8_waiting_18 : decode cX8_waiting 18 = .ok (.aload_n 0, 1) := by decide +kernel
theorem dX8_waiting_19 : decode cX8_waiting 19 = .ok (.getfield 49, 3) := by decide +kernel
theorem dX8_waiting_22 : decode cX8_waiting 22 = .ok (.iload_n 2, 1) := by decide +kernel
theorem dX8_waiting_23 : decode cX8_waiting 23 = .ok (.baload, 1) := by decide +kernel
theorem dX8_waiting_24 : decode cX8_waiting 24 = .ok (.ifCond .eq 7, 3) := by decide +kernel
theorem dX8_waiting_27 : decode cX8_waiting 27 = .ok (.iconst 1, 1) := by decide +kernel
theorem dX8_waiting_28 : decode cX8_waiting 28 = .ok (.goto 4, 3) := by decide +kernel
theorem dX8_waiting_31 : decode cX8_waiting 31 = .ok (.iconst 0, 1) := by decide +kernel
theorem dX8_waiting_32 : decode cX8_waiting 32 = .ok (.iadd, 1) := by decide +kernel
theorem dX8_waiting_33 : decode cX8_waiting 33 = .ok (.istore_n 1, 1) := by decide +kernel
theorem dX8_waiting_34 : decode cX8_waiting 34 = .ok (.iinc 2 1, 3) := by decide +kernel
theorem dX8_waiting_37 : decode cX8_waiting 37 = .ok (.goto (-28), 3) := by decide +kernel
theorem dX8_waiting_40 : decode cX8_waiting 40 = .ok (.iload_n 1, 1) := by decide +kernel
theorem dX8_waiting_41 : decode cX8_waiting 41 = .ok (.ireturn, 1) := by decide +kernel
theorem dX8_onSheet_0 : decode cX8_onSheet 0 = .ok (.aload_n 0, 1) := by decide +kernel
theorem dX8_onSheet_1 : decode cX8_onSheet 1 = .ok (.iload_n 2, 1) := by decide +kernel
theorem dX8_onSheet_2 : decode cX8_onSheet 2 = .ok (.iconst 0, 1) := by decide +kernel
theorem dX8_onSheet_3 : decode cX8_onSheet 3 = .ok (.bipush 7, 2) := by decide +kernel
theorem dX8_onSheet_5 : decode cX8_onSheet 5 = .ok (.invokestatic 75, 3) := by decide +kernel
theorem dX8_onSheet_8 : decode cX8_onSheet 8 = .ok (.ifCond .ne 7, 3) := by decide +kernel
theorem dX8_onSheet_11 : decode cX8_onSheet 11 = .ok (.iconst 1, 1) := by decide +kernel
theorem dX8_onSheet_12 : decode cX8_onSheet 12 = .ok (.goto 22, 3) := by decide +kernel
theorem dX8_onSheet_15 : decode cX8_onSheet 15 = .ok (.iload_n 1, 1) := by decide +kernel
theorem dX8_onSheet_16 : decode cX8_onSheet 16 = .ok (.iconst 0, 1) := by decide +kernel
theorem dX8_onSheet_17 : decode cX8_onSheet 17 = .ok (.aload_n 0, 1) := by decide +kernel
theorem dX8_onSheet_18 : decode cX8_onSheet 18 = .ok (.getfield 143, 3) := by decide +kernel
theorem dX8_onSheet_21 : decode cX8_onSheet 21 = .ok (.iconst 1, 1) := by decide +kernel
theorem dX8_onSheet_22 : decode cX8_onSheet 22 = .ok (.isub, 1) := by decide +kernel
theorem dX8_onSheet_23 : decode cX8_onSheet 23 = .ok (.invokestatic 75, 3) := by decide +kernel
theorem dX8_onSheet_26 : decode cX8_onSheet 26 = .ok (.ifCond .eq 7, 3) := by decide +kernel
theorem dX8_onSheet_29 : decode cX8_onSheet 29 = .ok (.iconst 0, 1) := by decide +kernel
theorem dX8_onSheet_30 : decode cX8_onSheet 30 = .ok (.goto 4, 3) := by decide +kernel
theorem dX8_onSheet_33 : decode cX8_onSheet 33 = .ok (.iconst 2, 1) := by decide +kernel
theorem dX8_onSheet_34 : decode cX8_onSheet 34 = .ok (.invokevirtual 109, 3) := by decide +kernel
theorem dX8_onSheet_37 : decode cX8_onSheet 37 = .ok (.ifCond .ne 5, 3) := by decide +kernel
theorem dX8_onSheet_40 : decode cX8_onSheet 40 = .ok (.iconst 0, 1) := by decide +kernel
theorem dX8_onSheet_41 : decode cX8_onSheet 41 = .ok (.ireturn, 1) := by decide +kernel
theorem dX8_onSheet_42 : decode cX8_onSheet 42 = .ok (.aload_n 0, 1) := by decide +kernel
theorem dX8_onSheet_43 : decode cX8_onSheet 43 = .ok (.getfield 46, 3) := by decide +kernel
theorem dX8_onSheet_46 : decode cX8_onSheet 46 = .ok (.bipush 8, 2) := by decide +kernel
theorem dX8_onSheet_48 : decode cX8_onSheet 48 = .ok (.iload_n 1, 1) := by decide +kernel
theorem dX8_onSheet_49 : decode cX8_onSheet 49 = .ok (.imul, 1) := by decide +kernel
theorem dX8_onSheet_50 : decode cX8_onSheet 50 = .ok (.iload_n 2, 1) := by decide +kernel
theorem dX8_onSheet_51 : decode cX8_onSheet 51 = .ok (.iadd, 1) := by decide +kernel
theorem dX8_onSheet_52 : decode cX8_onSheet 52 = .ok (.iaload, 1) := by decide +kernel
theorem dX8_onSheet_53 : decode cX8_onSheet 53 = .ok (.ireturn, 1) := by decide +kernel
theorem dX8_longest_0 : decode cX8_longest 0 = .ok (.iconst (-1), 1) := by decide +kernel
theorem dX8_longest_1 : decode cX8_longest 1 = .ok (.istore_n 1, 1) := by decide +kernel
theorem dX8_longest_2 : decode cX8_longest 2 = .ok (.aload_n 0, 1) := by decide +kernel
theorem dX8_longest_3 : decode cX8_longest 3 = .ok (.getfield 143, 3) := by decide +kernel
theorem dX8_longest_6 : decode cX8_longest 6 = .ok (.iconst 1, 1) := by decide +kernel
theorem dX8_longest_7 : decode cX8_longest 7 = .ok (.isub, 1) := by decide +kernel
theorem dX8_longest_8 : decode cX8_longest 8 = .ok (.istore_n 2, 1) := by decide +kernel
theorem dX8_longest_9 : decode cX8_longest 9 = .ok (.iload_n 2, 1) := by decide +kernel
theorem dX8_longest_10 : decode cX8_longest 10 = .ok (.ifCond .lt 24, 3) := by decide +kernel
theorem dX8_longest_13 : decode cX8_longest 13 = .ok (.aload_n 0, 1) := by decide +kernel
theorem dX8_longest_14 : decode cX8_longest 14 = .ok (.getfield 49, 3) := by decide +kernel
theorem dX8_longest_17 : decode cX8_longest 17 = .ok (.iload_n 2, 1) := by decide +kernel
theorem dX8_longest_18 : decode cX8_longest 18 = .ok (.baload, 1) := by decide +kernel
theorem dX8_longest_19 : decode cX8_longest 19 = .ok (.ifCond .eq 7, 3) := by decide +kernel
theorem dX8_longest_22 : decode cX8_longest 22 = .ok (.iload_n 2, 1) := by decide +kernel
theorem dX8_longest_23 : decode cX8_longest 23 = .ok (.goto 4, 3) := by decide +kernel
theorem dX8_longest_26 : decode cX8_longest 26 = .ok (.iload_n 1, 1) := by decide +kernel
theorem dX8_longest_27 : decode cX8_longest 27 = .ok (.istore_n 1, 1) := by decide +kernel
theorem dX8_longest_28 : decode cX8_longest 28 = .ok (.iinc 2 (-1), 3) := by decide +kernel
theorem dX8_longest_31 : decode cX8_longest 31 = .ok (.goto (-22), 3) := by decide +kernel
theorem dX8_longest_34 : decode cX8_longest 34 = .ok (.iload_n 1, 1) := by decide +kernel
theorem dX8_longest_35 : decode cX8_longest 35 = .ok (.ireturn, 1) := by decide +kernel
theorem dX8_isOn_0 : decode cX8_isOn 0 = .ok (.iload_n 1, 1) := by decide +kernel
theorem dX8_isOn_1 : decode cX8_isOn 1 = .ok (.bipush 43, 2) := by decide +kernel
theorem dX8_isOn_3 : decode cX8_isOn 3 = .ok (.idiv, 1) := by decide +kernel
theorem dX8_isOn_4 : decode cX8_isOn 4 = .ok (.iconst 3, 1) := by decide +kernel
theorem dX8_isOn_5 : decode cX8_isOn 5 = .ok (.idiv, 1) := by decide +kernel
theorem dX8_isOn_6 : decode cX8_isOn 6 = .ok (.aload_n 0, 1) := by decide +kernel
theorem dX8_isOn_7 : decode cX8_isOn 7 = .ok (.getfield 79, 3) := by decide +kernel
theorem dX8_isOn_10 : decode cX8_isOn 10 = .ok (.if_icmp .ge 37, 3) := by decide +kernel
theorem dX8_isOn_13 : decode cX8_isOn 13 = .ok (.aload_n 0, 1) := by decide +kernel
theorem dX8_isOn_14 : decode cX8_isOn 14 = .ok (.getfield 31, 3) := by decide +kernel
theorem dX8_isOn_17 : decode cX8_isOn 17 = .ok (.iload_n 1, 1) := by decide +kernel
theorem dX8_isOn_18 : decode cX8_isOn 18 = .ok (.iaload, 1) := by decide +kernel
theorem dX8_isOn_19 : decode cX8_isOn 19 = .ok (.iconst (-1), 1) := by decide +kernel
theorem dX8_isOn_20 : decode cX8_isOn 20 = .ok (.if_icmp .eq 27, 3) := by decide +kernel
theorem dX8_isOn_23 : decode cX8_isOn 23 = .ok (.aload_n 0, 1) := by decide +kernel
theorem dX8_isOn_24 : decode cX8_isOn 24 = .ok (.getfield 37, 3) := by decide +kernel
theorem dX8_isOn_27 : decode cX8_isOn 27 = .ok (.iload_n 1, 1) := by decide +kernel
theorem dX8_isOn_28 : decode cX8_isOn 28 = .ok (.iaload, 1) := by decide +kernel
theorem dX8_isOn_29 : decode cX8_isOn 29 = .ok (.iconst (-1), 1) := by decide +kernel
theorem dX8_isOn_30 : decode cX8_isOn 30 = .ok (.if_icmp .ne 17, 3) := by decide +kernel
theorem dX8_isOn_33 : decode cX8_isOn 33 = .ok (.aload_n 0, 1) := by decide +kernel
theorem dX8_isOn_34 : decode cX8_isOn 34 = .ok (.getfield 34, 3) := by decide +kernel
theorem dX8_isOn_37 : decode cX8_isOn 37 = .ok (.iload_n 1, 1) := by decide +kernel
theorem dX8_isOn_38 : decode cX8_isOn 38 = .ok (.iaload, 1) := by decide +kernel
theorem dX8_isOn_39 : decode cX8_isOn 39 = .ok (.iload_n 2, 1) := by decide +kernel
theorem dX8_isOn_40 : decode cX8_isOn 40 = .ok (.if_icmp .ne 7, 3) := by decide +kernel
theorem dX8_isOn_43 : decode cX8_isOn 43 = .ok (.iconst 1, 1) := by decide +kernel
theorem dX8_isOn_44 : decode cX8_isOn 44 = .ok (.goto 4, 3) := by decide +kernel
theorem dX8_isOn_47 : decode cX8_isOn 47 = .ok (.iconst 0, 1) := by decide +kernel
theorem dX8_isOn_48 : decode cX8_isOn 48 = .ok (.ireturn, 1) := by decide +kernel
theorem dX8_cut_0 : decode cX8_cut 0 = .ok (.aload_n 0, 1) := by decide +kernel
theorem dX8_cut_1 : decode cX8_cut 1 = .ok (.invokevirtual 149, 3) := by decide +kernel
theorem dX8_cut_4 : decode cX8_cut 4 = .ok (.istore_n 2, 1) := by decide +kernel
theorem dX8_cut_5 : decode cX8_cut 5 = .ok (.aload_n 0, 1) := by decide +kernel
theorem dX8_cut_6 : decode cX8_cut 6 = .ok (.iload_n 1, 1) := by decide +kernel
theorem dX8_cut_7 : decode cX8_cut 7 = .ok (.iconst 0, 1) := by decide +kernel
theorem dX8_cut_8 : decode cX8_cut 8 = .ok (.iconst 1, 1) := by decide +kernel
theorem dX8_cut_9 : decode cX8_cut 9 = .ok (.invokestatic 75, 3) := by decide +kernel
theorem dX8_cut_12 : decode cX8_cut 12 = .ok (.ifCond .ne 7, 3) := by decide +kernel
theorem dX8_cut_15 : decode cX8_cut 15 = .ok (.iconst 1, 1) := by decide +kernel
theorem dX8_cut_16 : decode cX8_cut 16 = .ok (.goto 13, 3) := by decide +kernel
theorem dX8_cut_19 : decode cX8_cut 19 = .ok (.iload_n 2, 1) := by decide +kernel
theorem dX8_cut_20 : decode cX8_cut 20 = .ok (.iconst (-1), 1) := by decide +kernel
theorem dX8_cut_21 : decode cX8_cut 21 = .ok (.if_icmp .ne 7, 3) := by decide +kernel
theorem dX8_cut_24 : decode cX8_cut 24 = .ok (.iconst 2, 1) := by decide +kernel
theorem dX8_cut_25 : decode cX8_cut 25 = .ok (.goto 4, 3) := by decide +kernel
theorem dX8_cut_28 : decode cX8_cut 28 = .ok (.iconst 0, 1) := by decide +kernel
theorem dX8_cut_29 : decode cX8_cut 29 = .ok (.invokevirtual 109, 3) := by decide +kernel
theorem dX8_cut_32 : decode cX8_cut 32 = .ok (.ifCond .ne 5, 3) := by decide +kernel
theorem dX8_cut_35 : decode cX8_cut 35 = .ok (.iconst 0, 1) := by decide +kernel
theorem dX8_cut_36 : decode cX8_cut 36 = .ok (.ireturn, 1) := by decide +kernel
theorem dX8_cut_37 : decode cX8_cut 37 = .ok (.aload_n 0, 1) := by decide +kernel
theorem dX8_cut_38 : decode cX8_cut 38 = .ok (.getfield 53, 3) := by decide +kernel
theorem dX8_cut_41 : decode cX8_cut 41 = .ok (.iload_n 1, 1) := by decide +kernel
theorem dX8_cut_42 : decode cX8_cut 42 = .ok (.iaload, 1) := by decide +kernel
theorem dX8_cut_43 : decode cX8_cut 43 = .ok (.iconst 4, 1) := by decide +kernel
theorem dX8_cut_44 : decode cX8_cut 44 = .ok (.idiv, 1) := by decide +kernel
theorem dX8_cut_45 : decode cX8_cut 45 = .ok (.istore_n 3, 1) := by decide +kernel
theorem dX8_cut_46 : decode cX8_cut 46 = .ok (.aload_n 0, 1) := by decide +kernel
theorem dX8_cut_47 : decode cX8_cut 47 = .ok (.getfield 53, 3) := by decide +kernel
theorem dX8_cut_50 : decode cX8_cut 50 = .ok (.iload_n 1, 1) := by decide +kernel
theorem dX8_cut_51 : decode cX8_cut 51 = .ok (.dup2, 1) := by decide +kernel
theorem dX8_cut_52 : decode cX8_cut 52 = .ok (.iaload, 1) := by decide +kernel
theorem dX8_cut_53 : decode cX8_cut 53 = .ok (.aload_n 0, 1) := by decide +kernel
theorem dX8_cut_54 : decode cX8_cut 54 = .ok (.getfield 53, 3) := by decide +kernel
theorem dX8_cut_57 : decode cX8_cut 57 = .ok (.iload_n 1, 1) := by decide +kernel
theorem dX8_cut_58 : decode cX8_cut 58 = .ok (.iaload, 1) := by decide +kernel
theorem dX8_cut_59 : decode cX8_cut 59 = .ok (.bipush 60, 2) := by decide +kernel
theorem dX8_cut_61 : decode cX8_cut 61 = .ok (.if_icmp .ge 7, 3) := by decide +kernel
theorem dX8_cut_64 : decode cX8_cut 64 = .ok (.iconst 1, 1) := by decide +kernel
theorem dX8_cut_65 : decode cX8_cut 65 = .ok (.goto 4, 3) := by decide +kernel
theorem dX8_cut_68 : decode cX8_cut 68 = .ok (.iconst 0, 1) := by decide +kernel
theorem dX8_cut_69 : decode cX8_cut 69 = .ok (.iadd, 1) := by decide +kernel
theorem dX8_cut_70 : decode cX8_cut 70 = .ok (.iastore, 1) := by decide +kernel
theorem dX8_cut_71 : decode cX8_cut 71 = .ok (.iconst 0, 1) := by decide +kernel
theorem dX8_cut_72 : decode cX8_cut 72 = .ok (.istore 4, 2) := by decide +kernel
theorem dX8_cut_74 : decode cX8_cut 74 = .ok (.iload 4, 2) := by decide +kernel
theorem dX8_cut_76 : decode cX8_cut 76 = .ok (.sipush 645, 3) := by decide +kernel
theorem dX8_cut_79 : decode cX8_cut 79 = .ok (.if_icmp .ge 37, 3) := by decide +kernel
theorem dX8_cut_82 : decode cX8_cut 82 = .ok (.aload_n 0, 1) := by decide +kernel
theorem dX8_cut_83 : decode cX8_cut 83 = .ok (.getfield 37, 3) := by decide +kernel
theorem dX8_cut_86 : decode cX8_cut 86 = .ok (.iload 4, 2) := by decide +kernel
theorem dX8_cut_88 : decode cX8_cut 88 = .ok (.aload_n 0, 1) := by decide +kernel
theorem dX8_cut_89 : decode cX8_cut 89 = .ok (.iload 4, 2) := by decide +kernel
theorem dX8_cut_91 : decode cX8_cut 91 = .ok (.iload_n 2, 1) := by decide +kernel
theorem dX8_cut_92 : decode cX8_cut 92 = .ok (.invokevirtual 153, 3) := by decide +kernel
theorem dX8_cut_95 : decode cX8_cut 95 = .ok (.ifCond .eq 7, 3) := by decide +kernel
theorem dX8_cut_98 : decode cX8_cut 98 = .ok (.iload_n 3, 1) := by decide +kernel
theorem dX8_cut_99 : decode cX8_cut 99 = .ok (.goto 10, 3) := by decide +kernel
theorem dX8_cut_102 : decode cX8_cut 102 = .ok (.aload_n 0, 1) := by decide +kernel
theorem dX8_cut_103 : decode cX8_cut 103 = .ok (.getfield 37, 3) := by decide +kernel
theorem dX8_cut_106 : decode cX8_cut 106 = .ok (.iload 4, 2) := by decide +kernel
theorem dX8_cut_108 : decode cX8_cut 108 = .ok (.iaload, 1) := by decide +kernel
theorem dX8_cut_109 : decode cX8_cut 109 = .ok (.iastore, 1) := by decide +kernel
theorem dX8_cut_110 : decode cX8_cut 110 = .ok (.iinc 4 1, 3) := by decide +kernel
theorem dX8_cut_113 : decode cX8_cut 113 = .ok (.goto (-39), 3) := by decide +kernel
theorem dX8_cut_116 : decode cX8_cut 116 = .ok (.aload_n 0, 1) := by decide +kernel
theorem dX8_cut_117 : decode cX8_cut 117 = .ok (.getfield 49, 3) := by decide +kernel
theorem dX8_cut_120 : decode cX8_cut 120 = .ok (.iload_n 2, 1) := by decide +kernel
theorem dX8_cut_121 : decode cX8_cut 121 = .ok (.iconst 0, 1) := by decide +kernel
theorem dX8_cut_122 : decode cX8_cut 122 = .ok (.bastore, 1) := by decide +kernel
theorem dX8_cut_123 : decode cX8_cut 123 = .ok (.iload_n 3, 1) := by decide +kernel
theorem dX8_cut_124 : decode cX8_cut 124 = .ok (.ireturn, 1) := by decide +kernel
theorem dX8_discard_0 : decode cX8_discard 0 = .ok (.aload_n 0, 1) := by decide +kernel
theorem dX8_discard_1 : decode cX8_discard 1 = .ok (.iconst 0, 1) := by decide +kernel
theorem dX8_discard_2 : decode cX8_discard 2 = .ok (.putfield 69, 3) := by decide +kernel
theorem dX8_discard_5 : decode cX8_discard 5 = .ok (.iconst 0, 1) := by decide +kernel
theorem dX8_discard_6 : decode cX8_discard 6 = .ok (.istore_n 1, 1) := by decide +kernel
theorem dX8_discard_7 : decode cX8_discard 7 = .ok (.iconst 0, 1) := by decide +kernel
theorem dX8_discard_8 : decode cX8_discard 8 = .ok (.istore_n 2, 1) := by decide +kernel
theorem dX8_discard_9 : decode cX8_discard 9 = .ok (.iload_n 2, 1) := by decide +kernel
theorem dX8_discard_10 : decode cX8_discard 10 = .ok (.aload_n 0, 1) := by decide +kernel
theorem dX8_discard_11 : decode cX8_discard 11 = .ok (.getfield 143, 3) := by decide +kernel
theorem dX8_discard_14 : decode cX8_discard 14 = .ok (.if_icmp .ge 75, 3) := by decide +kernel
theorem dX8_discard_17 : decode cX8_discard 17 = .ok (.aload_n 0, 1) := by decide +kernel
theorem dX8_discard_18 : decode cX8_discard 18 = .ok (.getfield 49, 3) := by decide +kernel
theorem dX8_discard_21 : decode cX8_discard 21 = .ok (.iload_n 2, 1) := by decide +kernel
theorem dX8_discard_22 : decode cX8_discard 22 = .ok (.baload, 1) := by decide +kernel
theorem dX8_discard_23 : decode cX8_discard 23 = .ok (.ifCond .ne 7, 3) := by decide +kernel
theorem dX8_discard_26 : decode cX8_discard 26 = .ok (.iconst 1, 1) := by decide +kernel
theorem dX8_discard_27 : decode cX8_discard 27 = .ok (.goto 4, 3) := by decide +kernel
theorem dX8_discard_30 : decode cX8_discard 30 = .ok (.iconst 0, 1) := by decide +kernel
theorem dX8_discard_31 : decode cX8_discard 31 = .ok (.istore_n 3, 1) := by decide +kernel
theorem dX8_discard_32 : decode cX8_discard 32 = .ok (.iconst 0, 1) := by decide +kernel
theorem dX8_discard_33 : decode cX8_discard 33 = .ok (.istore 4, 2) := by decide +kernel
theorem dX8_discard_35 : decode cX8_discard 35 = .ok (.iload 4, 2) := by decide +kernel
theorem dX8_discard_37 : decode cX8_discard 37 = .ok (.sipush 645, 3) := by decide +kernel
theorem dX8_discard_40 : decode cX8_discard 40 = .ok (.if_icmp .ge 29, 3) := by decide +kernel
theorem dX8_discard_43 : decode cX8_discard 43 = .ok (.iload_n 3, 1) := by decide +kernel
theorem dX8_discard_44 : decode cX8_discard 44 = .ok (.ifCond .ne 13, 3) := by decide +kernel
theorem dX8_discard_47 : decode cX8_discard 47 = .ok (.aload_n 0, 1) := by decide +kernel
theorem dX8_discard_48 : decode cX8_discard 48 = .ok (.iload 4, 2) := by decide +kernel
theorem dX8_discard_50 : decode cX8_discard 50 = .ok (.iload_n 2, 1) := by decide +kernel
theorem dX8_discard_51 : decode cX8_discard 51 = .ok (.invokevirtual 153, 3) := by decide +kernel
theorem dX8_discard_54 : decode cX8_discard 54 = .ok (.ifCond .eq 7, 3) := by decide +kernel
theorem dX8_discard_57 : decode cX8_discard 57 = .ok (.iconst 1, 1) := by decide +kernel
theorem dX8_discard_58 : decode cX8_discard 58 = .ok (.goto 4, 3) := by decide +kernel
theorem dX8_discard_61 : decode cX8_discard 61 = .ok (.iconst 0, 1) := by decide +kernel
theorem dX8_discard_62 : decode cX8_discard 62 = .ok (.istore_n 3, 1) := by decide +kernel
theorem dX8_discard_63 : decode cX8_discard 63 = .ok (.iinc 4 1, 3) := by decide +kernel
theorem dX8_discard_66 : decode cX8_discard 66 = .ok (.goto (-31), 3) := by decide +kernel
theorem dX8_discard_69 : decode cX8_discard 69 = .ok (.iload_n 3, 1) := by decide +kernel
theorem dX8_discard_70 : decode cX8_discard 70 = .ok (.ifCond .ne 13, 3) := by decide +kernel
theorem dX8_discard_73 : decode cX8_discard 73 = .ok (.aload_n 0, 1) := by decide +kernel
theorem dX8_discard_74 : decode cX8_discard 74 = .ok (.getfield 49, 3) := by decide +kernel
theorem dX8_discard_77 : decode cX8_discard 77 = .ok (.iload_n 2, 1) := by decide +kernel
theorem dX8_discard_78 : decode cX8_discard 78 = .ok (.iconst 0, 1) := by decide +kernel
theorem dX8_discard_79 : decode cX8_discard 79 = .ok (.bastore, 1) := by decide +kernel
theorem dX8_discard_80 : decode cX8_discard 80 = .ok (.iinc 1 1, 3) := by decide +kernel
theorem dX8_discard_83 : decode cX8_discard 83 = .ok (.iinc 2 1, 3) := by decide +kernel
theorem dX8_discard_86 : decode cX8_discard 86 = .ok (.goto (-77), 3) := by decide +kernel
theorem dX8_discard_89 : decode cX8_discard 89 = .ok (.iload_n 1, 1) := by decide +kernel
theorem dX8_discard_90 : decode cX8_discard 90 = .ok (.ireturn, 1) := by decide +kernel
theorem dX8_sharpen_0 : decode cX8_sharpen 0 = .ok (.aload_n 0, 1) := by decide +kernel
theorem dX8_sharpen_1 : decode cX8_sharpen 1 = .ok (.iload_n 1, 1) := by decide +kernel
theorem dX8_sharpen_2 : decode cX8_sharpen 2 = .ok (.iconst 0, 1) := by decide +kernel
theorem dX8_sharpen_3 : decode cX8_sharpen 3 = .ok (.iconst 1, 1) := by decide +kernel
theorem dX8_sharpen_4 : decode cX8_sharpen 4 = .ok (.invokestatic 75, 3) := by decide +kernel
theorem dX8_sharpen_7 : decode cX8_sharpen 7 = .ok (.ifCond .eq 7, 3) := by decide +kernel
theorem dX8_sharpen_10 : decode cX8_sharpen 10 = .ok (.iconst 0, 1) := by decide +kernel
theorem dX8_sharpen_11 : decode cX8_sharpen 11 = .ok (.goto 4, 3) := by decide +kernel
theorem dX8_sharpen_14 : decode cX8_sharpen 14 = .ok (.iconst 1, 1) := by decide +kernel
theorem dX8_sharpen_15 : decode cX8_sharpen 15 = .ok (.invokevirtual 109, 3) := by decide +kernel
theorem dX8_sharpen_18 : decode cX8_sharpen 18 = .ok (.ifCond .ne 5, 3) := by decide +kernel
theorem dX8_sharpen_21 : decode cX8_sharpen 21 = .ok (.iconst 0, 1) := by decide +kernel
theorem dX8_sharpen_22 : decode cX8_sharpen 22 = .ok (.ireturn, 1) := by decide +kernel
theorem dX8_sharpen_23 : decode cX8_sharpen 23 = .ok (.aload_n 0, 1) := by decide +kernel
theorem dX8_sharpen_24 : decode cX8_sharpen 24 = .ok (.getfield 53, 3) := by decide +kernel
theorem dX8_sharpen_27 : decode cX8_sharpen 27 = .ok (.iload_n 1, 1) := by decide +kernel
theorem dX8_sharpen_28 : decode cX8_sharpen 28 = .ok (.iaload, 1) := by decide +kernel
theorem dX8_sharpen_29 : decode cX8_sharpen 29 = .ok (.istore_n 2, 1) := by decide +kernel
theorem dX8_sharpen_30 : decode cX8_sharpen 30 = .ok (.aload_n 0, 1) := by decide +kernel
theorem dX8_sharpen_31 : decode cX8_sharpen 31 = .ok (.getfield 53, 3) := by decide +kernel
theorem dX8_sharpen_34 : decode cX8_sharpen 34 = .ok (.iload_n 1, 1) := by decide +kernel
theorem dX8_sharpen_35 : decode cX8_sharpen 35 = .ok (.iconst 0, 1) := by decide +kernel
theorem dX8_sharpen_36 : decode cX8_sharpen 36 = .ok (.iastore, 1) := by decide +kernel
theorem dX8_sharpen_37 : decode cX8_sharpen 37 = .ok (.iload_n 2, 1) := by decide +kernel
theorem dX8_sharpen_38 : decode cX8_sharpen 38 = .ok (.ireturn, 1) := by decide +kernel
theorem dX8_setTolerance_0 : decode cX8_setTolerance 0 = .ok (.aload_n 0, 1) := by decide +kernel
theorem dX8_setTolerance_1 : decode cX8_setTolerance 1 = .ok (.iload_n 1, 1) := by decide +kernel
theorem dX8_setTolerance_2 : decode cX8_setTolerance 2 = .ok (.iconst 0, 1) := by decide +kernel
theorem dX8_setTolerance_3 : decode cX8_setTolerance 3 = .ok (.bipush 15, 2) := by decide +kernel
theorem dX8_setTolerance_5 : decode cX8_setTolerance 5 = .ok (.invokestatic 75, 3) := by decide +kernel
theorem dX8_setTolerance_8 : decode cX8_setTolerance 8 = .ok (.ifCond .eq 7, 3) := by decide +kernel
theorem dX8_setTolerance_11 : decode cX8_setTolerance 11 = .ok (.iconst 0, 1) := by decide +kernel
theorem dX8_setTolerance_12 : decode cX8_setTolerance 12 = .ok (.goto 4, 3) := by decide +kernel
theorem dX8_setTolerance_15 : decode cX8_setTolerance 15 = .ok (.iconst 1, 1) := by decide +kernel
theorem dX8_setTolerance_16 : decode cX8_setTolerance 16 = .ok (.invokevirtual 109, 3) := by decide +kernel
theorem dX8_setTolerance_19 : decode cX8_setTolerance 19 = .ok (.ifCond .ne 5, 3) := by decide +kernel
theorem dX8_setTolerance_22 : decode cX8_setTolerance 22 = .ok (.iconst 0, 1) := by decide +kernel
theorem dX8_setTolerance_23 : decode cX8_setTolerance 23 = .ok (.ireturn, 1) := by decide +kernel
theorem dX8_setTolerance_24 : decode cX8_setTolerance 24 = .ok (.aload_n 0, 1) := by decide +kernel
theorem dX8_setTolerance_25 : decode cX8_setTolerance 25 = .ok (.getfield 56, 3) := by decide +kernel
theorem dX8_setTolerance_28 : decode cX8_setTolerance 28 = .ok (.istore_n 2, 1) := by decide +kernel
theorem dX8_setTolerance_29 : decode cX8_setTolerance 29 = .ok (.aload_n 0, 1) := by decide +kernel
theorem dX8_setTolerance_30 : decode cX8_setTolerance 30 = .ok (.iload_n 1, 1) := by decide +kernel
theorem dX8_setTolerance_31 : decode cX8_setTolerance 31 = .ok (.putfield 56, 3) := by decide +kernel
theorem dX8_setTolerance_34 : decode cX8_setTolerance 34 = .ok (.iload_n 2, 1) := by decide +kernel
theorem dX8_setTolerance_35 : decode cX8_setTolerance 35 = .ok (.ireturn, 1) := by decide +kernel
theorem dX8_isWhole_0 : decode cX8_isWhole 0 = .ok (.iconst 1, 1) := by decide +kernel
theorem dX8_isWhole_1 : decode cX8_isWhole 1 = .ok (.istore_n 3, 1) := by decide +kernel
theorem dX8_isWhole_2 : decode cX8_isWhole 2 = .ok (.iconst 0, 1) := by decide +kernel
theorem dX8_isWhole_3 : decode cX8_isWhole 3 = .ok (.istore 4, 2) := by decide +kernel
theorem dX8_isWhole_5 : decode cX8_isWhole 5 = .ok (.iload 4, 2) := by decide +kernel
theorem dX8_isWhole_7 : decode cX8_isWhole 7 = .ok (.aload_n 0, 1) := by decide +kernel
theorem dX8_isWhole_8 : decode cX8_isWhole 8 = .ok (.iload_n 1, 1) := by decide +kernel
theorem dX8_isWhole_9 : decode cX8_isWhole 9 = .ok (.invokevirtual 125, 3) := by decide +kernel
theorem dX8_isWhole_12 : decode cX8_isWhole 12 = .ok (.if_icmp .ge 35, 3) := by decide +kernel
theorem dX8_isWhole_15 : decode cX8_isWhole 15 = .ok (.iload_n 3, 1) := by decide +kernel
theorem dX8_isWhole_16 : decode cX8_isWhole 16 = .ok (.ifCond .eq 23, 3) := by decide +kernel
theorem dX8_isWhole_19 : decode cX8_isWhole 19 = .ok (.aload_n 0, 1) := by decide +kernel
theorem dX8_isWhole_20 : decode cX8_isWhole 20 = .ok (.getfield 37, 3) := by decide +kernel
theorem dX8_isWhole_23 : decode cX8_isWhole 23 = .ok (.iload_n 1, 1) := by decide +kernel
theorem dX8_isWhole_24 : decode cX8_isWhole 24 = .ok (.iload_n 2, 1) := by decide +kernel
theorem dX8_isWhole_25 : decode cX8_isWhole 25 = .ok (.iload 4, 2) := by decide +kernel
theorem dX8_isWhole_27 : decode cX8_isWhole 27 = .ok (.invokestatic 121, 3) := by decide +kernel
theorem dX8_isWhole_30 : decode cX8_isWhole 30 = .ok (.iaload, 1) := by decide +kernel
theorem dX8_isWhole_31 : decode cX8_isWhole 31 = .ok (.iconst (-1), 1) := by decide +kernel
theorem dX8_isWhole_32 : decode cX8_isWhole 32 = .ok (.if_icmp .eq 7, 3) := by decide +kernel
theorem dX8_isWhole_35 : decode cX8_isWhole 35 = .ok (.iconst 1, 1) := by decide +kernel
theorem dX8_isWhole_36 : decode cX8_isWhole 36 = .ok (.goto 4, 3) := by decide +kernel
theorem dX8_isWhole_39 : decode cX8_isWhole 39 = .ok (.iconst 0, 1) := by decide +kernel
theorem dX8_isWhole_40 : decode cX8_isWhole 40 = .ok (.istore_n 3, 1) := by decide +kernel
theorem dX8_isWhole_41 : decode cX8_isWhole 41 = .ok (.iinc 4 1, 3) := by decide +kernel
theorem dX8_isWhole_44 : decode cX8_isWhole 44 = .ok (.goto (-39), 3) := by decide +kernel
theorem dX8_isWhole_47 : decode cX8_isWhole 47 = .ok (.iload_n 3, 1) := by decide +kernel
theorem dX8_isWhole_48 : decode cX8_isWhole 48 = .ok (.ireturn, 1) := by decide +kernel
theorem dX8_bind_0 : decode cX8_bind 0 = .ok (.aload_n 0, 1) := by decide +kernel
theorem dX8_bind_1 : decode cX8_bind 1 = .ok (.aload_n 0, 1) := by decide +kernel
theorem dX8_bind_2 : decode cX8_bind 2 = .ok (.iload_n 1, 1) := by decide +kernel
theorem dX8_bind_3 : decode cX8_bind 3 = .ok (.iload_n 2, 1) := by decide +kernel
theorem dX8_bind_4 : decode cX8_bind 4 = .ok (.invokevirtual 156, 3) := by decide +kernel
theorem dX8_bind_7 : decode cX8_bind 7 = .ok (.ifCond .eq 7, 3) := by decide +kernel
theorem dX8_bind_10 : decode cX8_bind 10 = .ok (.iconst 0, 1) := by decide +kernel
theorem dX8_bind_11 : decode cX8_bind 11 = .ok (.goto 4, 3) := by decide +kernel
theorem dX8_bind_14 : decode cX8_bind 14 = .ok (.iconst 1, 1) := by decide +kernel
theorem dX8_bind_15 : decode cX8_bind 15 = .ok (.invokevirtual 109, 3) := by decide +kernel
theorem dX8_bind_18 : decode cX8_bind 18 = .ok (.ifCond .eq 33, 3) := by decide +kernel
theorem dX8_bind_21 : decode cX8_bind 21 = .ok (.aload_n 0, 1) := by decide +kernel
theorem dX8_bind_22 : decode cX8_bind 22 = .ok (.aload_n 0, 1) := by decide +kernel
theorem dX8_bind_23 : decode cX8_bind 23 = .ok (.iload_n 1, 1) := by decide +kernel
theorem dX8_bind_24 : decode cX8_bind 24 = .ok (.iload_n 2, 1) := by decide +kernel
theorem dX8_bind_25 : decode cX8_bind 25 = .ok (.invokevirtual 97, 3) := by decide +kernel
theorem dX8_bind_28 : decode cX8_bind 28 = .ok (.ifCond .ne 12, 3) := by decide +kernel
theorem dX8_bind_31 : decode cX8_bind 31 = .ok (.aload_n 0, 1) := by decide +kernel
theorem dX8_bind_32 : decode cX8_bind 32 = .ok (.iload_n 1, 1) := by decide +kernel
theorem dX8_bind_33 : decode cX8_bind 33 = .ok (.iload_n 2, 1) := by decide +kernel
theorem dX8_bind_34 : decode cX8_bind 34 = .ok (.invokevirtual 159, 3) := by decide +kernel
theorem dX8_bind_37 : decode cX8_bind 37 = .ok (.ifCond .ne 7, 3) := by decide +kernel
theorem dX8_bind_40 : decode cX8_bind 40 = .ok (.iconst 2, 1) := by decide +kernel
theorem dX8_bind_41 : decode cX8_bind 41 = .ok (.goto 4, 3) := by decide +kernel
theorem dX8_bind_44 : decode cX8_bind 44 = .ok (.iconst 0, 1) := by decide +kernel
theorem dX8_bind_45 : decode cX8_bind 45 = .ok (.invokevirtual 109, 3) := by decide +kernel
theorem dX8_bind_48 : decode cX8_bind 48 = .ok (.ifCond .ne 5, 3) := by decide +kernel
theorem dX8_bind_51 : decode cX8_bind 51 = .ok (.iconst 0, 1) := by decide +kernel
theorem dX8_bind_52 : decode cX8_bind 52 = .ok (.ireturn, 1) := by decide +kernel
theorem dX8_bind_53 : decode cX8_bind 53 = .ok (.aload_n 0, 1) := by decide +kernel
theorem dX8_bind_54 : decode cX8_bind 54 = .ok (.iload_n 1, 1) := by decide +kernel
theorem dX8_bind_55 : decode cX8_bind 55 = .ok (.invokevirtual 125, 3) := by decide +kernel
theorem dX8_bind_58 : decode cX8_bind 58 = .ok (.istore_n 3, 1) := by decide +kernel
theorem dX8_bind_59 : decode cX8_bind 59 = .ok (.bipush 60, 2) := by decide +kernel
theorem dX8_bind_61 : decode cX8_bind 61 = .ok (.istore 4, 2) := by decide +kernel
theorem dX8_bind_63 : decode cX8_bind 63 = .ok (.iconst 0, 1) := by decide +kernel
theorem dX8_bind_64 : decode cX8_bind 64 = .ok (.istore 5, 2) := by decide +kernel
theorem dX8_bind_66 : decode cX8_bind 66 = .ok (.iload 5, 2) := by decide +kernel
theorem dX8_bind_68 : decode cX8_bind 68 = .ok (.iload_n 3, 1) := by decide +kernel
theorem dX8_bind_69 : decode cX8_bind 69 = .ok (.if_icmp .ge 39, 3) := by decide +kernel
theorem dX8_bind_72 : decode cX8_bind 72 = .ok (.aload_n 0, 1) := by decide +kernel
theorem dX8_bind_73 : decode cX8_bind 73 = .ok (.getfield 37, 3) := by decide +kernel
theorem dX8_bind_76 : decode cX8_bind 76 = .ok (.iload_n 1, 1) := by decide +kernel
theorem dX8_bind_77 : decode cX8_bind 77 = .ok (.iload_n 2, 1) := by decide +kernel
theorem dX8_bind_78 : decode cX8_bind 78 = .ok (.iload 5, 2) := by decide +kernel
theorem dX8_bind_80 : decode cX8_bind 80 = .ok (.invokestatic 121, 3) := by decide +kernel
theorem dX8_bind_83 : decode cX8_bind 83 = .ok (.iaload, 1) := by decide +kernel
theorem dX8_bind_84 : decode cX8_bind 84 = .ok (.istore 6, 2) := by decide +kernel
theorem dX8_bind_86 : decode cX8_bind 86 = .ok (.iload 6, 2) := by decide +kernel
theorem dX8_bind_88 : decode cX8_bind 88 = .ok (.iload 4, 2) := by decide +kernel
theorem dX8_bind_90 : decode cX8_bind 90 = .ok (.if_icmp .ge 8, 3) := by decide +kernel
theorem dX8_bind_93 : decode cX8_bind 93 = .ok (.iload 6, 2) := by decide +kernel
theorem dX8_bind_95 : decode cX8_bind 95 = .ok (.goto 5, 3) := by decide +kernel
theorem dX8_bind_98 : decode cX8_bind 98 = .ok (.iload 4, 2) := by decide +kernel
theorem dX8_bind_100 : decode cX8_bind 100 = .ok (.istore 4, 2) := by decide +kernel
theorem dX8_bind_102 : decode cX8_bind 102 = .ok (.iinc 5 1, 3) := by decide +kernel
theorem dX8_bind_105 : decode cX8_bind 105 = .ok (.goto (-39), 3) := by decide +kernel
theorem dX8_bind_108 : decode cX8_bind 108 = .ok (.iconst 0, 1) := by decide +kernel
theorem dX8_bind_109 : decode cX8_bind 109 = .ok (.istore 5, 2) := by decide +kernel
theorem dX8_bind_111 : decode cX8_bind 111 = .ok (.iconst 0, 1) := by decide +kernel
theorem dX8_bind_112 : decode cX8_bind 112 = .ok (.istore 6, 2) := by decide +kernel
theorem dX8_bind_114 : decode cX8_bind 114 = .ok (.iload 6, 2) := by decide +kernel
theorem dX8_bind_116 : decode cX8_bind 116 = .ok (.iload_n 3, 1) := by decide +kernel
theorem dX8_bind_117 : decode cX8_bind 117 = .ok (.if_icmp .ge 45, 3) := by decide +kernel
theorem dX8_bind_120 : decode cX8_bind 120 = .ok (.aload_n 0, 1) := by decide +kernel
theorem dX8_bind_121 : decode cX8_bind 121 = .ok (.getfield 37, 3) := by decide +kernel
theorem dX8_bind_124 : decode cX8_bind 124 = .ok (.iload_n 1, 1) := by decide +kernel
theorem dX8_bind_125 : decode cX8_bind 125 = .ok (.iload_n 2, 1) := by decide +kernel
theorem dX8_bind_126 : decode cX8_bind 126 = .ok (.iload 6, 2) := by decide +kernel
theorem dX8_bind_128 : decode cX8_bind 128 = .ok (.invokestatic 121, 3) := by decide +kernel
theorem dX8_bind_131 : decode cX8_bind 131 = .ok (.iaload, 1) := by decide +kernel
theorem dX8_bind_132 : decode cX8_bind 132 = .ok (.iload 4, 2) := by decide +kernel
theorem dX8_bind_134 : decode cX8_bind 134 = .ok (.aload_n 0, 1) := by decide +kernel
theorem dX8_bind_135 : decode cX8_bind 135 = .ok (.getfield 56, 3) := by decide +kernel
theorem dX8_bind_138 : decode cX8_bind 138 = .ok (.iadd, 1) := by decide +kernel
theorem dX8_bind_139 : decode cX8_bind 139 = .ok (.if_icmp .le 17, 3) := by decide +kernel
theorem dX8_bind_142 : decode cX8_bind 142 = .ok (.aload_n 0, 1) := by decide +kernel
theorem dX8_bind_143 : decode cX8_bind 143 = .ok (.iload_n 1, 1) := by decide +kernel
theorem dX8_bind_144 : decode cX8_bind 144 = .ok (.iload_n 2, 1) := by decide +kernel
theorem dX8_bind_145 : decode cX8_bind 145 = .ok (.iload 6, 2) := by decide +kernel
theorem dX8_bind_147 : decode cX8_bind 147 = .ok (.invokestatic 121, 3) := by decide +kernel
theorem dX8_bind_150 : decode cX8_bind 150 = .ok (.invokevirtual 105, 3) := by decide +kernel
theorem dX8_bind_153 : decode cX8_bind 153 = .ok (.iinc 5 1, 3) := by decide +kernel
theorem dX8_bind_156 : decode cX8_bind 156 = .ok (.iinc 6 1, 3) := by decide +kernel
theorem dX8_bind_159 : decode cX8_bind 159 = .ok (.goto (-45), 3) := by decide +kernel
theorem dX8_bind_162 : decode cX8_bind 162 = .ok (.aload_n 0, 1) := by decide +kernel
theorem dX8_bind_163 : decode cX8_bind 163 = .ok (.getfield 28, 3) := by decide +kernel
theorem dX8_bind_166 : decode cX8_bind 166 = .ok (.iconst 3, 1) := by decide +kernel
theorem dX8_bind_167 : decode cX8_bind 167 = .ok (.iload_n 1, 1) := by decide +kernel
theorem dX8_bind_168 : decode cX8_bind 168 = .ok (.imul, 1) := by decide +kernel
theorem dX8_bind_169 : decode cX8_bind 169 = .ok (.iload_n 2, 1) := by decide +kernel
theorem dX8_bind_170 : decode cX8_bind 170 = .ok (.iadd, 1) := by decide +kernel
theorem dX8_bind_171 : decode cX8_bind 171 = .ok (.iload 5, 2) := by decide +kernel
theorem dX8_bind_173 : decode cX8_bind 173 = .ok (.ifCond .le 7, 3) := by decide +kernel
theorem dX8_bind_176 : decode cX8_bind 176 = .ok (.iconst (-1), 1) := by decide +kernel
theorem dX8_bind_177 : decode cX8_bind 177 = .ok (.goto 4, 3) := by decide +kernel
theorem dX8_bind_180 : decode cX8_bind 180 = .ok (.iload_n 3, 1) := by decide +kernel
theorem dX8_bind_181 : decode cX8_bind 181 = .ok (.iastore, 1) := by decide +kernel
theorem dX8_bind_182 : decode cX8_bind 182 = .ok (.iload 5, 2) := by decide +kernel
theorem dX8_bind_184 : decode cX8_bind 184 = .ok (.ifCond .le 9, 3) := by decide +kernel
theorem dX8_bind_187 : decode cX8_bind 187 = .ok (.iload 5, 2) := by decide +kernel
theorem dX8_bind_189 : decode cX8_bind 189 = .ok (.ineg, 1) := by decide +kernel
theorem dX8_bind_190 : decode cX8_bind 190 = .ok (.goto 4, 3) := by decide +kernel
theorem dX8_bind_193 : decode cX8_bind 193 = .ok (.iload_n 3, 1) := by decide +kernel
theorem dX8_bind_194 : decode cX8_bind 194 = .ok (.ireturn, 1) := by decide +kernel
theorem dX8_isBound_0 : decode cX8_isBound 0 = .ok (.aload_n 0, 1) := by decide +kernel
theorem dX8_isBound_1 : decode cX8_isBound 1 = .ok (.aload_n 0, 1) := by decide +kernel
theorem dX8_isBound_2 : decode cX8_isBound 2 = .ok (.iload_n 1, 1) := by decide +kernel
theorem dX8_isBound_3 : decode cX8_isBound 3 = .ok (.iload_n 2, 1) := by decide +kernel
theorem dX8_isBound_4 : decode cX8_isBound 4 = .ok (.invokevirtual 156, 3) := by decide +kernel
theorem dX8_isBound_7 : decode cX8_isBound 7 = .ok (.ifCond .eq 7, 3) := by decide +kernel
theorem dX8_isBound_10 : decode cX8_isBound 10 = .ok (.iconst 0, 1) := by decide +kernel
theorem dX8_isBound_11 : decode cX8_isBound 11 = .ok (.goto 4, 3) := by decide +kernel
theorem dX8_isBound_14 : decode cX8_isBound 14 = .ok (.iconst 1, 1) := by decide +kernel
theorem dX8_isBound_15 : decode cX8_isBound 15 = .ok (.invokevirtual 109, 3) := by decide +kernel
theorem dX8_isBound_18 : decode cX8_isBound 18 = .ok (.ifCond .eq 16, 3) := by decide +kernel
theorem dX8_isBound_21 : decode cX8_isBound 21 = .ok (.aload_n 0, 1) := by decide +kernel
theorem dX8_isBound_22 : decode cX8_isBound 22 = .ok (.iload_n 1, 1) := by decide +kernel
theorem dX8_isBound_23 : decode cX8_isBound 23 = .ok (.iload_n 2, 1) := by decide +kernel
theorem dX8_isBound_24 : decode cX8_isBound 24 = .ok (.invokevirtual 97, 3) := by decide +kernel
theorem dX8_isBound_27 : decode cX8_isBound 27 = .ok (.ifCond .eq 7, 3) := by decide +kernel
theorem dX8_isBound_30 : decode cX8_isBound 30 = .ok (.iconst 1, 1) := by decide +kernel
theorem dX8_isBound_31 : decode cX8_isBound 31 = .ok (.goto 4, 3) := by decide +kernel
theorem dX8_isBound_34 : decode cX8_isBound 34 = .ok (.iconst 0, 1) := by decide +kernel
theorem dX8_isBound_35 : decode cX8_isBound 35 = .ok (.ireturn, 1) := by decide +kernel
theorem dX8_hasFrame_0 : decode cX8_hasFrame 0 = .ok (.aload_n 0, 1) := by decide +kernel
theorem dX8_hasFrame_1 : decode cX8_hasFrame 1 = .ok (.iload_n 1, 1) := by decide +kernel
theorem dX8_hasFrame_2 : decode cX8_hasFrame 2 = .ok (.iload_n 2, 1) := by decide +kernel
theorem dX8_hasFrame_3 : decode cX8_hasFrame 3 = .ok (.invokevirtual 156, 3) := by decide +kernel
theorem dX8_hasFrame_6 : decode cX8_hasFrame 6 = .ok (.ifCond .ne 5, 3) := by decide +kernel
theorem dX8_hasFrame_9 : decode cX8_hasFrame 9 = .ok (.iconst 0, 1) := by decide +kernel
theorem dX8_hasFrame_10 : decode cX8_hasFrame 10 = .ok (.ireturn, 1) := by decide +kernel
theorem dX8_hasFrame_11 : decode cX8_hasFrame 11 = .ok (.iload_n 3, 1) := by decide +kernel
theorem dX8_hasFrame_12 : decode cX8_hasFrame 12 = .ok (.iconst 0, 1) := by decide +kernel
theorem dX8_hasFrame_13 : decode cX8_hasFrame 13 = .ok (.aload_n 0, 1) := by decide +kernel
theorem dX8_hasFrame_14 : decode cX8_hasFrame 14 = .ok (.iload_n 1, 1) := by decide +kernel
theorem dX8_hasFrame_15 : decode cX8_hasFrame 15 = .ok (.iload_n 2, 1) := by decide +kernel
theorem dX8_hasFrame_16 : decode cX8_hasFrame 16 = .ok (.invokevirtual 97, 3) := by decide +kernel
theorem dX8_hasFrame_19 : decode cX8_hasFrame 19 = .ok (.ifCond .eq 16, 3) := by decide +kernel
theorem dX8_hasFrame_22 : decode cX8_hasFrame 22 = .ok (.aload_n 0, 1) := by decide +kernel
theorem dX8_hasFrame_23 : decode cX8_hasFrame 23 = .ok (.getfield 28, 3) := by decide +kernel
theorem dX8_hasFrame_26 : decode cX8_hasFrame 26 = .ok (.iconst 3, 1) := by decide +kernel
theorem dX8_hasFrame_27 : decode cX8_hasFrame 27 = .ok (.iload_n 1, 1) := by decide +kernel
theorem dX8_hasFrame_28 : decode cX8_hasFrame 28 = .ok (.imul, 1) := by decide +kernel
theorem dX8_hasFrame_29 : decode cX8_hasFrame 29 = .ok (.iload_n 2, 1) := by decide +kernel
theorem dX8_hasFrame_30 : decode cX8_hasFrame 30 = .ok (.iadd, 1) := by decide +kernel
theorem dX8_hasFrame_31 : decode cX8_hasFrame 31 = .ok (.iaload, 1) := by decide +kernel
theorem dX8_hasFrame_32 : decode cX8_hasFrame 32 = .ok (.goto 8, 3) := by decide +kernel
theorem dX8_hasFrame_35 : decode cX8_hasFrame 35 = .ok (.aload_n 0, 1) := by decide +kernel
theorem dX8_hasFrame_36 : decode cX8_hasFrame 36 = .ok (.iload_n 1, 1) := by decide +kernel
theorem dX8_hasFrame_37 : decode cX8_hasFrame 37 = .ok (.invokevirtual 125, 3) := by decide +kernel
theorem dX8_hasFrame_40 : decode cX8_hasFrame 40 = .ok (.iconst 1, 1) := by decide +kernel
theorem dX8_hasFrame_41 : decode cX8_hasFrame 41 = .ok (.isub, 1) := by decide +kernel
theorem dX8_hasFrame_42 : decode cX8_hasFrame 42 = .ok (.invokestatic 75, 3) := by decide +kernel
theorem dX8_hasFrame_45 : decode cX8_hasFrame 45 = .ok (.ireturn, 1) := by decide +kernel
theorem dX8_trim_0 : decode cX8_trim 0 = .ok (.aload_n 0, 1) := by decide +kernel
theorem dX8_trim_1 : decode cX8_trim 1 = .ok (.aload_n 0, 1) := by decide +kernel
theorem dX8_trim_2 : decode cX8_trim 2 = .ok (.iload_n 1, 1) := by decide +kernel
theorem dX8_trim_3 : decode cX8_trim 3 = .ok (.iload_n 2, 1) := by decide +kernel
theorem dX8_trim_4 : decode cX8_trim 4 = .ok (.iload_n 3, 1) := by decide +kernel
theorem dX8_trim_5 : decode cX8_trim 5 = .ok (.invokevirtual 162, 3) := by decide +kernel
theorem dX8_trim_8 : decode cX8_trim 8 = .ok (.ifCond .eq 7, 3) := by decide +kernel
theorem dX8_trim_11 : decode cX8_trim 11 = .ok (.iconst 0, 1) := by decide +kernel
theorem dX8_trim_12 : decode cX8_trim 12 = .ok (.goto 4, 3) := by decide +kernel
theorem dX8_trim_15 : decode cX8_trim 15 = .ok (.iconst 1, 1) := by decide +kernel
theorem dX8_trim_16 : decode cX8_trim 16 = .ok (.invokevirtual 109, 3) := by decide +kernel
theorem dX8_trim_19 : decode cX8_trim 19 = .ok (.ifCond .eq 17, 3) := by decide +kernel
theorem dX8_trim_22 : decode cX8_trim 22 = .ok (.aload_n 0, 1) := by decide +kernel
theorem dX8_trim_23 : decode cX8_trim 23 = .ok (.getfield 37, 3) := by decide +kernel
theorem dX8_trim_26 : decode cX8_trim 26 = .ok (.iload_n 1, 1) := by decide +kernel
theorem dX8_trim_27 : decode cX8_trim 27 = .ok (.iload_n 2, 1) := by decide +kernel
theorem dX8_trim_28 : decode cX8_trim 28 = .ok (.iload_n 3, 1) := by decide +kernel
theorem dX8_trim_29 : decode cX8_trim 29 = .ok (.invokestatic 121, 3) := by decide +kernel
theorem dX8_trim_32 : decode cX8_trim 32 = .ok (.iaload, 1) := by decide +kernel
theorem dX8_trim_33 : decode cX8_trim 33 = .ok (.goto 4, 3) := by decide +kernel
theorem dX8_trim_36 : decode cX8_trim 36 = .ok (.iconst 0, 1) := by decide +kernel
theorem dX8_trim_37 : decode cX8_trim 37 = .ok (.ireturn, 1) := by decide +kernel
theorem dX8_leafShown_0 : decode cX8_leafShown 0 = .ok (.aload_n 0, 1) := by decide +kernel
theorem dX8_leafShown_1 : decode cX8_leafShown 1 = .ok (.aload_n 0, 1) := by decide +kernel
theorem dX8_leafShown_2 : decode cX8_leafShown 2 = .ok (.iload_n 1, 1) := by decide +kernel
theorem dX8_leafShown_3 : decode cX8_leafShown 3 = .ok (.iload_n 2, 1) := by decide +kernel
theorem dX8_leafShown_4 : decode cX8_leafShown 4 = .ok (.iload_n 3, 1) := by decide +kernel
theorem dX8_leafShown_5 : decode cX8_leafShown 5 = .ok (.invokevirtual 162, 3) := by decide +kernel
theorem dX8_leafShown_8 : decode cX8_leafShown 8 = .ok (.ifCond .eq 7, 3) := by decide +kernel
theorem dX8_leafShown_11 : decode cX8_leafShown 11 = .ok (.iconst 0, 1) := by decide +kernel
theorem dX8_leafShown_12 : decode cX8_leafShown 12 = .ok (.goto 4, 3) := by decide +kernel
theorem dX8_leafShown_15 : decode cX8_leafShown 15 = .ok (.iconst 1, 1) := by decide +kernel
theorem dX8_leafShown_16 : decode cX8_leafShown 16 = .ok (.invokevirtual 109, 3) := by decide +kernel
theorem dX8_leafShown_19 : decode cX8_leafShown 19 = .ok (.ifCond .ne 5, 3) := by decide +kernel
theorem dX8_leafShown_22 : decode cX8_leafShown 22 = .ok (.iconst 0, 1) := by decide +kernel
theorem dX8_leafShown_23 : decode cX8_leafShown 23 = .ok (.ireturn, 1) := by decide +kernel
theorem dX8_leafShown_24 : decode cX8_leafShown 24 = .ok (.iload_n 1, 1) := by decide +kernel
theorem dX8_leafShown_25 : decode cX8_leafShown 25 = .ok (.iload_n 2, 1) := by decide +kernel
theorem dX8_leafShown_26 : decode cX8_leafShown 26 = .ok (.iload_n 3, 1) := by decide +kernel
theorem dX8_leafShown_27 : decode cX8_leafShown 27 = .ok (.invokestatic 121, 3) := by decide +kernel
theorem dX8_leafShown_30 : decode cX8_leafShown 30 = .ok (.istore 4, 2) := by decide +kernel
theorem dX8_leafShown_32 : decode cX8_leafShown 32 = .ok (.aload_n 0, 1) := by decide +kernel
theorem dX8_leafShown_33 : decode cX8_leafShown 33 = .ok (.getfield 37, 3) := by decide +kernel
theorem dX8_leafShown_36 : decode cX8_leafShown 36 = .ok (.iload 4, 2) := by decide +kernel
theorem dX8_leafShown_38 : decode cX8_leafShown 38 = .ok (.iaload, 1) := by decide +kernel
theorem dX8_leafShown_39 : decode cX8_leafShown 39 = .ok (.iconst (-1), 1) := by decide +kernel
theorem dX8_leafShown_40 : decode cX8_leafShown 40 = .ok (.if_icmp .ne 7, 3) := by decide +kernel
theorem dX8_leafShown_43 : decode cX8_leafShown 43 = .ok (.iconst (-1), 1) := by decide +kernel
theorem dX8_leafShown_44 : decode cX8_leafShown 44 = .ok (.goto 10, 3) := by decide +kernel
theorem dX8_leafShown_47 : decode cX8_leafShown 47 = .ok (.aload_n 0, 1) := by decide +kernel
theorem dX8_leafShown_48 : decode cX8_leafShown 48 = .ok (.getfield 31, 3) := by decide +kernel
theorem dX8_leafShown_51 : decode cX8_leafShown 51 = .ok (.iload 4, 2) := by decide +kernel
theorem dX8_leafShown_53 : decode cX8_leafShown 53 = .ok (.iaload, 1) := by decide +kernel
theorem dX8_leafShown_54 : decode cX8_leafShown 54 = .ok (.ireturn, 1) := by decide +kernel
theorem dX8_leaf_0 : decode cX8_leaf 0 = .ok (.aload_n 0, 1) := by decide +kernel
theorem dX8_leaf_1 : decode cX8_leaf 1 = .ok (.iload_n 1, 1) := by decide +kernel
theorem dX8_leaf_2 : decode cX8_leaf 2 = .ok (.iload_n 2, 1) := by decide +kernel
theorem dX8_leaf_3 : decode cX8_leaf 3 = .ok (.iload_n 3, 1) := by decide +kernel
theorem dX8_leaf_4 : decode cX8_leaf 4 = .ok (.invokevirtual 165, 3) := by decide +kernel
theorem dX8_leaf_7 : decode cX8_leaf 7 = .ok (.ireturn, 1) := by decide +kernel
theorem dX8_leafByPiles_0 : decode cX8_leafByPiles 0 = .ok (.aload_n 0, 1) := by decide +kernel
theorem dX8_leafByPiles_1 : decode cX8_leafByPiles 1 = .ok (.iload_n 1, 1) := by decide +kernel
theorem dX8_leafByPiles_2 : decode cX8_leafByPiles 2 = .ok (.iload_n 2, 1) := by decide +kernel
theorem dX8_leafByPiles_3 : decode cX8_leafByPiles 3 = .ok (.iload_n 3, 1) := by decide +kernel
theorem dX8_leafByPiles_4 : decode cX8_leafByPiles 4 = .ok (.invokevirtual 165, 3) := by decide +kernel
theorem dX8_leafByPiles_7 : decode cX8_leafByPiles 7 = .ok (.ireturn, 1) := by decide +kernel
theorem dX8_spoiled_0 : decode cX8_spoiled 0 = .ok (.aload_n 0, 1) := by decide +kernel
theorem dX8_spoiled_1 : decode cX8_spoiled 1 = .ok (.iconst 0, 1) := by decide +kernel
theorem dX8_spoiled_2 : decode cX8_spoiled 2 = .ok (.putfield 69, 3) := by decide +kernel
theorem dX8_spoiled_5 : decode cX8_spoiled 5 = .ok (.aload_n 0, 1) := by decide +kernel
theorem dX8_spoiled_6 : decode cX8_spoiled 6 = .ok (.getfield 90, 3) := by decide +kernel
theorem dX8_spoiled_9 : decode cX8_spoiled 9 = .ok (.ireturn, 1) := by decide +kernel
end
section
theorem dX0_init_0 : decode cX0_init 0 = .ok (.aload_n 0, 1) := by decide +kernel
theorem dX0_init_1 : decode cX0_init 1 = .ok (.invokespecial 3, 3) := by decide +kernel
theorem dX0_init_4 : decode cX0_init 4 = .ok (.aload_n 0, 1) := by decide +kernel
theorem dX0_init_5 : decode cX0_init 5 = .ok (.bipush 8, 2) := by decide +kernel
theorem dX0_init_7 : decode cX0_init 7 = .ok (.newarray .int, 2) := by decide +kernel
theorem dX0_init_9 : decode cX0_init 9 = .ok (.putfield 9, 3) := by decide +kernel
theorem dX0_init_12 : decode cX0_init 12 = .ok (.aload_n 0, 1) := by decide +kernel
theorem dX0_init_13 : decode cX0_init 13 = .ok (.bipush 8, 2) := by decide +kernel
theorem dX0_init_15 : decode cX0_init 15 = .ok (.newarray .int, 2) := by decide +kernel
theorem dX0_init_17 : decode cX0_init 17 = .ok (.putfield 15, 3) := by decide +kernel
theorem dX0_init_20 : decode cX0_init 20 = .ok (.aload_n 0, 1) := by decide +kernel
theorem dX0_init_21 : decode cX0_init 21 = .ok (.bipush 8, 2) := by decide +kernel
theorem dX0_init_23 : decode cX0_init 23 = .ok (.newarray .int, 2) := by decide +kernel
theorem dX0_init_25 : decode cX0_init 25 = .ok (.putfield 18, 3) := by decide +kernel
theorem dX0_init_28 : decode cX0_init 28 = .ok (.aload_n 0, 1) := by decide +kernel
theorem dX0_init_29 : decode cX0_init 29 = .ok (.bipush 43, 2) := by decide +kernel
theorem dX0_init_31 : decode cX0_init 31 = .ok (.newarray .int, 2) := by decide +kernel
theorem dX0_init_33 : decode cX0_init 33 = .ok (.putfield 21, 3) := by decide +kernel
theorem dX0_init_36 : decode cX0_init 36 = .ok (.aload_n 0, 1) := by decide +kernel
theorem dX0_init_37 : decode cX0_init 37 = .ok (.iconst 0, 1) := by decide +kernel
theorem dX0_init_38 : decode cX0_init 38 = .ok (.putfield 24, 3) := by decide +kernel
theorem dX0_init_41 : decode cX0_init 41 = .ok (.aload_n 0, 1) := by decide +kernel
theorem dX0_init_42 : decode cX0_init 42 = .ok (.iconst 0, 1) := by decide +kernel
theorem dX0_init_43 : decode cX0_init 43 = .ok (.putfield 28, 3) := by decide +kernel
theorem dX0_init_46 : decode cX0_init 46 = .ok (.return_, 1) := by decide +kernel
theorem dX0_insert_0 : decode cX0_insert 0 = .ok (.iload_n 1, 1) := by decide +kernel
theorem dX0_insert_1 : decode cX0_insert 1 = .ok (.ifCond .lt 20, 3) := by decide +kernel
theorem dX0_insert_4 : decode cX0_insert 4 = .ok (.iload_n 1, 1) := by decide +kernel
theorem dX0_insert_5 : decode cX0_insert 5 = .ok (.aload_n 0, 1) := by decide +kernel
theorem dX0_insert_6 : decode cX0_insert 6 = .ok (.getfield 24, 3) := by decide +kernel
theorem dX0_insert_9 : decode cX0_insert 9 = .ok (.if_icmp .gt 12, 3) := by decide +kernel
theorem dX0_insert_12 : decode cX0_insert 12 = .ok (.aload_n 0, 1) := by decide +kernel
theorem dX0_insert_13 : decode cX0_insert 13 = .ok (.getfield 24, 3) := by decide +kernel
theorem dX0_insert_16 : decode cX0_insert 16 = .ok (.bipush 8, 2) := by decide +kernel
theorem dX0_insert_18 : decode cX0_insert 18 = .ok (.if_icmp .lt 4, 3) := by decide +kernel
theorem dX0_insert_21 : decode cX0_insert 21 = .ok (.return_, 1) := by decide +kernel
theorem dX0_insert_22 : decode cX0_insert 22 = .ok (.aload_n 0, 1) := by decide +kernel
theorem dX0_insert_23 : decode cX0_insert 23 = .ok (.getfield 24, 3) := by decide +kernel
theorem dX0_insert_26 : decode cX0_insert 26 = .ok (.istore 5, 2) := by decide +kernel
theorem dX0_insert_28 : decode cX0_insert 28 = .ok (.iload 5, 2) := by decide +kernel
theorem dX0_insert_30 : decode cX0_insert 30 = .ok (.iload_n 1, 1) := by decide +kernel
theorem dX0_insert_31 : decode cX0_insert 31 = .ok (.if_icmp .le 19, 3) := by decide +kernel
theorem dX0_insert_34 : decode cX0_insert 34 = .ok (.aload_n 0, 1) := by decide +kernel
theorem dX0_insert_35 : decode cX0_insert 35 = .ok (.iload 5, 2) := by decide +kernel
theorem dX0_insert_37 : decode cX0_insert 37 = .ok (.iconst 1, 1) := by decide +kernel
theorem dX0_insert_38 : decode cX0_insert 38 = .ok (.isub, 1) := by decide +kernel
theorem dX0_insert_39 : decode cX0_insert 39 = .ok (.iload 5, 2) := by decide +kernel
theorem dX0_insert_41 : decode cX0_insert 41 = .ok (.invokevirtual 31, 3) := by decide +kernel
theorem dX0_insert_44 : decode cX0_insert 44 = .ok (.iinc 5 (-1), 3) := by decide +kernel
theorem dX0_insert_47 : decode cX0_insert 47 = .ok (.goto (-19), 3) := by decide +kernel
theorem dX0_insert_50 : decode cX0_insert 50 = .ok (.aload_n 0, 1) := by decide +kernel
theorem dX0_insert_51 : decode cX0_insert 51 = .ok (.getfield 9, 3) := by decide +kernel
theorem dX0_insert_54 : decode cX0_insert 54 = .ok (.iload_n 1, 1) := by decide +kernel
theorem dX0_insert_55 : decode cX0_insert 55 = .ok (.iload_n 2, 1) := by decide +kernel
theorem dX0_insert_56 : decode cX0_insert 56 = .ok (.iastore, 1) := by decide +kernel
theorem dX0_insert_57 : decode cX0_insert 57 = .ok (.aload_n 0, 1) := by decide +kernel
theorem dX0_insert_58 : decode cX0_insert 58 = .ok (.getfield 15, 3) := by decide +kernel
theorem dX0_insert_61 : decode cX0_insert 61 = .ok (.iload_n 1, 1) := by decide +kernel
theorem dX0_insert_62 : decode cX0_insert 62 = .ok (.iload_n 3, 1) := by decide +kernel
theorem dX0_insert_63 : decode cX0_insert 63 = .ok (.iastore, 1) := by decide +kernel
theorem dX0_insert_64 : decode cX0_insert 64 = .ok (.aload_n 0, 1) := by decide +kernel
theorem dX0_insert_65 : decode cX0_insert 65 = .ok (.getfield 18, 3) := by decide +kernel
theorem dX0_insert_68 : decode cX0_insert 68 = .ok (.iload_n 1, 1) := by decide +kernel
theorem dX0_insert_69 : decode cX0_insert 69 = .ok (.iload 4, 2) := by decide +kernel
theorem dX0_insert_71 : decode cX0_insert 71 = .ok (.iastore, 1) := by decide +kernel
theorem dX0_insert_72 : decode cX0_insert 72 = .ok (.aload_n 0, 1) := by decide +kernel
theorem dX0_insert_73 : decode cX0_insert 73 = .ok (.dup, 1) := by decide +kernel
theorem dX0_insert_74 : decode cX0_insert 74 = .ok (.getfield 24, 3) := by decide +kernel
theorem dX0_insert_77 : decode cX0_insert 77 = .ok (.iconst 1, 1) := by decide +kernel
theorem dX0_insert_78 : decode cX0_insert 78 = .ok (.iadd, 1) := by decide +kernel
theorem dX0_insert_79 : decode cX0_insert 79 = .ok (.putfield 24, 3) := by decide +kernel
theorem dX0_insert_82 : decode cX0_insert 82 = .ok (.aload_n 0, 1) := by decide +kernel
theorem dX0_insert_83 : decode cX0_insert 83 = .ok (.invokevirtual 35, 3) := by decide +kernel
theorem dX0_insert_86 : decode cX0_insert 86 = .ok (.return_, 1) := by decide +kernel
theorem dX0_takeOut_0 : decode cX0_takeOut 0 = .ok (.iload_n 1, 1) := by decide +kernel
theorem dX0_takeOut_1 : decode cX0_takeOut 1 = .ok (.ifCond .lt 11, 3) := by decide +kernel
theorem dX0_takeOut_4 : decode cX0_takeOut 4 = .ok (.iload_n 1, 1) := by decide +kernel
theorem dX0_takeOut_5 : decode cX0_takeOut 5 = .ok (.aload_n 0, 1) := by decide +kernel
theorem dX0_takeOut_6 : decode cX0_takeOut 6 = .ok (.getfield 24, 3) := by decide +kernel
theorem dX0_takeOut_9 : decode cX0_takeOut 9 = .ok (.if_icmp .lt 4, 3) := by decide +kernel
theorem dX0_takeOut_12 : decode cX0_takeOut 12 = .ok (.return_, 1) := by decide +kernel
theorem dX0_takeOut_13 : decode cX0_takeOut 13 = .ok (.iload_n 1, 1) := by decide +kernel
theorem dX0_takeOut_14 : decode cX0_takeOut 14 = .ok (.iconst 1, 1) := by decide +kernel
theorem dX0_takeOut_15 : decode cX0_takeOut 15 = .ok (.iadd, 1) := by decide +kernel
theorem dX0_takeOut_16 : decode cX0_takeOut 16 = .ok (.istore_n 2, 1) := by decide +kernel
theorem dX0_takeOut_17 : decode cX0_takeOut 17 = .ok (.iload_n 2, 1) := by decide +kernel
theorem dX0_takeOut_18 : decode cX0_takeOut 18 = .ok (.aload_n 0, 1) := by decide +kernel
theorem dX0_takeOut_19 : decode cX0_takeOut 19 = .ok (.getfield 24, 3) := by decide +kernel
theorem dX0_takeOut_22 : decode cX0_takeOut 22 = .ok (.if_icmp .ge 17, 3) := by decide +kernel
theorem dX0_takeOut_25 : decode cX0_takeOut 25 = .ok (.aload_n 0, 1) := by decide +kernel
theorem dX0_takeOut_26 : decode cX0_takeOut 26 = .ok (.iload_n 2, 1) := by decide +kernel
theorem dX0_takeOut_27 : decode cX0_takeOut 27 = .ok (.iload_n 2, 1) := by decide +kernel
theorem dX0_takeOut_28 : decode cX0_takeOut 28 = .ok (.iconst 1, 1) := by decide +kernel
theorem dX0_takeOut_29 : decode cX0_takeOut 29 = .ok (.isub, 1) := by decide +kernel
theorem dX0_takeOut_30 : decode cX0_takeOut 30 = .ok (.invokevirtual 31, 3) := by decide +kernel
theorem dX0_takeOut_33 : decode cX0_takeOut 33 = .ok (.iinc 2 1, 3) := by decide +kernel
theorem dX0_takeOut_36 : decode cX0_takeOut 36 = .ok (.goto (-19), 3) := by decide +kernel
theorem dX0_takeOut_39 : decode cX0_takeOut 39 = .ok (.aload_n 0, 1) := by decide +kernel
theorem dX0_takeOut_40 : decode cX0_takeOut 40 = .ok (.dup, 1) := by decide +kernel
theorem dX0_takeOut_41 : decode cX0_takeOut 41 = .ok (.getfield 24, 3) := by decide +kernel
theorem dX0_takeOut_44 : decode cX0_takeOut 44 = .ok (.iconst 1, 1) := by decide +kernel
theorem dX0_takeOut_45 : decode cX0_takeOut 45 = .ok (.isub, 1) := by decide +kernel
theorem dX0_takeOut_46 : decode cX0_takeOut 46 = .ok (.putfield 24, 3) := by decide +kernel
theorem dX0_takeOut_49 : decode cX0_takeOut 49 = .ok (.aload_n 0, 1) := by decide +kernel
theorem dX0_takeOut_50 : decode cX0_takeOut 50 = .ok (.invokevirtual 35, 3) := by decide +kernel
theorem dX0_takeOut_53 : decode cX0_takeOut 53 = .ok (.return_, 1) := by decide +kernel
theorem dX0_putAt_0 : decode cX0_putAt 0 = .ok (.iload_n 1, 1) := by decide +kernel
theorem dX0_putAt_1 : decode cX0_putAt 1 = .ok (.ifCond .lt 11, 3) := by decide +kernel
theorem dX0_putAt_4 : decode cX0_putAt 4 = .ok (.iload_n 1, 1) := by decide +kernel
theorem dX0_putAt_5 : decode cX0_putAt 5 = .ok (.aload_n 0, 1) := by decide +kernel
theorem dX0_putAt_6 : decode cX0_putAt 6 = .ok (.getfield 24, 3) := by decide +kernel
theorem dX0_putAt_9 : decode cX0_putAt 9 = .ok (.if_icmp .lt 4, 3) := by decide +kernel
theorem dX0_putAt_12 : decode cX0_putAt 12 = .ok (.return_, 1) := by decide +kernel
theorem dX0_putAt_13 : decode cX0_putAt 13 = .ok (.aload_n 0, 1) := by decide +kernel
theorem dX0_putAt_14 : decode cX0_putAt 14 = .ok (.getfield 9, 3) := by decide +kernel
theorem dX0_putAt_17 : decode cX0_putAt 17 = .ok (.iload_n 1, 1) := by decide +kernel
theorem dX0_putAt_18 : decode cX0_putAt 18 = .ok (.iload_n 2, 1) := by decide +kernel
theorem dX0_putAt_19 : decode cX0_putAt 19 = .ok (.iastore, 1) := by decide +kernel
theorem dX0_putAt_20 : decode cX0_putAt 20 = .ok (.aload_n 0, 1) := by decide +kernel
theorem dX0_putAt_21 : decode cX0_putAt 21 = .ok (.invokevirtual 35, 3) := by decide +kernel
theorem dX0_putAt_24 : decode cX0_putAt 24 = .ok (.return_, 1) := by decide +kernel
theorem dX0_positionOf_0 : decode cX0_positionOf 0 = .ok (.iload_n 1, 1) := by decide +kernel
theorem dX0_positionOf_1 : decode cX0_positionOf 1 = .ok (.ifCond .lt 11, 3) := by decide +kernel
theorem dX0_positionOf_4 : decode cX0_positionOf 4 = .ok (.iload_n 1, 1) := by decide +kernel
theorem dX0_positionOf_5 : decode cX0_positionOf 5 = .ok (.aload_n 0, 1) := by decide +kernel
theorem dX0_positionOf_6 : decode cX0_positionOf 6 = .ok (.getfield 28, 3) := by decide +kernel
theorem dX0_positionOf_9 : decode cX0_positionOf 9 = .ok (.if_icmp .lt 7, 3) := by decide +kernel
theorem dX0_positionOf_12 : decode cX0_positionOf 12 = .ok (.iconst (-1), 1) := by decide +kernel
theorem dX0_positionOf_13 : decode cX0_positionOf 13 = .ok (.goto 9, 3) := by decide +kernel
theorem dX0_positionOf_16 : decode cX0_positionOf 16 = .ok (.aload_n 0, 1) := by decide +kernel
theorem dX0_positionOf_17 : decode cX0_positionOf 17 = .ok (.getfield 21, 3) := by decide +kernel
theorem dX0_positionOf_20 : decode cX0_positionOf 20 = .ok (.iload_n 1, 1) := by decide +kernel
theorem dX0_positionOf_21 : decode cX0_positionOf 21 = .ok (.iaload, 1) := by decide +kernel
theorem dX0_positionOf_22 : decode cX0_positionOf 22 = .ok (.ireturn, 1) := by decide +kernel
theorem dX0_copyDrawing_0 : decode cX0_copyDrawing 0 = .ok (.aload_n 0, 1) := by decide +kernel
theorem dX0_copyDrawing_1 : decode cX0_copyDrawing 1 = .ok (.getfield 9, 3) := by decide +kernel
theorem dX0_copyDrawing_4 : decode cX0_copyDrawing 4 = .ok (.iload_n 2, 1) := by decide +kernel
theorem dX0_copyDrawing_5 : decode cX0_copyDrawing 5 = .ok (.aload_n 0, 1) := by decide +kernel
theorem dX0_copyDrawing_6 : decode cX0_copyDrawing 6 = .ok (.getfield 9, 3) := by decide +kernel
theorem dX0_copyDrawing_9 : decode cX0_copyDrawing 9 = .ok (.iload_n 1, 1) := by decide +kernel
theorem dX0_copyDrawing_10 : decode cX0_copyDrawing 10 = .ok (.iaload, 1) := by decide +kernel
theorem dX0_copyDrawing_11 : decode cX0_copyDrawing 11 = .ok (.iastore, 1) := by decide +kernel
theorem dX0_copyDrawing_12 : decode cX0_copyDrawing 12 = .ok (.aload_n 0, 1) := by decide +kernel
theorem dX0_copyDrawing_13 : decode cX0_copyDrawing 13 = .ok (.getfield 15, 3) := by decide +kernel
theorem dX0_copyDrawing_16 : decode cX0_copyDrawing 16 = .ok (.iload_n 2, 1) := by decide +kernel
theorem dX0_copyDrawing_17 : decode cX0_copyDrawing 17 = .ok (.aload_n 0, 1) := by decide +kernel
theorem dX0_copyDrawing_18 : decode cX0_copyDrawing 18 = .ok (.getfield 15, 3) := by decide +kernel
theorem dX0_copyDrawing_21 : decode cX0_copyDrawing 21 = .ok (.iload_n 1, 1) := by decide +kernel
theorem dX0_copyDrawing_22 : decode cX0_copyDrawing 22 = .ok (.iaload, 1) := by decide +kernel
theorem dX0_copyDrawing_23 : decode cX0_copyDrawing 23 = .ok (.iastore, 1) := by decide +kernel
theorem dX0_copyDrawing_24 : decode cX0_copyDrawing 24 = .ok (.aload_n 0, 1) := by decide +kernel
theorem dX0_copyDrawing_25 : decode cX0_copyDrawing 25 = .ok (.getfield 18, 3) := by decide +kernel
theorem dX0_copyDrawing_28 : decode cX0_copyDrawing 28 = .ok (.iload_n 2, 1) := by decide +kernel
theorem dX0_copyDrawing_29 : decode cX0_copyDrawing 29 = .ok (.aload_n 0, 1) := by decide +kernel
theorem dX0_copyDrawing_30 : decode cX0_copyDrawing 30 = .ok (.getfield 18, 3) := by decide +kernel
theorem dX0_copyDrawing_33 : decode cX0_copyDrawing 33 = .ok (.iload_n 1, 1) := by decide +kernel
theorem dX0_copyDrawing_34 : decode cX0_copyDrawing 34 = .ok (.iaload, 1) := by decide +kernel
theorem dX0_copyDrawing_35 : decode cX0_copyDrawing 35 = .ok (.iastore, 1) := by decide +kernel
theorem dX0_copyDrawing_36 : decode cX0_copyDrawing 36 = .ok (.return_, 1) := by decide +kernel
theorem dX0_layFrames_0 : decode cX0_layFrames 0 = .ok (.aload_n 0, 1) := by decide +kernel
theorem dX0_layFrames_1 : decode cX0_layFrames 1 = .ok (.iconst 0, 1) := by decide +kernel
theorem dX0_layFrames_2 : decode cX0_layFrames 2 = .ok (.putfield 28, 3) := by decide +kernel
theorem dX0_layFrames_5 : decode cX0_layFrames 5 = .ok (.iconst 0, 1) := by decide +kernel
theorem dX0_layFrames_6 : decode cX0_layFrames 6 = .ok (.istore_n 1, 1) := by decide +kernel
theorem dX0_layFrames_7 : decode cX0_layFrames 7 = .ok (.iload_n 1, 1) := by decide +kernel
theorem dX0_layFrames_8 : decode cX0_layFrames 8 = .ok (.aload_n 0, 1) := by decide +kernel
theorem dX0_layFrames_9 : decode cX0_layFrames 9 = .ok (.getfield 24, 3) := by decide +kernel
theorem dX0_layFrames_12 : decode cX0_layFrames 12 = .ok (.if_icmp .ge 59, 3) := by decide +kernel
theorem dX0_layFrames_15 : decode cX0_layFrames 15 = .ok (.aload_n 0, 1) := by decide +kernel
theorem dX0_layFrames_16 : decode cX0_layFrames 16 = .ok (.aload_n 0, 1) := by decide +kernel
theorem dX0_layFrames_17 : decode cX0_layFrames 17 = .ok (.getfield 9, 3) := by decide +kernel
theorem dX0_layFrames_20 : decode cX0_layFrames 20 = .ok (.iload_n 1, 1) := by decide +kernel
theorem dX0_layFrames_21 : decode cX0_layFrames 21 = .ok (.iaload, 1) := by decide +kernel
theorem dX0_layFrames_22 : decode cX0_layFrames 22 = .ok (.invokevirtual 38, 3) := by decide +kernel
theorem dX0_layFrames_25 : decode cX0_layFrames 25 = .ok (.iload_n 1, 1) := by decide +kernel
theorem dX0_layFrames_26 : decode cX0_layFrames 26 = .ok (.iconst 1, 1) := by decide +kernel
theorem dX0_layFrames_27 : decode cX0_layFrames 27 = .ok (.iadd, 1) := by decide +kernel
theorem dX0_layFrames_28 : decode cX0_layFrames 28 = .ok (.aload_n 0, 1) := by decide +kernel
theorem dX0_layFrames_29 : decode cX0_layFrames 29 = .ok (.getfield 24, 3) := by decide +kernel
theorem dX0_layFrames_32 : decode cX0_layFrames 32 = .ok (.if_icmp .ge 33, 3) := by decide +kernel
theorem dX0_layFrames_35 : decode cX0_layFrames 35 = .ok (.aload_n 0, 1) := by decide +kernel
theorem dX0_layFrames_36 : decode cX0_layFrames 36 = .ok (.aload_n 0, 1) := by decide +kernel
theorem dX0_layFrames_37 : decode cX0_layFrames 37 = .ok (.getfield 9, 3) := by decide +kernel
theorem dX0_layFrames_40 : decode cX0_layFrames 40 = .ok (.iload_n 1, 1) := by decide +kernel
theorem dX0_layFrames_41 : decode cX0_layFrames 41 = .ok (.iaload, 1) := by decide +kernel
theorem dX0_layFrames_42 : decode cX0_layFrames 42 = .ok (.aload_n 0, 1) := by decide +kernel
theorem dX0_layFrames_43 : decode cX0_layFrames 43 = .ok (.getfield 9, 3) := by decide +kernel
theorem dX0_layFrames_46 : decode cX0_layFrames 46 = .ok (.iload_n 1, 1) := by decide +kernel
theorem dX0_layFrames_47 : decode cX0_layFrames 47 = .ok (.iconst 1, 1) := by decide +kernel
theorem dX0_layFrames_48 : decode cX0_layFrames 48 = .ok (.iadd, 1) := by decide +kernel
theorem dX0_layFrames_49 : decode cX0_layFrames 49 = .ok (.iaload, 1) := by decide +kernel
theorem dX0_layFrames_50 : decode cX0_layFrames 50 = .ok (.aload_n 0, 1) := by decide +kernel
theorem dX0_layFrames_51 : decode cX0_layFrames 51 = .ok (.getfield 15, 3) := by decide +kernel
theorem dX0_layFrames_54 : decode cX0_layFrames 54 = .ok (.iload_n 1, 1) := by decide +kernel
theorem dX0_layFrames_55 : decode cX0_layFrames 55 = .ok (.iaload, 1) := by decide +kernel
theorem dX0_layFrames_56 : decode cX0_layFrames 56 = .ok (.aload_n 0, 1) := by decide +kernel
theorem dX0_layFrames_57 : decode cX0_layFrames 57 = .ok (.getfield 18, 3) := by decide +kernel
theorem dX0_layFrames_60 : decode cX0_layFrames 60 = .ok (.iload_n 1, 1) := by decide +kernel
theorem dX0_layFrames_61 : decode cX0_layFrames 61 = .ok (.iaload, 1) := by decide +kernel
theorem dX0_layFrames_62 : decode cX0_layFrames 62 = .ok (.invokevirtual 42, 3) := by decide +kernel
theorem dX0_layFrames_65 : decode cX0_layFrames 65 = .ok (.iinc 1 1, 3) := by decide +kernel
theorem dX0_layFrames_68 : decode cX0_layFrames 68 = .ok (.goto (-61), 3) := by decide +kernel
theorem dX0_layFrames_71 : decode cX0_layFrames 71 = .ok (.return_, 1) := by decide +kernel
theorem dX0_addBetweens_0 : decode cX0_addBetweens 0 = .ok (.iload_n 3, 1) := by decide +kernel
theorem dX0_addBetweens_1 : decode cX0_addBetweens 1 = .ok (.iconst 1, 1) := by decide +kernel
theorem dX0_addBetweens_2 : decode cX0_addBetweens 2 = .ok (.iadd, 1) := by decide +kernel
theorem dX0_addBetweens_3 : decode cX0_addBetweens 3 = .ok (.istore 5, 2) := by decide +kernel
theorem dX0_addBetweens_5 : decode cX0_addBetweens 5 = .ok (.iload 5, 2) := by decide +kernel
theorem dX0_addBetweens_7 : decode cX0_addBetweens 7 = .ok (.iload 5, 2) := by decide +kernel
theorem dX0_addBetweens_9 : decode cX0_addBetweens 9 = .ok (.imul, 1) := by decide +kernel
theorem dX0_addBetweens_10 : decode cX0_addBetweens 10 = .ok (.istore 6, 2) := by decide +kernel
theorem dX0_addBetweens_12 : decode cX0_addBetweens 12 = .ok (.iload 6, 2) := by decide +kernel
theorem dX0_addBetweens_14 : decode cX0_addBetweens 14 = .ok (.ifCond .gt 4, 3) := by decide +kernel
theorem dX0_addBetweens_17 : decode cX0_addBetweens 17 = .ok (.return_, 1) := by decide +kernel
theorem dX0_addBetweens_18 : decode cX0_addBetweens 18 = .ok (.iconst 1, 1) := by decide +kernel
theorem dX0_addBetweens_19 : decode cX0_addBetweens 19 = .ok (.istore 7, 2) := by decide +kernel
theorem dX0_addBetweens_21 : decode cX0_addBetweens 21 = .ok (.iload 7, 2) := by decide +kernel
theorem dX0_addBetweens_23 : decode cX0_addBetweens 23 = .ok (.iload_n 3, 1) := by decide +kernel
theorem dX0_addBetweens_24 : decode cX0_addBetweens 24 = .ok (.if_icmp .gt 31, 3) := by decide +kernel
theorem dX0_addBetweens_27 : decode cX0_addBetweens 27 = .ok (.aload_n 0, 1) := by decide +kernel
theorem dX0_addBetweens_28 : decode cX0_addBetweens 28 = .ok (.iload_n 1, 1) := by decide +kernel
theorem dX0_addBetweens_29 : decode cX0_addBetweens 29 = .ok (.iload_n 2, 1) := by decide +kernel
theorem dX0_addBetweens_30 : decode cX0_addBetweens 30 = .ok (.iload_n 1, 1) := by decide +kernel
theorem dX0_addBetweens_31 : decode cX0_addBetweens 31 = .ok (.isub, 1) := by decide +kernel
theorem dX0_addBetweens_32 : decode cX0_addBetweens 32 = .ok (.iload 7, 2) := by decide +kernel
theorem dX0_addBetweens_34 : decode cX0_addBetweens 34 = .ok (.iload 5, 2) := by decide +kernel
theorem dX0_addBetweens_36 : decode cX0_addBetweens 36 = .ok (.iload 4, 2) := by decide +kernel
theorem dX0_addBetweens_38 : decode cX0_addBetweens 38 = .ok (.invokestatic 46, 3) := by decide +kernel
theorem dX0_addBetweens_41 : decode cX0_addBetweens 41 = .ok (.imul, 1) := by decide +kernel
theorem dX0_addBetweens_42 : decode cX0_addBetweens 42 = .ok (.iload 6, 2) := by decide +kernel
theorem dX0_addBetweens_44 : decode cX0_addBetweens 44 = .ok (.idiv, 1) := by decide +kernel
theorem dX0_addBetweens_45 : decode cX0_addBetweens 45 = .ok (.iadd, 1) := by decide +kernel
theorem dX0_addBetweens_46 : decode cX0_addBetweens 46 = .ok (.invokevirtual 38, 3) := by decide +kernel
theorem dX0_addBetweens_49 : decode cX0_addBetweens 49 = .ok (.iinc 7 1, 3) := by decide +kernel
theorem dX0_addBetweens_52 : decode cX0_addBetweens 52 = .ok (.goto (-31), 3) := by decide +kernel
theorem dX0_addBetweens_55 : decode cX0_addBetweens 55 = .ok (.return_, 1) := by decide +kernel
theorem dX0_addFrame_0 : decode cX0_addFrame 0 = .ok (.aload_n 0, 1) := by decide +kernel
theorem dX0_addFrame_1 : decode cX0_addFrame 1 = .ok (.getfield 28, 3) := by decide +kernel
theorem dX0_addFrame_4 : decode cX0_addFrame 4 = .ok (.bipush 43, 2) := by decide +kernel
theorem dX0_addFrame_6 : decode cX0_addFrame 6 = .ok (.if_icmp .ge 23, 3) := by decide +kernel
theorem dX0_addFrame_9 : decode cX0_addFrame 9 = .ok (.aload_n 0, 1) := by decide +kernel
theorem dX0_addFrame_10 : decode cX0_addFrame 10 = .ok (.getfield 21, 3) := by decide +kernel
theorem dX0_addFrame_13 : decode cX0_addFrame 13 = .ok (.aload_n 0, 1) := by decide +kernel
theorem dX0_addFrame_14 : decode cX0_addFrame 14 = .ok (.getfield 28, 3) := by decide +kernel
theorem dX0_addFrame_17 : decode cX0_addFrame 17 = .ok (.iload_n 1, 1) := by decide +kernel
theorem dX0_addFrame_18 : decode cX0_addFrame 18 = .ok (.iastore, 1) := by decide +kernel
theorem dX0_addFrame_19 : decode cX0_addFrame 19 = .ok (.aload_n 0, 1) := by decide +kernel
theorem dX0_addFrame_20 : decode cX0_addFrame 20 = .ok (.dup, 1) := by decide +kernel
theorem dX0_addFrame_21 : decode cX0_addFrame 21 = .ok (.getfield 28, 3) := by decide +kernel
theorem dX0_addFrame_24 : decode cX0_addFrame 24 = .ok (.iconst 1, 1) := by decide +kernel
theorem dX0_addFrame_25 : decode cX0_addFrame 25 = .ok (.iadd, 1) := by decide +kernel
theorem dX0_addFrame_26 : decode cX0_addFrame 26 = .ok (.putfield 28, 3) := by decide +kernel
theorem dX0_addFrame_29 : decode cX0_addFrame 29 = .ok (.return_, 1) := by decide +kernel
theorem dX0_shareOfWay_0 : decode cX0_shareOfWay 0 = .ok (.iload_n 1, 1) := by decide +kernel
theorem dX0_shareOfWay_1 : decode cX0_shareOfWay 1 = .ok (.iload_n 0, 1) := by decide +kernel
theorem dX0_shareOfWay_2 : decode cX0_shareOfWay 2 = .ok (.isub, 1) := by decide +kernel
theorem dX0_shareOfWay_3 : decode cX0_shareOfWay 3 = .ok (.istore_n 3, 1) := by decide +kernel
theorem dX0_shareOfWay_4 : decode cX0_shareOfWay 4 = .ok (.iload_n 2, 1) := by decide +kernel
theorem dX0_shareOfWay_5 : decode cX0_shareOfWay 5 = .ok (.tableswitch 64 1 3 #[27, 31, 39], 27) := by decide +kernel
theorem dX0_shareOfWay_32 : decode cX0_shareOfWay 32 = .ok (.iload_n 0, 1) := by decide +kernel
theorem dX0_shareOfWay_33 : decode cX0_shareOfWay 33 = .ok (.iload_n 0, 1) := by decide +kernel
theorem dX0_shareOfWay_34 : decode cX0_shareOfWay 34 = .ok (.imul, 1) := by decide +kernel
theorem dX0_shareOfWay_35 : decode cX0_shareOfWay 35 = .ok (.ireturn, 1) := by decide +kernel
theorem dX0_shareOfWay_36 : decode cX0_shareOfWay 36 = .ok (.iload_n 1, 1) := by decide +kernel
theorem dX0_shareOfWay_37 : decode cX0_shareOfWay 37 = .ok (.iload_n 1, 1) := by decide +kernel
theorem dX0_shareOfWay_38 : decode cX0_shareOfWay 38 = .ok (.imul, 1) := by decide +kernel
theorem dX0_shareOfWay_39 : decode cX0_shareOfWay 39 = .ok (.iload_n 3, 1) := by decide +kernel
theorem dX0_shareOfWay_40 : decode cX0_shareOfWay 40 = .ok (.iload_n 3, 1) := by decide +kernel
theorem dX0_shareOfWay_41 : decode cX0_shareOfWay 41 = .ok (.imul, 1) := by decide +kernel
theorem dX0_shareOfWay_42 : decode cX0_shareOfWay 42 = .ok (.isub, 1) := by decide +kernel
theorem dX0_shareOfWay_43 : decode cX0_shareOfWay 43 = .ok (.ireturn, 1) := by decide +kernel
theorem dX0_shareOfWay_44 : decode cX0_shareOfWay 44 = .ok (.iconst 2, 1) := by decide +kernel
theorem dX0_shareOfWay_45 : decode cX0_shareOfWay 45 = .ok (.iload_n 0, 1) := by decide +kernel
theorem dX0_shareOfWay_46 : decode cX0_shareOfWay 46 = .ok (.imul, 1) := by decide +kernel
theorem dX0_shareOfWay_47 : decode cX0_shareOfWay 47 = .ok (.iload_n 1, 1) := by decide +kernel
theorem dX0_shareOfWay_48 : decode cX0_shareOfWay 48 = .ok (.if_icmp .gt 11, 3) := by decide +kernel
theorem dX0_shareOfWay_51 : decode cX0_shareOfWay 51 = .ok (.iconst 2, 1) := by decide +kernel
theorem dX0_shareOfWay_52 : decode cX0_shareOfWay 52 = .ok (.iload_n 0, 1) := by decide +kernel
theorem dX0_shareOfWay_53 : decode cX0_shareOfWay 53 = .ok (.imul, 1) := by decide +kernel
theorem dX0_shareOfWay_54 : decode cX0_shareOfWay 54 = .ok (.iload_n 0, 1) := by decide +kernel
theorem dX0_shareOfWay_55 : decode cX0_shareOfWay 55 = .ok (.imul, 1) := by decide +kernel
theorem dX0_shareOfWay_56 : decode cX0_shareOfWay 56 = .ok (.goto 12, 3) := by decide +kernel
theorem dX0_shareOfWay_59 : decode cX0_shareOfWay 59 = .ok (.iload_n 1, 1) := by decide +kernel
theorem dX0_shareOfWay_60 : decode cX0_shareOfWay 60 = .ok (.iload_n 1, 1) := by decide +kernel
theorem dX0_shareOfWay_61 : decode cX0_shareOfWay 61 = .ok (.imul, 1) := by decide +kernel
theorem dX0_shareOfWay_62 : decode cX0_shareOfWay 62 = .ok (.iconst 2, 1) := by decide +kernel
theorem dX0_shareOfWay_63 : decode cX0_shareOfWay 63 = .ok (.iload_n 3, 1) := by decide +kernel
theorem dX0_shareOfWay_64 : decode cX0_shareOfWay 64 = .ok (.imul, 1) := by decide +kernel
theorem dX0_shareOfWay_65 : decode cX0_shareOfWay 65 = .ok (.iload_n 3, 1) := by decide +kernel
theorem dX0_shareOfWay_66 : decode cX0_shareOfWay 66 = .ok (.imul, 1) := by decide +kernel
theorem dX0_shareOfWay_67 : decode cX0_shareOfWay 67 = .ok (.isub, 1) := by decide +kernel
theorem dX0_shareOfWay_68 : decode cX0_shareOfWay 68 = .ok (.ireturn, 1) := by decide +kernel
theorem dX0_shareOfWay_69 : decode cX0_shareOfWay 69 = .ok (.iload_n 0, 1) := by decide +kernel
theorem dX0_shareOfWay_70 : decode cX0_shareOfWay 70 = .ok (.iload_n 1, 1) := by decide +kernel
theorem dX0_shareOfWay_71 : decode cX0_shareOfWay 71 = .ok (.imul, 1) := by decide +kernel
theorem dX0_shareOfWay_72 : decode cX0_shareOfWay 72 = .ok (.ireturn, 1) := by decide +kernel
theorem dX1_init_0 : decode cX1_init 0 = .ok (.aload_n 0, 1) := by decide +kernel
theorem dX1_init_1 : decode cX1_init 1 = .ok (.invokespecial 3, 3) := by decide +kernel
theorem dX1_init_4 : decode cX1_init 4 = .ok (.aload_n 0, 1) := by decide +kernel
theorem dX1_init_5 : decode cX1_init 5 = .ok (.bipush 43, 2) := by decide +kernel
theorem dX1_init_7 : decode cX1_init 7 = .ok (.anewarray 9, 3) := by decide +kernel
theorem dX1_init_10 : decode cX1_init 10 = .ok (.putfield 11, 3) := by decide +kernel
theorem dX1_init_13 : decode cX1_init 13 = .ok (.aload_n 0, 1) := by decide +kernel
theorem dX1_init_14 : decode cX1_init 14 = .ok (.iconst 0, 1) := by decide +kernel
theorem dX1_init_15 : decode cX1_init 15 = .ok (.putfield 17, 3) := by decide +kernel
theorem dX1_init_18 : decode cX1_init 18 = .ok (.aload_n 0, 1) := by decide +kernel
theorem dX1_init_19 : decode cX1_init 19 = .ok (.iconst 0, 1) := by decide +kernel
theorem dX1_init_20 : decode cX1_init 20 = .ok (.putfield 21, 3) := by decide +kernel
theorem dX1_init_23 : decode cX1_init 23 = .ok (.return_, 1) := by decide +kernel
theorem dX1_leafOf_0 : decode cX1_leafOf 0 = .ok (.iload_n 1, 1) := by decide +kernel
theorem dX1_leafOf_1 : decode cX1_leafOf 1 = .ok (.ifCond .lt 12, 3) := by decide +kernel
theorem dX1_leafOf_4 : decode cX1_leafOf 4 = .ok (.iload_n 1, 1) := by decide +kernel
theorem dX1_leafOf_5 : decode cX1_leafOf 5 = .ok (.aload_n 0, 1) := by decide +kernel
theorem dX1_leafOf_6 : decode cX1_leafOf 6 = .ok (.getfield 11, 3) := by decide +kernel
theorem dX1_leafOf_9 : decode cX1_leafOf 9 = .ok (.arraylength, 1) := by decide +kernel
theorem dX1_leafOf_10 : decode cX1_leafOf 10 = .ok (.if_icmp .lt 7, 3) := by decide +kernel
theorem dX1_leafOf_13 : decode cX1_leafOf 13 = .ok (.aconst_null, 1) := by decide +kernel
theorem dX1_leafOf_14 : decode cX1_leafOf 14 = .ok (.goto 9, 3) := by decide +kernel
theorem dX1_leafOf_17 : decode cX1_leafOf 17 = .ok (.aload_n 0, 1) := by decide +kernel
theorem dX1_leafOf_18 : decode cX1_leafOf 18 = .ok (.getfield 11, 3) := by decide +kernel
theorem dX1_leafOf_21 : decode cX1_leafOf 21 = .ok (.iload_n 1, 1) := by decide +kernel
theorem dX1_leafOf_22 : decode cX1_leafOf 22 = .ok (.aaload, 1) := by decide +kernel
theorem dX1_leafOf_23 : decode cX1_leafOf 23 = .ok (.areturn, 1) := by decide +kernel
theorem dX1_take_0 : decode cX1_take 0 = .ok (.aload_n 1, 1) := by decide +kernel
theorem dX1_take_1 : decode cX1_take 1 = .ok (.getfield 25, 3) := by decide +kernel
theorem dX1_take_4 : decode cX1_take 4 = .ok (.ifCond .lt 25, 3) := by decide +kernel
theorem dX1_take_7 : decode cX1_take 7 = .ok (.aload_n 1, 1) := by decide +kernel
theorem dX1_take_8 : decode cX1_take 8 = .ok (.getfield 25, 3) := by decide +kernel
theorem dX1_take_11 : decode cX1_take 11 = .ok (.aload_n 0, 1) := by decide +kernel
theorem dX1_take_12 : decode cX1_take 12 = .ok (.getfield 11, 3) := by decide +kernel
theorem dX1_take_15 : decode cX1_take 15 = .ok (.arraylength, 1) := by decide +kernel
theorem dX1_take_16 : decode cX1_take 16 = .ok (.if_icmp .ge 13, 3) := by decide +kernel
theorem dX1_take_19 : decode cX1_take 19 = .ok (.aload_n 0, 1) := by decide +kernel
theorem dX1_take_20 : decode cX1_take 20 = .ok (.getfield 11, 3) := by decide +kernel
theorem dX1_take_23 : decode cX1_take 23 = .ok (.aload_n 1, 1) := by decide +kernel
theorem dX1_take_24 : decode cX1_take 24 = .ok (.getfield 25, 3) := by decide +kernel
theorem dX1_take_27 : decode cX1_take 27 = .ok (.aload_n 1, 1) := by decide +kernel
theorem dX1_take_28 : decode cX1_take 28 = .ok (.aastore, 1) := by decide +kernel
theorem dX1_take_29 : decode cX1_take 29 = .ok (.return_, 1) := by decide +kernel
theorem dX1_isLacking_0 : decode cX1_isLacking 0 = .ok (.aload_n 0, 1) := by decide +kernel
theorem dX1_isLacking_1 : decode cX1_isLacking 1 = .ok (.getfield 17, 3) := by decide +kernel
theorem dX1_isLacking_4 : decode cX1_isLacking 4 = .ok (.ifCond .ne 15, 3) := by decide +kernel
theorem dX1_isLacking_7 : decode cX1_isLacking 7 = .ok (.aload_n 0, 1) := by decide +kernel
theorem dX1_isLacking_8 : decode cX1_isLacking 8 = .ok (.iload_n 1, 1) := by decide +kernel
theorem dX1_isLacking_9 : decode cX1_isLacking 9 = .ok (.invokevirtual 28, 3) := by decide +kernel
theorem dX1_isLacking_12 : decode cX1_isLacking 12 = .ok (.ifnonnull 7, 3) := by decide +kernel
theorem dX1_isLacking_15 : decode cX1_isLacking 15 = .ok (.iconst 1, 1) := by decide +kernel
theorem dX1_isLacking_16 : decode cX1_isLacking 16 = .ok (.goto 4, 3) := by decide +kernel
theorem dX1_isLacking_19 : decode cX1_isLacking 19 = .ok (.iconst 0, 1) := by decide +kernel
theorem dX1_isLacking_20 : decode cX1_isLacking 20 = .ok (.ireturn, 1) := by decide +kernel
theorem dX1_countLacking_0 : decode cX1_countLacking 0 = .ok (.iconst 0, 1) := by decide +kernel
theorem dX1_countLacking_1 : decode cX1_countLacking 1 = .ok (.istore_n 2, 1) := by decide +kernel
theorem dX1_countLacking_2 : decode cX1_countLacking 2 = .ok (.iconst 0, 1) := by decide +kernel
theorem dX1_countLacking_3 : decode cX1_countLacking 3 = .ok (.istore_n 3, 1) := by decide +kernel
theorem dX1_countLacking_4 : decode cX1_countLacking 4 = .ok (.iload_n 3, 1) := by decide +kernel
theorem dX1_countLacking_5 : decode cX1_countLacking 5 = .ok (.iload_n 1, 1) := by decide +kernel
theorem dX1_countLacking_6 : decode cX1_countLacking 6 = .ok (.if_icmp .ge 20, 3) := by decide +kernel
theorem dX1_countLacking_9 : decode cX1_countLacking 9 = .ok (.aload_n 0, 1) := by decide +kernel
theorem dX1_countLacking_10 : decode cX1_countLacking 10 = .ok (.iload_n 3, 1) := by decide +kernel
theorem dX1_countLacking_11 : decode cX1_countLacking 11 = .ok (.invokevirtual 32, 3) := by decide +kernel
theorem dX1_countLacking_14 : decode cX1_countLacking 14 = .ok (.ifCond .eq 6, 3) := by decide +kernel
theorem dX1_countLacking_17 : decode cX1_countLacking 17 = .ok (.iinc 2 1, 3) := by decide +kernel
theorem dX1_countLacking_20 : decode cX1_countLacking 20 = .ok (.iinc 3 1, 3) := by decide +kernel
theorem dX1_countLacking_23 : decode cX1_countLacking 23 = .ok (.goto (-19), 3) := by decide +kernel
theorem dX1_countLacking_26 : decode cX1_countLacking 26 = .ok (.iload_n 2, 1) := by decide +kernel
theorem dX1_countLacking_27 : decode cX1_countLacking 27 = .ok (.ireturn, 1) := by decide +kernel
theorem dX1_isAllCut_0 : decode cX1_isAllCut 0 = .ok (.iconst 0, 1) := by decide +kernel
theorem dX1_isAllCut_1 : decode cX1_isAllCut 1 = .ok (.istore_n 2, 1) := by decide +kernel
theorem dX1_isAllCut_2 : decode cX1_isAllCut 2 = .ok (.iload_n 2, 1) := by decide +kernel
theorem dX1_isAllCut_3 : decode cX1_isAllCut 3 = .ok (.iload_n 1, 1) := by decide +kernel
theorem dX1_isAllCut_4 : decode cX1_isAllCut 4 = .ok (.if_icmp .ge 31, 3) := by decide +kernel
theorem dX1_isAllCut_7 : decode cX1_isAllCut 7 = .ok (.aload_n 0, 1) := by decide +kernel
theorem dX1_isAllCut_8 : decode cX1_isAllCut 8 = .ok (.iload_n 2, 1) := by decide +kernel
theorem dX1_isAllCut_9 : decode cX1_isAllCut 9 = .ok (.invokevirtual 28, 3) := by decide +kernel
theorem dX1_isAllCut_12 : decode cX1_isAllCut 12 = .ok (.astore_n 3, 1) := by decide +kernel
theorem dX1_isAllCut_13 : decode cX1_isAllCut 13 = .ok (.aload_n 3, 1) := by decide +kernel
theorem dX1_isAllCut_14 : decode cX1_isAllCut 14 = .ok (.ifnull 13, 3) := by decide +kernel
theorem dX1_isAllCut_17 : decode cX1_isAllCut 17 = .ok (.aload_n 3, 1) := by decide +kernel
theorem dX1_isAllCut_18 : decode cX1_isAllCut 18 = .ok (.getfield 36, 3) := by decide +kernel
theorem dX1_isAllCut_21 : decode cX1_isAllCut 21 = .ok (.invokevirtual 40, 3) := by decide +kernel
theorem dX1_isAllCut_24 : decode cX1_isAllCut 24 = .ok (.ifCond .ne 5, 3) := by decide +kernel
theorem dX1_isAllCut_27 : decode cX1_isAllCut 27 = .ok (.iconst 0, 1) := by decide +kernel
theorem dX1_isAllCut_28 : decode cX1_isAllCut 28 = .ok (.ireturn, 1) := by decide +kernel
theorem dX1_isAllCut_29 : decode cX1_isAllCut 29 = .ok (.iinc 2 1, 3) := by decide +kernel
theorem dX1_isAllCut_32 : decode cX1_isAllCut 32 = .ok (.goto (-30), 3) := by decide +kernel
theorem dX1_isAllCut_35 : decode cX1_isAllCut 35 = .ok (.iconst 1, 1) := by decide +kernel
theorem dX1_isAllCut_36 : decode cX1_isAllCut 36 = .ok (.ireturn, 1) := by decide +kernel
theorem dX1_leastTrim_0 : decode cX1_leastTrim 0 = .ok (.bipush 15, 2) := by decide +kernel
theorem dX1_leastTrim_2 : decode cX1_leastTrim 2 = .ok (.istore_n 2, 1) := by decide +kernel
theorem dX1_leastTrim_3 : decode cX1_leastTrim 3 = .ok (.iconst 0, 1) := by decide +kernel
theorem dX1_leastTrim_4 : decode cX1_leastTrim 4 = .ok (.istore_n 3, 1) := by decide +kernel
theorem dX1_leastTrim_5 : decode cX1_leastTrim 5 = .ok (.iload_n 3, 1) := by decide +kernel
theorem dX1_leastTrim_6 : decode cX1_leastTrim 6 = .ok (.iload_n 1, 1) := by decide +kernel
theorem dX1_leastTrim_7 : decode cX1_leastTrim 7 = .ok (.if_icmp .ge 34, 3) := by decide +kernel
theorem dX1_leastTrim_10 : decode cX1_leastTrim 10 = .ok (.aload_n 0, 1) := by decide +kernel
theorem dX1_leastTrim_11 : decode cX1_leastTrim 11 = .ok (.iload_n 3, 1) := by decide +kernel
theorem dX1_leastTrim_12 : decode cX1_leastTrim 12 = .ok (.invokevirtual 28, 3) := by decide +kernel
theorem dX1_leastTrim_15 : decode cX1_leastTrim 15 = .ok (.astore 4, 2) := by decide +kernel
theorem dX1_leastTrim_17 : decode cX1_leastTrim 17 = .ok (.aload 4, 2) := by decide +kernel
theorem dX1_leastTrim_19 : decode cX1_leastTrim 19 = .ok (.ifnull 16, 3) := by decide +kernel
theorem dX1_leastTrim_22 : decode cX1_leastTrim 22 = .ok (.iload_n 2, 1) := by decide +kernel
theorem dX1_leastTrim_23 : decode cX1_leastTrim 23 = .ok (.aload 4, 2) := by decide +kernel
theorem dX1_leastTrim_25 : decode cX1_leastTrim 25 = .ok (.getfield 36, 3) := by decide +kernel
theorem dX1_leastTrim_28 : decode cX1_leastTrim 28 = .ok (.getfield 46, 3) := by decide +kernel
theorem dX1_leastTrim_31 : decode cX1_leastTrim 31 = .ok (.invokestatic 49, 3) := by decide +kernel
theorem dX1_leastTrim_34 : decode cX1_leastTrim 34 = .ok (.istore_n 2, 1) := by decide +kernel
theorem dX1_leastTrim_35 : decode cX1_leastTrim 35 = .ok (.iinc 3 1, 3) := by decide +kernel
theorem dX1_leastTrim_38 : decode cX1_leastTrim 38 = .ok (.goto (-33), 3) := by decide +kernel
theorem dX1_leastTrim_41 : decode cX1_leastTrim 41 = .ok (.iload_n 2, 1) := by decide +kernel
theorem dX1_leastTrim_42 : decode cX1_leastTrim 42 = .ok (.ireturn, 1) := by decide +kernel
theorem dX1_spoilAbove_0 : decode cX1_spoilAbove 0 = .ok (.iconst 0, 1) := by decide +kernel
theorem dX1_spoilAbove_1 : decode cX1_spoilAbove 1 = .ok (.istore_n 2, 1) := by decide +kernel
theorem dX1_spoilAbove_2 : decode cX1_spoilAbove 2 = .ok (.iconst 0, 1) := by decide +kernel
theorem dX1_spoilAbove_3 : decode cX1_spoilAbove 3 = .ok (.istore_n 3, 1) := by decide +kernel
theorem dX1_spoilAbove_4 : decode cX1_spoilAbove 4 = .ok (.iload_n 3, 1) := by decide +kernel
theorem dX1_spoilAbove_5 : decode cX1_spoilAbove 5 = .ok (.aload_n 0, 1) := by decide +kernel
theorem dX1_spoilAbove_6 : decode cX1_spoilAbove 6 = .ok (.getfield 11, 3) := by decide +kernel
theorem dX1_spoilAbove_9 : decode cX1_spoilAbove 9 = .ok (.arraylength, 1) := by decide +kernel
theorem dX1_spoilAbove_10 : decode cX1_spoilAbove 10 = .ok (.if_icmp .ge 43, 3) := by decide +kernel
theorem dX1_spoilAbove_13 : decode cX1_spoilAbove 13 = .ok (.aload_n 0, 1) := by decide +kernel
theorem dX1_spoilAbove_14 : decode cX1_spoilAbove 14 = .ok (.getfield 11, 3) := by decide +kernel
theorem dX1_spoilAbove_17 : decode cX1_spoilAbove 17 = .ok (.iload_n 3, 1) := by decide +kernel
theorem dX1_spoilAbove_18 : decode cX1_spoilAbove 18 = .ok (.aaload, 1) := by decide +kernel
theorem dX1_spoilAbove_19 : decode cX1_spoilAbove 19 = .ok (.astore 4, 2) := by decide +kernel
theorem dX1_spoilAbove_21 : decode cX1_spoilAbove 21 = .ok (.aload 4, 2) := by decide +kernel
theorem dX1_spoilAbove_23 : decode cX1_spoilAbove 23 = .ok (.ifnull 24, 3) := by decide +kernel
theorem dX1_spoilAbove_26 : decode cX1_spoilAbove 26 = .ok (.aload 4, 2) := by decide +kernel
theorem dX1_spoilAbove_28 : decode cX1_spoilAbove 28 = .ok (.getfield 36, 3) := by decide +kernel
theorem dX1_spoilAbove_31 : decode cX1_spoilAbove 31 = .ok (.getfield 46, 3) := by decide +kernel
theorem dX1_spoilAbove_34 : decode cX1_spoilAbove 34 = .ok (.iload_n 1, 1) := by decide +kernel
theorem dX1_spoilAbove_35 : decode cX1_spoilAbove 35 = .ok (.if_icmp .le 12, 3) := by decide +kernel
theorem dX1_spoilAbove_38 : decode cX1_spoilAbove 38 = .ok (.aload_n 0, 1) := by decide +kernel
theorem dX1_spoilAbove_39 : decode cX1_spoilAbove 39 = .ok (.aload 4, 2) := by decide +kernel
theorem dX1_spoilAbove_41 : decode cX1_spoilAbove 41 = .ok (.invokevirtual 55, 3) := by decide +kernel
theorem dX1_spoilAbove_44 : decode cX1_spoilAbove 44 = .ok (.iinc 2 1, 3) := by decide +kernel
theorem dX1_spoilAbove_47 : decode cX1_spoilAbove 47 = .ok (.iinc 3 1, 3) := by decide +kernel
theorem dX1_spoilAbove_50 : decode cX1_spoilAbove 50 = .ok (.goto (-46), 3) := by decide +kernel
theorem dX1_spoilAbove_53 : decode cX1_spoilAbove 53 = .ok (.iload_n 2, 1) := by decide +kernel
theorem dX1_spoilAbove_54 : decode cX1_spoilAbove 54 = .ok (.ireturn, 1) := by decide +kernel
theorem dX1_spoilChanged_0 : decode cX1_spoilChanged 0 = .ok (.aload_n 0, 1) := by decide +kernel
theorem dX1_spoilChanged_1 : decode cX1_spoilChanged 1 = .ok (.getfield 17, 3) := by decide +kernel
theorem dX1_spoilChanged_4 : decode cX1_spoilChanged 4 = .ok (.ifCond .eq 5, 3) := by decide +kernel
theorem dX1_spoilChanged_7 : decode cX1_spoilChanged 7 = .ok (.iconst 0, 1) := by decide +kernel
theorem dX1_spoilChanged_8 : decode cX1_spoilChanged 8 = .ok (.ireturn, 1) := by decide +kernel
theorem dX1_spoilChanged_9 : decode cX1_spoilChanged 9 = .ok (.iconst 0, 1) := by decide +kernel
theorem dX1_spoilChanged_10 : decode cX1_spoilChanged 10 = .ok (.istore_n 2, 1) := by decide +kernel
theorem dX1_spoilChanged_11 : decode cX1_spoilChanged 11 = .ok (.iconst 0, 1) := by decide +kernel
theorem dX1_spoilChanged_12 : decode cX1_spoilChanged 12 = .ok (.istore_n 3, 1) := by decide +kernel
theorem dX1_spoilChanged_13 : decode cX1_spoilChanged 13 = .ok (.iload_n 3, 1) := by decide +kernel
theorem dX1_spoilChanged_14 : decode cX1_spoilChanged 14 = .ok (.aload_n 0, 1) := by decide +kernel
theorem dX1_spoilChanged_15 : decode cX1_spoilChanged 15 = .ok (.getfield 11, 3) := by decide +kernel
theorem dX1_spoilChanged_18 : decode cX1_spoilChanged 18 = .ok (.arraylength, 1) := by decide +kernel
theorem dX1_spoilChanged_19 : decode cX1_spoilChanged 19 = .ok (.if_icmp .ge 44, 3) := by decide +kernel
theorem dX1_spoilChanged_22 : decode cX1_spoilChanged 22 = .ok (.aload_n 0, 1) := by decide +kernel
theorem dX1_spoilChanged_23 : decode cX1_spoilChanged 23 = .ok (.getfield 11, 3) := by decide +kernel
theorem dX1_spoilChanged_26 : decode cX1_spoilChanged 26 = .ok (.iload_n 3, 1) := by decide +kernel
theorem dX1_spoilChanged_27 : decode cX1_spoilChanged 27 = .ok (.aaload, 1) := by decide +kernel
theorem dX1_spoilChanged_28 : decode cX1_spoilChanged 28 = .ok (.astore 4, 2) := by decide +kernel
theorem dX1_spoilChanged_30 : decode cX1_spoilChanged 30 = .ok (.aload 4, 2) := by decide +kernel
theorem dX1_spoilChanged_32 : decode cX1_spoilChanged 32 = .ok (.ifnull 25, 3) := by decide +kernel
theorem dX1_spoilChanged_35 : decode cX1_spoilChanged 35 = .ok (.aload 4, 2) := by decide +kernel
theorem dX1_spoilChanged_37 : decode cX1_spoilChanged 37 = .ok (.getfield 59, 3) := by decide +kernel
theorem dX1_spoilChanged_40 : decode cX1_spoilChanged 40 = .ok (.aload_n 1, 1) := by decide +kernel
theorem dX1_spoilChanged_41 : decode cX1_spoilChanged 41 = .ok (.iload_n 3, 1) := by decide +kernel
theorem dX1_spoilChanged_42 : decode cX1_spoilChanged 42 = .ok (.invokevirtual 62, 3) := by decide +kernel
theorem dX1_spoilChanged_45 : decode cX1_spoilChanged 45 = .ok (.if_icmp .eq 12, 3) := by decide +kernel
theorem dX1_spoilChanged_48 : decode cX1_spoilChanged 48 = .ok (.aload_n 0, 1) := by decide +kernel
theorem dX1_spoilChanged_49 : decode cX1_spoilChanged 49 = .ok (.aload 4, 2) := by decide +kernel
theorem dX1_spoilChanged_51 : decode cX1_spoilChanged 51 = .ok (.invokevirtual 55, 3) := by decide +kernel
theorem dX1_spoilChanged_54 : decode cX1_spoilChanged 54 = .ok (.iinc 2 1, 3) := by decide +kernel
theorem dX1_spoilChanged_57 : decode cX1_spoilChanged 57 = .ok (.iinc 3 1, 3) := by decide +kernel
theorem dX1_spoilChanged_60 : decode cX1_spoilChanged 60 = .ok (.goto (-47), 3) := by decide +kernel
theorem dX1_spoilChanged_63 : decode cX1_spoilChanged 63 = .ok (.iload_n 2, 1) := by decide +kernel
theorem dX1_spoilChanged_64 : decode cX1_spoilChanged 64 = .ok (.ireturn, 1) := by decide +kernel
theorem dX1_spoil_0 : decode cX1_spoil 0 = .ok (.aload_n 1, 1) := by decide +kernel
theorem dX1_spoil_1 : decode cX1_spoil 1 = .ok (.iconst 1, 1) := by decide +kernel
theorem dX1_spoil_2 : decode cX1_spoil 2 = .ok (.putfield 68, 3) := by decide +kernel
theorem dX1_spoil_5 : decode cX1_spoil 5 = .ok (.aload_n 1, 1) := by decide +kernel
theorem dX1_spoil_6 : decode cX1_spoil 6 = .ok (.getfield 25, 3) := by decide +kernel
theorem dX1_spoil_9 : decode cX1_spoil 9 = .ok (.ifCond .lt 25, 3) := by decide +kernel
theorem dX1_spoil_12 : decode cX1_spoil 12 = .ok (.aload_n 1, 1) := by decide +kernel
theorem dX1_spoil_13 : decode cX1_spoil 13 = .ok (.getfield 25, 3) := by decide +kernel
theorem dX1_spoil_16 : decode cX1_spoil 16 = .ok (.aload_n 0, 1) := by decide +kernel
theorem dX1_spoil_17 : decode cX1_spoil 17 = .ok (.getfield 11, 3) := by decide +kernel
theorem dX1_spoil_20 : decode cX1_spoil 20 = .ok (.arraylength, 1) := by decide +kernel
theorem dX1_spoil_21 : decode cX1_spoil 21 = .ok (.if_icmp .ge 13, 3) := by decide +kernel
theorem dX1_spoil_24 : decode cX1_spoil 24 = .ok (.aload_n 0, 1) := by decide +kernel
theorem dX1_spoil_25 : decode cX1_spoil 25 = .ok (.getfield 11, 3) := by decide +kernel
theorem dX1_spoil_28 : decode cX1_spoil 28 = .ok (.aload_n 1, 1) := by decide +kernel
theorem dX1_spoil_29 : decode cX1_spoil 29 = .ok (.getfield 25, 3) := by decide +kernel
theorem dX1_spoil_32 : decode cX1_spoil 32 = .ok (.aconst_null, 1) := by decide +kernel
theorem dX1_spoil_33 : decode cX1_spoil 33 = .ok (.aastore, 1) := by decide +kernel
theorem dX1_spoil_34 : decode cX1_spoil 34 = .ok (.return_, 1) := by decide +kernel
theorem dX2_init_0 : decode cX2_init 0 = .ok (.aload_n 0, 1) := by decide +kernel
theorem dX2_init_1 : decode cX2_init 1 = .ok (.invokespecial 3, 3) := by decide +kernel
theorem dX2_init_4 : decode cX2_init 4 = .ok (.aload_n 0, 1) := by decide +kernel
theorem dX2_init_5 : decode cX2_init 5 = .ok (.iconst 3, 1) := by decide +kernel
theorem dX2_init_6 : decode cX2_init 6 = .ok (.newarray .int, 2) := by decide +kernel
theorem dX2_init_8 : decode cX2_init 8 = .ok (.putfield 9, 3) := by decide +kernel
theorem dX2_init_11 : decode cX2_init 11 = .ok (.aload_n 0, 1) := by decide +kernel
theorem dX2_init_12 : decode cX2_init 12 = .ok (.getfield 9, 3) := by decide +kernel
theorem dX2_init_15 : decode cX2_init 15 = .ok (.iconst 0, 1) := by decide +kernel
theorem dX2_init_16 : decode cX2_init 16 = .ok (.iload_n 1, 1) := by decide +kernel
theorem dX2_init_17 : decode cX2_init 17 = .ok (.iastore, 1) := by decide +kernel
theorem dX2_init_18 : decode cX2_init 18 = .ok (.aload_n 0, 1) := by decide +kernel
theorem dX2_init_19 : decode cX2_init 19 = .ok (.getfield 9, 3) := by decide +kernel
theorem dX2_init_22 : decode cX2_init 22 = .ok (.iconst 1, 1) := by decide +kernel
theorem dX2_init_23 : decode cX2_init 23 = .ok (.iload_n 2, 1) := by decide +kernel
theorem dX2_init_24 : decode cX2_init 24 = .ok (.iastore, 1) := by decide +kernel
theorem dX2_init_25 : decode cX2_init 25 = .ok (.aload_n 0, 1) := by decide +kernel
theorem dX2_init_26 : decode cX2_init 26 = .ok (.getfield 9, 3) := by decide +kernel
theorem dX2_init_29 : decode cX2_init 29 = .ok (.iconst 2, 1) := by decide +kernel
theorem dX2_init_30 : decode cX2_init 30 = .ok (.iload_n 3, 1) := by decide +kernel
theorem dX2_init_31 : decode cX2_init 31 = .ok (.iastore, 1) := by decide +kernel
theorem dX2_init_32 : decode cX2_init 32 = .ok (.return_, 1) := by decide +kernel
theorem dX2_unfold_0 : decode cX2_unfold 0 = .ok (.iconst 0, 1) := by decide +kernel
theorem dX2_unfold_1 : decode cX2_unfold 1 = .ok (.istore_n 2, 1) := by decide +kernel
theorem dX2_unfold_2 : decode cX2_unfold 2 = .ok (.iconst 0, 1) := by decide +kernel
theorem dX2_unfold_3 : decode cX2_unfold 3 = .ok (.istore_n 3, 1) := by decide +kernel
theorem dX2_unfold_4 : decode cX2_unfold 4 = .ok (.iconst 1, 1) := by decide +kernel
theorem dX2_unfold_5 : decode cX2_unfold 5 = .ok (.istore 4, 2) := by decide +kernel
theorem dX2_unfold_7 : decode cX2_unfold 7 = .ok (.iconst 1, 1) := by decide +kernel
theorem dX2_unfold_8 : decode cX2_unfold 8 = .ok (.istore 5, 2) := by decide +kernel
theorem dX2_unfold_10 : decode cX2_unfold 10 = .ok (.iload_n 1, 1) := by decide +kernel
theorem dX2_unfold_11 : decode cX2_unfold 11 = .ok (.istore 6, 2) := by decide +kernel
theorem dX2_unfold_13 : decode cX2_unfold 13 = .ok (.iconst 4, 1) := by decide +kernel
theorem dX2_unfold_14 : decode cX2_unfold 14 = .ok (.istore 7, 2) := by decide +kernel
theorem dX2_unfold_16 : decode cX2_unfold 16 = .ok (.iconst 2, 1) := by decide +kernel
theorem dX2_unfold_17 : decode cX2_unfold 17 = .ok (.istore 8, 2) := by decide +kernel
theorem dX2_unfold_19 : decode cX2_unfold 19 = .ok (.iload 8, 2) := by decide +kernel
theorem dX2_unfold_21 : decode cX2_unfold 21 = .ok (.ifCond .lt 126, 3) := by decide +kernel
theorem dX2_unfold_24 : decode cX2_unfold 24 = .ok (.iload 6, 2) := by decide +kernel
theorem dX2_unfold_26 : decode cX2_unfold 26 = .ok (.iload 7, 2) := by decide +kernel
theorem dX2_unfold_28 : decode cX2_unfold 28 = .ok (.if_icmp .ge 7, 3) := by decide +kernel
theorem dX2_unfold_31 : decode cX2_unfold 31 = .ok (.iconst 1, 1) := by decide +kernel
theorem dX2_unfold_32 : decode cX2_unfold 32 = .ok (.goto 4, 3) := by decide +kernel
theorem dX2_unfold_35 : decode cX2_unfold 35 = .ok (.iconst 0, 1) := by decide +kernel
theorem dX2_unfold_36 : decode cX2_unfold 36 = .ok (.istore 9, 2) := by decide +kernel
theorem dX2_unfold_38 : decode cX2_unfold 38 = .ok (.iload 9, 2) := by decide +kernel
theorem dX2_unfold_40 : decode cX2_unfold 40 = .ok (.ifCond .eq 13, 3) := by decide +kernel
theorem dX2_unfold_43 : decode cX2_unfold 43 = .ok (.iload 7, 2) := by decide +kernel
theorem dX2_unfold_45 : decode cX2_unfold 45 = .ok (.iconst 1, 1) := by decide +kernel
theorem dX2_unfold_46 : decode cX2_unfold 46 = .ok (.isub, 1) := by decide +kernel
theorem dX2_unfold_47 : decode cX2_unfold 47 = .ok (.iload 6, 2) := by decide +kernel
theorem dX2_unfold_49 : decode cX2_unfold 49 = .ok (.isub, 1) := by decide +kernel
theorem dX2_unfold_50 : decode cX2_unfold 50 = .ok (.goto 8, 3) := by decide +kernel
theorem dX2_unfold_53 : decode cX2_unfold 53 = .ok (.iload 6, 2) := by decide +kernel
theorem dX2_unfold_55 : decode cX2_unfold 55 = .ok (.iload 7, 2) := by decide +kernel
theorem dX2_unfold_57 : decode cX2_unfold 57 = .ok (.isub, 1) := by decide +kernel
theorem dX2_unfold_58 : decode cX2_unfold 58 = .ok (.istore 6, 2) := by decide +kernel
theorem dX2_unfold_60 : decode cX2_unfold 60 = .ok (.iload 7, 2) := by decide +kernel
theorem dX2_unfold_62 : decode cX2_unfold 62 = .ok (.iconst 2, 1) := by decide +kernel
theorem dX2_unfold_63 : decode cX2_unfold 63 = .ok (.idiv, 1) := by decide +kernel
theorem dX2_unfold_64 : decode cX2_unfold 64 = .ok (.istore 7, 2) := by decide +kernel
theorem dX2_unfold_66 : decode cX2_unfold 66 = .ok (.aload_n 0, 1) := by decide +kernel
theorem dX2_unfold_67 : decode cX2_unfold 67 = .ok (.getfield 9, 3) := by decide +kernel
theorem dX2_unfold_70 : decode cX2_unfold 70 = .ok (.iload 8, 2) := by decide +kernel
theorem dX2_unfold_72 : decode cX2_unfold 72 = .ok (.iaload, 1) := by decide +kernel
theorem dX2_unfold_73 : decode cX2_unfold 73 = .ok (.istore 10, 2) := by decide +kernel
theorem dX2_unfold_75 : decode cX2_unfold 75 = .ok (.iload 10, 2) := by decide +kernel
theorem dX2_unfold_77 : decode cX2_unfold 77 = .ok (.ifCond .eq 9, 3) := by decide +kernel
theorem dX2_unfold_80 : decode cX2_unfold 80 = .ok (.iload 10, 2) := by decide +kernel
theorem dX2_unfold_82 : decode cX2_unfold 82 = .ok (.iconst 1, 1) := by decide +kernel
theorem dX2_unfold_83 : decode cX2_unfold 83 = .ok (.if_icmp .ne 32, 3) := by decide +kernel
theorem dX2_unfold_86 : decode cX2_unfold 86 = .ok (.iload_n 3, 1) := by decide +kernel
theorem dX2_unfold_87 : decode cX2_unfold 87 = .ok (.iload 5, 2) := by decide +kernel
theorem dX2_unfold_89 : decode cX2_unfold 89 = .ok (.iload 9, 2) := by decide +kernel
theorem dX2_unfold_91 : decode cX2_unfold 91 = .ok (.iload 10, 2) := by decide +kernel
theorem dX2_unfold_93 : decode cX2_unfold 93 = .ok (.iconst 1, 1) := by decide +kernel
theorem dX2_unfold_94 : decode cX2_unfold 94 = .ok (.if_icmp .ne 7, 3) := by decide +kernel
theorem dX2_unfold_97 : decode cX2_unfold 97 = .ok (.iconst 1, 1) := by decide +kernel
theorem dX2_unfold_98 : decode cX2_unfold 98 = .ok (.goto 4, 3) := by decide +kernel
theorem dX2_unfold_101 : decode cX2_unfold 101 = .ok (.iconst 0, 1) := by decide +kernel
theorem dX2_unfold_102 : decode cX2_unfold 102 = .ok (.invokestatic 15, 3) := by decide +kernel
theorem dX2_unfold_105 : decode cX2_unfold 105 = .ok (.istore_n 3, 1) := by decide +kernel
theorem dX2_unfold_106 : decode cX2_unfold 106 = .ok (.iload 5, 2) := by decide +kernel
theorem dX2_unfold_108 : decode cX2_unfold 108 = .ok (.iconst 2, 1) := by decide +kernel
theorem dX2_unfold_109 : decode cX2_unfold 109 = .ok (.imul, 1) := by decide +kernel
theorem dX2_unfold_110 : decode cX2_unfold 110 = .ok (.istore 5, 2) := by decide +kernel
theorem dX2_unfold_112 : decode cX2_unfold 112 = .ok (.goto 29, 3) := by decide +kernel
theorem dX2_unfold_115 : decode cX2_unfold 115 = .ok (.iload_n 2, 1) := by decide +kernel
theorem dX2_unfold_116 : decode cX2_unfold 116 = .ok (.iload 4, 2) := by decide +kernel
theorem dX2_unfold_118 : decode cX2_unfold 118 = .ok (.iload 9, 2) := by decide +kernel
theorem dX2_unfold_120 : decode cX2_unfold 120 = .ok (.iload 10, 2) := by decide +kernel
theorem dX2_unfold_122 : decode cX2_unfold 122 = .ok (.iconst 2, 1) := by decide +kernel
theorem dX2_unfold_123 : decode cX2_unfold 123 = .ok (.if_icmp .ne 7, 3) := by decide +kernel
theorem dX2_unfold_126 : decode cX2_unfold 126 = .ok (.iconst 1, 1) := by decide +kernel
theorem dX2_unfold_127 : decode cX2_unfold 127 = .ok (.goto 4, 3) := by decide +kernel
theorem dX2_unfold_130 : decode cX2_unfold 130 = .ok (.iconst 0, 1) := by decide +kernel
theorem dX2_unfold_131 : decode cX2_unfold 131 = .ok (.invokestatic 15, 3) := by decide +kernel
theorem dX2_unfold_134 : decode cX2_unfold 134 = .ok (.istore_n 2, 1) := by decide +kernel
theorem dX2_unfold_135 : decode cX2_unfold 135 = .ok (.iload 4, 2) := by decide +kernel
theorem dX2_unfold_137 : decode cX2_unfold 137 = .ok (.iconst 2, 1) := by decide +kernel
theorem dX2_unfold_138 : decode cX2_unfold 138 = .ok (.imul, 1) := by decide +kernel
theorem dX2_unfold_139 : decode cX2_unfold 139 = .ok (.istore 4, 2) := by decide +kernel
theorem dX2_unfold_141 : decode cX2_unfold 141 = .ok (.iinc 8 (-1), 3) := by decide +kernel
theorem dX2_unfold_144 : decode cX2_unfold 144 = .ok (.goto (-125), 3) := by decide +kernel
theorem dX2_unfold_147 : decode cX2_unfold 147 = .ok (.iload_n 2, 1) := by decide +kernel
theorem dX2_unfold_148 : decode cX2_unfold 148 = .ok (.iconst 4, 1) := by decide +kernel
theorem dX2_unfold_149 : decode cX2_unfold 149 = .ok (.imul, 1) := by decide +kernel
theorem dX2_unfold_150 : decode cX2_unfold 150 = .ok (.iload_n 3, 1) := by decide +kernel
theorem dX2_unfold_151 : decode cX2_unfold 151 = .ok (.iadd, 1) := by decide +kernel
theorem dX2_unfold_152 : decode cX2_unfold 152 = .ok (.ireturn, 1) := by decide +kernel
theorem dX2_unfoldLine_0 : decode cX2_unfoldLine 0 = .ok (.iload_n 3, 1) := by decide +kernel
theorem dX2_unfoldLine_1 : decode cX2_unfoldLine 1 = .ok (.ifCond .eq 7, 3) := by decide +kernel
theorem dX2_unfoldLine_4 : decode cX2_unfoldLine 4 = .ok (.iload_n 0, 1) := by decide +kernel
theorem dX2_unfoldLine_5 : decode cX2_unfoldLine 5 = .ok (.goto 6, 3) := by decide +kernel
theorem dX2_unfoldLine_8 : decode cX2_unfoldLine 8 = .ok (.iload_n 1, 1) := by decide +kernel
theorem dX2_unfoldLine_9 : decode cX2_unfoldLine 9 = .ok (.iload_n 0, 1) := by decide +kernel
theorem dX2_unfoldLine_10 : decode cX2_unfoldLine 10 = .ok (.iadd, 1) := by decide +kernel
theorem dX2_unfoldLine_11 : decode cX2_unfoldLine 11 = .ok (.istore 4, 2) := by decide +kernel
theorem dX2_unfoldLine_13 : decode cX2_unfoldLine 13 = .ok (.iload_n 2, 1) := by decide +kernel
theorem dX2_unfoldLine_14 : decode cX2_unfoldLine 14 = .ok (.ifCond .eq 14, 3) := by decide +kernel
theorem dX2_unfoldLine_17 : decode cX2_unfoldLine 17 = .ok (.iconst 2, 1) := by decide +kernel
theorem dX2_unfoldLine_18 : decode cX2_unfoldLine 18 = .ok (.iload_n 1, 1) := by decide +kernel
theorem dX2_unfoldLine_19 : decode cX2_unfoldLine 19 = .ok (.imul, 1) := by decide +kernel
theorem dX2_unfoldLine_20 : decode cX2_unfoldLine 20 = .ok (.iconst 1, 1) := by decide +kernel
theorem dX2_unfoldLine_21 : decode cX2_unfoldLine 21 = .ok (.isub, 1) := by decide +kernel
theorem dX2_unfoldLine_22 : decode cX2_unfoldLine 22 = .ok (.iload 4, 2) := by decide +kernel
theorem dX2_unfoldLine_24 : decode cX2_unfoldLine 24 = .ok (.isub, 1) := by decide +kernel
theorem dX2_unfoldLine_25 : decode cX2_unfoldLine 25 = .ok (.goto 5, 3) := by decide +kernel
theorem dX2_unfoldLine_28 : decode cX2_unfoldLine 28 = .ok (.iload 4, 2) := by decide +kernel
theorem dX2_unfoldLine_30 : decode cX2_unfoldLine 30 = .ok (.ireturn, 1) := by decide +kernel
theorem dX3_init_0 : decode cX3_init 0 = .ok (.aload_n 0, 1) := by decide +kernel
theorem dX3_init_1 : decode cX3_init 1 = .ok (.invokespecial 3, 3) := by decide +kernel
theorem dX3_init_4 : decode cX3_init 4 = .ok (.aload_n 0, 1) := by decide +kernel
theorem dX3_init_5 : decode cX3_init 5 = .ok (.iconst 0, 1) := by decide +kernel
theorem dX3_init_6 : decode cX3_init 6 = .ok (.putfield 9, 3) := by decide +kernel
theorem dX3_init_9 : decode cX3_init 9 = .ok (.aload_n 0, 1) := by decide +kernel
theorem dX3_init_10 : decode cX3_init 10 = .ok (.iload_n 1, 1) := by decide +kernel
theorem dX3_init_11 : decode cX3_init 11 = .ok (.putfield 15, 3) := by decide +kernel
theorem dX3_init_14 : decode cX3_init 14 = .ok (.aload_n 0, 1) := by decide +kernel
theorem dX3_init_15 : decode cX3_init 15 = .ok (.iload_n 2, 1) := by decide +kernel
theorem dX3_init_16 : decode cX3_init 16 = .ok (.putfield 19, 3) := by decide +kernel
theorem dX3_init_19 : decode cX3_init 19 = .ok (.aload_n 0, 1) := by decide +kernel
theorem dX3_init_20 : decode cX3_init 20 = .ok (.iload_n 3, 1) := by decide +kernel
theorem dX3_init_21 : decode cX3_init 21 = .ok (.putfield 22, 3) := by decide +kernel
theorem dX3_init_24 : decode cX3_init 24 = .ok (.aload_n 0, 1) := by decide +kernel
theorem dX3_init_25 : decode cX3_init 25 = .ok (.iload 4, 2) := by decide +kernel
theorem dX3_init_27 : decode cX3_init 27 = .ok (.putfield 25, 3) := by decide +kernel
theorem dX3_init_30 : decode cX3_init 30 = .ok (.aload_n 0, 1) := by decide +kernel
theorem dX3_init_31 : decode cX3_init 31 = .ok (.aload 5, 2) := by decide +kernel
theorem dX3_init_33 : decode cX3_init 33 = .ok (.putfield 28, 3) := by decide +kernel
theorem dX3_init_36 : decode cX3_init 36 = .ok (.return_, 1) := by decide +kernel
theorem dX3_code_0 : decode cX3_code 0 = .ok (.sipush 10000, 3) := by decide +kernel
theorem dX3_code_3 : decode cX3_code 3 = .ok (.aload_n 0, 1) := by decide +kernel
theorem dX3_code_4 : decode cX3_code 4 = .ok (.getfield 15, 3) := by decide +kernel
theorem dX3_code_7 : decode cX3_code 7 = .ok (.imul, 1) := by decide +kernel
theorem dX3_code_8 : decode cX3_code 8 = .ok (.sipush 1000, 3) := by decide +kernel
theorem dX3_code_11 : decode cX3_code 11 = .ok (.aload_n 0, 1) := by decide +kernel
theorem dX3_code_12 : decode cX3_code 12 = .ok (.getfield 19, 3) := by decide +kernel
theorem dX3_code_15 : decode cX3_code 15 = .ok (.imul, 1) := by decide +kernel
theorem dX3_code_16 : decode cX3_code 16 = .ok (.iadd, 1) := by decide +kernel
theorem dX3_code_17 : decode cX3_code 17 = .ok (.aload_n 0, 1) := by decide +kernel
theorem dX3_code_18 : decode cX3_code 18 = .ok (.getfield 22, 3) := by decide +kernel
theorem dX3_code_21 : decode cX3_code 21 = .ok (.iadd, 1) := by decide +kernel
theorem dX3_code_22 : decode cX3_code 22 = .ok (.ireturn, 1) := by decide +kernel
theorem dX3_belongsTo_0 : decode cX3_belongsTo 0 = .ok (.aload_n 0, 1) := by decide +kernel
theorem dX3_belongsTo_1 : decode cX3_belongsTo 1 = .ok (.getfield 15, 3) := by decide +kernel
theorem dX3_belongsTo_4 : decode cX3_belongsTo 4 = .ok (.iload_n 1, 1) := by decide +kernel
theorem dX3_belongsTo_5 : decode cX3_belongsTo 5 = .ok (.if_icmp .ne 23, 3) := by decide +kernel
theorem dX3_belongsTo_8 : decode cX3_belongsTo 8 = .ok (.aload_n 0, 1) := by decide +kernel
theorem dX3_belongsTo_9 : decode cX3_belongsTo 9 = .ok (.getfield 19, 3) := by decide +kernel
theorem dX3_belongsTo_12 : decode cX3_belongsTo 12 = .ok (.iload_n 2, 1) := by decide +kernel
theorem dX3_belongsTo_13 : decode cX3_belongsTo 13 = .ok (.if_icmp .ne 15, 3) := by decide +kernel
theorem dX3_belongsTo_16 : decode cX3_belongsTo 16 = .ok (.aload_n 0, 1) := by decide +kernel
theorem dX3_belongsTo_17 : decode cX3_belongsTo 17 = .ok (.getfield 22, 3) := by decide +kernel
theorem dX3_belongsTo_20 : decode cX3_belongsTo 20 = .ok (.iload_n 3, 1) := by decide +kernel
theorem dX3_belongsTo_21 : decode cX3_belongsTo 21 = .ok (.if_icmp .ne 7, 3) := by decide +kernel
theorem dX3_belongsTo_24 : decode cX3_belongsTo 24 = .ok (.iconst 1, 1) := by decide +kernel
theorem dX3_belongsTo_25 : decode cX3_belongsTo 25 = .ok (.goto 4, 3) := by decide +kernel
theorem dX3_belongsTo_28 : decode cX3_belongsTo 28 = .ok (.iconst 0, 1) := by decide +kernel
theorem dX3_belongsTo_29 : decode cX3_belongsTo 29 = .ok (.ireturn, 1) := by decide +kernel
theorem dX4_init_0 : decode cX4_init 0 = .ok (.aload_n 0, 1) := by decide +kernel
theorem dX4_init_1 : decode cX4_init 1 = .ok (.invokespecial 3, 3) := by decide +kernel
theorem dX4_init_4 : decode cX4_init 4 = .ok (.aload_n 0, 1) := by decide +kernel
theorem dX4_init_5 : decode cX4_init 5 = .ok (.new 9, 3) := by decide +kernel
theorem dX4_init_8 : decode cX4_init 8 = .ok (.dup, 1) := by decide +kernel
theorem dX4_init_9 : decode cX4_init 9 = .ok (.invokespecial 11, 3) := by decide +kernel
theorem dX4_init_12 : decode cX4_init 12 = .ok (.putfield 12, 3) := by decide +kernel
theorem dX4_init_15 : decode cX4_init 15 = .ok (.aload_n 0, 1) := by decide +kernel
theorem dX4_init_16 : decode cX4_init 16 = .ok (.iload_n 1, 1) := by decide +kernel
theorem dX4_init_17 : decode cX4_init 17 = .ok (.putfield 18, 3) := by decide +kernel
theorem dX4_init_20 : decode cX4_init 20 = .ok (.aload_n 0, 1) := by decide +kernel
theorem dX4_init_21 : decode cX4_init 21 = .ok (.aload_n 2, 1) := by decide +kernel
theorem dX4_init_22 : decode cX4_init 22 = .ok (.putfield 22, 3) := by decide +kernel
theorem dX4_init_25 : decode cX4_init 25 = .ok (.iconst 0, 1) := by decide +kernel
theorem dX4_init_26 : decode cX4_init 26 = .ok (.istore 4, 2) := by decide +kernel
theorem dX4_init_28 : decode cX4_init 28 = .ok (.iload 4, 2) := by decide +kernel
theorem dX4_init_30 : decode cX4_init 30 = .ok (.iload_n 3, 1) := by decide +kernel
theorem dX4_init_31 : decode cX4_init 31 = .ok (.if_icmp .ge 24, 3) := by decide +kernel
theorem dX4_init_34 : decode cX4_init 34 = .ok (.aload_n 0, 1) := by decide +kernel
theorem dX4_init_35 : decode cX4_init 35 = .ok (.getfield 12, 3) := by decide +kernel
theorem dX4_init_38 : decode cX4_init 38 = .ok (.new 26, 3) := by decide +kernel
theorem dX4_init_41 : decode cX4_init 41 = .ok (.dup, 1) := by decide +kernel
theorem dX4_init_42 : decode cX4_init 42 = .ok (.invokespecial 28, 3) := by decide +kernel
theorem dX4_init_45 : decode cX4_init 45 = .ok (.invokevirtual 29, 3) := by decide +kernel
theorem dX4_init_48 : decode cX4_init 48 = .ok (.pop, 1) := by decide +kernel
theorem dX4_init_49 : decode cX4_init 49 = .ok (.iinc 4 1, 3) := by decide +kernel
theorem dX4_init_52 : decode cX4_init 52 = .ok (.goto (-24), 3) := by decide +kernel
theorem dX4_init_55 : decode cX4_init 55 = .ok (.return_, 1) := by decide +kernel
theorem dX4_isAheadOf_0 : decode cX4_isAheadOf 0 = .ok (.aload_n 0, 1) := by decide +kernel
theorem dX4_isAheadOf_1 : decode cX4_isAheadOf 1 = .ok (.getfield 22, 3) := by decide +kernel
theorem dX4_isAheadOf_4 : decode cX4_isAheadOf 4 = .ok (.getfield 33, 3) := by decide +kernel
theorem dX4_isAheadOf_7 : decode cX4_isAheadOf 7 = .ok (.aload_n 1, 1) := by decide +kernel
theorem dX4_isAheadOf_8 : decode cX4_isAheadOf 8 = .ok (.getfield 22, 3) := by decide +kernel
theorem dX4_isAheadOf_11 : decode cX4_isAheadOf 11 = .ok (.getfield 33, 3) := by decide +kernel
theorem dX4_isAheadOf_14 : decode cX4_isAheadOf 14 = .ok (.if_icmp .eq 26, 3) := by decide +kernel
theorem dX4_isAheadOf_17 : decode cX4_isAheadOf 17 = .ok (.aload_n 0, 1) := by decide +kernel
theorem dX4_isAheadOf_18 : decode cX4_isAheadOf 18 = .ok (.getfield 22, 3) := by decide +kernel
theorem dX4_isAheadOf_21 : decode cX4_isAheadOf 21 = .ok (.getfield 33, 3) := by decide +kernel
theorem dX4_isAheadOf_24 : decode cX4_isAheadOf 24 = .ok (.aload_n 1, 1) := by decide +kernel
theorem dX4_isAheadOf_25 : decode cX4_isAheadOf 25 = .ok (.getfield 22, 3) := by decide +kernel
theorem dX4_isAheadOf_28 : decode cX4_isAheadOf 28 = .ok (.getfield 33, 3) := by decide +kernel
theorem dX4_isAheadOf_31 : decode cX4_isAheadOf 31 = .ok (.if_icmp .le 7, 3) := by decide +kernel
theorem dX4_isAheadOf_34 : decode cX4_isAheadOf 34 = .ok (.iconst 1, 1) := by decide +kernel
theorem dX4_isAheadOf_35 : decode cX4_isAheadOf 35 = .ok (.goto 4, 3) := by decide +kernel
theorem dX4_isAheadOf_38 : decode cX4_isAheadOf 38 = .ok (.iconst 0, 1) := by decide +kernel
theorem dX4_isAheadOf_39 : decode cX4_isAheadOf 39 = .ok (.ireturn, 1) := by decide +kernel
theorem dX4_isAheadOf_40 : decode cX4_isAheadOf 40 = .ok (.aload_n 0, 1) := by decide +kernel
theorem dX4_isAheadOf_41 : decode cX4_isAheadOf 41 = .ok (.getfield 18, 3) := by decide +kernel
theorem dX4_isAheadOf_44 : decode cX4_isAheadOf 44 = .ok (.aload_n 1, 1) := by decide +kernel
theorem dX4_isAheadOf_45 : decode cX4_isAheadOf 45 = .ok (.getfield 18, 3) := by decide +kernel
theorem dX4_isAheadOf_48 : decode cX4_isAheadOf 48 = .ok (.if_icmp .ge 7, 3) := by decide +kernel
theorem dX4_isAheadOf_51 : decode cX4_isAheadOf 51 = .ok (.iconst 1, 1) := by decide +kernel
theorem dX4_isAheadOf_52 : decode cX4_isAheadOf 52 = .ok (.goto 4, 3) := by decide +kernel
theorem dX4_isAheadOf_55 : decode cX4_isAheadOf 55 = .ok (.iconst 0, 1) := by decide +kernel
theorem dX4_isAheadOf_56 : decode cX4_isAheadOf 56 = .ok (.ireturn, 1) := by decide +kernel
theorem dX4_lengthOf_0 : decode cX4_lengthOf 0 = .ok (.aload_n 1, 1) := by decide +kernel
theorem dX4_lengthOf_1 : decode cX4_lengthOf 1 = .ok (.getfield 38, 3) := by decide +kernel
theorem dX4_lengthOf_4 : decode cX4_lengthOf 4 = .ok (.ifCond .eq 10, 3) := by decide +kernel
theorem dX4_lengthOf_7 : decode cX4_lengthOf 7 = .ok (.aload_n 1, 1) := by decide +kernel
theorem dX4_lengthOf_8 : decode cX4_lengthOf 8 = .ok (.getfield 42, 3) := by decide +kernel
theorem dX4_lengthOf_11 : decode cX4_lengthOf 11 = .ok (.goto 10, 3) := by decide +kernel
theorem dX4_lengthOf_14 : decode cX4_lengthOf 14 = .ok (.aload_n 0, 1) := by decide +kernel
theorem dX4_lengthOf_15 : decode cX4_lengthOf 15 = .ok (.getfield 22, 3) := by decide +kernel
theorem dX4_lengthOf_18 : decode cX4_lengthOf 18 = .ok (.getfield 33, 3) := by decide +kernel
theorem dX4_lengthOf_21 : decode cX4_lengthOf 21 = .ok (.ireturn, 1) := by decide +kernel
theorem dX4_countLacking_0 : decode cX4_countLacking 0 = .ok (.iconst 0, 1) := by decide +kernel
theorem dX4_countLacking_1 : decode cX4_countLacking 1 = .ok (.istore_n 1, 1) := by decide +kernel
theorem dX4_countLacking_2 : decode cX4_countLacking 2 = .ok (.iconst 0, 1) := by decide +kernel
theorem dX4_countLacking_3 : decode cX4_countLacking 3 = .ok (.istore_n 2, 1) := by decide +kernel
theorem dX4_countLacking_4 : decode cX4_countLacking 4 = .ok (.iload_n 2, 1) := by decide +kernel
theorem dX4_countLacking_5 : decode cX4_countLacking 5 = .ok (.aload_n 0, 1) := by decide +kernel
theorem dX4_countLacking_6 : decode cX4_countLacking 6 = .ok (.getfield 12, 3) := by decide +kernel
theorem dX4_countLacking_9 : decode cX4_countLacking 9 = .ok (.invokevirtual 45, 3) := by decide +kernel
theorem dX4_countLacking_12 : decode cX4_countLacking 12 = .ok (.if_icmp .ge 33, 3) := by decide +kernel
theorem dX4_countLacking_15 : decode cX4_countLacking 15 = .ok (.iload_n 1, 1) := by decide +kernel
theorem dX4_countLacking_16 : decode cX4_countLacking 16 = .ok (.aload_n 0, 1) := by decide +kernel
theorem dX4_countLacking_17 : decode cX4_countLacking 17 = .ok (.getfield 12, 3) := by decide +kernel
theorem dX4_countLacking_20 : decode cX4_countLacking 20 = .ok (.iload_n 2, 1) := by decide +kernel
theorem dX4_countLacking_21 : decode cX4_countLacking 21 = .ok (.invokevirtual 49, 3) := by decide +kernel
theorem dX4_countLacking_24 : decode cX4_countLacking 24 = .ok (.checkcast 26, 3) := by decide +kernel
theorem dX4_countLacking_27 : decode cX4_countLacking 27 = .ok (.aload_n 0, 1) := by decide +kernel
theorem dX4_countLacking_28 : decode cX4_countLacking 28 = .ok (.getfield 22, 3) := by decide +kernel
theorem dX4_countLacking_31 : decode cX4_countLacking 31 = .ok (.getfield 33, 3) := by decide +kernel
theorem dX4_countLacking_34 : decode cX4_countLacking 34 = .ok (.invokevirtual 53, 3) := by decide +kernel
theorem dX4_countLacking_37 : decode cX4_countLacking 37 = .ok (.iadd, 1) := by decide +kernel
theorem dX4_countLacking_38 : decode cX4_countLacking 38 = .ok (.istore_n 1, 1) := by decide +kernel
theorem dX4_countLacking_39 : decode cX4_countLacking 39 = .ok (.iinc 2 1, 3) := by decide +kernel
theorem dX4_countLacking_42 : decode cX4_countLacking 42 = .ok (.goto (-38), 3) := by decide +kernel
theorem dX4_countLacking_45 : decode cX4_countLacking 45 = .ok (.iload_n 1, 1) := by decide +kernel
theorem dX4_countLacking_46 : decode cX4_countLacking 46 = .ok (.ireturn, 1) := by decide +kernel
theorem dX4_spoilChanged_0 : decode cX4_spoilChanged 0 = .ok (.iconst 0, 1) := by decide +kernel
theorem dX4_spoilChanged_1 : decode cX4_spoilChanged 1 = .ok (.istore_n 1, 1) := by decide +kernel
theorem dX4_spoilChanged_2 : decode cX4_spoilChanged 2 = .ok (.iconst 0, 1) := by decide +kernel
theorem dX4_spoilChanged_3 : decode cX4_spoilChanged 3 = .ok (.istore_n 2, 1) := by decide +kernel
theorem dX4_spoilChanged_4 : decode cX4_spoilChanged 4 = .ok (.iload_n 2, 1) := by decide +kernel
theorem dX4_spoilChanged_5 : decode cX4_spoilChanged 5 = .ok (.aload_n 0, 1) := by decide +kernel
theorem dX4_spoilChanged_6 : decode cX4_spoilChanged 6 = .ok (.getfield 12, 3) := by decide +kernel
theorem dX4_spoilChanged_9 : decode cX4_spoilChanged 9 = .ok (.invokevirtual 45, 3) := by decide +kernel
theorem dX4_spoilChanged_12 : decode cX4_spoilChanged 12 = .ok (.if_icmp .ge 30, 3) := by decide +kernel
theorem dX4_spoilChanged_15 : decode cX4_spoilChanged 15 = .ok (.iload_n 1, 1) := by decide +kernel
theorem dX4_spoilChanged_16 : decode cX4_spoilChanged 16 = .ok (.aload_n 0, 1) := by decide +kernel
theorem dX4_spoilChanged_17 : decode cX4_spoilChanged 17 = .ok (.getfield 12, 3) := by decide +kernel
theorem dX4_spoilChanged_20 : decode cX4_spoilChanged 20 = .ok (.iload_n 2, 1) := by decide +kernel
theorem dX4_spoilChanged_21 : decode cX4_spoilChanged 21 = .ok (.invokevirtual 49, 3) := by decide +kernel
theorem dX4_spoilChanged_24 : decode cX4_spoilChanged 24 = .ok (.checkcast 26, 3) := by decide +kernel
theorem dX4_spoilChanged_27 : decode cX4_spoilChanged 27 = .ok (.aload_n 0, 1) := by decide +kernel
theorem dX4_spoilChanged_28 : decode cX4_spoilChanged 28 = .ok (.getfield 22, 3) := by decide +kernel
theorem dX4_spoilChanged_31 : decode cX4_spoilChanged 31 = .ok (.invokevirtual 57, 3) := by decide +kernel
theorem dX4_spoilChanged_34 : decode cX4_spoilChanged 34 = .ok (.iadd, 1) := by decide +kernel
theorem dX4_spoilChanged_35 : decode cX4_spoilChanged 35 = .ok (.istore_n 1, 1) := by decide +kernel
theorem dX4_spoilChanged_36 : decode cX4_spoilChanged 36 = .ok (.iinc 2 1, 3) := by decide +kernel
theorem dX4_spoilChanged_39 : decode cX4_spoilChanged 39 = .ok (.goto (-35), 3) := by decide +kernel
theorem dX4_spoilChanged_42 : decode cX4_spoilChanged 42 = .ok (.iload_n 1, 1) := by decide +kernel
theorem dX4_spoilChanged_43 : decode cX4_spoilChanged 43 = .ok (.ireturn, 1) := by decide +kernel
theorem dX4_fill_0 : decode cX4_fill 0 = .ok (.iload_n 2, 1) := by decide +kernel
theorem dX4_fill_1 : decode cX4_fill 1 = .ok (.istore_n 3, 1) := by decide +kernel
theorem dX4_fill_2 : decode cX4_fill 2 = .ok (.iconst 0, 1) := by decide +kernel
theorem dX4_fill_3 : decode cX4_fill 3 = .ok (.istore 4, 2) := by decide +kernel
theorem dX4_fill_5 : decode cX4_fill 5 = .ok (.iload 4, 2) := by decide +kernel
theorem dX4_fill_7 : decode cX4_fill 7 = .ok (.aload_n 0, 1) := by decide +kernel
theorem dX4_fill_8 : decode cX4_fill 8 = .ok (.getfield 12, 3) := by decide +kernel
theorem dX4_fill_11 : decode cX4_fill 11 = .ok (.invokevirtual 45, 3) := by decide +kernel
theorem dX4_fill_14 : decode cX4_fill 14 = .ok (.if_icmp .ge 104, 3) := by decide +kernel
theorem dX4_fill_17 : decode cX4_fill 17 = .ok (.aload_n 0, 1) := by decide +kernel
theorem dX4_fill_18 : decode cX4_fill 18 = .ok (.getfield 12, 3) := by decide +kernel
theorem dX4_fill_21 : decode cX4_fill 21 = .ok (.iload 4, 2) := by decide +kernel
theorem dX4_fill_23 : decode cX4_fill 23 = .ok (.invokevirtual 49, 3) := by decide +kernel
theorem dX4_fill_26 : decode cX4_fill 26 = .ok (.checkcast 26, 3) := by decide +kernel
theorem dX4_fill_29 : decode cX4_fill 29 = .ok (.astore 5, 2) := by decide +kernel
theorem dX4_fill_31 : decode cX4_fill 31 = .ok (.iconst 0, 1) := by decide +kernel
theorem dX4_fill_32 : decode cX4_fill 32 = .ok (.istore 6, 2) := by decide +kernel
theorem dX4_fill_34 : decode cX4_fill 34 = .ok (.iload 6, 2) := by decide +kernel
theorem dX4_fill_36 : decode cX4_fill 36 = .ok (.aload_n 0, 1) := by decide +kernel
theorem dX4_fill_37 : decode cX4_fill 37 = .ok (.getfield 22, 3) := by decide +kernel
theorem dX4_fill_40 : decode cX4_fill 40 = .ok (.getfield 33, 3) := by decide +kernel
theorem dX4_fill_43 : decode cX4_fill 43 = .ok (.if_icmp .ge 69, 3) := by decide +kernel
theorem dX4_fill_46 : decode cX4_fill 46 = .ok (.iload_n 3, 1) := by decide +kernel
theorem dX4_fill_47 : decode cX4_fill 47 = .ok (.bipush 8, 2) := by decide +kernel
theorem dX4_fill_49 : decode cX4_fill 49 = .ok (.if_icmp .ge 63, 3) := by decide +kernel
theorem dX4_fill_52 : decode cX4_fill 52 = .ok (.aload 5, 2) := by decide +kernel
theorem dX4_fill_54 : decode cX4_fill 54 = .ok (.iload 6, 2) := by decide +kernel
theorem dX4_fill_56 : decode cX4_fill 56 = .ok (.invokevirtual 61, 3) := by decide +kernel
theorem dX4_fill_59 : decode cX4_fill 59 = .ok (.ifCond .eq 47, 3) := by decide +kernel
theorem dX4_fill_62 : decode cX4_fill 62 = .ok (.new 65, 3) := by decide +kernel
theorem dX4_fill_65 : decode cX4_fill 65 = .ok (.dup, 1) := by decide +kernel
theorem dX4_fill_66 : decode cX4_fill 66 = .ok (.aload_n 0, 1) := by decide +kernel
theorem dX4_fill_67 : decode cX4_fill 67 = .ok (.getfield 18, 3) := by decide +kernel
theorem dX4_fill_70 : decode cX4_fill 70 = .ok (.iload 4, 2) := by decide +kernel
theorem dX4_fill_72 : decode cX4_fill 72 = .ok (.iload 6, 2) := by decide +kernel
theorem dX4_fill_74 : decode cX4_fill 74 = .ok (.aload_n 0, 1) := by decide +kernel
theorem dX4_fill_75 : decode cX4_fill 75 = .ok (.getfield 22, 3) := by decide +kernel
theorem dX4_fill_78 : decode cX4_fill 78 = .ok (.iload 6, 2) := by decide +kernel
theorem dX4_fill_80 : decode cX4_fill 80 = .ok (.invokevirtual 67, 3) := by decide +kernel
theorem dX4_fill_83 : decode cX4_fill 83 = .ok (.aload_n 1, 1) := by decide +kernel
theorem dX4_fill_84 : decode cX4_fill 84 = .ok (.invokespecial 70, 3) := by decide +kernel
theorem dX4_fill_87 : decode cX4_fill 87 = .ok (.astore 7, 2) := by decide +kernel
theorem dX4_fill_89 : decode cX4_fill 89 = .ok (.aload 5, 2) := by decide +kernel
theorem dX4_fill_91 : decode cX4_fill 91 = .ok (.aload 7, 2) := by decide +kernel
theorem dX4_fill_93 : decode cX4_fill 93 = .ok (.invokevirtual 73, 3) := by decide +kernel
theorem dX4_fill_96 : decode cX4_fill 96 = .ok (.aload_n 1, 1) := by decide +kernel
theorem dX4_fill_97 : decode cX4_fill 97 = .ok (.aload 7, 2) := by decide +kernel
theorem dX4_fill_99 : decode cX4_fill 99 = .ok (.iload_n 3, 1) := by decide +kernel
theorem dX4_fill_100 : decode cX4_fill 100 = .ok (.invokevirtual 77, 3) := by decide +kernel
theorem dX4_fill_103 : decode cX4_fill 103 = .ok (.iinc 3 1, 3) := by decide +kernel
theorem dX4_fill_106 : decode cX4_fill 106 = .ok (.iinc 6 1, 3) := by decide +kernel
theorem dX4_fill_109 : decode cX4_fill 109 = .ok (.goto (-75), 3) := by decide +kernel
theorem dX4_fill_112 : decode cX4_fill 112 = .ok (.iinc 4 1, 3) := by decide +kernel
theorem dX4_fill_115 : decode cX4_fill 115 = .ok (.goto (-110), 3) := by decide +kernel
theorem dX4_fill_118 : decode cX4_fill 118 = .ok (.iload_n 3, 1) := by decide +kernel
theorem dX4_fill_119 : decode cX4_fill 119 = .ok (.ireturn, 1) := by decide +kernel
theorem dX5_init_0 : decode cX5_init 0 = .ok (.aload_n 0, 1) := by decide +kernel
theorem dX5_init_1 : decode cX5_init 1 = .ok (.invokespecial 3, 3) := by decide +kernel
theorem dX5_init_4 : decode cX5_init 4 = .ok (.aload_n 0, 1) := by decide +kernel
theorem dX5_init_5 : decode cX5_init 5 = .ok (.bipush 64, 2) := by decide +kernel
theorem dX5_init_7 : decode cX5_init 7 = .ok (.newarray .int, 2) := by decide +kernel
theorem dX5_init_9 : decode cX5_init 9 = .ok (.putfield 9, 3) := by decide +kernel
theorem dX5_init_12 : decode cX5_init 12 = .ok (.aload_n 0, 1) := by decide +kernel
theorem dX5_init_13 : decode cX5_init 13 = .ok (.bipush 8, 2) := by decide +kernel
theorem dX5_init_15 : decode cX5_init 15 = .ok (.newarray .int, 2) := by decide +kernel
theorem dX5_init_17 : decode cX5_init 17 = .ok (.putfield 15, 3) := by decide +kernel
theorem dX5_init_20 : decode cX5_init 20 = .ok (.aload_n 0, 1) := by decide +kernel
theorem dX5_init_21 : decode cX5_init 21 = .ok (.iconst 0, 1) := by decide +kernel
theorem dX5_init_22 : decode cX5_init 22 = .ok (.putfield 18, 3) := by decide +kernel
theorem dX5_init_25 : decode cX5_init 25 = .ok (.aload_n 0, 1) := by decide +kernel
theorem dX5_init_26 : decode cX5_init 26 = .ok (.iconst 0, 1) := by decide +kernel
theorem dX5_init_27 : decode cX5_init 27 = .ok (.putfield 22, 3) := by decide +kernel
theorem dX5_init_30 : decode cX5_init 30 = .ok (.aload_n 0, 1) := by decide +kernel
theorem dX5_init_31 : decode cX5_init 31 = .ok (.iconst 2, 1) := by decide +kernel
theorem dX5_init_32 : decode cX5_init 32 = .ok (.putfield 25, 3) := by decide +kernel
theorem dX5_init_35 : decode cX5_init 35 = .ok (.aload_n 0, 1) := by decide +kernel
theorem dX5_init_36 : decode cX5_init 36 = .ok (.iconst 4, 1) := by decide +kernel
theorem dX5_init_37 : decode cX5_init 37 = .ok (.putfield 28, 3) := by decide +kernel
theorem dX5_init_40 : decode cX5_init 40 = .ok (.return_, 1) := by decide +kernel
theorem dX5_foldAll_0 : decode cX5_foldAll 0 = .ok (.aload_n 0, 1) := by decide +kernel
theorem dX5_foldAll_1 : decode cX5_foldAll 1 = .ok (.invokevirtual 31, 3) := by decide +kernel
theorem dX5_foldAll_4 : decode cX5_foldAll 4 = .ok (.iconst 0, 1) := by decide +kernel
theorem dX5_foldAll_5 : decode cX5_foldAll 5 = .ok (.istore_n 2, 1) := by decide +kernel
theorem dX5_foldAll_6 : decode cX5_foldAll 6 = .ok (.iload_n 2, 1) := by decide +kernel
theorem dX5_foldAll_7 : decode cX5_foldAll 7 = .ok (.iconst 3, 1) := by decide +kernel
theorem dX5_foldAll_8 : decode cX5_foldAll 8 = .ok (.if_icmp .ge 56, 3) := by decide +kernel
theorem dX5_foldAll_11 : decode cX5_foldAll 11 = .ok (.aload_n 1, 1) := by decide +kernel
theorem dX5_foldAll_12 : decode cX5_foldAll 12 = .ok (.getfield 34, 3) := by decide +kernel
theorem dX5_foldAll_15 : decode cX5_foldAll 15 = .ok (.iload_n 2, 1) := by decide +kernel
theorem dX5_foldAll_16 : decode cX5_foldAll 16 = .ok (.iaload, 1) := by decide +kernel
theorem dX5_foldAll_17 : decode cX5_foldAll 17 = .ok (.istore_n 3, 1) := by decide +kernel
theorem dX5_foldAll_18 : decode cX5_foldAll 18 = .ok (.iload_n 3, 1) := by decide +kernel
theorem dX5_foldAll_19 : decode cX5_foldAll 19 = .ok (.ifCond .eq 8, 3) := by decide +kernel
theorem dX5_foldAll_22 : decode cX5_foldAll 22 = .ok (.iload_n 3, 1) := by decide +kernel
theorem dX5_foldAll_23 : decode cX5_foldAll 23 = .ok (.iconst 1, 1) := by decide +kernel
theorem dX5_foldAll_24 : decode cX5_foldAll 24 = .ok (.if_icmp .ne 20, 3) := by decide +kernel
theorem dX5_foldAll_27 : decode cX5_foldAll 27 = .ok (.aload_n 0, 1) := by decide +kernel
theorem dX5_foldAll_28 : decode cX5_foldAll 28 = .ok (.iload_n 3, 1) := by decide +kernel
theorem dX5_foldAll_29 : decode cX5_foldAll 29 = .ok (.iconst 1, 1) := by decide +kernel
theorem dX5_foldAll_30 : decode cX5_foldAll 30 = .ok (.if_icmp .ne 7, 3) := by decide +kernel
theorem dX5_foldAll_33 : decode cX5_foldAll 33 = .ok (.iconst 1, 1) := by decide +kernel
theorem dX5_foldAll_34 : decode cX5_foldAll 34 = .ok (.goto 4, 3) := by decide +kernel
theorem dX5_foldAll_37 : decode cX5_foldAll 37 = .ok (.iconst 0, 1) := by decide +kernel
theorem dX5_foldAll_38 : decode cX5_foldAll 38 = .ok (.invokevirtual 39, 3) := by decide +kernel
theorem dX5_foldAll_41 : decode cX5_foldAll 41 = .ok (.goto 17, 3) := by decide +kernel
theorem dX5_foldAll_44 : decode cX5_foldAll 44 = .ok (.aload_n 0, 1) := by decide +kernel
theorem dX5_foldAll_45 : decode cX5_foldAll 45 = .ok (.iload_n 3, 1) := by decide +kernel
theorem dX5_foldAll_46 : decode cX5_foldAll 46 = .ok (.iconst 2, 1) := by decide +kernel
theorem dX5_foldAll_47 : decode cX5_foldAll 47 = .ok (.if_icmp .ne 7, 3) := by decide +kernel
theorem dX5_foldAll_50 : decode cX5_foldAll 50 = .ok (.iconst 1, 1) := by decide +kernel
theorem dX5_foldAll_51 : decode cX5_foldAll 51 = .ok (.goto 4, 3) := by decide +kernel
theorem dX5_foldAll_54 : decode cX5_foldAll 54 = .ok (.iconst 0, 1) := by decide +kernel
theorem dX5_foldAll_55 : decode cX5_foldAll 55 = .ok (.invokevirtual 43, 3) := by decide +kernel
theorem dX5_foldAll_58 : decode cX5_foldAll 58 = .ok (.iinc 2 1, 3) := by decide +kernel
theorem dX5_foldAll_61 : decode cX5_foldAll 61 = .ok (.goto (-55), 3) := by decide +kernel
theorem dX5_foldAll_64 : decode cX5_foldAll 64 = .ok (.return_, 1) := by decide +kernel
theorem dX5_cellAt_0 : decode cX5_cellAt 0 = .ok (.aload_n 0, 1) := by decide +kernel
theorem dX5_cellAt_1 : decode cX5_cellAt 1 = .ok (.iconst 0, 1) := by decide +kernel
theorem dX5_cellAt_2 : decode cX5_cellAt 2 = .ok (.iconst 0, 1) := by decide +kernel
theorem dX5_cellAt_3 : decode cX5_cellAt 3 = .ok (.invokevirtual 46, 3) := by decide +kernel
theorem dX5_cellAt_6 : decode cX5_cellAt 6 = .ok (.istore_n 2, 1) := by decide +kernel
theorem dX5_cellAt_7 : decode cX5_cellAt 7 = .ok (.iload_n 2, 1) := by decide +kernel
theorem dX5_cellAt_8 : decode cX5_cellAt 8 = .ok (.ifCond .lt 23, 3) := by decide +kernel
theorem dX5_cellAt_11 : decode cX5_cellAt 11 = .ok (.iload_n 2, 1) := by decide +kernel
theorem dX5_cellAt_12 : decode cX5_cellAt 12 = .ok (.bipush 8, 2) := by decide +kernel
theorem dX5_cellAt_14 : decode cX5_cellAt 14 = .ok (.if_icmp .ge 17, 3) := by decide +kernel
theorem dX5_cellAt_17 : decode cX5_cellAt 17 = .ok (.iload_n 1, 1) := by decide +kernel
theorem dX5_cellAt_18 : decode cX5_cellAt 18 = .ok (.ifCond .lt 13, 3) := by decide +kernel
theorem dX5_cellAt_21 : decode cX5_cellAt 21 = .ok (.iload_n 1, 1) := by decide +kernel
theorem dX5_cellAt_22 : decode cX5_cellAt 22 = .ok (.aload_n 0, 1) := by decide +kernel
theorem dX5_cellAt_23 : decode cX5_cellAt 23 = .ok (.getfield 15, 3) := by decide +kernel
theorem dX5_cellAt_26 : decode cX5_cellAt 26 = .ok (.iload_n 2, 1) := by decide +kernel
theorem dX5_cellAt_27 : decode cX5_cellAt 27 = .ok (.iaload, 1) := by decide +kernel
theorem dX5_cellAt_28 : decode cX5_cellAt 28 = .ok (.if_icmp .lt 5, 3) := by decide +kernel
theorem dX5_cellAt_31 : decode cX5_cellAt 31 = .ok (.iconst (-1), 1) := by decide +kernel
theorem dX5_cellAt_32 : decode cX5_cellAt 32 = .ok (.ireturn, 1) := by decide +kernel
theorem dX5_cellAt_33 : decode cX5_cellAt 33 = .ok (.aload_n 0, 1) := by decide +kernel
theorem dX5_cellAt_34 : decode cX5_cellAt 34 = .ok (.getfield 9, 3) := by decide +kernel
theorem dX5_cellAt_37 : decode cX5_cellAt 37 = .ok (.iload_n 2, 1) := by decide +kernel
theorem dX5_cellAt_38 : decode cX5_cellAt 38 = .ok (.bipush 8, 2) := by decide +kernel
theorem dX5_cellAt_40 : decode cX5_cellAt 40 = .ok (.imul, 1) := by decide +kernel
theorem dX5_cellAt_41 : decode cX5_cellAt 41 = .ok (.iload_n 1, 1) := by decide +kernel
theorem dX5_cellAt_42 : decode cX5_cellAt 42 = .ok (.iadd, 1) := by decide +kernel
theorem dX5_cellAt_43 : decode cX5_cellAt 43 = .ok (.iaload, 1) := by decide +kernel
theorem dX5_cellAt_44 : decode cX5_cellAt 44 = .ok (.ireturn, 1) := by decide +kernel
theorem dX5_spread_0 : decode cX5_spread 0 = .ok (.aload_n 0, 1) := by decide +kernel
theorem dX5_spread_1 : decode cX5_spread 1 = .ok (.iconst 0, 1) := by decide +kernel
theorem dX5_spread_2 : decode cX5_spread 2 = .ok (.putfield 18, 3) := by decide +kernel
theorem dX5_spread_5 : decode cX5_spread 5 = .ok (.aload_n 0, 1) := by decide +kernel
theorem dX5_spread_6 : decode cX5_spread 6 = .ok (.iconst 0, 1) := by decide +kernel
theorem dX5_spread_7 : decode cX5_spread 7 = .ok (.putfield 22, 3) := by decide +kernel
theorem dX5_spread_10 : decode cX5_spread 10 = .ok (.aload_n 0, 1) := by decide +kernel
theorem dX5_spread_11 : decode cX5_spread 11 = .ok (.iconst 2, 1) := by decide +kernel
theorem dX5_spread_12 : decode cX5_spread 12 = .ok (.putfield 25, 3) := by decide +kernel
theorem dX5_spread_15 : decode cX5_spread 15 = .ok (.aload_n 0, 1) := by decide +kernel
theorem dX5_spread_16 : decode cX5_spread 16 = .ok (.iconst 4, 1) := by decide +kernel
theorem dX5_spread_17 : decode cX5_spread 17 = .ok (.putfield 28, 3) := by decide +kernel
theorem dX5_spread_20 : decode cX5_spread 20 = .ok (.iconst 0, 1) := by decide +kernel
theorem dX5_spread_21 : decode cX5_spread 21 = .ok (.istore_n 1, 1) := by decide +kernel
theorem dX5_spread_22 : decode cX5_spread 22 = .ok (.iload_n 1, 1) := by decide +kernel
theorem dX5_spread_23 : decode cX5_spread 23 = .ok (.bipush 8, 2) := by decide +kernel
theorem dX5_spread_25 : decode cX5_spread 25 = .ok (.if_icmp .ge 26, 3) := by decide +kernel
theorem dX5_spread_28 : decode cX5_spread 28 = .ok (.aload_n 0, 1) := by decide +kernel
theorem dX5_spread_29 : decode cX5_spread 29 = .ok (.getfield 15, 3) := by decide +kernel
theorem dX5_spread_32 : decode cX5_spread 32 = .ok (.iload_n 1, 1) := by decide +kernel
theorem dX5_spread_33 : decode cX5_spread 33 = .ok (.iconst 1, 1) := by decide +kernel
theorem dX5_spread_34 : decode cX5_spread 34 = .ok (.iastore, 1) := by decide +kernel
theorem dX5_spread_35 : decode cX5_spread 35 = .ok (.aload_n 0, 1) := by decide +kernel
theorem dX5_spread_36 : decode cX5_spread 36 = .ok (.getfield 9, 3) := by decide +kernel
theorem dX5_spread_39 : decode cX5_spread 39 = .ok (.iload_n 1, 1) := by decide +kernel
theorem dX5_spread_40 : decode cX5_spread 40 = .ok (.bipush 8, 2) := by decide +kernel
theorem dX5_spread_42 : decode cX5_spread 42 = .ok (.imul, 1) := by decide +kernel
theorem dX5_spread_43 : decode cX5_spread 43 = .ok (.iload_n 1, 1) := by decide +kernel
theorem dX5_spread_44 : decode cX5_spread 44 = .ok (.iastore, 1) := by decide +kernel
theorem dX5_spread_45 : decode cX5_spread 45 = .ok (.iinc 1 1, 3) := by decide +kernel
theorem dX5_spread_48 : decode cX5_spread 48 = .ok (.goto (-26), 3) := by decide +kernel
theorem dX5_spread_51 : decode cX5_spread 51 = .ok (.return_, 1) := by decide +kernel
theorem dX5_pileAt_0 : decode cX5_pileAt 0 = .ok (.aload_n 0, 1) := by decide +kernel
theorem dX5_pileAt_1 : decode cX5_pileAt 1 = .ok (.getfield 18, 3) := by decide +kernel
theorem dX5_pileAt_4 : decode cX5_pileAt 4 = .ok (.iload_n 1, 1) := by decide +kernel
theorem dX5_pileAt_5 : decode cX5_pileAt 5 = .ok (.iadd, 1) := by decide +kernel
theorem dX5_pileAt_6 : decode cX5_pileAt 6 = .ok (.iconst 4, 1) := by decide +kernel
theorem dX5_pileAt_7 : decode cX5_pileAt 7 = .ok (.imul, 1) := by decide +kernel
theorem dX5_pileAt_8 : decode cX5_pileAt 8 = .ok (.aload_n 0, 1) := by decide +kernel
theorem dX5_pileAt_9 : decode cX5_pileAt 9 = .ok (.getfield 22, 3) := by decide +kernel
theorem dX5_pileAt_12 : decode cX5_pileAt 12 = .ok (.iadd, 1) := by decide +kernel
theorem dX5_pileAt_13 : decode cX5_pileAt 13 = .ok (.iload_n 2, 1) := by decide +kernel
theorem dX5_pileAt_14 : decode cX5_pileAt 14 = .ok (.iadd, 1) := by decide +kernel
theorem dX5_pileAt_15 : decode cX5_pileAt 15 = .ok (.ireturn, 1) := by decide +kernel
theorem dX5_foldSideways_0 : decode cX5_foldSideways 0 = .ok (.aload_n 0, 1) := by decide +kernel
theorem dX5_foldSideways_1 : decode cX5_foldSideways 1 = .ok (.getfield 28, 3) := by decide +kernel
theorem dX5_foldSideways_4 : decode cX5_foldSideways 4 = .ok (.iconst 2, 1) := by decide +kernel
theorem dX5_foldSideways_5 : decode cX5_foldSideways 5 = .ok (.idiv, 1) := by decide +kernel
theorem dX5_foldSideways_6 : decode cX5_foldSideways 6 = .ok (.istore_n 2, 1) := by decide +kernel
theorem dX5_foldSideways_7 : decode cX5_foldSideways 7 = .ok (.iconst 0, 1) := by decide +kernel
theorem dX5_foldSideways_8 : decode cX5_foldSideways 8 = .ok (.istore_n 3, 1) := by decide +kernel
theorem dX5_foldSideways_9 : decode cX5_foldSideways 9 = .ok (.iload_n 3, 1) := by decide +kernel
theorem dX5_foldSideways_10 : decode cX5_foldSideways 10 = .ok (.aload_n 0, 1) := by decide +kernel
theorem dX5_foldSideways_11 : decode cX5_foldSideways 11 = .ok (.getfield 25, 3) := by decide +kernel
theorem dX5_foldSideways_14 : decode cX5_foldSideways 14 = .ok (.if_icmp .ge 75, 3) := by decide +kernel
theorem dX5_foldSideways_17 : decode cX5_foldSideways 17 = .ok (.iconst 0, 1) := by decide +kernel
theorem dX5_foldSideways_18 : decode cX5_foldSideways 18 = .ok (.istore 4, 2) := by decide +kernel
theorem dX5_foldSideways_20 : decode cX5_foldSideways 20 = .ok (.iload 4, 2) := by decide +kernel
theorem dX5_foldSideways_22 : decode cX5_foldSideways 22 = .ok (.iload_n 2, 1) := by decide +kernel
theorem dX5_foldSideways_23 : decode cX5_foldSideways 23 = .ok (.if_icmp .ge 60, 3) := by decide +kernel
theorem dX5_foldSideways_26 : decode cX5_foldSideways 26 = .ok (.aload_n 0, 1) := by decide +kernel
theorem dX5_foldSideways_27 : decode cX5_foldSideways 27 = .ok (.iload_n 3, 1) := by decide +kernel
theorem dX5_foldSideways_28 : decode cX5_foldSideways 28 = .ok (.iload 4, 2) := by decide +kernel
theorem dX5_foldSideways_30 : decode cX5_foldSideways 30 = .ok (.invokevirtual 46, 3) := by decide +kernel
theorem dX5_foldSideways_33 : decode cX5_foldSideways 33 = .ok (.istore 5, 2) := by decide +kernel
theorem dX5_foldSideways_35 : decode cX5_foldSideways 35 = .ok (.aload_n 0, 1) := by decide +kernel
theorem dX5_foldSideways_36 : decode cX5_foldSideways 36 = .ok (.iload_n 3, 1) := by decide +kernel
theorem dX5_foldSideways_37 : decode cX5_foldSideways 37 = .ok (.aload_n 0, 1) := by decide +kernel
theorem dX5_foldSideways_38 : decode cX5_foldSideways 38 = .ok (.getfield 28, 3) := by decide +kernel
theorem dX5_foldSideways_41 : decode cX5_foldSideways 41 = .ok (.iconst 1, 1) := by decide +kernel
theorem dX5_foldSideways_42 : decode cX5_foldSideways 42 = .ok (.isub, 1) := by decide +kernel
theorem dX5_foldSideways_43 : decode cX5_foldSideways 43 = .ok (.iload 4, 2) := by decide +kernel
theorem dX5_foldSideways_45 : decode cX5_foldSideways 45 = .ok (.isub, 1) := by decide +kernel
theorem dX5_foldSideways_46 : decode cX5_foldSideways 46 = .ok (.invokevirtual 46, 3) := by decide +kernel
theorem dX5_foldSideways_49 : decode cX5_foldSideways 49 = .ok (.istore 6, 2) := by decide +kernel
theorem dX5_foldSideways_51 : decode cX5_foldSideways 51 = .ok (.aload_n 0, 1) := by decide +kernel
theorem dX5_foldSideways_52 : decode cX5_foldSideways 52 = .ok (.iload_n 1, 1) := by decide +kernel
theorem dX5_foldSideways_53 : decode cX5_foldSideways 53 = .ok (.ifCond .eq 8, 3) := by decide +kernel
theorem dX5_foldSideways_56 : decode cX5_foldSideways 56 = .ok (.iload 6, 2) := by decide +kernel
theorem dX5_foldSideways_58 : decode cX5_foldSideways 58 = .ok (.goto 5, 3) := by decide +kernel
theorem dX5_foldSideways_61 : decode cX5_foldSideways 61 = .ok (.iload 5, 2) := by decide +kernel
theorem dX5_foldSideways_63 : decode cX5_foldSideways 63 = .ok (.iload_n 1, 1) := by decide +kernel
theorem dX5_foldSideways_64 : decode cX5_foldSideways 64 = .ok (.ifCond .eq 8, 3) := by decide +kernel
theorem dX5_foldSideways_67 : decode cX5_foldSideways 67 = .ok (.iload 5, 2) := by decide +kernel
theorem dX5_foldSideways_69 : decode cX5_foldSideways 69 = .ok (.goto 5, 3) := by decide +kernel
theorem dX5_foldSideways_72 : decode cX5_foldSideways 72 = .ok (.iload 6, 2) := by decide +kernel
theorem dX5_foldSideways_74 : decode cX5_foldSideways 74 = .ok (.invokevirtual 50, 3) := by decide +kernel
theorem dX5_foldSideways_77 : decode cX5_foldSideways 77 = .ok (.iinc 4 1, 3) := by decide +kernel
theorem dX5_foldSideways_80 : decode cX5_foldSideways 80 = .ok (.goto (-60), 3) := by decide +kernel
theorem dX5_foldSideways_83 : decode cX5_foldSideways 83 = .ok (.iinc 3 1, 3) := by decide +kernel
theorem dX5_foldSideways_86 : decode cX5_foldSideways 86 = .ok (.goto (-77), 3) := by decide +kernel
theorem dX5_foldSideways_89 : decode cX5_foldSideways 89 = .ok (.aload_n 0, 1) := by decide +kernel
theorem dX5_foldSideways_90 : decode cX5_foldSideways 90 = .ok (.dup, 1) := by decide +kernel
theorem dX5_foldSideways_91 : decode cX5_foldSideways 91 = .ok (.getfield 22, 3) := by decide +kernel
theorem dX5_foldSideways_94 : decode cX5_foldSideways 94 = .ok (.iload_n 1, 1) := by decide +kernel
theorem dX5_foldSideways_95 : decode cX5_foldSideways 95 = .ok (.ifCond .eq 7, 3) := by decide +kernel
theorem dX5_foldSideways_98 : decode cX5_foldSideways 98 = .ok (.iconst 0, 1) := by decide +kernel
theorem dX5_foldSideways_99 : decode cX5_foldSideways 99 = .ok (.goto 4, 3) := by decide +kernel
theorem dX5_foldSideways_102 : decode cX5_foldSideways 102 = .ok (.iload_n 2, 1) := by decide +kernel
theorem dX5_foldSideways_103 : decode cX5_foldSideways 103 = .ok (.iadd, 1) := by decide +kernel
theorem dX5_foldSideways_104 : decode cX5_foldSideways 104 = .ok (.putfield 22, 3) := by decide +kernel
theorem dX5_foldSideways_107 : decode cX5_foldSideways 107 = .ok (.aload_n 0, 1) := by decide +kernel
theorem dX5_foldSideways_108 : decode cX5_foldSideways 108 = .ok (.iload_n 2, 1) := by decide +kernel
theorem dX5_foldSideways_109 : decode cX5_foldSideways 109 = .ok (.putfield 28, 3) := by decide +kernel
theorem dX5_foldSideways_112 : decode cX5_foldSideways 112 = .ok (.return_, 1) := by decide +kernel
theorem dX5_foldUpright_0 : decode cX5_foldUpright 0 = .ok (.aload_n 0, 1) := by decide +kernel
theorem dX5_foldUpright_1 : decode cX5_foldUpright 1 = .ok (.getfield 25, 3) := by decide +kernel
theorem dX5_foldUpright_4 : decode cX5_foldUpright 4 = .ok (.iconst 2, 1) := by decide +kernel
theorem dX5_foldUpright_5 : decode cX5_foldUpright 5 = .ok (.idiv, 1) := by decide +kernel
theorem dX5_foldUpright_6 : decode cX5_foldUpright 6 = .ok (.istore_n 2, 1) := by decide +kernel
theorem dX5_foldUpright_7 : decode cX5_foldUpright 7 = .ok (.iconst 0, 1) := by decide +kernel
theorem dX5_foldUpright_8 : decode cX5_foldUpright 8 = .ok (.istore_n 3, 1) := by decide +kernel
theorem dX5_foldUpright_9 : decode cX5_foldUpright 9 = .ok (.iload_n 3, 1) := by decide +kernel
theorem dX5_foldUpright_10 : decode cX5_foldUpright 10 = .ok (.iload_n 2, 1) := by decide +kernel
theorem dX5_foldUpright_11 : decode cX5_foldUpright 11 = .ok (.if_icmp .ge 78, 3) := by decide +kernel
theorem dX5_foldUpright_14 : decode cX5_foldUpright 14 = .ok (.iconst 0, 1) := by decide +kernel
theorem dX5_foldUpright_15 : decode cX5_foldUpright 15 = .ok (.istore 4, 2) := by decide +kernel
theorem dX5_foldUpright_17 : decode cX5_foldUpright 17 = .ok (.iload 4, 2) := by decide +kernel
theorem dX5_foldUpright_19 : decode cX5_foldUpright 19 = .ok (.aload_n 0, 1) := by decide +kernel
theorem dX5_foldUpright_20 : decode cX5_foldUpright 20 = .ok (.getfield 28, 3) := by decide +kernel
theorem dX5_foldUpright_23 : decode cX5_foldUpright 23 = .ok (.if_icmp .ge 60, 3) := by decide +kernel
theorem dX5_foldUpright_26 : decode cX5_foldUpright 26 = .ok (.aload_n 0, 1) := by decide +kernel
theorem dX5_foldUpright_27 : decode cX5_foldUpright 27 = .ok (.iload_n 3, 1) := by decide +kernel
theorem dX5_foldUpright_28 : decode cX5_foldUpright 28 = .ok (.iload 4, 2) := by decide +kernel
theorem dX5_foldUpright_30 : decode cX5_foldUpright 30 = .ok (.invokevirtual 46, 3) := by decide +kernel
theorem dX5_foldUpright_33 : decode cX5_foldUpright 33 = .ok (.istore 5, 2) := by decide +kernel
theorem dX5_foldUpright_35 : decode cX5_foldUpright 35 = .ok (.aload_n 0, 1) := by decide +kernel
theorem dX5_foldUpright_36 : decode cX5_foldUpright 36 = .ok (.aload_n 0, 1) := by decide +kernel
theorem dX5_foldUpright_37 : decode cX5_foldUpright 37 = .ok (.getfield 25, 3) := by decide +kernel
theorem dX5_foldUpright_40 : decode cX5_foldUpright 40 = .ok (.iconst 1, 1) := by decide +kernel
theorem dX5_foldUpright_41 : decode cX5_foldUpright 41 = .ok (.isub, 1) := by decide +kernel
theorem dX5_foldUpright_42 : decode cX5_foldUpright 42 = .ok (.iload_n 3, 1) := by decide +kernel
theorem dX5_foldUpright_43 : decode cX5_foldUpright 43 = .ok (.isub, 1) := by decide +kernel
theorem dX5_foldUpright_44 : decode cX5_foldUpright 44 = .ok (.iload 4, 2) := by decide +kernel
theorem dX5_foldUpright_46 : decode cX5_foldUpright 46 = .ok (.invokevirtual 46, 3) := by decide +kernel
theorem dX5_foldUpright_49 : decode cX5_foldUpright 49 = .ok (.istore 6, 2) := by decide +kernel
theorem dX5_foldUpright_51 : decode cX5_foldUpright 51 = .ok (.aload_n 0, 1) := by decide +kernel
theorem dX5_foldUpright_52 : decode cX5_foldUpright 52 = .ok (.iload_n 1, 1) := by decide +kernel
theorem dX5_foldUpright_53 : decode cX5_foldUpright 53 = .ok (.ifCond .eq 8, 3) := by decide +kernel
theorem dX5_foldUpright_56 : decode cX5_foldUpright 56 = .ok (.iload 6, 2) := by decide +kernel
theorem dX5_foldUpright_58 : decode cX5_foldUpright 58 = .ok (.goto 5, 3) := by decide +kernel
theorem dX5_foldUpright_61 : decode cX5_foldUpright 61 = .ok (.iload 5, 2) := by decide +kernel
theorem dX5_foldUpright_63 : decode cX5_foldUpright 63 = .ok (.iload_n 1, 1) := by decide +kernel
theorem dX5_foldUpright_64 : decode cX5_foldUpright 64 = .ok (.ifCond .eq 8, 3) := by decide +kernel
theorem dX5_foldUpright_67 : decode cX5_foldUpright 67 = .ok (.iload 5, 2) := by decide +kernel
theorem dX5_foldUpright_69 : decode cX5_foldUpright 69 = .ok (.goto 5, 3) := by decide +kernel
theorem dX5_foldUpright_72 : decode cX5_foldUpright 72 = .ok (.iload 6, 2) := by decide +kernel
theorem dX5_foldUpright_74 : decode cX5_foldUpright 74 = .ok (.invokevirtual 50, 3) := by decide +kernel
theorem dX5_foldUpright_77 : decode cX5_foldUpright 77 = .ok (.iinc 4 1, 3) := by decide +kernel
theorem dX5_foldUpright_80 : decode cX5_foldUpright 80 = .ok (.goto (-63), 3) := by decide +kernel
theorem dX5_foldUpright_83 : decode cX5_foldUpright 83 = .ok (.iinc 3 1, 3) := by decide +kernel
theorem dX5_foldUpright_86 : decode cX5_foldUpright 86 = .ok (.goto (-77), 3) := by decide +kernel
theorem dX5_foldUpright_89 : decode cX5_foldUpright 89 = .ok (.aload_n 0, 1) := by decide +kernel
theorem dX5_foldUpright_90 : decode cX5_foldUpright 90 = .ok (.dup, 1) := by decide +kernel
theorem dX5_foldUpright_91 : decode cX5_foldUpright 91 = .ok (.getfield 18, 3) := by decide +kernel
theorem dX5_foldUpright_94 : decode cX5_foldUpright 94 = .ok (.iload_n 1, 1) := by decide +kernel
theorem dX5_foldUpright_95 : decode cX5_foldUpright 95 = .ok (.ifCond .eq 7, 3) := by decide +kernel
theorem dX5_foldUpright_98 : decode cX5_foldUpright 98 = .ok (.iconst 0, 1) := by decide +kernel
theorem dX5_foldUpright_99 : decode cX5_foldUpright 99 = .ok (.goto 4, 3) := by decide +kernel
theorem dX5_foldUpright_102 : decode cX5_foldUpright 102 = .ok (.iload_n 2, 1) := by decide +kernel
theorem dX5_foldUpright_103 : decode cX5_foldUpright 103 = .ok (.iadd, 1) := by decide +kernel
theorem dX5_foldUpright_104 : decode cX5_foldUpright 104 = .ok (.putfield 18, 3) := by decide +kernel
theorem dX5_foldUpright_107 : decode cX5_foldUpright 107 = .ok (.aload_n 0, 1) := by decide +kernel
theorem dX5_foldUpright_108 : decode cX5_foldUpright 108 = .ok (.iload_n 2, 1) := by decide +kernel
theorem dX5_foldUpright_109 : decode cX5_foldUpright 109 = .ok (.putfield 25, 3) := by decide +kernel
theorem dX5_foldUpright_112 : decode cX5_foldUpright 112 = .ok (.return_, 1) := by decide +kernel
theorem dX5_turnOnto_0 : decode cX5_turnOnto 0 = .ok (.iload_n 1, 1) := by decide +kernel
theorem dX5_turnOnto_1 : decode cX5_turnOnto 1 = .ok (.ifCond .lt 19, 3) := by decide +kernel
theorem dX5_turnOnto_4 : decode cX5_turnOnto 4 = .ok (.iload_n 1, 1) := by decide +kernel
theorem dX5_turnOnto_5 : decode cX5_turnOnto 5 = .ok (.bipush 8, 2) := by decide +kernel
theorem dX5_turnOnto_7 : decode cX5_turnOnto 7 = .ok (.if_icmp .ge 13, 3) := by decide +kernel
theorem dX5_turnOnto_10 : decode cX5_turnOnto 10 = .ok (.iload_n 2, 1) := by decide +kernel
theorem dX5_turnOnto_11 : decode cX5_turnOnto 11 = .ok (.ifCond .lt 9, 3) := by decide +kernel
theorem dX5_turnOnto_14 : decode cX5_turnOnto 14 = .ok (.iload_n 2, 1) := by decide +kernel
theorem dX5_turnOnto_15 : decode cX5_turnOnto 15 = .ok (.bipush 8, 2) := by decide +kernel
theorem dX5_turnOnto_17 : decode cX5_turnOnto 17 = .ok (.if_icmp .lt 4, 3) := by decide +kernel
theorem dX5_turnOnto_20 : decode cX5_turnOnto 20 = .ok (.return_, 1) := by decide +kernel
theorem dX5_turnOnto_21 : decode cX5_turnOnto 21 = .ok (.aload_n 0, 1) := by decide +kernel
theorem dX5_turnOnto_22 : decode cX5_turnOnto 22 = .ok (.getfield 15, 3) := by decide +kernel
theorem dX5_turnOnto_25 : decode cX5_turnOnto 25 = .ok (.iload_n 1, 1) := by decide +kernel
theorem dX5_turnOnto_26 : decode cX5_turnOnto 26 = .ok (.iaload, 1) := by decide +kernel
theorem dX5_turnOnto_27 : decode cX5_turnOnto 27 = .ok (.istore_n 3, 1) := by decide +kernel
theorem dX5_turnOnto_28 : decode cX5_turnOnto 28 = .ok (.aload_n 0, 1) := by decide +kernel
theorem dX5_turnOnto_29 : decode cX5_turnOnto 29 = .ok (.getfield 15, 3) := by decide +kernel
theorem dX5_turnOnto_32 : decode cX5_turnOnto 32 = .ok (.iload_n 2, 1) := by decide +kernel
theorem dX5_turnOnto_33 : decode cX5_turnOnto 33 = .ok (.iaload, 1) := by decide +kernel
theorem dX5_turnOnto_34 : decode cX5_turnOnto 34 = .ok (.istore 4, 2) := by decide +kernel
theorem dX5_turnOnto_36 : decode cX5_turnOnto 36 = .ok (.iload_n 3, 1) := by decide +kernel
theorem dX5_turnOnto_37 : decode cX5_turnOnto 37 = .ok (.iload 4, 2) := by decide +kernel
theorem dX5_turnOnto_39 : decode cX5_turnOnto 39 = .ok (.iadd, 1) := by decide +kernel
theorem dX5_turnOnto_40 : decode cX5_turnOnto 40 = .ok (.bipush 8, 2) := by decide +kernel
theorem dX5_turnOnto_42 : decode cX5_turnOnto 42 = .ok (.if_icmp .le 4, 3) := by decide +kernel
theorem dX5_turnOnto_45 : decode cX5_turnOnto 45 = .ok (.return_, 1) := by decide +kernel
theorem dX5_turnOnto_46 : decode cX5_turnOnto 46 = .ok (.iload 4, 2) := by decide +kernel
theorem dX5_turnOnto_48 : decode cX5_turnOnto 48 = .ok (.iconst 1, 1) := by decide +kernel
theorem dX5_turnOnto_49 : decode cX5_turnOnto 49 = .ok (.isub, 1) := by decide +kernel
theorem dX5_turnOnto_50 : decode cX5_turnOnto 50 = .ok (.istore 5, 2) := by decide +kernel
theorem dX5_turnOnto_52 : decode cX5_turnOnto 52 = .ok (.iload 5, 2) := by decide +kernel
theorem dX5_turnOnto_54 : decode cX5_turnOnto 54 = .ok (.ifCond .lt 35, 3) := by decide +kernel
theorem dX5_turnOnto_57 : decode cX5_turnOnto 57 = .ok (.aload_n 0, 1) := by decide +kernel
theorem dX5_turnOnto_58 : decode cX5_turnOnto 58 = .ok (.getfield 9, 3) := by decide +kernel
theorem dX5_turnOnto_61 : decode cX5_turnOnto 61 = .ok (.iload_n 2, 1) := by decide +kernel
theorem dX5_turnOnto_62 : decode cX5_turnOnto 62 = .ok (.bipush 8, 2) := by decide +kernel
theorem dX5_turnOnto_64 : decode cX5_turnOnto 64 = .ok (.imul, 1) := by decide +kernel
theorem dX5_turnOnto_65 : decode cX5_turnOnto 65 = .ok (.iload_n 3, 1) := by decide +kernel
theorem dX5_turnOnto_66 : decode cX5_turnOnto 66 = .ok (.iadd, 1) := by decide +kernel
theorem dX5_turnOnto_67 : decode cX5_turnOnto 67 = .ok (.iload 5, 2) := by decide +kernel
theorem dX5_turnOnto_69 : decode cX5_turnOnto 69 = .ok (.iadd, 1) := by decide +kernel
theorem dX5_turnOnto_70 : decode cX5_turnOnto 70 = .ok (.aload_n 0, 1) := by decide +kernel
theorem dX5_turnOnto_71 : decode cX5_turnOnto 71 = .ok (.getfield 9, 3) := by decide +kernel
theorem dX5_turnOnto_74 : decode cX5_turnOnto 74 = .ok (.iload_n 2, 1) := by decide +kernel
theorem dX5_turnOnto_75 : decode cX5_turnOnto 75 = .ok (.bipush 8, 2) := by decide +kernel
theorem dX5_turnOnto_77 : decode cX5_turnOnto 77 = .ok (.imul, 1) := by decide +kernel
theorem dX5_turnOnto_78 : decode cX5_turnOnto 78 = .ok (.iload 5, 2) := by decide +kernel
theorem dX5_turnOnto_80 : decode cX5_turnOnto 80 = .ok (.iadd, 1) := by decide +kernel
theorem dX5_turnOnto_81 : decode cX5_turnOnto 81 = .ok (.iaload, 1) := by decide +kernel
theorem dX5_turnOnto_82 : decode cX5_turnOnto 82 = .ok (.iastore, 1) := by decide +kernel
theorem dX5_turnOnto_83 : decode cX5_turnOnto 83 = .ok (.iinc 5 (-1), 3) := by decide +kernel
theorem dX5_turnOnto_86 : decode cX5_turnOnto 86 = .ok (.goto (-34), 3) := by decide +kernel
theorem dX5_turnOnto_89 : decode cX5_turnOnto 89 = .ok (.iconst 0, 1) := by decide +kernel
theorem dX5_turnOnto_90 : decode cX5_turnOnto 90 = .ok (.istore 5, 2) := by decide +kernel
theorem dX5_turnOnto_92 : decode cX5_turnOnto 92 = .ok (.iload 5, 2) := by decide +kernel
theorem dX5_turnOnto_94 : decode cX5_turnOnto 94 = .ok (.iload_n 3, 1) := by decide +kernel
theorem dX5_turnOnto_95 : decode cX5_turnOnto 95 = .ok (.if_icmp .ge 37, 3) := by decide +kernel
theorem dX5_turnOnto_98 : decode cX5_turnOnto 98 = .ok (.aload_n 0, 1) := by decide +kernel
theorem dX5_turnOnto_99 : decode cX5_turnOnto 99 = .ok (.getfield 9, 3) := by decide +kernel
theorem dX5_turnOnto_102 : decode cX5_turnOnto 102 = .ok (.iload_n 2, 1) := by decide +kernel
theorem dX5_turnOnto_103 : decode cX5_turnOnto 103 = .ok (.bipush 8, 2) := by decide +kernel
theorem dX5_turnOnto_105 : decode cX5_turnOnto 105 = .ok (.imul, 1) := by decide +kernel
theorem dX5_turnOnto_106 : decode cX5_turnOnto 106 = .ok (.iload 5, 2) := by decide +kernel
theorem dX5_turnOnto_108 : decode cX5_turnOnto 108 = .ok (.iadd, 1) := by decide +kernel
theorem dX5_turnOnto_109 : decode cX5_turnOnto 109 = .ok (.aload_n 0, 1) := by decide +kernel
theorem dX5_turnOnto_110 : decode cX5_turnOnto 110 = .ok (.getfield 9, 3) := by decide +kernel
theorem dX5_turnOnto_113 : decode cX5_turnOnto 113 = .ok (.iload_n 1, 1) := by decide +kernel
theorem dX5_turnOnto_114 : decode cX5_turnOnto 114 = .ok (.bipush 8, 2) := by decide +kernel
theorem dX5_turnOnto_116 : decode cX5_turnOnto 116 = .ok (.imul, 1) := by decide +kernel
theorem dX5_turnOnto_117 : decode cX5_turnOnto 117 = .ok (.iload_n 3, 1) := by decide +kernel
theorem dX5_turnOnto_118 : decode cX5_turnOnto 118 = .ok (.iadd, 1) := by decide +kernel
theorem dX5_turnOnto_119 : decode cX5_turnOnto 119 = .ok (.iconst 1, 1) := by decide +kernel
theorem dX5_turnOnto_120 : decode cX5_turnOnto 120 = .ok (.isub, 1) := by decide +kernel
theorem dX5_turnOnto_121 : decode cX5_turnOnto 121 = .ok (.iload 5, 2) := by decide +kernel
theorem dX5_turnOnto_123 : decode cX5_turnOnto 123 = .ok (.isub, 1) := by decide +kernel
theorem dX5_turnOnto_124 : decode cX5_turnOnto 124 = .ok (.iaload, 1) := by decide +kernel
theorem dX5_turnOnto_125 : decode cX5_turnOnto 125 = .ok (.iastore, 1) := by decide +kernel
theorem dX5_turnOnto_126 : decode cX5_turnOnto 126 = .ok (.iinc 5 1, 3) := by decide +kernel
theorem dX5_turnOnto_129 : decode cX5_turnOnto 129 = .ok (.goto (-37), 3) := by decide +kernel
theorem dX5_turnOnto_132 : decode cX5_turnOnto 132 = .ok (.aload_n 0, 1) := by decide +kernel
theorem dX5_turnOnto_133 : decode cX5_turnOnto 133 = .ok (.getfield 15, 3) := by decide +kernel
theorem dX5_turnOnto_136 : decode cX5_turnOnto 136 = .ok (.iload_n 2, 1) := by decide +kernel
theorem dX5_turnOnto_137 : decode cX5_turnOnto 137 = .ok (.iload_n 3, 1) := by decide +kernel
theorem dX5_turnOnto_138 : decode cX5_turnOnto 138 = .ok (.iload 4, 2) := by decide +kernel
theorem dX5_turnOnto_140 : decode cX5_turnOnto 140 = .ok (.iadd, 1) := by decide +kernel
theorem dX5_turnOnto_141 : decode cX5_turnOnto 141 = .ok (.iastore, 1) := by decide +kernel
theorem dX5_turnOnto_142 : decode cX5_turnOnto 142 = .ok (.aload_n 0, 1) := by decide +kernel
theorem dX5_turnOnto_143 : decode cX5_turnOnto 143 = .ok (.getfield 15, 3) := by decide +kernel
theorem dX5_turnOnto_146 : decode cX5_turnOnto 146 = .ok (.iload_n 1, 1) := by decide +kernel
theorem dX5_turnOnto_147 : decode cX5_turnOnto 147 = .ok (.iconst 0, 1) := by decide +kernel
theorem dX5_turnOnto_148 : decode cX5_turnOnto 148 = .ok (.iastore, 1) := by decide +kernel
theorem dX5_turnOnto_149 : decode cX5_turnOnto 149 = .ok (.return_, 1) := by decide +kernel
theorem dX6_init_0 : decode cX6_init 0 = .ok (.aload_n 0, 1) := by decide +kernel
theorem dX6_init_1 : decode cX6_init 1 = .ok (.invokespecial 3, 3) := by decide +kernel
theorem dX6_init_4 : decode cX6_init 4 = .ok (.aload_n 0, 1) := by decide +kernel
theorem dX6_init_5 : decode cX6_init 5 = .ok (.bipush 8, 2) := by decide +kernel
theorem dX6_init_7 : decode cX6_init 7 = .ok (.anewarray 9, 3) := by decide +kernel
theorem dX6_init_10 : decode cX6_init 10 = .ok (.putfield 11, 3) := by decide +kernel
theorem dX6_init_13 : decode cX6_init 13 = .ok (.aload_n 0, 1) := by decide +kernel
theorem dX6_init_14 : decode cX6_init 14 = .ok (.iconst 1, 1) := by decide +kernel
theorem dX6_init_15 : decode cX6_init 15 = .ok (.putfield 17, 3) := by decide +kernel
theorem dX6_init_18 : decode cX6_init 18 = .ok (.aload_n 0, 1) := by decide +kernel
theorem dX6_init_19 : decode cX6_init 19 = .ok (.iconst (-1), 1) := by decide +kernel
theorem dX6_init_20 : decode cX6_init 20 = .ok (.putfield 21, 3) := by decide +kernel
theorem dX6_init_23 : decode cX6_init 23 = .ok (.aload_n 0, 1) := by decide +kernel
theorem dX6_init_24 : decode cX6_init 24 = .ok (.aload_n 1, 1) := by decide +kernel
theorem dX6_init_25 : decode cX6_init 25 = .ok (.putfield 25, 3) := by decide +kernel
theorem dX6_init_28 : decode cX6_init 28 = .ok (.return_, 1) := by decide +kernel
theorem dX6_leafIn_0 : decode cX6_leafIn 0 = .ok (.iload_n 1, 1) := by decide +kernel
theorem dX6_leafIn_1 : decode cX6_leafIn 1 = .ok (.ifCond .lt 12, 3) := by decide +kernel
theorem dX6_leafIn_4 : decode cX6_leafIn 4 = .ok (.iload_n 1, 1) := by decide +kernel
theorem dX6_leafIn_5 : decode cX6_leafIn 5 = .ok (.aload_n 0, 1) := by decide +kernel
theorem dX6_leafIn_6 : decode cX6_leafIn 6 = .ok (.getfield 11, 3) := by decide +kernel
theorem dX6_leafIn_9 : decode cX6_leafIn 9 = .ok (.arraylength, 1) := by decide +kernel
theorem dX6_leafIn_10 : decode cX6_leafIn 10 = .ok (.if_icmp .lt 7, 3) := by decide +kernel
theorem dX6_leafIn_13 : decode cX6_leafIn 13 = .ok (.aconst_null, 1) := by decide +kernel
theorem dX6_leafIn_14 : decode cX6_leafIn 14 = .ok (.goto 9, 3) := by decide +kernel
theorem dX6_leafIn_17 : decode cX6_leafIn 17 = .ok (.aload_n 0, 1) := by decide +kernel
theorem dX6_leafIn_18 : decode cX6_leafIn 18 = .ok (.getfield 11, 3) := by decide +kernel
theorem dX6_leafIn_21 : decode cX6_leafIn 21 = .ok (.iload_n 1, 1) := by decide +kernel
theorem dX6_leafIn_22 : decode cX6_leafIn 22 = .ok (.aaload, 1) := by decide +kernel
theorem dX6_leafIn_23 : decode cX6_leafIn 23 = .ok (.areturn, 1) := by decide +kernel
theorem dX6_lay_0 : decode cX6_lay 0 = .ok (.aload_n 0, 1) := by decide +kernel
theorem dX6_lay_1 : decode cX6_lay 1 = .ok (.getfield 25, 3) := by decide +kernel
theorem dX6_lay_4 : decode cX6_lay 4 = .ok (.iload_n 2, 1) := by decide +kernel
theorem dX6_lay_5 : decode cX6_lay 5 = .ok (.invokevirtual 29, 3) := by decide +kernel
theorem dX6_lay_8 : decode cX6_lay 8 = .ok (.istore_n 3, 1) := by decide +kernel
theorem dX6_lay_9 : decode cX6_lay 9 = .ok (.iload_n 3, 1) := by decide +kernel
theorem dX6_lay_10 : decode cX6_lay 10 = .ok (.ifCond .lt 19, 3) := by decide +kernel
theorem dX6_lay_13 : decode cX6_lay 13 = .ok (.iload_n 3, 1) := by decide +kernel
theorem dX6_lay_14 : decode cX6_lay 14 = .ok (.aload_n 0, 1) := by decide +kernel
theorem dX6_lay_15 : decode cX6_lay 15 = .ok (.getfield 11, 3) := by decide +kernel
theorem dX6_lay_18 : decode cX6_lay 18 = .ok (.arraylength, 1) := by decide +kernel
theorem dX6_lay_19 : decode cX6_lay 19 = .ok (.if_icmp .ge 10, 3) := by decide +kernel
theorem dX6_lay_22 : decode cX6_lay 22 = .ok (.aload_n 0, 1) := by decide +kernel
theorem dX6_lay_23 : decode cX6_lay 23 = .ok (.getfield 11, 3) := by decide +kernel
theorem dX6_lay_26 : decode cX6_lay 26 = .ok (.iload_n 3, 1) := by decide +kernel
theorem dX6_lay_27 : decode cX6_lay 27 = .ok (.aload_n 1, 1) := by decide +kernel
theorem dX6_lay_28 : decode cX6_lay 28 = .ok (.aastore, 1) := by decide +kernel
theorem dX6_lay_29 : decode cX6_lay 29 = .ok (.return_, 1) := by decide +kernel
theorem dX6_cutWith_0 : decode cX6_cutWith 0 = .ok (.aload_n 0, 1) := by decide +kernel
theorem dX6_cutWith_1 : decode cX6_cutWith 1 = .ok (.iconst 0, 1) := by decide +kernel
theorem dX6_cutWith_2 : decode cX6_cutWith 2 = .ok (.putfield 17, 3) := by decide +kernel
theorem dX6_cutWith_5 : decode cX6_cutWith 5 = .ok (.aload_n 0, 1) := by decide +kernel
theorem dX6_cutWith_6 : decode cX6_cutWith 6 = .ok (.iload_n 1, 1) := by decide +kernel
theorem dX6_cutWith_7 : decode cX6_cutWith 7 = .ok (.putfield 21, 3) := by decide +kernel
theorem dX6_cutWith_10 : decode cX6_cutWith 10 = .ok (.return_, 1) := by decide +kernel
theorem dX6_isCut_0 : decode cX6_isCut 0 = .ok (.aload_n 0, 1) := by decide +kernel
theorem dX6_isCut_1 : decode cX6_isCut 1 = .ok (.getfield 21, 3) := by decide +kernel
theorem dX6_isCut_4 : decode cX6_isCut 4 = .ok (.iconst (-1), 1) := by decide +kernel
theorem dX6_isCut_5 : decode cX6_isCut 5 = .ok (.if_icmp .eq 7, 3) := by decide +kernel
theorem dX6_isCut_8 : decode cX6_isCut 8 = .ok (.iconst 1, 1) := by decide +kernel
theorem dX6_isCut_9 : decode cX6_isCut 9 = .ok (.goto 4, 3) := by decide +kernel
theorem dX6_isCut_12 : decode cX6_isCut 12 = .ok (.iconst 0, 1) := by decide +kernel
theorem dX6_isCut_13 : decode cX6_isCut 13 = .ok (.ireturn, 1) := by decide +kernel
theorem dX6_isOfUse_0 : decode cX6_isOfUse 0 = .ok (.iconst 0, 1) := by decide +kernel
theorem dX6_isOfUse_1 : decode cX6_isOfUse 1 = .ok (.istore_n 1, 1) := by decide +kernel
theorem dX6_isOfUse_2 : decode cX6_isOfUse 2 = .ok (.iload_n 1, 1) := by decide +kernel
theorem dX6_isOfUse_3 : decode cX6_isOfUse 3 = .ok (.aload_n 0, 1) := by decide +kernel
theorem dX6_isOfUse_4 : decode cX6_isOfUse 4 = .ok (.getfield 11, 3) := by decide +kernel
theorem dX6_isOfUse_7 : decode cX6_isOfUse 7 = .ok (.arraylength, 1) := by decide +kernel
theorem dX6_isOfUse_8 : decode cX6_isOfUse 8 = .ok (.if_icmp .ge 29, 3) := by decide +kernel
theorem dX6_isOfUse_11 : decode cX6_isOfUse 11 = .ok (.aload_n 0, 1) := by decide +kernel
theorem dX6_isOfUse_12 : decode cX6_isOfUse 12 = .ok (.getfield 11, 3) := by decide +kernel
theorem dX6_isOfUse_15 : decode cX6_isOfUse 15 = .ok (.iload_n 1, 1) := by decide +kernel
theorem dX6_isOfUse_16 : decode cX6_isOfUse 16 = .ok (.aaload, 1) := by decide +kernel
theorem dX6_isOfUse_17 : decode cX6_isOfUse 17 = .ok (.astore_n 2, 1) := by decide +kernel
theorem dX6_isOfUse_18 : decode cX6_isOfUse 18 = .ok (.aload_n 2, 1) := by decide +kernel
theorem dX6_isOfUse_19 : decode cX6_isOfUse 19 = .ok (.ifnull 12, 3) := by decide +kernel
theorem dX6_isOfUse_22 : decode cX6_isOfUse 22 = .ok (.aload_n 2, 1) := by decide +kernel
theorem dX6_isOfUse_23 : decode cX6_isOfUse 23 = .ok (.getfield 35, 3) := by decide +kernel
theorem dX6_isOfUse_26 : decode cX6_isOfUse 26 = .ok (.ifCond .ne 5, 3) := by decide +kernel
theorem dX6_isOfUse_29 : decode cX6_isOfUse 29 = .ok (.iconst 1, 1) := by decide +kernel
theorem dX6_isOfUse_30 : decode cX6_isOfUse 30 = .ok (.ireturn, 1) := by decide +kernel
theorem dX6_isOfUse_31 : decode cX6_isOfUse 31 = .ok (.iinc 1 1, 3) := by decide +kernel
theorem dX6_isOfUse_34 : decode cX6_isOfUse 34 = .ok (.goto (-32), 3) := by decide +kernel
theorem dX6_isOfUse_37 : decode cX6_isOfUse 37 = .ok (.iconst 0, 1) := by decide +kernel
theorem dX6_isOfUse_38 : decode cX6_isOfUse 38 = .ok (.ireturn, 1) := by decide +kernel
end
section
/-! ===== words that only the tables decide and no warming undoes; the one list of words of every method ===== -/
def gw (w : Cond) : Bool := match w with
  | .arrayClass _ => true
  | w => w.onTables && (w.keepsFace || w.keepsH)
theorem gw_at {args a' : Array Value} {s U : State} (hW : s.WarmedH U.vm) {w : Cond} (hg : gw w = true) (h : w.before args s = true) : w.before a' U = true := by
  by_cases ha : ∃ ty, w = .arrayClass ty
  · exact word_at hW (Or.inr ha) h
  · have hg2 : (w.onTables && (w.keepsFace || w.keepsH)) = true := by
      cases w <;> first | exact hg | exact absurd ⟨_, rfl⟩ ha
    simp only [Bool.and_eq_true, Bool.or_eq_true] at hg2
    rcases hg2.2 with hk | hk
    · exact va_tabs hg2.1 (rfl : (s.setVm U.vm).vm = U.vm) (Cond.before_shiftedFace (State.Shifted.of_warmed hW) w hk h)
    · have h1 := Cond.onTables_warmH (T := U) (args' := a') hW hg2.1 hk h
      rwa [State.setVm_self] at h1
def TBL : List Cond := lw_tbl.filter gw
theorem q_of (i : Nat) {w : Cond} (h : lw_tbl[i]? = some w) (g : gw w = true) : w ∈ TBL := List.mem_filter.mpr ⟨List.mem_of_getElem? h, g⟩
theorem TBL_good : ∀ w ∈ TBL, gw w = true := fun w h => (List.mem_filter.mp h).2
theorem TBL_in : ∀ w ∈ TBL, w ∈ lw_tbl := fun w h => (List.mem_filter.mp h).1
/-- the words of a method: its own code, and all the good ones -/
def wsm (y : MethodName) (cc : ByteArray) (nL : Nat) (ret : Option FieldType) : List Cond := Cond.code y cc nL ret :: TBL
def wsw (y : MethodName) (cc : ByteArray) (nL : Nat) (ret : Option FieldType) (hh : List (Nat × Nat × Nat × Nat)) : List Cond := Cond.codeWith y cc nL ret hh :: TBL
theorem wsm_pay {y : MethodName} {cc : ByteArray} {nL : Nat} {ret : Option FieldType} {args : Array Value} {s : State} (hts : ∀ w ∈ TBL, w.before args s = true) (hc : Cond.code y cc nL ret ∈ TBL) :
    ∀ w ∈ wsm y cc nL ret, ∀ (a' : Array Value) (U : State), s.WarmedH U.vm → w.before a' U = true := by
  intro w hw a' U hU
  rcases List.mem_cons.mp hw with h | h
  · rw [h]; exact gw_at hU (TBL_good _ hc) (hts _ hc)
  · exact gw_at hU (TBL_good _ h) (hts _ h)
theorem wsw_pay {y : MethodName} {cc : ByteArray} {nL : Nat} {ret : Option FieldType} {hh : List (Nat × Nat × Nat × Nat)} {args : Array Value} {s : State} (hts : ∀ w ∈ TBL, w.before args s = true) (hc : Cond.codeWith y cc nL ret hh ∈ TBL) :
    ∀ w ∈ wsw y cc nL ret hh, ∀ (a' : Array Value) (U : State), s.WarmedH U.vm → w.before a' U = true := by
  intro w hw a' U hU
  rcases List.mem_cons.mp hw with h | h
  · rw [h]; exact gw_at hU (TBL_good _ hc) (hts _ hc)
  · exact gw_at hU (TBL_good _ h) (hts _ h)
/-! ===== the classes by their kinds ===== -/
def cls : List vw_C := [(RX0, TX0, 6), (RX1, TX1, 3), (RX2, TX2, 1), (RX3, TX3, 6), (RX4, TX4, 3), (RX5, TX5, 6), (RX6, TX6, 4), (RX7, TX7, 9), (RX8, TX8, 24), (RJx4a65c, TJx4a65c, 3)]
/-- which fields of a kind are references -/
def flds : Nat → List Bool := fun k => match k with
  | 0 => [true, true, true, true, false, false]
  | 1 => [true, false, false]
  | 2 => [true]
  | 3 => [false, false, false, false, true, false]
  | 4 => [false, true, true]
  | 5 => [true, true, false, false, false, false]
  | 6 => [true, true, false, false]
  | 7 => [true, true, true, true, true, true, true, false, false]
  | 8 => [false, true, true, true, true, false, true, true, true, true, true, true, true, true, false, true, true, true, false, false, true, true, false, false]
  | 9 => [false, true, false]
  | _ => []
/-! ===== the pool: addresses, kinds, number fields, reference fields, lengths, rows of numbers, rows of references, rows of longs ===== -/
abbrev PS : Type := List Nat × (Nat → Nat) × (Nat → Nat → Int32) × (Nat → Nat → Option Nat) × (Nat → Nat) × (Nat → Nat → Int32) × (Nat → Nat → Option Nat) × (Nat → Nat → Int64)
abbrev pL (S : PS) : List Nat := S.1
abbrev pK (S : PS) : Nat → Nat := S.2.1
abbrev pI (S : PS) : Nat → Nat → Int32 := S.2.2.1
abbrev pR (S : PS) : Nat → Nat → Option Nat := S.2.2.2.1
abbrev pN (S : PS) : Nat → Nat := S.2.2.2.2.1
abbrev pA (S : PS) : Nat → Nat → Int32 := S.2.2.2.2.2.1
abbrev pB (S : PS) : Nat → Nat → Option Nat := S.2.2.2.2.2.2.1
abbrev pJ (S : PS) : Nat → Nat → Int64 := S.2.2.2.2.2.2.2
def u2 {α : Type} (f : Nat → Nat → α) (k a : Nat) (v : α) : Nat → Nat → α := fun k' a' => if k' = k then (if a' = a then v else f k' a') else f k' a'
theorem u2_s {α : Type} (f : Nat → Nat → α) (k a : Nat) (v : α) : u2 f k a v k a = v := by simp [u2]
theorem u2_f {α : Type} (f : Nat → Nat → α) {k k' : Nat} (a : Nat) (v : α) (a' : Nat) (h : k' ≠ k) : u2 f k a v k' a' = f k' a' := by simp [u2, h]
theorem u2_a {α : Type} (f : Nat → Nat → α) (k : Nat) {a a' : Nat} (v : α) (k' : Nat) (h : a' ≠ a) : u2 f k a v k' a' = f k' a' := by simp [u2, h]
def sI (S : PS) (f a : Nat) (v : Int32) : PS := (S.1, S.2.1, u2 S.2.2.1 f a v, S.2.2.2)
def sR (S : PS) (f a : Nat) (v : Option Nat) : PS := (S.1, S.2.1, S.2.2.1, u2 S.2.2.2.1 f a v, S.2.2.2.2)
def sA (S : PS) (a : Nat) (g : Nat → Int32) : PS := (S.1, S.2.1, S.2.2.1, S.2.2.2.1, S.2.2.2.2.1, va_up S.2.2.2.2.2.1 a g, S.2.2.2.2.2.2)
def sB (S : PS) (a : Nat) (g : Nat → Option Nat) : PS := (S.1, S.2.1, S.2.2.1, S.2.2.2.1, S.2.2.2.2.1, S.2.2.2.2.2.1, va_up S.2.2.2.2.2.2.1 a g, S.2.2.2.2.2.2.2)
def sJ (S : PS) (a : Nat) (g : Nat → Int64) : PS := (S.1, S.2.1, S.2.2.1, S.2.2.2.1, S.2.2.2.2.1, S.2.2.2.2.2.1, S.2.2.2.2.2.2.1, va_up S.2.2.2.2.2.2.2 a g)
/-- a new object: its fields are 0 and null -/
def sO (S : PS) (a kd : Nat) : PS := (S.1 ++ [a], va_up S.2.1 a kd, fun f x => if x = a then 0 else S.2.2.1 f x, fun f x => if x = a then none else S.2.2.2.1 f x, S.2.2.2.2)
/-- a new row -/
def sW (S : PS) (a kd n : Nat) : PS := (S.1 ++ [a], va_up S.2.1 a kd, S.2.2.1, S.2.2.2.1, va_up S.2.2.2.2.1 a n, va_up S.2.2.2.2.2.1 a (fun _ => 0), va_up S.2.2.2.2.2.2.1 a (fun _ => none), va_up S.2.2.2.2.2.2.2 a (fun _ => 0))
/-! ===== what is fixed over a whole run: base, classes of rows, tables, ArrayList's empty row, the texts ===== -/
abbrev GG : Type := Nat × (Nat → ClassId) × va_G × Nat × (Nat → Nat)
def gA (G : GG) : Nat → Prop := fun q => G.1 ≤ q
abbrev gC (G : GG) : Nat → ClassId := G.2.1
abbrev gD (G : GG) : va_G := G.2.2.1
abbrev gE (G : GG) : Nat := G.2.2.2.1
abbrev gS (G : GG) : Nat → Nat := G.2.2.2.2
def PFf (S : PS) (kd a : Nat) : List Bool → Nat → List Value
  | [], _ => []
  | b :: bs, j => (if b then va_rf (pR S (32 * kd + j) a) else .int (pI S (32 * kd + j) a)) :: PFf S kd a bs (j + 1)
def PF (G : GG) (S : PS) (a : Nat) : va_E :=
  if pK S a < 10 then .inr (pK S a, PFf S (pK S a) a (flds (pK S a)) 0)
  else if pK S a < 12 then .inl (gC G (pK S a), pN S a, .inl (pA S a))
  else if pK S a < 14 then .inl (gC G (pK S a), pN S a, .inr (.inr (.inr (.inr (pB S a)))))
  else .inl (gC G 14, pN S a, .inr (.inl (pJ S a)))
def HW (G : GG) (S : PS) (H : Heap) : Prop := va_P (gD G) cls (va_pl (pL S) (PF G S)) H ∧ va_D (gA G) (va_pl (pL S) (PF G S))
theorem PFf_get (S : PS) (kd a : Nat) : ∀ (bs : List Bool) (j0 j : Nat) (b : Bool), bs[j]? = some b → (PFf S kd a bs j0)[j]? = some (if b then va_rf (pR S (32 * kd + (j0 + j)) a) else .int (pI S (32 * kd + (j0 + j)) a)) := by
  intro bs
  induction bs with
  | nil => intro j0 j b h; simp at h
  | cons c bs ih =>
    intro j0 j b h
    cases j with
    | zero =>
      simp only [List.getElem?_cons_zero, Option.some.injEq] at h
      subst h
      simp [PFf]
    | succ j =>
      simp only [List.getElem?_cons_succ] at h
      have := ih (j0 + 1) j b h
      rw [show j0 + 1 + j = j0 + (j + 1) by omega] at this
      simpa [PFf] using this
theorem PFf_len (S : PS) (kd a : Nat) : ∀ (bs : List Bool) (j0 : Nat), (PFf S kd a bs j0).length = bs.length := by
  intro bs
  induction bs with
  | nil => intro j0; rfl
  | cons c bs ih => intro j0; simp [PFf, ih]
theorem PFf_cong (S S' : PS) (kd a : Nat) (bs : List Bool) (j0 : Nat) (h : ∀ (j : Nat) (b : Bool), bs[j]? = some b → (if b then va_rf (pR S (32 * kd + (j0 + j)) a) else Value.int (pI S (32 * kd + (j0 + j)) a)) = (if b then va_rf (pR S' (32 * kd + (j0 + j)) a) else Value.int (pI S' (32 * kd + (j0 + j)) a))) : PFf S kd a bs j0 = PFf S' kd a bs j0 := by
  apply List.ext_getElem?
  intro j
  cases hb : bs[j]? with
  | none =>
    have h1 : bs.length ≤ j := List.getElem?_eq_none_iff.mp hb
    rw [List.getElem?_eq_none_iff.mpr (by rw [PFf_len]; exact h1), List.getElem?_eq_none_iff.mpr (by rw [PFf_len]; exact h1)]
  | some b => rw [PFf_get S kd a bs j0 j b hb, PFf_get S' kd a bs j0 j b hb, h j b hb]
theorem PFf_setI (S : PS) (kd a : Nat) (bs : List Bool) (j : Nat) (v : Int32) (hj : bs[j]? = some false) : (PFf S kd a bs 0).set j (.int v) = PFf (sI S (32 * kd + j) a v) kd a bs 0 := by
  apply List.ext_getElem?
  intro i
  cases hb : bs[i]? with
  | none =>
    have h1 : bs.length ≤ i := List.getElem?_eq_none_iff.mp hb
    rw [List.getElem?_eq_none_iff.mpr (by rw [List.length_set, PFf_len]; exact h1), List.getElem?_eq_none_iff.mpr (by rw [PFf_len]; exact h1)]
  | some b =>
    rw [PFf_get (sI S (32 * kd + j) a v) kd a bs 0 i b hb]
    by_cases hij : i = j
    · subst hij
      rw [hj] at hb
      cases hb
      have hl : i < (PFf S kd a bs 0).length := by rw [PFf_len]; exact (List.getElem?_eq_some_iff.mp hj).1
      rw [List.getElem?_set_self hl]
      simp [sI, u2, pI]
    · rw [List.getElem?_set_ne (fun e => hij e.symm), PFf_get S kd a bs 0 i b hb]
      simp [sI, u2, hij, pI, pR]
theorem PFf_setR (S : PS) (kd a : Nat) (bs : List Bool) (j : Nat) (v : Option Nat) (hj : bs[j]? = some true) : (PFf S kd a bs 0).set j (va_rf v) = PFf (sR S (32 * kd + j) a v) kd a bs 0 := by
  apply List.ext_getElem?
  intro i
  cases hb : bs[i]? with
  | none =>
    have h1 : bs.length ≤ i := List.getElem?_eq_none_iff.mp hb
    rw [List.getElem?_eq_none_iff.mpr (by rw [List.length_set, PFf_len]; exact h1), List.getElem?_eq_none_iff.mpr (by rw [PFf_len]; exact h1)]
  | some b =>
    rw [PFf_get (sR S (32 * kd + j) a v) kd a bs 0 i b hb]
    by_cases hij : i = j
    · subst hij
      rw [hj] at hb
      cases hb
      have hl : i < (PFf S kd a bs 0).length := by rw [PFf_len]; exact (List.getElem?_eq_some_iff.mp hj).1
      rw [List.getElem?_set_self hl]
      simp [sR, u2, pR]
    · rw [List.getElem?_set_ne (fun e => hij e.symm), PFf_get S kd a bs 0 i b hb]
      simp [sR, u2, hij, pI, pR]
theorem PF_obj {G : GG} {S : PS} {a kd : Nat} (hk : pK S a = kd) (h10 : kd < 10) : PF G S a = .inr (kd, PFf S kd a (flds kd) 0) := by
  subst hk
  simp only [PF, if_pos h10]
theorem PF_num {G : GG} {S : PS} {a kd : Nat} (hk : pK S a = kd) (h1 : 10 ≤ kd) (h2 : kd < 12) : PF G S a = .inl (gC G kd, pN S a, .inl (pA S a)) := by
  subst hk
  simp only [PF, if_neg (Nat.not_lt.mpr h1), if_pos h2]
theorem PF_ref {G : GG} {S : PS} {a kd : Nat} (hk : pK S a = kd) (h1 : 12 ≤ kd) (h2 : kd < 14) : PF G S a = .inl (gC G kd, pN S a, .inr (.inr (.inr (.inr (pB S a))))) := by
  subst hk
  simp only [PF, if_neg (show ¬ pK S a < 10 by omega), if_neg (show ¬ pK S a < 12 by omega), if_pos h2]
theorem PF_lng {G : GG} {S : PS} {a : Nat} (hk : pK S a = 14) : PF G S a = .inl (gC G 14, pN S a, .inr (.inl (pJ S a))) := by
  simp only [PF, hk, if_neg (show ¬ (14 : Nat) < 10 by omega), if_neg (show ¬ (14 : Nat) < 12 by omega), if_neg (show ¬ (14 : Nat) < 14 by omega)]
theorem PF_upI {G : GG} {S : PS} {a kd j : Nat} {v : Int32} (hk : pK S a = kd) (h10 : kd < 10) (hj : (flds kd)[j]? = some false) (x : Nat) : va_up (PF G S) a (.inr (kd, (PFf S kd a (flds kd) 0).set j (.int v))) x = PF G (sI S (32 * kd + j) a v) x := by
  by_cases hx : x = a
  · subst hx
    rw [va_up_self, PFf_setI S kd x _ j v hj, PF_obj (S := sI S (32 * kd + j) x v) hk h10]
  · rw [va_up_ne _ _ hx]
    have e : ∀ k bs, PFf (sI S (32 * kd + j) a v) k x bs 0 = PFf S k x bs 0 := fun k bs => PFf_cong _ _ k x bs 0 (fun i b _ => by simp [sI, u2, hx, pI, pR])
    simp only [PF]
    show _ = if pK S x < 10 then _ else _
    rw [show pK (sI S (32 * kd + j) a v) x = pK S x from rfl, e]
    rfl
theorem PF_upR {G : GG} {S : PS} {a kd j : Nat} {v : Option Nat} (hk : pK S a = kd) (h10 : kd < 10) (hj : (flds kd)[j]? = some true) (x : Nat) : va_up (PF G S) a (.inr (kd, (PFf S kd a (flds kd) 0).set j (va_rf v))) x = PF G (sR S (32 * kd + j) a v) x := by
  by_cases hx : x = a
  · subst hx
    rw [va_up_self, PFf_setR S kd x _ j v hj, PF_obj (S := sR S (32 * kd + j) x v) hk h10]
  · rw [va_up_ne _ _ hx]
    have e : ∀ k bs, PFf (sR S (32 * kd + j) a v) k x bs 0 = PFf S k x bs 0 := fun k bs => PFf_cong _ _ k x bs 0 (fun i b _ => by simp [sR, u2, hx, pI, pR])
    simp only [PF]
    show _ = if pK S x < 10 then _ else _
    rw [show pK (sR S (32 * kd + j) a v) x = pK S x from rfl, e]
    rfl
theorem PF_upA {G : GG} {S : PS} {a kd : Nat} {g : Nat → Int32} (hk : pK S a = kd) (h1 : 10 ≤ kd) (h2 : kd < 12) (x : Nat) : va_up (PF G S) a (.inl (gC G kd, pN S a, .inl g)) x = PF G (sA S a g) x := by
  by_cases hx : x = a
  · subst hx
    rw [va_up_self, PF_num (S := sA S x g) hk h1 h2]
    show _ = Sum.inl (gC G kd, pN S x, Sum.inl (va_up (pA S) x g x))
    rw [va_up_self]
  · rw [va_up_ne _ _ hx]
    have e : pA (sA S a g) x = pA S x := va_up_ne _ _ hx
    have e2 : ∀ k bs, PFf (sA S a g) k x bs 0 = PFf S k x bs 0 := fun k bs => PFf_cong _ _ k x bs 0 (fun i b _ => rfl)
    simp only [PF]
    rw [e, e2]
    rfl
theorem PF_upB {G : GG} {S : PS} {a kd : Nat} {g : Nat → Option Nat} (hk : pK S a = kd) (h1 : 12 ≤ kd) (h2 : kd < 14) (x : Nat) : va_up (PF G S) a (.inl (gC G kd, pN S a, .inr (.inr (.inr (.inr g))))) x = PF G (sB S a g) x := by
  by_cases hx : x = a
  · subst hx
    rw [va_up_self, PF_ref (S := sB S x g) hk h1 h2]
    show _ = Sum.inl (gC G kd, pN S x, Sum.inr (Sum.inr (Sum.inr (Sum.inr (va_up (pB S) x g x)))))
    rw [va_up_self]
  · rw [va_up_ne _ _ hx]
    have e : pB (sB S a g) x = pB S x := va_up_ne _ _ hx
    have e2 : ∀ k bs, PFf (sB S a g) k x bs 0 = PFf S k x bs 0 := fun k bs => PFf_cong _ _ k x bs 0 (fun i b _ => rfl)
    simp only [PF]
    rw [e, e2]
    rfl
theorem PF_upJ {G : GG} {S : PS} {a : Nat} {g : Nat → Int64} (hk : pK S a = 14) (x : Nat) : va_up (PF G S) a (.inl (gC G 14, pN S a, .inr (.inl g))) x = PF G (sJ S a g) x := by
  by_cases hx : x = a
  · subst hx
    rw [va_up_self, PF_lng (S := sJ S x g) hk]
    show _ = Sum.inl (gC G 14, pN S x, Sum.inr (Sum.inl (va_up (pJ S) x g x)))
    rw [va_up_self]
  · rw [va_up_ne _ _ hx]
    have e : pJ (sJ S a g) x = pJ S x := va_up_ne _ _ hx
    have e2 : ∀ k bs, PFf (sJ S a g) k x bs 0 = PFf S k x bs 0 := fun k bs => PFf_cong _ _ k x bs 0 (fun i b _ => rfl)
    simp only [PF]
    rw [e, e2]
    rfl
theorem va_pl_in {L : List Nat} {f : Nat → va_E} {a : Nat} (h : a ∈ L) : ∃ k : Nat, (va_pl L f)[k]? = some (a, f a) := by
  obtain ⟨k, hk⟩ := va_pl_get (X := []) (f := f) h
  exact ⟨k, hk⟩
theorem va_pl_put {A : Nat → Prop} {L : List Nat} {f : Nat → va_E} {a k : Nat} {e : va_E} (hD : va_D A (va_pl L f)) (h : a ∈ L) (hk : (va_pl L f)[k]? = some (a, f a)) : (va_pl L f).set k (a, e) = va_pl L (va_up f a e) :=
  va_pl_set (X := []) hD h hk
theorem nin_of_D {A : Nat → Prop} {L : List Nat} {f : Nat → va_E} {q : Nat} {e : va_E} (hD : va_D A (va_pl L f ++ [(q, e)])) : q ∉ L := by
  intro h
  obtain ⟨k, hk⟩ := va_pl_in (f := f) h
  have hl : k < (va_pl L f).length := (List.getElem?_eq_some_iff.mp hk).1
  have h1 : (va_pl L f ++ [(q, e)])[k]? = some (q, f q) := by rw [List.getElem?_append_left hl]; exact hk
  have h2 : (va_pl L f ++ [(q, e)])[(va_pl L f).length]? = some (q, e) := by simp
  have := hD.1 k (va_pl L f).length _ _ h1 h2 rfl
  omega
def dflt (kd : Nat) : List Value := (flds kd).map (fun b => if b then .null else .int 0)
theorem PF_newO {G : GG} {S : PS} {q kd : Nat} (hq : q ∉ pL S) (h10 : kd < 10) : va_pl (pL S) (PF G S) ++ [(q, .inr (kd, dflt kd))] = va_pl (pL (sO S q kd)) (PF G (sO S q kd)) := by
  rw [va_pl_push hq]
  refine va_pl_congr (fun x => ?_)
  by_cases hx : x = q
  · subst hx
    rw [va_up_self, PF_obj (S := sO S x kd) (kd := kd) (va_up_self _ _ _) h10]
    congr 2
    apply List.ext_getElem?
    intro i
    cases hb : (flds kd)[i]? with
    | none =>
      have h1 : (flds kd).length ≤ i := List.getElem?_eq_none_iff.mp hb
      rw [show (dflt kd)[i]? = none from List.getElem?_eq_none_iff.mpr (by unfold dflt; rw [List.length_map]; exact h1)]
      exact (List.getElem?_eq_none_iff.mpr (by rw [PFf_len]; exact h1)).symm
    | some b =>
      rw [PFf_get _ kd x _ 0 i b hb]
      simp only [dflt, List.getElem?_map, hb, Option.map_some]
      cases b <;> simp [sO, va_rf, pI, pR]
  · rw [va_up_ne _ _ hx]
    have e2 : ∀ k bs, PFf (sO S q kd) k x bs 0 = PFf S k x bs 0 := fun k bs => PFf_cong _ _ k x bs 0 (fun i b _ => by simp [sO, hx, pI, pR])
    have e : pK (sO S q kd) x = pK S x := va_up_ne _ _ hx
    simp only [PF]
    rw [e, e2]
    rfl
theorem PF_newW {G : GG} {S : PS} {q kd n : Nat} {a0 : vp_A} (hq : q ∉ pL S) (ha : PF G (sW S q kd n) q = .inl (gC G kd, a0)) : va_pl (pL S) (PF G S) ++ [(q, .inl (gC G kd, a0))] = va_pl (pL (sW S q kd n)) (PF G (sW S q kd n)) := by
  rw [va_pl_push hq]
  refine va_pl_congr (fun x => ?_)
  by_cases hx : x = q
  · subst hx
    rw [va_up_self, ha]
  · rw [va_up_ne _ _ hx]
    have e2 : ∀ k bs, PFf (sW S q kd n) k x bs 0 = PFf S k x bs 0 := fun k bs => PFf_cong _ _ k x bs 0 (fun i b _ => rfl)
    have e : pK (sW S q kd n) x = pK S x := va_up_ne _ _ hx
    have eN : pN (sW S q kd n) x = pN S x := va_up_ne _ _ hx
    have eA : pA (sW S q kd n) x = pA S x := va_up_ne _ _ hx
    have eB : pB (sW S q kd n) x = pB S x := va_up_ne _ _ hx
    have eJ : pJ (sW S q kd n) x = pJ S x := va_up_ne _ _ hx
    simp only [PF]
    rw [e, e2, eN, eA, eB, eJ]
theorem PF_newN {G : GG} {S : PS} {q kd n : Nat} (h1 : 10 ≤ kd) (h2 : kd < 12) : PF G (sW S q kd n) q = .inl (gC G kd, (n, .inl (fun _ => 0))) := by
  rw [PF_num (S := sW S q kd n) (kd := kd) (va_up_self _ _ _) h1 h2]
  simp [sW, va_up_self, pA, pB, pJ, pN]
theorem PF_newQ {G : GG} {S : PS} {q kd n : Nat} (h1 : 12 ≤ kd) (h2 : kd < 14) : PF G (sW S q kd n) q = .inl (gC G kd, (n, .inr (.inr (.inr (.inr (fun _ => none)))))) := by
  rw [PF_ref (S := sW S q kd n) (kd := kd) (va_up_self _ _ _) h1 h2]
  simp [sW, va_up_self, pA, pB, pJ, pN]
theorem PF_newJ {G : GG} {S : PS} {q n : Nat} : PF G (sW S q 14 n) q = .inl (gC G 14, (n, .inr (.inl (fun _ => 0)))) := by
  rw [PF_lng (S := sW S q 14 n) (va_up_self _ _ _)]
  simp [sW, va_up_self, pA, pB, pJ, pN]
/-! ===== what is known of the tables and of the heap below the base ===== -/
def tysG (G : GG) : List (ClassId × FieldType) := [(gC G 10, .int), (gC G 11, .boolean), (gC G 12, .object "Thumbreel$Leaf"), (gC G 13, .object "java/lang/Object"), (gC G 14, .long)]
def strs : List (String × Nat × String) := [("Thumbreel", 58, "there are 4 books"), ("Thumbreel", 259, "there is no such thing"), ("Thumbreel", 79, "no such place for a drawing"), ("Thumbreel", 261, "an argument is out of its range"), ("Thumbreel", 85, "the book has 8 drawings"), ("Thumbreel", 113, "there are 5 orders"), ("Thumbreel", 143, "two folds are LEFT or RIGHT, one is UP or DOWN"), ("Thumbreel", 165, "there would be more than 50 sheets"), ("Thumbreel", 182, "no such sheet"), ("Thumbreel", 197, "no sheet waits"), ("Thumbreel", 223, "it is bound, or a leaf is not printed and cut")]
def KS (G : GG) (U : State) (H : Heap) : Prop :=
  va_K (gD G) cls (tysG G) U ∧ vx_Zq Bundle.tN "UNASSIGNED_STACK" Bundle.steD (gA G) U H ∧ vx_Zq Bundle.tN "SUPPRESSED_SENTINEL" Bundle.listD (gA G) U H ∧
  va_Z "java/util/ArrayList" "DEFAULTCAPACITY_EMPTY_ELEMENTDATA" "[Ljava/lang/Object;" (.ref (gE G)) (gA G) U H ∧ va_T (.object "java/lang/Object") (gE G) 0 (fun _ => .null) (gA G) U H ∧
  (∀ (i : Nat) (q : String × Nat × String), strs[i]? = some q → vk_R q.1 q.2.1 q.2.2 (gS G i) U) ∧ va_AO "java/lang/Object" U ∧ va_AO "Thumbreel$Leaf" U ∧ G.1 ≤ H.size
theorem KS.move {G : GG} {u U : State} {H H1 : Heap} (hW : u.WarmedH U.vm) (h : KS G u H) (hq : ∀ a : Nat, a < H.size → ¬ gA G a → H1[a]? = H[a]?) (hs : H.size ≤ H1.size) : KS G U H1 := by
  obtain ⟨h1, h2, h3, h4, h5, h6, h7, h8, h9⟩ := h
  have ha := hW.alike
  exact ⟨va_K.moved ha h1, (vx_Zq.moved ha h2).kept hq, (vx_Zq.moved ha h3).kept hq, (va_Z.moved ha h4).kept hq, (va_T.moved ha h5).kept hq, fun i q hi => vk_R.warm hW (h6 i q hi), va_AO.moved ha h7, va_AO.moved ha h8, Nat.le_trans h9 hs⟩
theorem KS.same {G : GG} {u U : State} {H : Heap} (hv : U.vm = u.vm) (h : KS G u H) : KS G U H :=
  KS.move (by rw [hv]; exact State.WarmedH.refl u) h (fun _ _ _ => rfl) (Nat.le_refl _)
/-! ===== locals by their places ===== -/
def asc : List (Option Value) → Nat → List (Nat × Value)
  | [], _ => []
  | none :: L, i => asc L (i + 1)
  | some v :: L, i => (i, v) :: asc L (i + 1)
theorem mem_asc : ∀ (L : List (Option Value)) (j0 i : Nat) (v : Value), (i, v) ∈ asc L j0 ↔ ∃ k, i = j0 + k ∧ L[k]? = some (some v) := by
  intro L
  induction L with
  | nil => intro j0 i v; simp [asc]
  | cons o L ih =>
    intro j0 i v
    cases o with
    | none =>
      simp only [asc, ih]
      constructor
      · rintro ⟨k, h1, h2⟩
        exact ⟨k + 1, by omega, by simpa using h2⟩
      · rintro ⟨k, h1, h2⟩
        cases k with
        | zero => simp at h2
        | succ k => exact ⟨k, by omega, by simpa using h2⟩
    | some w =>
      simp only [asc, List.mem_cons, ih, Prod.mk.injEq]
      constructor
      · rintro (⟨h1, h2⟩ | ⟨k, h1, h2⟩)
        · exact ⟨0, by omega, by simp [h2]⟩
        · exact ⟨k + 1, by omega, by simpa using h2⟩
      · rintro ⟨k, h1, h2⟩
        cases k with
        | zero =>
          simp at h2
          exact Or.inl ⟨by omega, h2.symm⟩
        | succ k => exact Or.inr ⟨k, by omega, by simpa using h2⟩
def LH (ls : Array Slot) (nL : Nat) (L : List (Option Value)) : Prop := lv_has ls nL (asc L 0) ∧ (∀ v : Value, some v ∈ L → v.category = 1) ∧ L.length = nL
theorem LH_get {ls : Array Slot} {nL i : Nat} {v : Value} {L : List (Option Value)} (h : LH ls nL L) (hl : L[i]? = some (some v)) : ls[i]? = some (.val v) :=
  h.1.2.2 (i, v) ((mem_asc L 0 i v).mpr ⟨i, by omega, hl⟩)
theorem LH_set {ls ls0 : Array Slot} {nL i : Nat} {v : Value} {L : List (Option Value)} (h : LH ls0 nL L) (hc : v.category = 1)
    (h2 : lv_has ls nL ((i, v) :: (asc L 0).filter (fun q => !(q.1 == i) && !(q.1 + 1 == i && q.2.category == 2)))) : LH ls nL (L.set i (some v)) := by
  refine ⟨⟨h2.1, h2.2.1, fun q hq => ?_⟩, fun w hw => ?_, by rw [List.length_set]; exact h.2.2⟩
  · obtain ⟨j, w⟩ := q
    obtain ⟨k, e, hk⟩ := (mem_asc _ 0 j w).mp hq
    have ej : j = k := by omega
    subst ej
    refine h2.2.2 (j, w) ?_
    by_cases hji : j = i
    · subst hji
      have hl : j < L.length := by
        have := (List.getElem?_eq_some_iff.mp hk).1
        rwa [List.length_set] at this
      rw [List.getElem?_set_self hl] at hk
      cases hk
      exact List.mem_cons_self
    · rw [List.getElem?_set_ne (fun e => hji e.symm)] at hk
      have hcat := h.2.1 w (List.mem_of_getElem? hk)
      refine List.mem_cons_of_mem _ (List.mem_filter.mpr ⟨(mem_asc L 0 j w).mpr ⟨j, by omega, hk⟩, ?_⟩)
      simp [hji, hcat]
  · rcases List.mem_or_eq_of_mem_set hw with h3 | h3
    · exact h.2.1 w h3
    · cases h3
      exact hc
theorem LH_entry (vs : List Value) {n : Nat} (hc : vs.all (fun v => v.category == 1) = true) (hn : vs.length ≤ n) : LH ((lg_sl vs ++ List.replicate (n - (lg_sl vs).length) Slot.unset).toArray) n (vs.map some ++ List.replicate (n - vs.length) none) := by
  have hcat : ∀ v ∈ vs, v.category = 1 := fun v hv => by simpa using List.all_eq_true.mp hc v hv
  have hsl : ∀ ws : List Value, (∀ v ∈ ws, v.category = 1) → (lg_sl ws).length = ws.length := by
    intro ws
    induction ws with
    | nil => intro _; rfl
    | cons w ws ih =>
      intro h
      have h1 := h w List.mem_cons_self
      have h2 := ih (fun v hv => h v (List.mem_cons_of_mem _ hv))
      simp [lg_sl, h1] at h2 ⊢
      first | exact h2 | omega
  have harg : ∀ (ws : List Value) (i : Nat), (∀ v ∈ ws, v.category = 1) → lv_args i ws = asc (ws.map some) i := by
    intro ws
    induction ws with
    | nil => intro i _; rfl
    | cons w ws ih =>
      intro i h
      have h1 := h w List.mem_cons_self
      have h2 := ih (i + 1) (fun v hv => h v (List.mem_cons_of_mem _ hv))
      simp [lv_args, asc, h1, h2]
  have hl := lv_entry vs (n := n) (by rw [hsl vs hcat]; exact hn)
  refine ⟨⟨hl.1, hl.2.1, fun q hq => hl.2.2 q ?_⟩, fun v hv => ?_, by simp; omega⟩
  · obtain ⟨i, v⟩ := q
    obtain ⟨k, e, hk⟩ := (mem_asc _ 0 i v).mp hq
    rw [harg vs 0 hcat]
    refine (mem_asc _ 0 i v).mpr ⟨k, e, ?_⟩
    by_cases hlt : k < (vs.map some).length
    · rwa [List.getElem?_append_left hlt] at hk
    · rw [List.getElem?_append_right (by omega)] at hk
      have := List.mem_of_getElem? hk
      have := List.eq_of_mem_replicate this
      cases this
  · rcases List.mem_append.mp hv with h | h
    · obtain ⟨w, hw, e⟩ := List.mem_map.mp h
      cases e
      exact hcat _ hw
    · have := List.eq_of_mem_replicate h
      cases this
end
section
/-! ===== the judgement J: the machine at a place of a method, over a pool ===== -/
abbrev ZZ : Type := Program × Launch × Env × Room × State × MethodId × Array Value × List Frame × Method × Code × (State → Prop)
abbrev zp (Z : ZZ) : Program := Z.1
abbrev zl (Z : ZZ) : Launch := Z.2.1
abbrev ze (Z : ZZ) : Env := Z.2.2.1
abbrev zR (Z : ZZ) : Room := Z.2.2.2.1
abbrev zs (Z : ZZ) : State := Z.2.2.2.2.1
abbrev zm (Z : ZZ) : MethodId := Z.2.2.2.2.2.1
abbrev za (Z : ZZ) : Array Value := Z.2.2.2.2.2.2.1
abbrev zb (Z : ZZ) : List Frame := Z.2.2.2.2.2.2.2.1
abbrev zM (Z : ZZ) : Method := Z.2.2.2.2.2.2.2.2.1
abbrev zc (Z : ZZ) : Code := Z.2.2.2.2.2.2.2.2.2.1
abbrev zQ (Z : ZZ) : State → Prop := Z.2.2.2.2.2.2.2.2.2.2
def J (G : GG) (Z : ZZ) (S : PS) (k n pc : Nat) (L : List (Option Value)) (st : List Value) : Prop :=
  ∀ (H : Heap) (locs : List Loc) (ls : Array Slot), HW G S H → va_S (gA G) (zs Z).heap H locs → LH ls (zc Z).maxLocals L →
    W (zp Z) (zl Z) (ze Z) (zR Z) (zs Z) (zm Z) (za Z) (zb Z) (zM Z) (zc Z) H locs k n (zQ Z) (F0 (zm Z) pc ls st)
def JX (G : GG) (Z : ZZ) (S : PS) (k n pc : Nat) (L : List (Option Value)) (st : List Value) (E : String) : Prop :=
  ∀ (H : Heap) (locs : List Loc) (ls : Array Slot) (q : Addr) (ce : Cell), HW G S H → va_S (gA G) (zs Z).heap H locs → LH ls (zc Z).maxLocals L →
    H[q]? = some ce → ce.vm = .none → (zs Z).vm.findClass E = some ce.cls →
    vx_W (zp Z) (zl Z) (ze Z) (zR Z) (zs Z) (zm Z) (za Z) (zb Z) (zM Z) (zc Z) H locs k n (zQ Z) (F0 (zm Z) pc ls st) q
/-- what stands fast in a method's body -/
def CX (G : GG) (Z : ZZ) (own : String) (cc : ByteArray) (nL : Nat) (ret : Option FieldType) (rm : Room) : Prop :=
  (zp Z).tables.exec = Jvm.exec ∧ (zc Z).code = cc ∧ (zM Z).sig.returnType = ret ∧ (zs Z).vm.findClass own = some (zm Z).cls ∧ (zc Z).maxLocals = nL ∧
  (∀ w ∈ TBL, w.before (za Z) (zs Z) = true) ∧ KS G (zs Z) (zs Z).heap ∧ (zM Z).locks = false ∧ zR Z = rm ∧ (zl Z).stackTraces = false
section JR
variable {G : GG} {Z : ZZ} {own : String} {cc : ByteArray} {nL : Nat} {ret : Option FieldType} {rm : Room} {S : PS} {k n pc : Nat} {L : List (Option Value)} {st : List Value}
theorem CX.ks (hC : CX G Z own cc nL ret rm) : KS G (zs Z) (zs Z).heap := hC.2.2.2.2.2.2.1
theorem CX.ww (hC : CX G Z own cc nL ret rm) : ∀ w ∈ TBL, w.before (za Z) (zs Z) = true := hC.2.2.2.2.2.1
theorem CX.ow (hC : CX G Z own cc nL ret rm) : (zs Z).vm.findClass own = some (zm Z).cls := hC.2.2.2.1
theorem CX.ml (hC : CX G Z own cc nL ret rm) : (zc Z).maxLocals = nL := hC.2.2.2.2.1
theorem CX.rr (hC : CX G Z own cc nL ret rm) : zR Z = rm := hC.2.2.2.2.2.2.2.2.1
theorem CX.A (hC : CX G Z own cc nL ret rm) : ∀ q : Nat, (zs Z).heap.size ≤ q → gA G q := fun q h => Nat.le_trans hC.ks.2.2.2.2.2.2.2.2 h
/-- the cell of an address of the pool -/
theorem HW_cell {H : Heap} {a : Nat} {e : va_E} (hW : HW G S H) (hL : a ∈ pL S) (he : PF G S a = e) : ∃ q : Nat, (va_pl (pL S) (PF G S))[q]? = some (a, PF G S a) ∧ (va_pl (pL S) (PF G S))[q]? = some (a, e) := by
  obtain ⟨q, hq⟩ := va_pl_in (f := PF G S) hL
  exact ⟨q, hq, by rw [← he]; exact hq⟩
theorem J.wide {k' n' : Nat} (h1 : k ≤ k') (h2 : n ≤ n') (kk : J G Z S k' n' pc L st) : J G Z S k n pc L st := fun H locs ls hW hS hL => W.widen h1 h2 (kk H locs ls hW hS hL)
theorem J.eqS {S' : PS} (h : S' = S) (kk : J G Z S' k n pc L st) : J G Z S k n pc L st := h ▸ kk
theorem r_iload_n (hC : CX G Z own cc nL ret rm) {kf : Fin 4} {i : Nat} {x : Int32} (hd : decode cc pc = .ok (.iload_n kf, 1)) (hi : (kf : Nat) = i) (hl : L[i]? = some (some (.int x))) (kk : J G Z S k n (pc + 1) L (.int x :: st)) : J G Z S k n pc L st :=
  fun H locs ls hW hS hL => lv_iload_n hC.1 hC.2.1 hd hi (LH_get hL hl) (kk H locs ls hW hS hL)
theorem r_iload (hC : CX G Z own cc nL ret rm) {i : Nat} {x : Int32} (hd : decode cc pc = .ok (.iload i, 2)) (hl : L[i]? = some (some (.int x))) (kk : J G Z S k n (pc + 2) L (.int x :: st)) : J G Z S k n pc L st :=
  fun H locs ls hW hS hL => lv_iload hC.1 hC.2.1 hd (LH_get hL hl) (kk H locs ls hW hS hL)
theorem r_aload_n (hC : CX G Z own cc nL ret rm) {kf : Fin 4} {i : Nat} {x : Option Nat} (hd : decode cc pc = .ok (.aload_n kf, 1)) (hi : (kf : Nat) = i) (hl : L[i]? = some (some (va_rf x))) (kk : J G Z S k n (pc + 1) L (va_rf x :: st)) : J G Z S k n pc L st := by
  intro H locs ls hW hS hL
  cases x with
  | none => exact lv_aload_nN hC.1 hC.2.1 hd hi (LH_get hL hl) (kk H locs ls hW hS hL)
  | some x => exact lv_aload_n hC.1 hC.2.1 hd hi (LH_get hL hl) (kk H locs ls hW hS hL)
theorem r_aload (hC : CX G Z own cc nL ret rm) {i : Nat} {x : Option Nat} (hd : decode cc pc = .ok (.aload i, 2)) (hl : L[i]? = some (some (va_rf x))) (kk : J G Z S k n (pc + 2) L (va_rf x :: st)) : J G Z S k n pc L st := by
  intro H locs ls hW hS hL
  cases x with
  | none => exact lv_aloadN hC.1 hC.2.1 hd (LH_get hL hl) (kk H locs ls hW hS hL)
  | some x => exact lv_aload hC.1 hC.2.1 hd (LH_get hL hl) (kk H locs ls hW hS hL)
theorem r_istore_n (hC : CX G Z own cc nL ret rm) {kf : Fin 4} {i : Nat} {x : Int32} (hd : decode cc pc = .ok (.istore_n kf, 1)) (hi : (kf : Nat) = i) (hn : i < nL) (kk : J G Z S k n (pc + 1) (L.set i (some (.int x))) st) : J G Z S k n pc L (.int x :: st) :=
  fun H locs ls hW hS hL => lv_istore_n hC.1 hC.2.1 hd hi hL.1 (by rw [hC.ml]; exact hn) rfl (fun ls' h' => kk H locs ls' hW hS (LH_set hL rfl h'))
theorem r_istore (hC : CX G Z own cc nL ret rm) {i : Nat} {x : Int32} (hd : decode cc pc = .ok (.istore i, 2)) (hn : i < nL) (kk : J G Z S k n (pc + 2) (L.set i (some (.int x))) st) : J G Z S k n pc L (.int x :: st) :=
  fun H locs ls hW hS hL => lv_istore hC.1 hC.2.1 hd hL.1 (by rw [hC.ml]; exact hn) rfl (fun ls' h' => kk H locs ls' hW hS (LH_set hL rfl h'))
theorem r_astore_n (hC : CX G Z own cc nL ret rm) {kf : Fin 4} {i : Nat} {x : Option Nat} (hd : decode cc pc = .ok (.astore_n kf, 1)) (hi : (kf : Nat) = i) (hn : i < nL) (kk : J G Z S k n (pc + 1) (L.set i (some (va_rf x))) st) : J G Z S k n pc L (va_rf x :: st) := by
  intro H locs ls hW hS hL
  cases x with
  | none => exact lv_astore_nN hC.1 hC.2.1 hd hi hL.1 (by rw [hC.ml]; exact hn) rfl (fun ls' h' => kk H locs ls' hW hS (LH_set hL rfl h'))
  | some x => exact lv_astore_n hC.1 hC.2.1 hd hi hL.1 (by rw [hC.ml]; exact hn) rfl (fun ls' h' => kk H locs ls' hW hS (LH_set hL rfl h'))
theorem r_astore (hC : CX G Z own cc nL ret rm) {i : Nat} {x : Option Nat} (hd : decode cc pc = .ok (.astore i, 2)) (hn : i < nL) (kk : J G Z S k n (pc + 2) (L.set i (some (va_rf x))) st) : J G Z S k n pc L (va_rf x :: st) := by
  intro H locs ls hW hS hL
  cases x with
  | none => exact lv_astoreN hC.1 hC.2.1 hd hL.1 (by rw [hC.ml]; exact hn) rfl (fun ls' h' => kk H locs ls' hW hS (LH_set hL rfl h'))
  | some x => exact lv_astore hC.1 hC.2.1 hd hL.1 (by rw [hC.ml]; exact hn) rfl (fun ls' h' => kk H locs ls' hW hS (LH_set hL rfl h'))
theorem r_iinc (hC : CX G Z own cc nL ret rm) {i : Nat} {d : Int} {x v : Int32} (hd : decode cc pc = .ok (.iinc i d, 3)) (hl : L[i]? = some (some (.int x))) (hv : x + Int32.ofInt d = v) (kk : J G Z S k n (pc + 3) (L.set i (some (.int v))) st) : J G Z S k n pc L st := by
  intro H locs ls hW hS hL
  obtain ⟨q, hq⟩ := List.getElem?_of_mem ((mem_asc L 0 i (.int x)).mpr ⟨i, by omega, hl⟩)
  have hi : i < (zc Z).maxLocals := by rw [← hL.2.2]; exact (List.getElem?_eq_some_iff.mp hl).1
  exact lv_iinc hC.1 hC.2.1 hd hL.1 hq hv hi rfl (fun ls' h' => kk H locs ls' hW hS (LH_set hL rfl h'))
theorem r_iconst (hC : CX G Z own cc nL ret rm) {d : Int} {v : Int32} (hd : decode cc pc = .ok (.iconst d, 1)) (hv : Int32.ofInt d = v) (kk : J G Z S k n (pc + 1) L (.int v :: st)) : J G Z S k n pc L st :=
  fun H locs ls hW hS hL => lv_iconst hC.1 hC.2.1 hd hv (kk H locs ls hW hS hL)
theorem r_bipush (hC : CX G Z own cc nL ret rm) {d : Int} {v : Int32} (hd : decode cc pc = .ok (.bipush d, 2)) (hv : (Int8.ofInt d).toInt32 = v) (kk : J G Z S k n (pc + 2) L (.int v :: st)) : J G Z S k n pc L st :=
  fun H locs ls hW hS hL => lv_bipush hC.1 hC.2.1 hd hv (kk H locs ls hW hS hL)
theorem r_sipush (hC : CX G Z own cc nL ret rm) {d : Int} {v : Int32} (hd : decode cc pc = .ok (.sipush d, 3)) (hv : (Int16.ofInt d).toInt32 = v) (kk : J G Z S k n (pc + 3) L (.int v :: st)) : J G Z S k n pc L st :=
  fun H locs ls hW hS hL => lv_sipush hC.1 hC.2.1 hd hv (kk H locs ls hW hS hL)
theorem r_ldc (hC : CX G Z own cc nL ret rm) {i : Nat} {v : Int32} (hw : Cond.constant own i v ∈ TBL) (hd : decode cc pc = .ok (.ldc i, 2)) (kk : J G Z S k n (pc + 2) L (.int v :: st)) : J G Z S k n pc L st :=
  fun H locs ls hW hS hL => lv_ldc hC.1 hC.2.1 hC.ow (hC.ww _ hw) hd (kk H locs ls hW hS hL)
theorem r_null (hC : CX G Z own cc nL ret rm) (hd : decode cc pc = .ok (.aconst_null, 1)) (kk : J G Z S k n (pc + 1) L (va_rf none :: st)) : J G Z S k n pc L st :=
  fun H locs ls hW hS hL => lv_null hC.1 hC.2.1 hd (kk H locs ls hW hS hL)
theorem r_iadd (hC : CX G Z own cc nL ret rm) {x y : Int32} (hd : decode cc pc = .ok (.iadd, 1)) (kk : J G Z S k n (pc + 1) L (.int (x + y) :: st)) : J G Z S k n pc L (.int y :: .int x :: st) :=
  fun H locs ls hW hS hL => lv_iadd hC.1 hC.2.1 hd (kk H locs ls hW hS hL)
theorem r_isub (hC : CX G Z own cc nL ret rm) {x y : Int32} (hd : decode cc pc = .ok (.isub, 1)) (kk : J G Z S k n (pc + 1) L (.int (x - y) :: st)) : J G Z S k n pc L (.int y :: .int x :: st) :=
  fun H locs ls hW hS hL => lv_isub hC.1 hC.2.1 hd (kk H locs ls hW hS hL)
theorem r_imul (hC : CX G Z own cc nL ret rm) {x y : Int32} (hd : decode cc pc = .ok (.imul, 1)) (kk : J G Z S k n (pc + 1) L (.int (x * y) :: st)) : J G Z S k n pc L (.int y :: .int x :: st) :=
  fun H locs ls hW hS hL => lv_imul hC.1 hC.2.1 hd (kk H locs ls hW hS hL)
theorem r_iand (hC : CX G Z own cc nL ret rm) {x y : Int32} (hd : decode cc pc = .ok (.iand, 1)) (kk : J G Z S k n (pc + 1) L (.int (x &&& y) :: st)) : J G Z S k n pc L (.int y :: .int x :: st) :=
  fun H locs ls hW hS hL => lv_iand hC.1 hC.2.1 hd (kk H locs ls hW hS hL)
theorem r_idiv (hC : CX G Z own cc nL ret rm) {x y : Int32} (hd : decode cc pc = .ok (.idiv, 1)) (hne : ¬ y = 0) (kk : J G Z S k n (pc + 1) L (.int (x / y) :: st)) : J G Z S k n pc L (.int y :: .int x :: st) :=
  fun H locs ls hW hS hL => lv_idiv hC.1 hC.2.1 hd hne (kk H locs ls hW hS hL)
theorem r_irem (hC : CX G Z own cc nL ret rm) {x y : Int32} (hd : decode cc pc = .ok (.irem, 1)) (hne : ¬ y = 0) (kk : J G Z S k n (pc + 1) L (.int (x - x / y * y) :: st)) : J G Z S k n pc L (.int y :: .int x :: st) :=
  fun H locs ls hW hS hL => lv_irem hC.1 hC.2.1 hd hne (kk H locs ls hW hS hL)
theorem r_ineg (hC : CX G Z own cc nL ret rm) {x : Int32} (hd : decode cc pc = .ok (.ineg, 1)) (kk : J G Z S k n (pc + 1) L (.int (-x) :: st)) : J G Z S k n pc L (.int x :: st) :=
  fun H locs ls hW hS hL => lv_ineg hC.1 hC.2.1 hd (kk H locs ls hW hS hL)
theorem r_i2l (hC : CX G Z own cc nL ret rm) {x : Int32} (hd : decode cc pc = .ok (.i2l, 1)) (kk : J G Z S k n (pc + 1) L (.long x.toInt64 :: st)) : J G Z S k n pc L (.int x :: st) :=
  fun H locs ls hW hS hL => lv_i2l hC.1 hC.2.1 hd rfl (kk H locs ls hW hS hL)
theorem r_lconst (hC : CX G Z own cc nL ret rm) {d : Fin 2} {v : Int64} (hd : decode cc pc = .ok (.lconst d, 1)) (hv : Int64.ofNat (d : Nat) = v) (kk : J G Z S k n (pc + 1) L (.long v :: st)) : J G Z S k n pc L st :=
  fun H locs ls hW hS hL => lv_lconst hC.1 hC.2.1 hd hv (kk H locs ls hW hS hL)
theorem r_dup (hC : CX G Z own cc nL ret rm) {v : Value} (hd : decode cc pc = .ok (.dup, 1)) (hv : v.category = 1) (kk : J G Z S k n (pc + 1) L (v :: v :: st)) : J G Z S k n pc L (v :: st) :=
  fun H locs ls hW hS hL => lv_dup hC.1 hC.2.1 hd hv (kk H locs ls hW hS hL)
theorem r_pop (hC : CX G Z own cc nL ret rm) {v : Value} (hd : decode cc pc = .ok (.pop, 1)) (hv : v.category = 1) (kk : J G Z S k n (pc + 1) L st) : J G Z S k n pc L (v :: st) :=
  fun H locs ls hW hS hL => lv_pop hC.1 hC.2.1 hd hv (kk H locs ls hW hS hL)
theorem r_dup2 (hC : CX G Z own cc nL ret rm) {v w : Value} (hd : decode cc pc = .ok (.dup2, 1)) (hv : v.category = 1) (hw : w.category = 1) (kk : J G Z S k n (pc + 1) L (v :: w :: v :: w :: st)) : J G Z S k n pc L (v :: w :: st) :=
  fun H locs ls hW hS hL => lv_dup2_11 hC.1 hC.2.1 hd hv hw (kk H locs ls hW hS hL)
theorem r_dup_x1 (hC : CX G Z own cc nL ret rm) {v w : Value} (hd : decode cc pc = .ok (.dup_x1, 1)) (hv : v.category = 1) (hw : w.category = 1) (kk : J G Z S k n (pc + 1) L (v :: w :: v :: st)) : J G Z S k n pc L (v :: w :: st) :=
  fun H locs ls hW hS hL => lv_dup_x1 hC.1 hC.2.1 hd hv hw (kk H locs ls hW hS hL)
theorem r_goto (hC : CX G Z own cc nL ret rm) {off : Int} {tgt : Nat} (hd : decode cc pc = .ok (.goto off, 3)) (ht : (pc : Int) + off = (tgt : Int)) (kk : J G Z S k n tgt L st) : J G Z S k n pc L st :=
  fun H locs ls hW hS hL => lv_goto hC.1 hC.2.1 hd ht (kk H locs ls hW hS hL)
theorem r_tabIn (hC : CX G Z own cc nL ret rm) {dflt lo hi : Int} {offs : Array Int} {len : Nat} {x : Int32} {off : Int} {tgt : Nat} (hd : decode cc pc = .ok (.tableswitch dflt lo hi offs, len)) (h1 : ¬ x.toInt < lo) (h2 : ¬ hi < x.toInt) (ho : offs[(x.toInt - lo).toNat]? = some off) (ht : (pc : Int) + off = (tgt : Int)) (kk : J G Z S k n tgt L st) : J G Z S k n pc L (.int x :: st) :=
  fun H locs ls hW hS hL => lv_tableIn hC.1 hC.2.1 hd h1 h2 ho ht (kk H locs ls hW hS hL)
theorem r_tabOut (hC : CX G Z own cc nL ret rm) {dflt lo hi : Int} {offs : Array Int} {len : Nat} {x : Int32} {tgt : Nat} (hd : decode cc pc = .ok (.tableswitch dflt lo hi offs, len)) (h : x.toInt < lo ∨ hi < x.toInt) (ht : (pc : Int) + dflt = (tgt : Int)) (kk : J G Z S k n tgt L st) : J G Z S k n pc L (.int x :: st) :=
  fun H locs ls hW hS hL => lv_tableOut hC.1 hC.2.1 hd h ht (kk H locs ls hW hS hL)
theorem r_ifnull (hC : CX G Z own cc nL ret rm) {x : Option Nat} {off : Int} {tgt : Nat} (hd : decode cc pc = .ok (.ifnull off, 3)) (ht : (pc : Int) + off = (tgt : Int)) (kt : x = none → J G Z S k n tgt L st) (kf : ∀ y, x = some y → J G Z S k n (pc + 3) L st) : J G Z S k n pc L (va_rf x :: st) := by
  intro H locs ls hW hS hL
  cases x with
  | none => exact lv_ifnullN hC.1 hC.2.1 hd ht (kt rfl H locs ls hW hS hL)
  | some x => exact lv_ifnull hC.1 hC.2.1 hd (kf x rfl H locs ls hW hS hL)
theorem r_ifnonnull (hC : CX G Z own cc nL ret rm) {x : Option Nat} {off : Int} {tgt : Nat} (hd : decode cc pc = .ok (.ifnonnull off, 3)) (ht : (pc : Int) + off = (tgt : Int)) (kt : ∀ y, x = some y → J G Z S k n tgt L st) (kf : x = none → J G Z S k n (pc + 3) L st) : J G Z S k n pc L (va_rf x :: st) := by
  intro H locs ls hW hS hL
  cases x with
  | none => exact lv_ifnonnullN hC.1 hC.2.1 hd (kf rfl H locs ls hW hS hL)
  | some x => exact lv_ifnonnull hC.1 hC.2.1 hd ht (kt x rfl H locs ls hW hS hL)
theorem r_acmpne (hC : CX G Z own cc nL ret rm) {x y : Option Nat} {off : Int} {tgt : Nat} (hd : decode cc pc = .ok (.if_acmp .ne off, 3)) (ht : (pc : Int) + off = (tgt : Int)) (kt : ¬ x = y → J G Z S k n tgt L st) (kf : x = y → J G Z S k n (pc + 3) L st) : J G Z S k n pc L (va_rf y :: va_rf x :: st) :=
  fun H locs ls hW hS hL => lv_acmp_ne hC.1 hC.2.1 hd ht (fun c => kt c H locs ls hW hS hL) (fun c => kf c H locs ls hW hS hL)
theorem r_acmpeq (hC : CX G Z own cc nL ret rm) {x y : Option Nat} {off : Int} {tgt : Nat} (hd : decode cc pc = .ok (.if_acmp .eq off, 3)) (ht : (pc : Int) + off = (tgt : Int)) (kt : x = y → J G Z S k n tgt L st) (kf : ¬ x = y → J G Z S k n (pc + 3) L st) : J G Z S k n pc L (va_rf y :: va_rf x :: st) :=
  fun H locs ls hW hS hL => lv_acmp_eq hC.1 hC.2.1 hd ht (fun c => kt c H locs ls hW hS hL) (fun c => kf c H locs ls hW hS hL)
theorem r_ifeq (hC : CX G Z own cc nL ret rm) {x : Int32} {off : Int} {tgt : Nat} (hd : decode cc pc = .ok (.ifCond .eq off, 3)) (ht : (pc : Int) + off = (tgt : Int)) (kt : x = 0 → J G Z S k n tgt L st) (kf : ¬ x = 0 → J G Z S k n (pc + 3) L st) : J G Z S k n pc L (.int x :: st) :=
  fun H locs ls hW hS hL => lv_if_eq hC.1 hC.2.1 hd ht (fun c => kt c H locs ls hW hS hL) (fun c => kf c H locs ls hW hS hL)
theorem r_iceq (hC : CX G Z own cc nL ret rm) {x y : Int32} {off : Int} {tgt : Nat} (hd : decode cc pc = .ok (.if_icmp .eq off, 3)) (ht : (pc : Int) + off = (tgt : Int)) (kt : x = y → J G Z S k n tgt L st) (kf : ¬ x = y → J G Z S k n (pc + 3) L st) : J G Z S k n pc L (.int y :: .int x :: st) :=
  fun H locs ls hW hS hL => lv_icmp_eq hC.1 hC.2.1 hd ht (fun c => kt c H locs ls hW hS hL) (fun c => kf c H locs ls hW hS hL)
theorem r_ifne (hC : CX G Z own cc nL ret rm) {x : Int32} {off : Int} {tgt : Nat} (hd : decode cc pc = .ok (.ifCond .ne off, 3)) (ht : (pc : Int) + off = (tgt : Int)) (kt : ¬ x = 0 → J G Z S k n tgt L st) (kf : x = 0 → J G Z S k n (pc + 3) L st) : J G Z S k n pc L (.int x :: st) :=
  fun H locs ls hW hS hL => lv_if_ne hC.1 hC.2.1 hd ht (fun c => kt c H locs ls hW hS hL) (fun c => kf c H locs ls hW hS hL)
theorem r_icne (hC : CX G Z own cc nL ret rm) {x y : Int32} {off : Int} {tgt : Nat} (hd : decode cc pc = .ok (.if_icmp .ne off, 3)) (ht : (pc : Int) + off = (tgt : Int)) (kt : ¬ x = y → J G Z S k n tgt L st) (kf : x = y → J G Z S k n (pc + 3) L st) : J G Z S k n pc L (.int y :: .int x :: st) :=
  fun H locs ls hW hS hL => lv_icmp_ne hC.1 hC.2.1 hd ht (fun c => kt c H locs ls hW hS hL) (fun c => kf c H locs ls hW hS hL)
theorem r_iflt (hC : CX G Z own cc nL ret rm) {x : Int32} {off : Int} {tgt : Nat} (hd : decode cc pc = .ok (.ifCond .lt off, 3)) (ht : (pc : Int) + off = (tgt : Int)) (kt : x < 0 → J G Z S k n tgt L st) (kf : ¬ x < 0 → J G Z S k n (pc + 3) L st) : J G Z S k n pc L (.int x :: st) :=
  fun H locs ls hW hS hL => lv_if_lt hC.1 hC.2.1 hd ht (fun c => kt c H locs ls hW hS hL) (fun c => kf c H locs ls hW hS hL)
theorem r_iclt (hC : CX G Z own cc nL ret rm) {x y : Int32} {off : Int} {tgt : Nat} (hd : decode cc pc = .ok (.if_icmp .lt off, 3)) (ht : (pc : Int) + off = (tgt : Int)) (kt : x < y → J G Z S k n tgt L st) (kf : ¬ x < y → J G Z S k n (pc + 3) L st) : J G Z S k n pc L (.int y :: .int x :: st) :=
  fun H locs ls hW hS hL => lv_icmp_lt hC.1 hC.2.1 hd ht (fun c => kt c H locs ls hW hS hL) (fun c => kf c H locs ls hW hS hL)
theorem r_ifge (hC : CX G Z own cc nL ret rm) {x : Int32} {off : Int} {tgt : Nat} (hd : decode cc pc = .ok (.ifCond .ge off, 3)) (ht : (pc : Int) + off = (tgt : Int)) (kt : 0 ≤ x → J G Z S k n tgt L st) (kf : ¬ 0 ≤ x → J G Z S k n (pc + 3) L st) : J G Z S k n pc L (.int x :: st) :=
  fun H locs ls hW hS hL => lv_if_ge hC.1 hC.2.1 hd ht (fun c => kt c H locs ls hW hS hL) (fun c => kf c H locs ls hW hS hL)
theorem r_icge (hC : CX G Z own cc nL ret rm) {x y : Int32} {off : Int} {tgt : Nat} (hd : decode cc pc = .ok (.if_icmp .ge off, 3)) (ht : (pc : Int) + off = (tgt : Int)) (kt : y ≤ x → J G Z S k n tgt L st) (kf : ¬ y ≤ x → J G Z S k n (pc + 3) L st) : J G Z S k n pc L (.int y :: .int x :: st) :=
  fun H locs ls hW hS hL => lv_icmp_ge hC.1 hC.2.1 hd ht (fun c => kt c H locs ls hW hS hL) (fun c => kf c H locs ls hW hS hL)
theorem r_ifgt (hC : CX G Z own cc nL ret rm) {x : Int32} {off : Int} {tgt : Nat} (hd : decode cc pc = .ok (.ifCond .gt off, 3)) (ht : (pc : Int) + off = (tgt : Int)) (kt : 0 < x → J G Z S k n tgt L st) (kf : ¬ 0 < x → J G Z S k n (pc + 3) L st) : J G Z S k n pc L (.int x :: st) :=
  fun H locs ls hW hS hL => lv_if_gt hC.1 hC.2.1 hd ht (fun c => kt c H locs ls hW hS hL) (fun c => kf c H locs ls hW hS hL)
theorem r_icgt (hC : CX G Z own cc nL ret rm) {x y : Int32} {off : Int} {tgt : Nat} (hd : decode cc pc = .ok (.if_icmp .gt off, 3)) (ht : (pc : Int) + off = (tgt : Int)) (kt : y < x → J G Z S k n tgt L st) (kf : ¬ y < x → J G Z S k n (pc + 3) L st) : J G Z S k n pc L (.int y :: .int x :: st) :=
  fun H locs ls hW hS hL => lv_icmp_gt hC.1 hC.2.1 hd ht (fun c => kt c H locs ls hW hS hL) (fun c => kf c H locs ls hW hS hL)
theorem r_ifle (hC : CX G Z own cc nL ret rm) {x : Int32} {off : Int} {tgt : Nat} (hd : decode cc pc = .ok (.ifCond .le off, 3)) (ht : (pc : Int) + off = (tgt : Int)) (kt : x ≤ 0 → J G Z S k n tgt L st) (kf : ¬ x ≤ 0 → J G Z S k n (pc + 3) L st) : J G Z S k n pc L (.int x :: st) :=
  fun H locs ls hW hS hL => lv_if_le hC.1 hC.2.1 hd ht (fun c => kt c H locs ls hW hS hL) (fun c => kf c H locs ls hW hS hL)
theorem r_icle (hC : CX G Z own cc nL ret rm) {x y : Int32} {off : Int} {tgt : Nat} (hd : decode cc pc = .ok (.if_icmp .le off, 3)) (ht : (pc : Int) + off = (tgt : Int)) (kt : x ≤ y → J G Z S k n tgt L st) (kf : ¬ x ≤ y → J G Z S k n (pc + 3) L st) : J G Z S k n pc L (.int y :: .int x :: st) :=
  fun H locs ls hW hS hL => lv_icmp_le hC.1 hC.2.1 hd ht (fun c => kt c H locs ls hW hS hL) (fun c => kf c H locs ls hW hS hL)
/-- a field link of a class's pool place idx: field f = 32 * kd + j of the kind kd; c: 0 a number, 1 a boolean, 2 a reference; fin: final -/
def FL (own : String) (idx kd f c : Nat) (fin nst : Bool) : Prop :=
  ∃ (j : Nat) (ref C : String) (T : u_T) (N : Nat) (ty : Nat → FieldType), f = 32 * kd + j ∧ kd < 10 ∧
    (match nst with | false => Cond.fieldLink own idx ref (T j).2.1 (T j).2.2.1 ∈ TBL | true => ∃ host, Cond.fieldLinkNest own idx ref (T j).2.1 (T j).2.2.1 host ∈ TBL) ∧
    (∀ w ∈ u_ws C T N, w ∈ TBL) ∧ cls[kd]? = some (C, T, N) ∧ j < N ∧ (flds kd)[j]? = some (c == 2) ∧
    ((T j).1 = ref ∨ Cond.sameField ref (T j).1 (T j).2.1 (T j).2.2.1 ∈ TBL) ∧ (∀ i, i < N → parseFieldDescriptor (T i).2.2.1 = some (ty i)) ∧
    (∀ a, a < N → ∀ b, b < N → a ≠ b → (T a).2.1 ≠ (T b).2.1) ∧ (T j).2.2.2 = fin ∧ (c = 0 → ty j = .int) ∧ (c = 1 → ty j = .boolean) ∧
    (c = 2 → (∃ nm, ty j = .object nm) ∨ ∃ t, ty j = .array t)
def KD (S : PS) (a kd : Nat) : Prop := a ∈ pL S ∧ pK S a = kd
theorem kd_sI {a kd f x : Nat} {v : Int32} (h : KD S a kd) : KD (sI S f x v) a kd := h
theorem kd_sR {a kd f x : Nat} {v : Option Nat} (h : KD S a kd) : KD (sR S f x v) a kd := h
theorem kd_sA {a kd x : Nat} {v : Nat → Int32} (h : KD S a kd) : KD (sA S x v) a kd := h
theorem kd_sB {a kd x : Nat} {v : Nat → Option Nat} (h : KD S a kd) : KD (sB S x v) a kd := h
theorem kd_sO {a kd x kd' : Nat} (h : KD S a kd) (hx : x ∉ pL S) : KD (sO S x kd') a kd := ⟨List.mem_append_left _ h.1, by
  show va_up (pK S) x kd' a = kd
  rw [va_up_ne _ _ (fun e => hx (by rw [← e]; exact h.1))]
  exact h.2⟩
theorem kd_sW {a kd x kd' m : Nat} (h : KD S a kd) (hx : x ∉ pL S) : KD (sW S x kd' m) a kd := ⟨List.mem_append_left _ h.1, by
  show va_up (pK S) x kd' a = kd
  rw [va_up_ne _ _ (fun e => hx (by rw [← e]; exact h.1))]
  exact h.2⟩
theorem kd_newO {x kd : Nat} : KD (sO S x kd) x kd := ⟨List.mem_append_right _ (List.mem_singleton.mpr rfl), va_up_self _ _ _⟩
theorem kd_newW {x kd m : Nat} : KD (sW S x kd m) x kd := ⟨List.mem_append_right _ (List.mem_singleton.mpr rfl), va_up_self _ _ _⟩
theorem kd_ne {a b ka kb : Nat} (ha : KD S a ka) (hb : KD S b kb) (h : ka ≠ kb) : a ≠ b := fun e => h (by rw [← ha.2, ← hb.2, e])
theorem fl_get (hC : CX G Z own cc nL ret rm) {idx kd f c a : Nat} {fin nst : Bool} {v : Value} (hF : FL own idx kd f c fin nst) (hd : decode cc pc = .ok (.getfield idx, 3)) (ha : KD S a kd)
    (hv : (if c == 2 then va_rf (pR S f a) else .int (pI S f a)) = v) (kk : J G Z S k n (pc + 3) L (v :: st)) : J G Z S k n pc L (.ref a :: st) := by
  obtain ⟨j, ref, C, T, N, ty, rfl, h10, hlink, hin, hc, hj, hfl, hsame, -⟩ := hF
  intro H locs ls hW hS hL
  obtain ⟨q, -, hq⟩ := HW_cell hW ha.1 (PF_obj ha.2 h10)
  have hfv : (PFf S kd a (flds kd) 0)[j]? = some v := by
    rw [PFf_get S kd a (flds kd) 0 j (c == 2) hfl, Nat.zero_add]
    exact congrArg some hv
  have hin' : ∀ w ∈ u_ws C T N, w ∈ TBL := hin
  have hsm : ∀ x, (zs Z).fieldFound? (T j).1 (T j).2.1 (T j).2.2.1 = some x → (zs Z).fieldFound? ref (T j).2.1 (T j).2.2.1 = some x := by
    intro x hx
    rcases hsame with h | h
    · rw [← h]; exact hx
    · exact u_same (hC.ww _ h) x hx
  cases nst
  · have h := hlink
    exact va_get hC.1 hC.2.1 hC.ww hin' hC.ow hC.ks.1 hW.1 q hq hc j hj (hC.ww _ h) hsm hfv hd (kk H locs ls hW hS hL)
  · obtain ⟨host, h⟩ := hlink
    exact va_getN hC.1 hC.2.1 hC.ww hin' hC.ow hC.ks.1 hW.1 q hq hc j hj (hC.ww _ h) hsm hfv hd (kk H locs ls hW hS hL)
theorem r_getI (hC : CX G Z own cc nL ret rm) {idx kd f c a : Nat} {fin nst : Bool} {x : Int32} (hF : FL own idx kd f c fin nst) (h2 : (c == 2) = false) (hd : decode cc pc = .ok (.getfield idx, 3)) (ha : KD S a kd) (hx : pI S f a = x) (kk : J G Z S k n (pc + 3) L (.int x :: st)) : J G Z S k n pc L (va_rf (some a) :: st) :=
  fl_get hC hF hd ha (by rw [h2, ← hx]; rfl) kk
theorem r_getR (hC : CX G Z own cc nL ret rm) {idx kd f a : Nat} {fin nst : Bool} {x : Option Nat} (hF : FL own idx kd f 2 fin nst) (hd : decode cc pc = .ok (.getfield idx, 3)) (ha : KD S a kd) (hx : pR S f a = x) (kk : J G Z S k n (pc + 3) L (va_rf x :: st)) : J G Z S k n pc L (va_rf (some a) :: st) :=
  fl_get hC hF hd ha (by rw [← hx]; rfl) kk
theorem HW_putI {H H1 : Heap} {a kd j q : Nat} {v : Int32} (hW : HW G S H) (ha : KD S a kd) (h10 : kd < 10) (hj : (flds kd)[j]? = some false) (hq : (va_pl (pL S) (PF G S))[q]? = some (a, PF G S a))
    (h1 : va_P (gD G) cls ((va_pl (pL S) (PF G S)).set q (a, .inr (kd, (PFf S kd a (flds kd) 0).set j (.int v)))) H1) (h2 : va_D (gA G) ((va_pl (pL S) (PF G S)).set q (a, .inr (kd, (PFf S kd a (flds kd) 0).set j (.int v))))) : HW G (sI S (32 * kd + j) a v) H1 := by
  have e : (va_pl (pL S) (PF G S)).set q (a, .inr (kd, (PFf S kd a (flds kd) 0).set j (.int v))) = va_pl (pL (sI S (32 * kd + j) a v)) (PF G (sI S (32 * kd + j) a v)) := by
    rw [va_pl_put hW.2 ha.1 hq]
    exact va_pl_congr (PF_upI ha.2 h10 hj)
  rw [e] at h1 h2
  exact ⟨h1, h2⟩
theorem HW_putR {H H1 : Heap} {a kd j q : Nat} {v : Option Nat} (hW : HW G S H) (ha : KD S a kd) (h10 : kd < 10) (hj : (flds kd)[j]? = some true) (hq : (va_pl (pL S) (PF G S))[q]? = some (a, PF G S a))
    (h1 : va_P (gD G) cls ((va_pl (pL S) (PF G S)).set q (a, .inr (kd, (PFf S kd a (flds kd) 0).set j (va_rf v)))) H1) (h2 : va_D (gA G) ((va_pl (pL S) (PF G S)).set q (a, .inr (kd, (PFf S kd a (flds kd) 0).set j (va_rf v))))) : HW G (sR S (32 * kd + j) a v) H1 := by
  have e : (va_pl (pL S) (PF G S)).set q (a, .inr (kd, (PFf S kd a (flds kd) 0).set j (va_rf v))) = va_pl (pL (sR S (32 * kd + j) a v)) (PF G (sR S (32 * kd + j) a v)) := by
    rw [va_pl_put hW.2 ha.1 hq]
    exact va_pl_congr (PF_upR ha.2 h10 hj)
  rw [e] at h1 h2
  exact ⟨h1, h2⟩
theorem fit_num {c : Nat} {t : FieldType} {v : Int32} (h2 : (c == 2) = false) (hc : c < 3) (h0 : c = 0 → t = .int) (h1 : c = 1 → t = .boolean) (hv : c = 1 → v = 0 ∨ v = 1) : narrow t (.int v) = .int v ∧ fits t (.int v) = true := by
  have : c = 0 ∨ c = 1 := by
    rcases (show c = 0 ∨ c = 1 ∨ c = 2 by omega) with h | h | h
    · exact Or.inl h
    · exact Or.inr h
    · subst h; simp at h2
  rcases this with h | h
  · rw [h0 h]; exact ⟨rfl, rfl⟩
  · rw [h1 h]
    rcases hv h with e | e <;> subst e <;> exact ⟨rfl, rfl⟩
theorem r_putI (hC : CX G Z own cc nL ret rm) {idx kd f c a : Nat} {v : Int32} {nst : Bool} (hF : FL own idx kd f c false nst) (h2 : (c == 2) = false) (hc3 : c < 3) (hd : decode cc pc = .ok (.putfield idx, 3)) (ha : KD S a kd) (hv : c = 1 → v = 0 ∨ v = 1) (kk : J G Z (sI S f a v) k n (pc + 3) L st) : J G Z S k n pc L (.int v :: va_rf (some a) :: st) := by
  obtain ⟨j, ref, C, T, N, ty, rfl, h10, hlink, hin, hc, hj, hfl, hsame, hty, hnm, hfin, t0, t1, -⟩ := hF
  rw [h2] at hfl
  intro H locs ls hW hS hL
  obtain ⟨q, hq0, hq⟩ := HW_cell hW ha.1 (PF_obj ha.2 h10)
  have hsm : ∀ x, (zs Z).fieldFound? (T j).1 (T j).2.1 (T j).2.2.1 = some x → (zs Z).fieldFound? ref (T j).2.1 (T j).2.2.1 = some x := by
    intro x hx
    rcases hsame with h | h
    · rw [← h]; exact hx
    · exact u_same (hC.ww _ h) x hx
  have hft := fit_num (v := v) h2 hc3 t0 t1 hv
  have hlen : j < (PFf S kd a (flds kd) 0).length := by rw [PFf_len]; exact (List.getElem?_eq_some_iff.mp hfl).1
  cases nst
  · have h := hlink
    exact va_put hC.1 hC.2.1 hC.ww hin ty hty hnm hC.ow hC.ks.1 hW.1 hW.2 hS q hq hc j hj (hC.ww _ h) hsm hfin (hty j hj) hft.1 hft.2 hlen hd (fun H1 locs1 p1 p2 p3 => kk H1 locs1 ls (HW_putI hW ha h10 hfl hq0 p1 p2) p3 hL)
  · obtain ⟨host, h⟩ := hlink
    exact va_putN hC.1 hC.2.1 hC.ww hin ty hty hnm hC.ow hC.ks.1 hW.1 hW.2 hS q hq hc j hj (hC.ww _ h) hsm hfin (hty j hj) hft.1 hft.2 hlen hd (fun H1 locs1 p1 p2 p3 => kk H1 locs1 ls (HW_putI hW ha h10 hfl hq0 p1 p2) p3 hL)
theorem fit_ref {t : FieldType} {v : Option Nat} (h : (∃ nm, t = .object nm) ∨ ∃ u, t = .array u) : narrow t (va_rf v) = va_rf v ∧ fits t (va_rf v) = true := by
  rcases h with ⟨nm, rfl⟩ | ⟨u, rfl⟩ <;> cases v <;> exact ⟨rfl, rfl⟩
theorem r_putR (hC : CX G Z own cc nL ret rm) {idx kd f a : Nat} {v : Option Nat} {nst : Bool} (hF : FL own idx kd f 2 false nst) (hd : decode cc pc = .ok (.putfield idx, 3)) (ha : KD S a kd) (kk : J G Z (sR S f a v) k n (pc + 3) L st) : J G Z S k n pc L (va_rf v :: va_rf (some a) :: st) := by
  obtain ⟨j, ref, C, T, N, ty, rfl, h10, hlink, hin, hc, hj, hfl, hsame, hty, hnm, hfin, t0, t1, t2⟩ := hF
  have hfl : (flds kd)[j]? = some true := hfl
  intro H locs ls hW hS hL
  obtain ⟨q, hq0, hq⟩ := HW_cell hW ha.1 (PF_obj ha.2 h10)
  have hsm : ∀ x, (zs Z).fieldFound? (T j).1 (T j).2.1 (T j).2.2.1 = some x → (zs Z).fieldFound? ref (T j).2.1 (T j).2.2.1 = some x := by
    intro x hx
    rcases hsame with h | h
    · rw [← h]; exact hx
    · exact u_same (hC.ww _ h) x hx
  have hft := fit_ref (v := v) (t2 rfl)
  have hlen : j < (PFf S kd a (flds kd) 0).length := by rw [PFf_len]; exact (List.getElem?_eq_some_iff.mp hfl).1
  cases nst
  · have h := hlink
    exact va_put hC.1 hC.2.1 hC.ww hin ty hty hnm hC.ow hC.ks.1 hW.1 hW.2 hS q hq hc j hj (hC.ww _ h) hsm hfin (hty j hj) hft.1 hft.2 hlen hd (fun H1 locs1 p1 p2 p3 => kk H1 locs1 ls (HW_putR hW ha h10 hfl hq0 p1 p2) p3 hL)
  · obtain ⟨host, h⟩ := hlink
    exact va_putN hC.1 hC.2.1 hC.ww hin ty hty hnm hC.ow hC.ks.1 hW.1 hW.2 hS q hq hc j hj (hC.ww _ h) hsm hfin (hty j hj) hft.1 hft.2 hlen hd (fun H1 locs1 p1 p2 p3 => kk H1 locs1 ls (HW_putR hW ha h10 hfl hq0 p1 p2) p3 hL)
/-- a final field, in its class's constructor -/
theorem r_putFI (hC : CX G Z own cc nL ret rm) (hi : (zM Z).name = "<init>") {idx kd f c a : Nat} {v : Int32} (hF : FL own idx kd f c true false) (ho : cls[kd]?.map (fun q => (q.2.1 (f - 32 * kd)).1) = some own) (h2 : (c == 2) = false) (hc3 : c < 3) (hd : decode cc pc = .ok (.putfield idx, 3)) (ha : KD S a kd) (hv : c = 1 → v = 0 ∨ v = 1) (kk : J G Z (sI S f a v) k n (pc + 3) L st) : J G Z S k n pc L (.int v :: va_rf (some a) :: st) := by
  obtain ⟨j, ref, C, T, N, ty, rfl, h10, hlink, hin, hc, hj, hfl, hsame, hty, hnm, hfin, t0, t1, -⟩ := hF
  rw [h2] at hfl
  intro H locs ls hW hS hL
  obtain ⟨q, hq0, hq⟩ := HW_cell hW ha.1 (PF_obj ha.2 h10)
  have hsm : ∀ x, (zs Z).fieldFound? (T j).1 (T j).2.1 (T j).2.2.1 = some x → (zs Z).fieldFound? ref (T j).2.1 (T j).2.2.1 = some x := by
    intro x hx
    rcases hsame with h | h
    · rw [← h]; exact hx
    · exact u_same (hC.ww _ h) x hx
  have hft := fit_num (v := v) h2 hc3 t0 t1 hv
  have hlen : j < (PFf S kd a (flds kd) 0).length := by rw [PFf_len]; exact (List.getElem?_eq_some_iff.mp hfl).1
  have hdecl : (T j).1 = own := by
    rw [hc, Option.map_some, Nat.add_sub_cancel_left] at ho
    exact Option.some.inj ho
  have h := hlink
  exact va_putF hC.1 hC.2.1 hC.ww hin ty hty hnm hC.ow hC.ks.1 hW.1 hW.2 hS q hq hc j hj (hC.ww _ h) hsm hfin hi hdecl (hty j hj) hft.1 hft.2 hlen hd (fun H1 locs1 p1 p2 p3 => kk H1 locs1 ls (HW_putI hW ha h10 hfl hq0 p1 p2) p3 hL)
theorem r_putFR (hC : CX G Z own cc nL ret rm) (hi : (zM Z).name = "<init>") {idx kd f a : Nat} {v : Option Nat} (hF : FL own idx kd f 2 true false) (ho : cls[kd]?.map (fun q => (q.2.1 (f - 32 * kd)).1) = some own) (hd : decode cc pc = .ok (.putfield idx, 3)) (ha : KD S a kd) (kk : J G Z (sR S f a v) k n (pc + 3) L st) : J G Z S k n pc L (va_rf v :: va_rf (some a) :: st) := by
  obtain ⟨j, ref, C, T, N, ty, rfl, h10, hlink, hin, hc, hj, hfl, hsame, hty, hnm, hfin, t0, t1, t2⟩ := hF
  have hfl : (flds kd)[j]? = some true := hfl
  intro H locs ls hW hS hL
  obtain ⟨q, hq0, hq⟩ := HW_cell hW ha.1 (PF_obj ha.2 h10)
  have hsm : ∀ x, (zs Z).fieldFound? (T j).1 (T j).2.1 (T j).2.2.1 = some x → (zs Z).fieldFound? ref (T j).2.1 (T j).2.2.1 = some x := by
    intro x hx
    rcases hsame with h | h
    · rw [← h]; exact hx
    · exact u_same (hC.ww _ h) x hx
  have hft := fit_ref (v := v) (t2 rfl)
  have hlen : j < (PFf S kd a (flds kd) 0).length := by rw [PFf_len]; exact (List.getElem?_eq_some_iff.mp hfl).1
  have hdecl : (T j).1 = own := by
    rw [hc, Option.map_some, Nat.add_sub_cancel_left] at ho
    exact Option.some.inj ho
  have h := hlink
  exact va_putF hC.1 hC.2.1 hC.ww hin ty hty hnm hC.ow hC.ks.1 hW.1 hW.2 hS q hq hc j hj (hC.ww _ h) hsm hfin hi hdecl (hty j hj) hft.1 hft.2 hlen hd (fun H1 locs1 p1 p2 p3 => kk H1 locs1 ls (HW_putR hW ha h10 hfl hq0 p1 p2) p3 hL)
/-! rows of numbers, of references, of longs -/
theorem HW_putA {H H1 : Heap} {a kd q : Nat} {g : Nat → Int32} (hW : HW G S H) (ha : KD S a kd) (h1 : 10 ≤ kd) (h2 : kd < 12) (hq : (va_pl (pL S) (PF G S))[q]? = some (a, PF G S a))
    (p1 : va_P (gD G) cls ((va_pl (pL S) (PF G S)).set q (a, .inl (gC G kd, pN S a, .inl g))) H1) (p2 : va_D (gA G) ((va_pl (pL S) (PF G S)).set q (a, .inl (gC G kd, pN S a, .inl g)))) : HW G (sA S a g) H1 := by
  have e : (va_pl (pL S) (PF G S)).set q (a, .inl (gC G kd, pN S a, .inl g)) = va_pl (pL (sA S a g)) (PF G (sA S a g)) := by
    rw [va_pl_put hW.2 ha.1 hq]
    exact va_pl_congr (PF_upA ha.2 h1 h2)
  rw [e] at p1 p2
  exact ⟨p1, p2⟩
theorem HW_putB {H H1 : Heap} {a kd q : Nat} {g : Nat → Option Nat} (hW : HW G S H) (ha : KD S a kd) (h1 : 12 ≤ kd) (h2 : kd < 14) (hq : (va_pl (pL S) (PF G S))[q]? = some (a, PF G S a))
    (p1 : va_P (gD G) cls ((va_pl (pL S) (PF G S)).set q (a, .inl (gC G kd, pN S a, .inr (.inr (.inr (.inr g)))))) H1) (p2 : va_D (gA G) ((va_pl (pL S) (PF G S)).set q (a, .inl (gC G kd, pN S a, .inr (.inr (.inr (.inr g))))))) : HW G (sB S a g) H1 := by
  have e : (va_pl (pL S) (PF G S)).set q (a, .inl (gC G kd, pN S a, .inr (.inr (.inr (.inr g))))) = va_pl (pL (sB S a g)) (PF G (sB S a g)) := by
    rw [va_pl_put hW.2 ha.1 hq]
    exact va_pl_congr (PF_upB ha.2 h1 h2)
  rw [e] at p1 p2
  exact ⟨p1, p2⟩
theorem HW_putJ {H H1 : Heap} {a q : Nat} {g : Nat → Int64} (hW : HW G S H) (ha : KD S a 14) (hq : (va_pl (pL S) (PF G S))[q]? = some (a, PF G S a))
    (p1 : va_P (gD G) cls ((va_pl (pL S) (PF G S)).set q (a, .inl (gC G 14, pN S a, .inr (.inl g)))) H1) (p2 : va_D (gA G) ((va_pl (pL S) (PF G S)).set q (a, .inl (gC G 14, pN S a, .inr (.inl g))))) : HW G (sJ S a g) H1 := by
  have e : (va_pl (pL S) (PF G S)).set q (a, .inl (gC G 14, pN S a, .inr (.inl g))) = va_pl (pL (sJ S a g)) (PF G (sJ S a g)) := by
    rw [va_pl_put hW.2 ha.1 hq]
    exact va_pl_congr (PF_upJ ha.2)
  rw [e] at p1 p2
  exact ⟨p1, p2⟩
theorem r_iald (hC : CX G Z own cc nL ret rm) {a j : Nat} {i x : Int32} (hd : decode cc pc = .ok (.iaload, 1)) (ha : KD S a 10) (hi : i = nI j) (hj : j < pN S a) (hN : pN S a < 2147483648) (hx : pA S a j = x) (kk : J G Z S k n (pc + 1) L (.int x :: st)) : J G Z S k n pc L (.int i :: va_rf (some a) :: st) := by
  intro H locs ls hW hS hL
  obtain ⟨q, hq0, hq⟩ := HW_cell hW ha.1 (PF_num ha.2 (by omega) (by omega))
  subst hi hx
  refine va_iald hC.1 hC.2.1 hC.ks.1 hW.1 q 0 hq rfl (vp_in_nI hj (by omega)) hd ?_
  rw [nI_clamp (by omega)]
  exact kk H locs ls hW hS hL
theorem r_zald (hC : CX G Z own cc nL ret rm) {a j : Nat} {i x : Int32} (hd : decode cc pc = .ok (.baload, 1)) (ha : KD S a 11) (hi : i = nI j) (hj : j < pN S a) (hN : pN S a < 2147483648) (hx : pA S a j = x) (kk : J G Z S k n (pc + 1) L (.int x :: st)) : J G Z S k n pc L (.int i :: va_rf (some a) :: st) := by
  intro H locs ls hW hS hL
  obtain ⟨q, hq0, hq⟩ := HW_cell hW ha.1 (PF_num ha.2 (by omega) (by omega))
  subst hi hx
  refine va_zald hC.1 hC.2.1 hC.ks.1 hW.1 q 1 hq rfl (vp_in_nI hj (by omega)) hd ?_
  rw [nI_clamp (by omega)]
  exact kk H locs ls hW hS hL
theorem r_aald (hC : CX G Z own cc nL ret rm) {a j kd : Nat} {i : Int32} {x : Option Nat} (hd : decode cc pc = .ok (.aaload, 1)) (ha : KD S a kd) (hkd : kd = 12 ∨ kd = 13) (hi : i = nI j) (hj : j < pN S a) (hN : pN S a < 2147483648) (hx : pB S a j = x) (kk : J G Z S k n (pc + 1) L (va_rf x :: st)) : J G Z S k n pc L (.int i :: va_rf (some a) :: st) := by
  intro H locs ls hW hS hL
  obtain ⟨q, hq0, hq⟩ := HW_cell hW ha.1 (PF_ref ha.2 (by omega) (by omega))
  subst hi hx
  have kk' := kk H locs ls hW hS hL
  rcases hkd with rfl | rfl
  · refine va_aldq hC.1 hC.2.1 hC.ks.1 hW.1 q 2 hq rfl (vp_in_nI hj (by omega)) hd ?_
    rw [nI_clamp (by omega)]
    exact kk'
  · refine va_aldq hC.1 hC.2.1 hC.ks.1 hW.1 q 3 hq rfl (vp_in_nI hj (by omega)) hd ?_
    rw [nI_clamp (by omega)]
    exact kk'
theorem r_lald (hC : CX G Z own cc nL ret rm) {a j : Nat} {i : Int32} {x : Int64} (hd : decode cc pc = .ok (.laload, 1)) (ha : KD S a 14) (hi : i = nI j) (hj : j < pN S a) (hN : pN S a < 2147483648) (hx : pJ S a j = x) (kk : J G Z S k n (pc + 1) L (.long x :: st)) : J G Z S k n pc L (.int i :: va_rf (some a) :: st) := by
  intro H locs ls hW hS hL
  obtain ⟨q, hq0, hq⟩ := HW_cell hW ha.1 (PF_lng ha.2)
  subst hi hx
  refine va_lald hC.1 hC.2.1 hC.ks.1 hW.1 q 4 hq rfl (vp_in_nI hj (by omega)) hd ?_
  rw [nI_clamp (by omega)]
  exact kk H locs ls hW hS hL
theorem r_iast (hC : CX G Z own cc nL ret rm) {a j : Nat} {i x : Int32} (hd : decode cc pc = .ok (.iastore, 1)) (ha : KD S a 10) (hi : i = nI j) (hj : j < pN S a) (hN : pN S a < 2147483648) (kk : J G Z (sA S a (upd (pA S a) j x)) k n (pc + 1) L st) : J G Z S k n pc L (.int x :: .int i :: va_rf (some a) :: st) := by
  intro H locs ls hW hS hL
  obtain ⟨q, hq0, hq⟩ := HW_cell hW ha.1 (PF_num ha.2 (by omega) (by omega))
  subst hi
  refine va_iast hC.1 hC.2.1 hC.ks.1 hW.1 hW.2 hS q 0 hq rfl (vp_in_nI hj (by omega)) hd (fun H1 locs1 p1 p2 p3 => ?_)
  rw [nI_clamp (by omega)] at p1 p2
  exact kk H1 locs1 ls (HW_putA hW ha (by omega) (by omega) hq0 p1 p2) p3 hL
theorem r_zast (hC : CX G Z own cc nL ret rm) {a j : Nat} {i x : Int32} (hd : decode cc pc = .ok (.bastore, 1)) (ha : KD S a 11) (hi : i = nI j) (hj : j < pN S a) (hN : pN S a < 2147483648) (hx : x = 0 ∨ x = 1) (kk : J G Z (sA S a (upd (pA S a) j x)) k n (pc + 1) L st) : J G Z S k n pc L (.int x :: .int i :: va_rf (some a) :: st) := by
  intro H locs ls hW hS hL
  obtain ⟨q, hq0, hq⟩ := HW_cell hW ha.1 (PF_num ha.2 (by omega) (by omega))
  subst hi
  refine va_zast hC.1 hC.2.1 hC.ks.1 hW.1 hW.2 hS q 1 hq rfl (vp_in_nI hj (by omega)) hd (fun H1 locs1 p1 p2 p3 => ?_)
  rw [nI_clamp (by omega), show vp_nar .boolean x = x by rcases hx with e | e <;> subst e <;> rfl] at p1 p2
  exact kk H1 locs1 ls (HW_putA hW ha (by omega) (by omega) hq0 p1 p2) p3 hL
theorem r_last (hC : CX G Z own cc nL ret rm) {a j : Nat} {i : Int32} {x : Int64} (hd : decode cc pc = .ok (.lastore, 1)) (ha : KD S a 14) (hi : i = nI j) (hj : j < pN S a) (hN : pN S a < 2147483648) (kk : J G Z (sJ S a (vp_updL (pJ S a) j x)) k n (pc + 1) L st) : J G Z S k n pc L (.long x :: .int i :: va_rf (some a) :: st) := by
  intro H locs ls hW hS hL
  obtain ⟨q, hq0, hq⟩ := HW_cell hW ha.1 (PF_lng ha.2)
  subst hi
  refine va_last hC.1 hC.2.1 hC.ks.1 hW.1 hW.2 hS q 4 hq rfl (vp_in_nI hj (by omega)) hd (fun H1 locs1 p1 p2 p3 => ?_)
  rw [nI_clamp (by omega)] at p1 p2
  exact kk H1 locs1 ls (HW_putJ hW ha hq0 p1 p2) p3 hL
/-- a leaf, or null, into a row of leaves -/
theorem r_aastL (hC : CX G Z own cc nL ret rm) {a j : Nat} {i : Int32} {v : Option Nat} (hd : decode cc pc = .ok (.aastore, 1)) (ha : KD S a 12) (hi : i = nI j) (hj : j < pN S a) (hN : pN S a < 2147483648) (hv : ∀ y, v = some y → KD S y 3) (kk : J G Z (sB S a (va_up (pB S a) j v)) k n (pc + 1) L st) : J G Z S k n pc L (va_rf v :: .int i :: va_rf (some a) :: st) := by
  intro H locs ls hW hS hL
  obtain ⟨q, hq0, hq⟩ := HW_cell hW ha.1 (PF_ref ha.2 (by omega) (by omega))
  subst hi
  cases v with
  | none =>
    refine va_astqN hC.1 hC.2.1 hC.ks.1 hW.1 hW.2 hS q 2 hq rfl (vp_in_nI hj (by omega)) hd (fun H1 locs1 p1 p2 p3 => ?_)
    rw [nI_clamp (by omega)] at p1 p2
    exact kk H1 locs1 ls (HW_putB hW ha (by omega) (by omega) hq0 p1 p2) p3 hL
  | some y =>
    obtain ⟨q2, -, hq2⟩ := HW_cell hW (hv y rfl).1 (PF_obj (hv y rfl).2 (by omega))
    refine va_astq hC.1 hC.2.1 hC.ks.1 hW.1 hW.2 hS q 2 q2 3 (r := (RX3, TX3, 6)) hq rfl hq2 rfl (vp_in_nI hj (by omega)) hd (fun H1 locs1 p1 p2 p3 => ?_)
    rw [nI_clamp (by omega)] at p1 p2
    exact kk H1 locs1 ls (HW_putB hW ha (by omega) (by omega) hq0 p1 p2) p3 hL
/-- an object of the kind kd into a row of Objects -/
theorem r_aastO (hC : CX G Z own cc nL ret rm) {a j kd v : Nat} {i : Int32} {r : vw_C} (hd : decode cc pc = .ok (.aastore, 1)) (ha : KD S a 13) (hi : i = nI j) (hj : j < pN S a) (hN : pN S a < 2147483648) (hv : KD S v kd) (h10 : kd < 10) (hr : cls[kd]? = some r) (hw : Cond.castable r.1 "java/lang/Object" ∈ TBL) (kk : J G Z (sB S a (va_up (pB S a) j (some v))) k n (pc + 1) L st) : J G Z S k n pc L (va_rf (some v) :: .int i :: va_rf (some a) :: st) := by
  intro H locs ls hW hS hL
  obtain ⟨q, hq0, hq⟩ := HW_cell hW ha.1 (PF_ref ha.2 (by omega) (by omega))
  obtain ⟨q2, -, hq2⟩ := HW_cell hW hv.1 (PF_obj hv.2 h10)
  subst hi
  refine va_astqO hC.1 hC.2.1 hC.ks.1 hW.1 hW.2 hS q 3 q2 kd (r := r) hq rfl (va_Nw.of rfl (hC.ww _ hw)) hq2 hr (vp_in_nI hj (by omega)) hd (fun H1 locs1 p1 p2 p3 => ?_)
  rw [nI_clamp (by omega)] at p1 p2
  exact kk H1 locs1 ls (HW_putB hW ha (by omega) (by omega) hq0 p1 p2) p3 hL
theorem r_alen (hC : CX G Z own cc nL ret rm) {a kd : Nat} (hd : decode cc pc = .ok (.arraylength, 1)) (ha : KD S a kd) (h1 : 10 ≤ kd) (h2 : kd < 15) {N : Nat} (hN : pN S a = N) (kk : J G Z S k n (pc + 1) L (.int (nI N) :: st)) : J G Z S k n pc L (va_rf (some a) :: st) := by
  intro H locs ls hW hS hL
  subst hN
  have kk' := kk H locs ls hW hS hL
  rcases (show kd = 10 ∨ kd = 11 ∨ kd = 12 ∨ kd = 13 ∨ kd = 14 by omega) with rfl | rfl | rfl | rfl | rfl
  · obtain ⟨q, hq0, hq⟩ := HW_cell hW ha.1 (PF_num ha.2 (by omega) (by omega))
    exact va_alen hC.1 hC.2.1 hC.ks.1 hW.1 q 0 hq rfl rfl hd kk'
  · obtain ⟨q, hq0, hq⟩ := HW_cell hW ha.1 (PF_num ha.2 (by omega) (by omega))
    exact va_alen hC.1 hC.2.1 hC.ks.1 hW.1 q 1 hq rfl rfl hd kk'
  · obtain ⟨q, hq0, hq⟩ := HW_cell hW ha.1 (PF_ref ha.2 (by omega) (by omega))
    exact va_alen hC.1 hC.2.1 hC.ks.1 hW.1 q 2 hq rfl rfl hd kk'
  · obtain ⟨q, hq0, hq⟩ := HW_cell hW ha.1 (PF_ref ha.2 (by omega) (by omega))
    exact va_alen hC.1 hC.2.1 hC.ks.1 hW.1 q 3 hq rfl rfl hd kk'
  · obtain ⟨q, hq0, hq⟩ := HW_cell hW ha.1 (PF_lng ha.2)
    exact va_alen hC.1 hC.2.1 hC.ks.1 hW.1 q 4 hq rfl rfl hd kk'
/-! new objects and rows -/
def NW (own : String) (idx kd N : Nat) : Prop := ∃ (C : String) (T : u_T) (ty : Nat → FieldType), kd < 10 ∧ Cond.classLink own idx C ∈ TBL ∧ Cond.instantiable C N ∈ TBL ∧ Cond.initialized C ∈ TBL ∧
  (∀ w ∈ u_ws C T N, w ∈ TBL) ∧ (∀ i, i < N → parseFieldDescriptor (T i).2.2.1 = some (ty i)) ∧ cls[kd]? = some (C, T, N) ∧ ∀ i, i < N → defaultValue (ty i) = vp_V (dflt kd) i
theorem r_new (hC : CX G Z own cc nL ret rm) {idx kd N : Nat} (hn : NW own idx kd N) (hd : decode cc pc = .ok (.new idx, 3)) (hk : k + 1 ≤ rm.cells) (hs : n + N ≤ rm.slots)
    (kk : ∀ q : Nat, q ∉ pL S → G.1 ≤ q → J G Z (sO S q kd) (k + 1) (n + N) (pc + 3) L (va_rf (some q) :: st)) : J G Z S k n pc L st := by
  obtain ⟨C, T, ty, h10, w1, w2, w3, hin, hty, hc, hdf⟩ := hn
  intro H locs ls hW hS hL
  refine va_new (ci := kd) (fs := dflt kd) hC.1 hC.2.1 hC.ww hin ty hty hC.ow (hC.ww _ w1) (hC.ww _ w2) (hC.ww _ w3) hC.ks.1 hW.1 hW.2 hS hC.A hc hdf (by rw [hC.rr]; exact hk) (by rw [hC.rr]; exact hs) hd (fun q H1 p1 p2 p3 => ?_)
  have hq := nin_of_D p2
  have hG : G.1 ≤ q := p2.2 (va_pl (pL S) (PF G S)).length (q, _) (by rw [List.getElem?_append_right (Nat.le_refl _), Nat.sub_self]; rfl)
  rw [PF_newO hq h10] at p1 p2
  exact kk q hq hG H1 locs ls ⟨p1, p2⟩ p3 hL
theorem r_newI (hC : CX G Z own cc nL ret rm) {i : Int32} {N : Nat} (hw : Cond.arrayClass .int ∈ TBL) (hi : i = nI N) (hN : N ≤ 65536) (hd : decode cc pc = .ok (.newarray .int, 2)) (hk : k + 1 ≤ rm.cells) (hs : n + N ≤ rm.slots)
    (kk : ∀ q : Nat, q ∉ pL S → G.1 ≤ q → J G Z (sW S q 10 N) (k + 1) (n + N) (pc + 2) L (va_rf (some q) :: st)) : J G Z S k n pc L (.int i :: st) := by
  intro H locs ls hW hS hL
  subst hi
  refine va_newa (atype := .int) (ty := .int) (a0 := (N, .inl (fun _ => 0))) (N' := N) hC.1 hC.2.1 (hC.ww _ hw) rfl hC.ks.1 hW.1 hW.2 hS hC.A (fun cA => rfl) (nI_pos (by omega)) (nI_clamp (by omega)) (by show N * 4 ≤ 536870912; omega) (by rw [hC.rr]; exact hk) (by rw [hC.rr]; exact hs) hd (fun q cA H1 pk p1 p2 p3 => ?_)
  have hq := nin_of_D p2
  have hG : G.1 ≤ q := p2.2 (va_pl (pL S) (PF G S)).length (q, _) (by rw [List.getElem?_append_right (Nat.le_refl _), Nat.sub_self]; rfl)
  have e1 : (zs Z).vm.findClass ("[" ++ (FieldType.int).toString) = some cA := (pk.2 5 (cA, .int) rfl).2
  have e2 : (zs Z).vm.findClass ("[" ++ (FieldType.int).toString) = some (gC G 10) := (hC.ks.1.2 0 (gC G 10, .int) rfl).2
  have e3 : cA = gC G 10 := Option.some.inj (e1.symm.trans e2)
  subst e3
  rw [PF_newW hq (PF_newN (by omega) (by omega))] at p1 p2
  exact kk q hq hG H1 locs ls ⟨p1, p2⟩ p3 hL
theorem r_newZ (hC : CX G Z own cc nL ret rm) {i : Int32} {N : Nat} (hw : Cond.arrayClass .boolean ∈ TBL) (hi : i = nI N) (hN : N ≤ 65536) (hd : decode cc pc = .ok (.newarray .boolean, 2)) (hk : k + 1 ≤ rm.cells) (hs : n + N ≤ rm.slots)
    (kk : ∀ q : Nat, q ∉ pL S → G.1 ≤ q → J G Z (sW S q 11 N) (k + 1) (n + N) (pc + 2) L (va_rf (some q) :: st)) : J G Z S k n pc L (.int i :: st) := by
  intro H locs ls hW hS hL
  subst hi
  refine va_newa (atype := .boolean) (ty := .boolean) (a0 := (N, .inl (fun _ => 0))) (N' := N) hC.1 hC.2.1 (hC.ww _ hw) rfl hC.ks.1 hW.1 hW.2 hS hC.A (fun cA => rfl) (nI_pos (by omega)) (nI_clamp (by omega)) (by show N * 1 ≤ 536870912; omega) (by rw [hC.rr]; exact hk) (by rw [hC.rr]; exact hs) hd (fun q cA H1 pk p1 p2 p3 => ?_)
  have hq := nin_of_D p2
  have hG : G.1 ≤ q := p2.2 (va_pl (pL S) (PF G S)).length (q, _) (by rw [List.getElem?_append_right (Nat.le_refl _), Nat.sub_self]; rfl)
  have e1 : (zs Z).vm.findClass ("[" ++ (FieldType.boolean).toString) = some cA := (pk.2 5 (cA, .boolean) rfl).2
  have e2 : (zs Z).vm.findClass ("[" ++ (FieldType.boolean).toString) = some (gC G 11) := (hC.ks.1.2 1 (gC G 11, .boolean) rfl).2
  have e3 : cA = gC G 11 := Option.some.inj (e1.symm.trans e2)
  subst e3
  rw [PF_newW hq (PF_newN (by omega) (by omega))] at p1 p2
  exact kk q hq hG H1 locs ls ⟨p1, p2⟩ p3 hL
theorem r_newJ (hC : CX G Z own cc nL ret rm) {i : Int32} {N : Nat} (hw : Cond.arrayClass .long ∈ TBL) (hi : i = nI N) (hN : N ≤ 65536) (hd : decode cc pc = .ok (.newarray .long, 2)) (hk : k + 1 ≤ rm.cells) (hs : n + N ≤ rm.slots)
    (kk : ∀ q : Nat, q ∉ pL S → G.1 ≤ q → J G Z (sW S q 14 N) (k + 1) (n + N) (pc + 2) L (va_rf (some q) :: st)) : J G Z S k n pc L (.int i :: st) := by
  intro H locs ls hW hS hL
  subst hi
  refine va_newa (atype := .long) (ty := .long) (a0 := (N, .inr (.inl (fun _ => 0)))) (N' := N) hC.1 hC.2.1 (hC.ww _ hw) rfl hC.ks.1 hW.1 hW.2 hS hC.A (fun cA => rfl) (nI_pos (by omega)) (nI_clamp (by omega)) (by show N * 8 ≤ 536870912; omega) (by rw [hC.rr]; exact hk) (by rw [hC.rr]; exact hs) hd (fun q cA H1 pk p1 p2 p3 => ?_)
  have hq := nin_of_D p2
  have hG : G.1 ≤ q := p2.2 (va_pl (pL S) (PF G S)).length (q, _) (by rw [List.getElem?_append_right (Nat.le_refl _), Nat.sub_self]; rfl)
  have e1 : (zs Z).vm.findClass ("[" ++ (FieldType.long).toString) = some cA := (pk.2 5 (cA, .long) rfl).2
  have e2 : (zs Z).vm.findClass ("[" ++ (FieldType.long).toString) = some (gC G 14) := (hC.ks.1.2 4 (gC G 14, .long) rfl).2
  have e3 : cA = gC G 14 := Option.some.inj (e1.symm.trans e2)
  subst e3
  rw [PF_newW hq PF_newJ] at p1 p2
  exact kk q hq hG H1 locs ls ⟨p1, p2⟩ p3 hL
theorem r_newL (hC : CX G Z own cc nL ret rm) {i : Int32} {N idx : Nat} (hw : Cond.classLink own idx "Thumbreel$Leaf" ∈ TBL) (hi : i = nI N) (hN : N ≤ 65536) (hd : decode cc pc = .ok (.anewarray idx, 3)) (hk : k + 1 ≤ rm.cells) (hs : n + N ≤ rm.slots)
    (kk : ∀ q : Nat, q ∉ pL S → G.1 ≤ q → J G Z (sW S q 12 N) (k + 1) (n + N) (pc + 3) L (va_rf (some q) :: st)) : J G Z S k n pc L (.int i :: st) := by
  intro H locs ls hW hS hL
  subst hi
  refine va_newq (C := "Thumbreel$Leaf") (N' := N) hC.1 hC.2.1 hC.ow (hC.ww _ hw) hC.ks.2.2.2.2.2.2.2.1 hC.ks.1 hW.1 hW.2 hS hC.A (nI_pos (by omega)) (nI_clamp (by omega)) (by omega) (by rw [hC.rr]; exact hk) (by rw [hC.rr]; exact hs) hd (fun q cA H1 pk p1 p2 p3 => ?_)
  have hq := nin_of_D p2
  have hG : G.1 ≤ q := p2.2 (va_pl (pL S) (PF G S)).length (q, _) (by rw [List.getElem?_append_right (Nat.le_refl _), Nat.sub_self]; rfl)
  obtain ⟨-, -, -, -, -, e1⟩ := (pk.2 5 (cA, .object "Thumbreel$Leaf") rfl).2
  obtain ⟨-, -, -, -, -, e2⟩ := (hC.ks.1.2 2 (gC G 12, .object "Thumbreel$Leaf") rfl).2
  have e3 : cA = gC G 12 := Option.some.inj (e1.symm.trans e2)
  subst e3
  rw [PF_newW hq (PF_newQ (by omega) (by omega))] at p1 p2
  exact kk q hq hG H1 locs ls ⟨p1, p2⟩ p3 hL
theorem r_newB (hC : CX G Z own cc nL ret rm) {i : Int32} {N idx : Nat} (hw : Cond.classLink own idx "java/lang/Object" ∈ TBL) (hi : i = nI N) (hN : N ≤ 65536) (hd : decode cc pc = .ok (.anewarray idx, 3)) (hk : k + 1 ≤ rm.cells) (hs : n + N ≤ rm.slots)
    (kk : ∀ q : Nat, q ∉ pL S → G.1 ≤ q → J G Z (sW S q 13 N) (k + 1) (n + N) (pc + 3) L (va_rf (some q) :: st)) : J G Z S k n pc L (.int i :: st) := by
  intro H locs ls hW hS hL
  subst hi
  refine va_newq (C := "java/lang/Object") (N' := N) hC.1 hC.2.1 hC.ow (hC.ww _ hw) hC.ks.2.2.2.2.2.2.1 hC.ks.1 hW.1 hW.2 hS hC.A (nI_pos (by omega)) (nI_clamp (by omega)) (by omega) (by rw [hC.rr]; exact hk) (by rw [hC.rr]; exact hs) hd (fun q cA H1 pk p1 p2 p3 => ?_)
  have hq := nin_of_D p2
  have hG : G.1 ≤ q := p2.2 (va_pl (pL S) (PF G S)).length (q, _) (by rw [List.getElem?_append_right (Nat.le_refl _), Nat.sub_self]; rfl)
  obtain ⟨-, -, -, -, -, e1⟩ := (pk.2 5 (cA, .object "java/lang/Object") rfl).2
  obtain ⟨-, -, -, -, -, e2⟩ := (hC.ks.1.2 3 (gC G 13, .object "java/lang/Object") rfl).2
  have e3 : cA = gC G 13 := Option.some.inj (e1.symm.trans e2)
  subst e3
  rw [PF_newW hq (PF_newQ (by omega) (by omega))] at p1 p2
  exact kk q hq hG H1 locs ls ⟨p1, p2⟩ p3 hL
theorem r_objInit (hC : CX G Z own cc nL ret rm) {idx a : Nat} (w1 : Cond.methodLink own idx Lib.objectInit ∈ TBL) (w2 : Cond.instanceMethod Lib.objectInit ∈ TBL) (w3 : Cond.code Lib.objectInit ⟨#[0xb1]⟩ 1 none ∈ TBL) (hd : decode cc pc = .ok (.invokespecial idx, 3)) (hf : 1 ≤ rm.frames) (hl : (st.map fun v => v.category).sum + 12 ≤ rm.locals) (kk : J G Z S k n (pc + 3) L st) : J G Z S k n pc L (va_rf (some a) :: st) := by
  intro H locs ls hW hS hL
  exact W.objInit hC.1 hC.2.1 hC.ow (hC.ww _ w1) (hC.ww _ w2) (hC.ww _ w3) rfl hL.1.1 rfl hd (by rw [hC.rr]; exact hf) (by rw [hC.rr]; show 2 * 0 + _ + 12 ≤ _; omega) (kk H locs ls hW hS hL)
theorem r_mmin (hC : CX G Z own cc nL ret rm) {idx : Nat} {x y : Int32} (w1 : Cond.methodLink own idx Lib.Math.min.name ∈ TBL) (w2 : Cond.static Lib.Math.min.name ∈ TBL) (w3 : Cond.initialized "java/lang/Math" ∈ TBL) (w4 : Cond.code Lib.Math.min.name Lib.Math.min.code 2 (some .int) ∈ TBL) (hd : decode cc pc = .ok (.invokestatic idx, 3)) (hf : 1 ≤ rm.frames) (hl : (st.map fun v => v.category).sum + 13 ≤ rm.locals) (hk : k ≤ rm.cells) (hs : n ≤ rm.slots) (kk : J G Z S k n (pc + 3) L (.int (if y < x then y else x) :: st)) : J G Z S k n pc L (.int y :: .int x :: st) := by
  intro H locs ls hW hS hL
  exact va_mmin hC.1 hC.2.1 hL.1.1.symm hC.ow (hC.ww _ w1) (hC.ww _ w2) (hC.ww _ w3) (hC.ww _ w4) (by rw [hC.rr]; exact hf) (by rw [hC.rr]; exact hl) (by rw [hC.rr]; exact hk) (by rw [hC.rr]; exact hs) hd (kk H locs ls hW hS hL)
theorem r_mmax (hC : CX G Z own cc nL ret rm) {idx : Nat} {x y : Int32} (w1 : Cond.methodLink own idx Lib.Math.max.name ∈ TBL) (w2 : Cond.static Lib.Math.max.name ∈ TBL) (w3 : Cond.initialized "java/lang/Math" ∈ TBL) (w4 : Cond.code Lib.Math.max.name Lib.Math.max.code 2 (some .int) ∈ TBL) (hd : decode cc pc = .ok (.invokestatic idx, 3)) (hf : 1 ≤ rm.frames) (hl : (st.map fun v => v.category).sum + 13 ≤ rm.locals) (hk : k ≤ rm.cells) (hs : n ≤ rm.slots) (kk : J G Z S k n (pc + 3) L (.int (if x < y then y else x) :: st)) : J G Z S k n pc L (.int y :: .int x :: st) := by
  intro H locs ls hW hS hL
  exact va_mmax hC.1 hC.2.1 hL.1.1.symm hC.ow (hC.ww _ w1) (hC.ww _ w2) (hC.ww _ w3) (hC.ww _ w4) (by rw [hC.rr]; exact hf) (by rw [hC.rr]; exact hl) (by rw [hC.rr]; exact hk) (by rw [hC.rr]; exact hs) hd (kk H locs ls hW hS hL)
end JR
end
section
/-! ===== contracts over pools: entry, end, calls, throws ===== -/
def QC (G : GG) (Po : Option Value → PS → Prop) : Array Value → State → Outcome → State → Prop := fun _ st o t => (∃ (v : Option Value) (S' : PS), o = .returned v ∧ Po v S' ∧ HW G S' t.heap) ∧ va_F (gA G) st t
def XC (G : GG) (Xo : String → Prop) (S : PS) : String → State → State → Prop := fun E st t => Xo E ∧ HW G S t.heap ∧ va_F (gA G) st t
/-- a method's contract from the pool S and the arguments as: what it answers and leaves (Po), which exceptions leave it (Xo, the pool as it was) -/
def MT (l : Launch) (G : GG) (S : PS) (y : MethodName) (cc : ByteArray) (nL : Nat) (ret : Option FieldType) (rm : Room) (as : List Value) (Po : Option Value → PS → Prop) (Xo : String → Prop) : Prop :=
  vx_Met l y (wsm y cc nL ret) rm (va_Pc as (fun U => KS G U U.heap ∧ HW G S U.heap)) (QC G Po) (XC G Xo S) rm.cells rm.slots (gA G)
/-- the same of a method with a table of its own that throws nothing -/
def MTw (l : Launch) (G : GG) (S : PS) (y : MethodName) (cc : ByteArray) (nL : Nat) (ret : Option FieldType) (hh : List (Nat × Nat × Nat × Nat)) (rm : Room) (as : List Value) (Po : Option Value → PS → Prop) : Prop :=
  Met l y (wsw y cc nL ret hh) rm (va_Pc as (fun U => KS G U U.heap ∧ HW G S U.heap)) (QC G Po) rm.cells rm.slots (gA G)
/-- what the end of a body must come to -/
def RQ (G : GG) (Z : ZZ) (Po : Option Value → PS → Prop) (Xo : String → Prop) (S : PS) (rm : Room) : Prop :=
  ∀ t : State, vx_MQ (zb Z) (QC G Po) (XC G Xo S) (za Z) (zs Z) rm.cells rm.slots (gA G) t → zQ Z t
theorem W_mono {p : Program} {l : Launch} {e : Env} {R : Room} {s : State} {m : MethodId} {args : Array Value} {below : List Frame} {meth : Method} {c : Code} {H : Heap} {locs : List Loc} {cells slots : Nat} {Q Q' : State → Prop} {g : JFrame} (h : ∀ t, Q t → Q' t)
    (w : W p l e R s m args below meth c H locs cells slots Q g) : W p l e R s m args below meth c H locs cells slots Q' g := by
  intro T hT X
  obtain ⟨t, a, b⟩ := w T hT X
  exact ⟨t, a, h t b⟩
theorem HW_kept {G : GG} {S : PS} {H H1 : Heap} (h : HW G S H) (hq : ∀ q : Nat, q < H.size → H1[q]? = H[q]?) : HW G S H1 :=
  ⟨h.1.kept (fun k q hk => hq q.1 (h.1 k q hk).lt), h.2⟩
/-- a body, from its entry -/
theorem MT_of {l : Launch} {G : GG} {S : PS} {y : MethodName} {cc : ByteArray} {nL : Nat} {ret : Option FieldType} {rm : Room} {as : List Value} {Po : Option Value → PS → Prop} {Xo : String → Prop} (hy : plainName y.cls = true) (hst : l.stackTraces = false)
    (hc : as.all (fun v => v.category == 1) = true) (hn : as.length ≤ nL)
    (body : ∀ Z : ZZ, CX G Z y.cls cc nL ret rm → zl Z = l → (zM Z).name = y.name → (∀ x ∈ (zc Z).exceptionTable.toList, False) → RQ G Z Po Xo S rm → J G Z S 0 0 0 (as.map some ++ List.replicate (nL - as.length) none) []) :
    MT l G S y cc nL ret rm as Po Xo := by
  refine vx_ofW (cc := cc) (maxL := nL) (ret := ret) hy rfl ?_
  intro p e s m args below meth c s₁ B hml ht hP
  obtain ⟨rfl, hK, hW⟩ := hP
  have hts : ∀ w ∈ TBL, w.before as.toArray s = true := fun w hw => atoms_spec (ws := wsm y cc nL ret) B.pre w (List.mem_cons_of_mem _ hw)
  have k := body (p, l, e, (headSpec (wsm y cc nL ret) rm).room, s, m, as.toArray, below, meth, c, vx_MQ below (QC G Po) (XC G Xo S) as.toArray s rm.cells rm.slots (gA G))
    ⟨B.exec, B.bytes, B.returns, findClass_of_methodNamed B.named, hml, hts, hK, B.notSynchronized, rfl, hst⟩ rfl (name_of_methodNamed B.named B.method).1 ht (fun t h => h)
  rw [lg_entry_eq]
  exact k s.heap [] _ hW va_S.rf (by show LH _ c.maxLocals _; rw [hml]; exact LH_entry as hc hn)
theorem vx_ofWw {l : Launch} {y : MethodName} {ws ws' : List Cond} {rm : Room} {Pc : Array Value → State → Prop} {Qc : Array Value → State → Outcome → State → Prop} {mc ms : Nat} {free : Addr → Prop} {cc : ByteArray} {maxL : Nat} {ret : Option FieldType} {hh : List (Nat × Nat × Nat × Nat)}
    (hy : plainName y.cls = true) (hw : ws = Cond.codeWith y cc maxL ret hh :: ws')
    (body : ∀ p e s m args below meth c s₁, BodyLoose p l y (headSpec ws rm) cc maxL ret e s m args below meth c s₁ → c.maxLocals = maxL → c.exceptionTable.toList = tableOf hh → Pc args s →
      W p l e (headSpec ws rm).room s m args below meth c s.heap [] 0 0 (MQ below Qc args s mc ms free) (entryFrame m args maxL)) : Met l y ws rm Pc Qc mc ms free := by
  refine MetFree.of_bodyS (code := cc) (maxLocals := maxL) (ret := ret) hy ?_ ?_
  · intro args s m h hn
    obtain ⟨m9, meth, c, hn9, h1, h2, h3, h4, -, h5, h6, -⟩ := Cond.codeWith_spec (atoms_spec (ws := ws) h _ (by rw [hw]; exact List.mem_cons_self))
    cases hn.symm.trans hn9
    exact ⟨meth, c, h1, h2, h3, h4, h5, h6⟩
  · intro p e s m args below meth c s₁ B hml hP _
    have hh0 : s₁.heap = s.heap := by rw [B.state]; rfl
    have hw9 : (Cond.codeWith y cc maxL ret hh).before args s = true := atoms_spec (ws := ws) B.pre _ (by rw [hw]; exact List.mem_cons_self)
    obtain ⟨t, a1, o, b1, b2, b3⟩ := body p e s m args below meth c s₁ B hml (vx_table (x := y) B hw9) hP s₁ hh0 (Stand.of_body B)
    exact ⟨t, o, a1, b1, b2, b3⟩
theorem MTw_of {l : Launch} {G : GG} {S : PS} {y : MethodName} {cc : ByteArray} {nL : Nat} {ret : Option FieldType} {hh : List (Nat × Nat × Nat × Nat)} {rm : Room} {as : List Value} {Po : Option Value → PS → Prop} (hy : plainName y.cls = true) (hst : l.stackTraces = false)
    (hc : as.all (fun v => v.category == 1) = true) (hn : as.length ≤ nL)
    (body : ∀ Z : ZZ, CX G Z y.cls cc nL ret rm → zl Z = l → (zM Z).name = y.name → (zc Z).exceptionTable.toList = tableOf hh → RQ G Z Po (fun _ => False) S rm → J G Z S 0 0 0 (as.map some ++ List.replicate (nL - as.length) none) []) :
    MTw l G S y cc nL ret hh rm as Po := by
  refine vx_ofWw (cc := cc) (maxL := nL) (ret := ret) hy rfl ?_
  intro p e s m args below meth c s₁ B hml ht hP
  obtain ⟨rfl, hK, hW⟩ := hP
  have hts : ∀ w ∈ TBL, w.before as.toArray s = true := fun w hw => atoms_spec (ws := wsw y cc nL ret hh) B.pre w (List.mem_cons_of_mem _ hw)
  have k := body (p, l, e, (headSpec (wsw y cc nL ret hh) rm).room, s, m, as.toArray, below, meth, c, MQ below (QC G Po) as.toArray s rm.cells rm.slots (gA G))
    ⟨B.exec, B.bytes, B.returns, findClass_of_methodNamed B.named, hml, hts, hK, B.notSynchronized, rfl, hst⟩ rfl (name_of_methodNamed B.named B.method).1 ht (fun t h => by
      obtain ⟨o, h1, h2, ⟨h3, h4⟩ | ⟨q, -, E, ce, L, ⟨h5, -⟩, -⟩⟩ := h
      · exact ⟨o, h1, h2, h3, h4⟩
      · exact h5.elim)
  rw [lg_entry_eq]
  exact k s.heap [] _ hW va_S.rf (by show LH _ c.maxLocals _; rw [hml]; exact LH_entry as hc hn)
section JE
variable {G : GG} {Z : ZZ} {own : String} {cc : ByteArray} {nL : Nat} {ret : Option FieldType} {rm : Room} {S S0 : PS} {k n pc : Nat} {L : List (Option Value)} {st : List Value} {Po : Option Value → PS → Prop} {Xo : String → Prop}
theorem rq_of (hQ : RQ G Z Po Xo S0 rm) {H : Heap} {locs : List Loc} {g : JFrame} (h : W (zp Z) (zl Z) (ze Z) (zR Z) (zs Z) (zm Z) (za Z) (zb Z) (zM Z) (zc Z) H locs rm.cells rm.slots (MQ (zb Z) (QC G Po) (za Z) (zs Z) rm.cells rm.slots (gA G)) g) (hk : k ≤ rm.cells) (hs : n ≤ rm.slots) :
    W (zp Z) (zl Z) (ze Z) (zR Z) (zs Z) (zm Z) (za Z) (zb Z) (zM Z) (zc Z) H locs k n (zQ Z) g := W.widen hk hs (W_mono hQ (vx_ret h))
theorem r_iret (hC : CX G Z own cc nL ret rm) (hQ : RQ G Z Po Xo S0 rm) (hr : ret = some .int) {v : Int32} (hd : decode cc pc = .ok (.ireturn, 1)) (hk : k ≤ rm.cells) (hs : n ≤ rm.slots) (hp : Po (some (.int v)) S) : J G Z S k n pc L [.int v] := by
  intro H locs ls hW hS hL
  exact rq_of hQ (W.iret hC.1 hC.2.1 (hC.2.2.1.trans hr) (fun t ht _ => ⟨⟨_, S, rfl, hp, by rw [ht]; exact hW⟩, hS.F ht⟩) hS.2.2 hd hC.2.2.2.2.2.2.2.1) hk hs
theorem r_zret (hC : CX G Z own cc nL ret rm) (hQ : RQ G Z Po Xo S0 rm) (hr : ret = some .boolean) {v : Int32} (hv : v = 0 ∨ v = 1) (hd : decode cc pc = .ok (.ireturn, 1)) (hk : k ≤ rm.cells) (hs : n ≤ rm.slots) (hp : Po (some (.int v)) S) : J G Z S k n pc L [.int v] := by
  intro H locs ls hW hS hL
  exact rq_of hQ (W.zret hC.1 hC.2.1 (hC.2.2.1.trans hr) (by rcases hv with e | e <;> subst e <;> rfl) (fun t ht _ => ⟨⟨_, S, rfl, hp, by rw [ht]; exact hW⟩, hS.F ht⟩) hS.2.2 hd hC.2.2.2.2.2.2.2.1) hk hs
theorem r_vret (hC : CX G Z own cc nL ret rm) (hQ : RQ G Z Po Xo S0 rm) (hr : ret = none) (hd : decode cc pc = .ok (.return_, 1)) (hk : k ≤ rm.cells) (hs : n ≤ rm.slots) (hp : Po none S) : J G Z S k n pc L [] := by
  intro H locs ls hW hS hL
  exact rq_of hQ (W.vret hC.1 hC.2.1 (hC.2.2.1.trans hr) (fun t ht _ => ⟨⟨_, S, rfl, hp, by rw [ht]; exact hW⟩, hS.F ht⟩) hS.2.2 hd hC.2.2.2.2.2.2.2.1) hk hs
theorem r_aret (hC : CX G Z own cc nL ret rm) (hQ : RQ G Z Po Xo S0 rm) {rt : FieldType} (hr : ret = some rt) (hrt : (∃ n, rt = .object n) ∨ ∃ t, rt = .array t) {v : Option Nat} (hd : decode cc pc = .ok (.areturn, 1)) (hk : k ≤ rm.cells) (hs : n ≤ rm.slots) (hp : Po (some (va_rf v)) S) : J G Z S k n pc L [va_rf v] := by
  intro H locs ls hW hS hL
  exact rq_of hQ (W.aret hC.1 hC.2.1 (hC.2.2.1.trans hr) hrt (by cases v <;> first | exact Or.inl rfl | exact Or.inr ⟨_, rfl⟩) (fun t ht _ => ⟨⟨_, S, rfl, hp, by rw [ht]; exact hW⟩, hS.F ht⟩) hS.2.2 hd hC.2.2.2.2.2.2.2.1) hk hs
/-- an exception goes on to the caller -/
theorem r_out (hC : CX G Z own cc nL ret rm) (hQ : RQ G Z Po Xo S rm) (ht : ∀ x ∈ (zc Z).exceptionTable.toList, False) {E : String} (hk : k ≤ rm.cells) (hs : n ≤ rm.slots) (hx : Xo E) : JX G Z S k n pc L st E := by
  intro H locs ls q ce hW hS hL h1 h2 h3 T hT X
  obtain ⟨t, a, b⟩ := vx_out (Qc := QC G Po) (XC := XC G Xo S) (mc := rm.cells) (ms := rm.slots) (free := gA G) (fun x hx => (ht x hx).elim) hC.2.2.2.2.2.2.2.1 h1 h2 h3 (fun t ht _ => ⟨hx, by rw [ht]; exact hW, hS.F ht⟩) hS.2.2 hk hs T hT X
  exact ⟨t, a, hQ t b⟩
/-- 'throw new E("text")' -/
theorem r_throw (hC : CX G Z own cc nL ret rm) (hQ : RQ G Z Po Xo S rm) (ht : ∀ x ∈ (zc Z).exceptionTable.toList, False) {E text : String} {names : List String} {ik is ic i : Nat}
    (hx : Xo E) (hcls : Bundle.fit E = true) (hnames : ∀ n ∈ names, Bundle.fit n = true) (w1 : Cond.classLink own ik E ∈ TBL) (w2 : Cond.initialized E ∈ TBL) (hstr : strs[i]? = some (own, is, text))
    (hat : ∀ w ∈ vx_atS own ic E names, w ∈ TBL) (hgood : ∀ w ∈ Cond.classLink own ik E :: Cond.initialized E :: vx_atS own ic E names, vx_ot w = true)
    (d0 : decode cc pc = .ok (.new ik, 3)) (d3 : decode cc (pc + 3) = .ok (.dup, 1)) (d4 : decode cc (pc + 4) = .ok (.ldc is, 2)) (d6 : decode cc (pc + 6) = .ok (.invokespecial ic, 3)) (d9 : decode cc (pc + 9) = .ok (.athrow, 1))
    (hf : names.length + 3 < rm.frames) (hl : (st.map fun v => v.category).sum + (13 * (names.length + 1) + 43) ≤ rm.locals) (hk : k + 1 ≤ rm.cells) (hs : n + 6 ≤ rm.slots) : J G Z S k n pc L st := by
  intro H locs ls hW hS hL
  have hK := hC.ks
  refine W_mono hQ (vx_throwS (XC := XC G Xo S) hC.1 hC.2.1 hC.2.2.2.2.2.2.2.2.2 hC.ow hcls hnames (hC.ww _ w1) (hC.ww _ w2) (hK.2.2.2.2.2.1 i _ hstr) (fun w hw => hC.ww _ (hat w hw)) hgood hK.2.1 hK.2.2.1 hS hL.1.1 d0 d3 d4 d6 d9
    (fun x hx => (ht x hx).elim) (by rw [hC.rr]; exact hf) (by rw [hC.rr]; exact hl) (by rw [hC.rr]; exact hk) (by rw [hC.rr]; exact hs) hC.2.2.2.2.2.2.2.1 (fun t hA h1 h2 => ⟨hx, HW_kept hW h2, ?_⟩) hS.2.2 hk hs)
  exact ⟨Nat.le_trans hS.1 h1, fun q q1 q2 => by rw [h2 q (Nat.lt_of_lt_of_le q1 hS.1)]; exact hS.2.1 q q1 q2⟩
/-- 'throw new E("text")', the text by a wide index -/
theorem r_throwW (hC : CX G Z own cc nL ret rm) (hQ : RQ G Z Po Xo S rm) (ht : ∀ x ∈ (zc Z).exceptionTable.toList, False) {E text : String} {names : List String} {ik is ic i : Nat}
    (hx : Xo E) (hcls : Bundle.fit E = true) (hnames : ∀ n ∈ names, Bundle.fit n = true) (w1 : Cond.classLink own ik E ∈ TBL) (w2 : Cond.initialized E ∈ TBL) (hstr : strs[i]? = some (own, is, text))
    (hat : ∀ w ∈ vx_atS own ic E names, w ∈ TBL) (hgood : ∀ w ∈ Cond.classLink own ik E :: Cond.initialized E :: vx_atS own ic E names, vx_ot w = true)
    (d0 : decode cc pc = .ok (.new ik, 3)) (d3 : decode cc (pc + 3) = .ok (.dup, 1)) (d4 : decode cc (pc + 4) = .ok (.ldc_w is, 3)) (d6 : decode cc (pc + 7) = .ok (.invokespecial ic, 3)) (d9 : decode cc (pc + 10) = .ok (.athrow, 1))
    (hf : names.length + 3 < rm.frames) (hl : (st.map fun v => v.category).sum + (13 * (names.length + 1) + 43) ≤ rm.locals) (hk : k + 1 ≤ rm.cells) (hs : n + 6 ≤ rm.slots) : J G Z S k n pc L st := by
  intro H locs ls hW hS hL
  have hK := hC.ks
  refine W_mono hQ (vx_throwSW (XC := XC G Xo S) hC.1 hC.2.1 hC.2.2.2.2.2.2.2.2.2 hC.ow hcls hnames (hC.ww _ w1) (hC.ww _ w2) (hK.2.2.2.2.2.1 i _ hstr) (fun w hw => hC.ww _ (hat w hw)) hgood hK.2.1 hK.2.2.1 hS hL.1.1 d0 d3 d4 d6 d9
    (fun x hx => (ht x hx).elim) (by rw [hC.rr]; exact hf) (by rw [hC.rr]; exact hl) (by rw [hC.rr]; exact hk) (by rw [hC.rr]; exact hs) hC.2.2.2.2.2.2.2.1 (fun t hA h1 h2 => ⟨hx, HW_kept hW h2, ?_⟩) hS.2.2 hk hs)
  exact ⟨Nat.le_trans hS.1 h1, fun q q1 q2 => by rw [h2 q (Nat.lt_of_lt_of_le q1 hS.1)]; exact hS.2.1 q q1 q2⟩
/-- caught by this method's table -/
theorem r_catch (hC : CX G Z own cc nL ret rm) {tb : List ExceptionTableEntry} (ht : (zc Z).exceptionTable.toList = tb) {E name : String} (pre : List ExceptionTableEntry) (x : ExceptionTableEntry) (suf : List ExceptionTableEntry) (hsplit : tb = pre ++ x :: suf)
    (hpass : ∀ z ∈ pre, covers z pc = false ∨ (z.catchType ≠ 0 ∧ ∃ nm : String, Cond.classLink own z.catchType nm ∈ TBL ∧ va_Nc E nm (zs Z))) (hx : covers x pc = true) (h0 : x.catchType ≠ 0)
    (w1 : Cond.classLink own x.catchType name ∈ TBL) (w2 : Cond.castable E name ∈ TBL) (kk : ∀ q : Addr, J G Z S k n x.handlerPc L [va_rf (some q)]) : JX G Z S k n pc L st E := by
  intro H locs ls q ce hW hS hL h1 h2 h3
  exact vx_catch hC.ow pre x suf (ht.trans hsplit) (fun z hz => (hpass z hz).imp id (fun ⟨a, nm, b, c⟩ => ⟨a, nm, hC.ww _ b, c⟩)) hx h0 (hC.ww _ w1) (hC.ww _ w2) h1 h2 h3 (kk q H locs ls hW hS hL)
theorem JX.wide {k' n' : Nat} {E : String} (h1 : k ≤ k') (h2 : n ≤ n') (kk : JX G Z S k' n' pc L st E) : JX G Z S k n pc L st E := fun H locs ls q ce hW hS hL a b c => vx_widen h1 h2 (kk H locs ls q ce hW hS hL a b c)
theorem blind {as : List Value} : FrameBlind (va_Pc as (fun U => KS G U U.heap ∧ HW G S U.heap)) := by
  intro a U g mk q
  obtain ⟨q0, q1, q2⟩ := q
  exact ⟨q0, KS.same rfl q1, q2⟩
theorem pre_at (hC : CX G Z own cc nL ret rm) {H : Heap} {locs : List Loc} (hW : HW G S H) (hS : va_S (gA G) (zs Z).heap H locs) {as : List Value} : ∀ U : State, U.heap = H → (zs Z).WarmedH U.vm → va_Pc as (fun U => KS G U U.heap ∧ HW G S U.heap) as.toArray U := by
  intro U hU hW2
  refine ⟨rfl, ?_, by rw [hU]; exact hW⟩
  rw [hU]
  exact KS.move hW2 hC.ks (fun a h1 h2 => hS.2.1 a h1 h2) hS.1
theorem J_run {rmc : Room} {Po' : Option Value → PS → Prop} {Xo' : String → Prop} {a : Array Value} {st' : List Value} (hC : CX G Z own cc nL ret rm)
    (hr : ∀ (H : Heap) (locs : List Loc) (ls : Array Slot), HW G S H → va_S (gA G) (zs Z).heap H locs → LH ls (zc Z).maxLocals L →
      vx_Run (zp Z) (zl Z) (ze Z) (zR Z) (zs Z) (zm Z) (za Z) (zb Z) (zM Z) (zc Z) H locs k n rmc.cells rmc.slots (F0 (zm Z) pc ls st) st' (QC G Po' a) (XC G Xo' S) (gA G))
    (kk : ∀ v S', Po' v S' → J G Z S' (k + rmc.cells) (n + rmc.slots) (pc + 3) L (v.toList ++ st')) (kx : ∀ E, Xo' E → JX G Z S (k + rmc.cells) (n + rmc.slots) pc L st' E) : J G Z S k n pc L st := by
  intro H locs ls hW hS hL T hT X
  have hf : ∀ q, gA G q → gA G q := fun _ h => h
  rcases hr H locs ls hW hS hL T hT X with ⟨v, st₀, t, T', L', h0, X', hL', e1, e2, ⟨⟨v', S', hv, hp, hW'⟩, hF⟩, go⟩ | ⟨q, st₀, t, T', L', E, ce, h0, X', hL', e1, e2, ⟨hp, hW', hF⟩, hce, hcv, hcl, go⟩
  · cases hv
    obtain ⟨k1, k2, k3⟩ := vx_keep h0 e1 hS (fun q _ h => h) hf hL' hF
    obtain ⟨t2, a1, b1⟩ := kk v S' hp T'.heap (locs ++ L') ls (by rw [e1]; exact hW') k3 hL T' rfl X'
    exact ⟨t2, go t2 a1, b1⟩
  · obtain ⟨k1, k2, k3⟩ := vx_keep h0 e1 hS (fun q _ h => h) hf hL' hF
    obtain ⟨t2, a1, b1⟩ := kx E hp T'.heap (locs ++ L') ls q ce (by rw [e1]; exact hW') k3 hL (by rw [e1]; exact hce) hcv hcl T' rfl X'
    exact ⟨t2, go.trans a1, b1⟩
/-- what a call site says of the tables -/
def CS (y : MethodName) (bytes : ByteArray) (maxL : Nat) (rty : Option FieldType) (ar : Nat) : Prop :=
  Cond.code y bytes maxL rty ∈ TBL ∧ Cond.initialized y.cls ∈ TBL ∧ (y.cls ≠ "java/lang/invoke/MethodHandle" ∧ y.cls ≠ "java/lang/invoke/VarHandle") ∧ (parseMethodDescriptor y.desc).map (fun d => d.parameters.length) = some ar
theorem cb_of (hC : CX G Z own cc nL ret rm) {y : MethodName} {bytes : ByteArray} {maxL idx ar : Nat} {rty : Option FieldType} {rmc : Room} (hs : CS y bytes maxL rty ar) (hl : Cond.methodLink own idx y ∈ TBL) (hR : rmc.frames + 1 ≤ rm.frames ∧ 8 + (maxL + 11) + rmc.locals ≤ rm.locals) :
    CallB (zR Z) (zs Z) (za Z) own idx y bytes maxL rty (wsm y bytes maxL rty) rmc rmc.cells rmc.slots ar := by
  obtain ⟨w1, w2, w3, w4⟩ := hs
  refine ⟨rfl, rfl, by rw [hC.rr]; exact hR.1, by rw [hC.rr]; exact hR.2, wsm_pay hC.ww w1, List.mem_cons_self, hC.ww _ w1, hC.ww _ w2, w3, fun sig h => ?_, hC.ww _ hl⟩
  rw [h] at w4
  exact (Option.some.inj w4).symm
theorem cn_of (hC : CX G Z own cc nL ret rm) {y : MethodName} {bytes : ByteArray} {maxL idx ar : Nat} {host : String} {rty : Option FieldType} {rmc : Room} (hs : CS y bytes maxL rty ar) (hl : Cond.methodLinkNest own idx y host ∈ TBL) (hR : rmc.frames + 1 ≤ rm.frames ∧ 8 + (maxL + 11) + rmc.locals ≤ rm.locals) :
    va_CN (zR Z) (zs Z) (za Z) own idx y host bytes maxL rty (wsm y bytes maxL rty) rmc rmc.cells rmc.slots ar := by
  obtain ⟨w1, w2, w3, w4⟩ := hs
  refine ⟨⟨rfl, rfl, by rw [hC.rr]; exact hR.1, by rw [hC.rr]; exact hR.2, wsm_pay hC.ww w1, List.mem_cons_self⟩, hC.ww _ w1, hC.ww _ w2, w3, fun sig h => ?_, hC.ww _ hl⟩
  rw [h] at w4
  exact (Option.some.inj w4).symm
theorem rcv_of (hC : CX G Z own cc nL ret rm) {H : Heap} (hW : HW G S H) {b kd : Nat} (hb : KD S b kd) {C : String} (h10 : kd < 10) (hc : cls[kd]?.map (fun q => q.1) = some C) : ∃ cellB : Cell, H[b]? = some cellB ∧ cellB.vm.isStatics = false ∧ (zs Z).vm.findClass C = some cellB.cls := by
  obtain ⟨q, -, hq⟩ := HW_cell hW hb.1 (PF_obj hb.2 h10)
  cases hc2 : cls[kd]? with
  | none => rw [hc2] at hc; cases hc
  | some r =>
    rw [hc2] at hc
    have e : r.1 = C := Option.some.inj hc
    rw [← e]
    exact va_recv hC.ks.1 hW.1 hc2 hq
variable {y : MethodName} {bytes : ByteArray} {maxL idx ar : Nat} {rty : Option FieldType} {rmc : Room} {Po' : Option Value → PS → Prop} {Xo' : String → Prop} {as st' : List Value}
theorem r_cS (hC : CX G Z own cc nL ret rm) (hM : MT (zl Z) G S y bytes maxL rty rmc as Po' Xo') (hs : CS y bytes maxL rty ar) (hl : Cond.methodLink own idx y ∈ TBL) (hst : Cond.static y ∈ TBL) (hd : decode cc pc = .ok (.invokestatic idx, 3)) (ha : as.length = ar) (he : st = as.reverse ++ st')
    (hR : rmc.frames + 1 ≤ rm.frames ∧ 8 + (maxL + 11) + rmc.locals ≤ rm.locals) (hcat : (st'.map fun v => v.category).sum ≤ 8) (hb : k + rmc.cells ≤ rm.cells ∧ n + rmc.slots ≤ rm.slots)
    (kk : ∀ v S', Po' v S' → J G Z S' (k + rmc.cells) (n + rmc.slots) (pc + 3) L (v.toList ++ st')) (kx : ∀ E, Xo' E → JX G Z S (k + rmc.cells) (n + rmc.slots) pc L st' E) : J G Z S k n pc L st :=
  J_run hC (a := as.toArray) (fun H locs ls hW hS hL => vx_runS ⟨hC.1, hC.2.1, hC.ml, hC.ow, hC.ww⟩ hM ⟨cb_of hC hs hl hR, hC.ww _ hst⟩ ⟨blind, pre_at hC hW hS⟩ rfl ha (hL.1.1.trans hC.ml) he (lv_room hcat) hd (by rw [hC.rr]; exact hb)) kk kx
theorem r_cSN {host : String} (hC : CX G Z own cc nL ret rm) (hM : MT (zl Z) G S y bytes maxL rty rmc as Po' Xo') (hs : CS y bytes maxL rty ar) (hl : Cond.methodLinkNest own idx y host ∈ TBL) (hst : Cond.static y ∈ TBL) (hd : decode cc pc = .ok (.invokestatic idx, 3)) (ha : as.length = ar) (he : st = as.reverse ++ st')
    (hR : rmc.frames + 1 ≤ rm.frames ∧ 8 + (maxL + 11) + rmc.locals ≤ rm.locals) (hcat : (st'.map fun v => v.category).sum ≤ 8) (hb : k + rmc.cells ≤ rm.cells ∧ n + rmc.slots ≤ rm.slots)
    (kk : ∀ v S', Po' v S' → J G Z S' (k + rmc.cells) (n + rmc.slots) (pc + 3) L (v.toList ++ st')) (kx : ∀ E, Xo' E → JX G Z S (k + rmc.cells) (n + rmc.slots) pc L st' E) : J G Z S k n pc L st :=
  J_run hC (a := as.toArray) (fun H locs ls hW hS hL => vx_runSN ⟨hC.1, hC.2.1, hC.ml, hC.ow, hC.ww⟩ hM ⟨cn_of hC hs hl hR, hC.ww _ hst, trivial⟩ ⟨blind, pre_at hC hW hS⟩ rfl ha (hL.1.1.trans hC.ml) he (lv_room hcat) hd (by rw [hC.rr]; exact hb)) kk kx
theorem r_cV {b kd : Nat} {C : String} (hC : CX G Z own cc nL ret rm) (hM : MT (zl Z) G S y bytes maxL rty rmc (va_rf (some b) :: as) Po' Xo') (hs : CS y bytes maxL rty ar) (hl : Cond.methodLink own idx y ∈ TBL) (hin : Cond.instanceMethod y ∈ TBL) (hse : Cond.selects C y y ∈ TBL) (hkd : KD S b kd) (h10 : kd < 10) (hc : cls[kd]?.map (fun q => q.1) = some C) (hd : decode cc pc = .ok (.invokevirtual idx, 3)) (ha : as.length = ar) (he : st = as.reverse ++ va_rf (some b) :: st')
    (hR : rmc.frames + 1 ≤ rm.frames ∧ 8 + (maxL + 11) + rmc.locals ≤ rm.locals) (hcat : (st'.map fun v => v.category).sum ≤ 8) (hb : k + rmc.cells ≤ rm.cells ∧ n + rmc.slots ≤ rm.slots)
    (kk : ∀ v S', Po' v S' → J G Z S' (k + rmc.cells) (n + rmc.slots) (pc + 3) L (v.toList ++ st')) (kx : ∀ E, Xo' E → JX G Z S (k + rmc.cells) (n + rmc.slots) pc L st' E) : J G Z S k n pc L st :=
  J_run hC (a := (va_rf (some b) :: as).toArray) (fun H locs ls hW hS hL => vx_runV (C := C) ⟨hC.1, hC.2.1, hC.ml, hC.ow, hC.ww⟩ hM ⟨cb_of hC hs hl hR, hC.ww _ hin, hC.ww _ hse⟩ ⟨blind, rcv_of hC hW hkd h10 hc, pre_at hC hW hS⟩ rfl ha (hL.1.1.trans hC.ml) he (lv_room hcat) hd (by rw [hC.rr]; exact hb)) kk kx
theorem r_cVN {b kd : Nat} {C host : String} (hC : CX G Z own cc nL ret rm) (hM : MT (zl Z) G S y bytes maxL rty rmc (va_rf (some b) :: as) Po' Xo') (hs : CS y bytes maxL rty ar) (hl : Cond.methodLinkNest own idx y host ∈ TBL) (hin : Cond.instanceMethod y ∈ TBL) (hse : Cond.selects C y y ∈ TBL) (hkd : KD S b kd) (h10 : kd < 10) (hc : cls[kd]?.map (fun q => q.1) = some C) (hd : decode cc pc = .ok (.invokevirtual idx, 3)) (ha : as.length = ar) (he : st = as.reverse ++ va_rf (some b) :: st')
    (hR : rmc.frames + 1 ≤ rm.frames ∧ 8 + (maxL + 11) + rmc.locals ≤ rm.locals) (hcat : (st'.map fun v => v.category).sum ≤ 8) (hb : k + rmc.cells ≤ rm.cells ∧ n + rmc.slots ≤ rm.slots)
    (kk : ∀ v S', Po' v S' → J G Z S' (k + rmc.cells) (n + rmc.slots) (pc + 3) L (v.toList ++ st')) (kx : ∀ E, Xo' E → JX G Z S (k + rmc.cells) (n + rmc.slots) pc L st' E) : J G Z S k n pc L st :=
  J_run hC (a := (va_rf (some b) :: as).toArray) (fun H locs ls hW hS hL => vx_runVN (C := C) ⟨hC.1, hC.2.1, hC.ml, hC.ow, hC.ww⟩ hM ⟨cn_of hC hs hl hR, hC.ww _ hin, hC.ww _ hse⟩ ⟨blind, rcv_of hC hW hkd h10 hc, pre_at hC hW hS⟩ rfl ha (hL.1.1.trans hC.ml) he (lv_room hcat) hd (by rw [hC.rr]; exact hb)) kk kx
theorem r_cI {b : Nat} (hC : CX G Z own cc nL ret rm) (hM : MT (zl Z) G S y bytes maxL none rmc (va_rf (some b) :: as) Po' Xo') (hs : CS y bytes maxL none ar) (hl : Cond.methodLink own idx y ∈ TBL) (hin : Cond.instanceMethod y ∈ TBL) (hy : y.name = "<init>") (hd : decode cc pc = .ok (.invokespecial idx, 3)) (ha : as.length = ar) (he : st = as.reverse ++ va_rf (some b) :: st')
    (hR : rmc.frames + 1 ≤ rm.frames ∧ 8 + (maxL + 11) + rmc.locals ≤ rm.locals) (hcat : (st'.map fun v => v.category).sum ≤ 8) (hb : k + rmc.cells ≤ rm.cells ∧ n + rmc.slots ≤ rm.slots)
    (kk : ∀ v S', Po' v S' → J G Z S' (k + rmc.cells) (n + rmc.slots) (pc + 3) L (v.toList ++ st')) (kx : ∀ E, Xo' E → JX G Z S (k + rmc.cells) (n + rmc.slots) pc L st' E) : J G Z S k n pc L st :=
  J_run hC (a := (va_rf (some b) :: as).toArray) (fun H locs ls hW hS hL => vx_runI ⟨hC.1, hC.2.1, hC.ml, hC.ow, hC.ww⟩ hM ⟨cb_of hC hs hl hR, hy, hC.ww _ hin⟩ ⟨blind, pre_at hC hW hS⟩ rfl ha (hL.1.1.trans hC.ml) he (lv_room hcat) hd (by rw [hC.rr]; exact hb)) kk kx
theorem r_cIN {b : Nat} {host : String} (hC : CX G Z own cc nL ret rm) (hM : MT (zl Z) G S y bytes maxL none rmc (va_rf (some b) :: as) Po' Xo') (hs : CS y bytes maxL none ar) (hl : Cond.methodLinkNest own idx y host ∈ TBL) (hin : Cond.instanceMethod y ∈ TBL) (hy : y.name = "<init>") (hd : decode cc pc = .ok (.invokespecial idx, 3)) (ha : as.length = ar) (he : st = as.reverse ++ va_rf (some b) :: st')
    (hR : rmc.frames + 1 ≤ rm.frames ∧ 8 + (maxL + 11) + rmc.locals ≤ rm.locals) (hcat : (st'.map fun v => v.category).sum ≤ 8) (hb : k + rmc.cells ≤ rm.cells ∧ n + rmc.slots ≤ rm.slots)
    (kk : ∀ v S', Po' v S' → J G Z S' (k + rmc.cells) (n + rmc.slots) (pc + 3) L (v.toList ++ st')) (kx : ∀ E, Xo' E → JX G Z S (k + rmc.cells) (n + rmc.slots) pc L st' E) : J G Z S k n pc L st :=
  J_run hC (a := (va_rf (some b) :: as).toArray) (fun H locs ls hW hS hL => vx_runIN ⟨hC.1, hC.2.1, hC.ml, hC.ow, hC.ww⟩ hM ⟨cn_of hC hs hl hR, hy, hC.ww _ hin⟩ ⟨blind, pre_at hC hW hS⟩ rfl ha (hL.1.1.trans hC.ml) he (lv_room hcat) hd (by rw [hC.rr]; exact hb)) kk kx
/-- a static method with a table of its own -/
theorem r_cSW {hh : List (Nat × Nat × Nat × Nat)} (hC : CX G Z own cc nL ret rm) (hM : MTw (zl Z) G S y bytes maxL rty hh rmc as Po') (w1 : Cond.codeWith y bytes maxL rty hh ∈ TBL) (w2 : Cond.initialized y.cls ∈ TBL) (hy : y.cls ≠ "java/lang/invoke/MethodHandle" ∧ y.cls ≠ "java/lang/invoke/VarHandle") (har : (parseMethodDescriptor y.desc).map (fun d => d.parameters.length) = some ar) (hl : Cond.methodLink own idx y ∈ TBL) (hst : Cond.static y ∈ TBL) (hd : decode cc pc = .ok (.invokestatic idx, 3)) (ha : as.length = ar) (he : st = as.reverse ++ st')
    (hR : rmc.frames + 1 ≤ rm.frames ∧ 8 + (maxL + 11) + rmc.locals ≤ rm.locals) (hcat : (st'.map fun v => v.category).sum ≤ 8) (hb : k + rmc.cells ≤ rm.cells ∧ n + rmc.slots ≤ rm.slots)
    (kk : ∀ v S', Po' v S' → J G Z S' (k + rmc.cells) (n + rmc.slots) (pc + 3) L (v.toList ++ st')) : J G Z S k n pc L st := by
  refine J_run hC (a := as.toArray) (Xo' := fun _ => False) (fun H locs ls hW hS hL => ?_) kk (fun E h => h.elim)
  have cw : vx_CSW (zR Z) (zs Z) (za Z) own idx y bytes maxL rty hh (wsw y bytes maxL rty hh) rmc rmc.cells rmc.slots ar := by
    refine ⟨⟨rfl, rfl, by rw [hC.rr]; exact hR.1, by rw [hC.rr]; exact hR.2, wsw_pay hC.ww w1, List.mem_cons_self⟩, hC.ww _ w1, hC.ww _ w2, hy, fun sig h => ?_, hC.ww _ hl, hC.ww _ hst⟩
    rw [h] at har
    exact (Option.some.inj har).symm
  intro T hT X
  exact Or.inl (vx_runSW ⟨hC.1, hC.2.1, hC.ml, hC.ow, hC.ww⟩ hM cw ⟨blind, pre_at hC hW hS⟩ rfl ha (hL.1.1.trans hC.ml) he (lv_room hcat) hd (by rw [hC.rr]; exact hb) T hT X)
end JE
end
