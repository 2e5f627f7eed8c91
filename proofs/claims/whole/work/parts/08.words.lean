theorem qs_0 (i : Nat) {w : Cond} (h : (k2_sels lw_privs)[i]? = some w) (g : gw w = true) : w ∈ TBL := List.mem_filter.mpr ⟨List.mem_append_left _ (List.mem_of_getElem? h), g⟩
theorem qs_1 (i : Nat) {w : Cond} (h : tables_1_1[i]? = some w) (g : gw w = true) : w ∈ TBL := List.mem_filter.mpr ⟨List.mem_append_right _ (show w ∈ tables_1 from List.mem_append_left _ (List.mem_of_getElem? h)), g⟩
theorem qs_2 (i : Nat) {w : Cond} (h : tables_1_2[i]? = some w) (g : gw w = true) : w ∈ TBL := List.mem_filter.mpr ⟨List.mem_append_right _ (show w ∈ tables_1 from List.mem_append_right _ (List.mem_append_left _ (List.mem_of_getElem? h))), g⟩
theorem qs_3 (i : Nat) {w : Cond} (h : tables_1_3[i]? = some w) (g : gw w = true) : w ∈ TBL := List.mem_filter.mpr ⟨List.mem_append_right _ (show w ∈ tables_1 from List.mem_append_right _ (List.mem_append_right _ (List.mem_append_left _ (List.mem_of_getElem? h)))), g⟩
theorem qs_4 (i : Nat) {w : Cond} (h : tables_1_4[i]? = some w) (g : gw w = true) : w ∈ TBL := List.mem_filter.mpr ⟨List.mem_append_right _ (show w ∈ tables_1 from List.mem_append_right _ (List.mem_append_right _ (List.mem_append_right _ (List.mem_append_left _ (List.mem_of_getElem? h))))), g⟩
theorem qs_5 (i : Nat) {w : Cond} (h : tables_1_5[i]? = some w) (g : gw w = true) : w ∈ TBL := List.mem_filter.mpr ⟨List.mem_append_right _ (show w ∈ tables_1 from List.mem_append_right _ (List.mem_append_right _ (List.mem_append_right _ (List.mem_append_right _ (List.mem_of_getElem? h))))), g⟩
set_option maxRecDepth 20000 in
theorem q_0 : (Cond.selects "Thumbreel$Sheet" ⟨"Thumbreel$Sheet", "isOfUse", "()Z"⟩ ⟨"Thumbreel$Sheet", "isOfUse", "()Z"⟩) ∈ TBL := qs_0 0 rfl rfl
set_option maxRecDepth 20000 in
theorem q_1 : (Cond.selects "java/lang/Throwable" ⟨"java/lang/Throwable", "fillInStackTrace", "(I)Ljava/lang/Throwable;"⟩ ⟨"java/lang/Throwable", "fillInStackTrace", "(I)Ljava/lang/Throwable;"⟩) ∈ TBL := qs_0 1 rfl rfl
set_option maxRecDepth 20000 in
theorem q_2 : (Cond.selects "java/util/ArrayList" ⟨"java/util/ArrayList", "add", "(Ljava/lang/Object;[Ljava/lang/Object;I)V"⟩ ⟨"java/util/ArrayList", "add", "(Ljava/lang/Object;[Ljava/lang/Object;I)V"⟩) ∈ TBL := qs_0 2 rfl rfl
set_option maxRecDepth 20000 in
theorem q_3 : (Cond.selects "java/util/ArrayList" ⟨"java/util/ArrayList", "grow", "()[Ljava/lang/Object;"⟩ ⟨"java/util/ArrayList", "grow", "()[Ljava/lang/Object;"⟩) ∈ TBL := qs_0 3 rfl rfl
set_option maxRecDepth 20000 in
theorem q_4 : (Cond.selects "java/util/ArrayList" ⟨"java/util/ArrayList", "grow", "(I)[Ljava/lang/Object;"⟩ ⟨"java/util/ArrayList", "grow", "(I)[Ljava/lang/Object;"⟩) ∈ TBL := qs_0 4 rfl rfl
set_option maxRecDepth 20000 in
theorem q_5 : (Cond.selects "Thumbreel" ⟨"Thumbreel", "bookNumbered", "(I)LThumbreel$Book;"⟩ ⟨"Thumbreel", "bookNumbered", "(I)LThumbreel$Book;"⟩) ∈ TBL := qs_0 5 rfl rfl
set_option maxRecDepth 20000 in
theorem q_6 : (Cond.selects "Thumbreel$Book" ⟨"Thumbreel$Book", "insert", "(IIII)V"⟩ ⟨"Thumbreel$Book", "insert", "(IIII)V"⟩) ∈ TBL := qs_0 6 rfl rfl
set_option maxRecDepth 20000 in
theorem q_7 : (Cond.selects "Thumbreel$Book" ⟨"Thumbreel$Book", "copyDrawing", "(II)V"⟩ ⟨"Thumbreel$Book", "copyDrawing", "(II)V"⟩) ∈ TBL := qs_0 7 rfl rfl
set_option maxRecDepth 20000 in
theorem q_8 : (Cond.selects "Thumbreel$Book" ⟨"Thumbreel$Book", "layFrames", "()V"⟩ ⟨"Thumbreel$Book", "layFrames", "()V"⟩) ∈ TBL := qs_0 8 rfl rfl
set_option maxRecDepth 20000 in
theorem q_9 : (Cond.selects "Thumbreel$Book" ⟨"Thumbreel$Book", "addFrame", "(I)V"⟩ ⟨"Thumbreel$Book", "addFrame", "(I)V"⟩) ∈ TBL := qs_0 9 rfl rfl
set_option maxRecDepth 20000 in
theorem q_10 : (Cond.selects "Thumbreel$Book" ⟨"Thumbreel$Book", "addBetweens", "(IIII)V"⟩ ⟨"Thumbreel$Book", "addBetweens", "(IIII)V"⟩) ∈ TBL := qs_0 10 rfl rfl
set_option maxRecDepth 20000 in
theorem q_11 : (Cond.selects "Thumbreel" ⟨"Thumbreel", "spoilChanged", "(LThumbreel$Book;)I"⟩ ⟨"Thumbreel", "spoilChanged", "(LThumbreel$Book;)I"⟩) ∈ TBL := qs_0 11 rfl rfl
set_option maxRecDepth 20000 in
theorem q_12 : (Cond.selects "Thumbreel$Order" ⟨"Thumbreel$Order", "spoilChanged", "()I"⟩ ⟨"Thumbreel$Order", "spoilChanged", "()I"⟩) ∈ TBL := qs_0 12 rfl rfl
set_option maxRecDepth 20000 in
theorem q_13 : (Cond.selects "Thumbreel$Copy" ⟨"Thumbreel$Copy", "spoilChanged", "(LThumbreel$Book;)I"⟩ ⟨"Thumbreel$Copy", "spoilChanged", "(LThumbreel$Book;)I"⟩) ∈ TBL := qs_0 13 rfl rfl
set_option maxRecDepth 20000 in
theorem q_14 : (Cond.selects "Thumbreel$Book" ⟨"Thumbreel$Book", "positionOf", "(I)I"⟩ ⟨"Thumbreel$Book", "positionOf", "(I)I"⟩) ∈ TBL := qs_0 14 rfl rfl
set_option maxRecDepth 20000 in
theorem q_15 : (Cond.selects "Thumbreel$Copy" ⟨"Thumbreel$Copy", "spoil", "(LThumbreel$Leaf;)V"⟩ ⟨"Thumbreel$Copy", "spoil", "(LThumbreel$Leaf;)V"⟩) ∈ TBL := qs_0 15 rfl rfl
set_option maxRecDepth 20000 in
theorem q_16 : (Cond.selects "Thumbreel$Book" ⟨"Thumbreel$Book", "takeOut", "(I)V"⟩ ⟨"Thumbreel$Book", "takeOut", "(I)V"⟩) ∈ TBL := qs_0 16 rfl rfl
set_option maxRecDepth 20000 in
theorem q_17 : (Cond.selects "Thumbreel$Book" ⟨"Thumbreel$Book", "putAt", "(II)V"⟩ ⟨"Thumbreel$Book", "putAt", "(II)V"⟩) ∈ TBL := qs_0 17 rfl rfl
set_option maxRecDepth 20000 in
theorem q_18 : (Cond.selects "Thumbreel" ⟨"Thumbreel", "orderNumbered", "(I)LThumbreel$Order;"⟩ ⟨"Thumbreel", "orderNumbered", "(I)LThumbreel$Order;"⟩) ∈ TBL := qs_0 18 rfl rfl
set_option maxRecDepth 20000 in
theorem q_19 : (Cond.selects "Thumbreel$Order" ⟨"Thumbreel$Order", "countLacking", "()I"⟩ ⟨"Thumbreel$Order", "countLacking", "()I"⟩) ∈ TBL := qs_0 19 rfl rfl
set_option maxRecDepth 20000 in
theorem q_20 : (Cond.selects "Thumbreel$Copy" ⟨"Thumbreel$Copy", "countLacking", "(I)I"⟩ ⟨"Thumbreel$Copy", "countLacking", "(I)I"⟩) ∈ TBL := qs_0 20 rfl rfl
set_option maxRecDepth 20000 in
theorem q_21 : (Cond.selects "Thumbreel$Copy" ⟨"Thumbreel$Copy", "isLacking", "(I)Z"⟩ ⟨"Thumbreel$Copy", "isLacking", "(I)Z"⟩) ∈ TBL := qs_0 21 rfl rfl
set_option maxRecDepth 20000 in
theorem q_22 : (Cond.selects "Thumbreel$Copy" ⟨"Thumbreel$Copy", "leafOf", "(I)LThumbreel$Leaf;"⟩ ⟨"Thumbreel$Copy", "leafOf", "(I)LThumbreel$Leaf;"⟩) ∈ TBL := qs_0 22 rfl rfl
set_option maxRecDepth 20000 in
theorem q_23 : (Cond.selects "Thumbreel$Order" ⟨"Thumbreel$Order", "isAheadOf", "(LThumbreel$Order;)Z"⟩ ⟨"Thumbreel$Order", "isAheadOf", "(LThumbreel$Order;)Z"⟩) ∈ TBL := qs_0 23 rfl rfl
set_option maxRecDepth 20000 in
theorem q_24 : (Cond.selects "Thumbreel$Folding" ⟨"Thumbreel$Folding", "unfold", "(I)I"⟩ ⟨"Thumbreel$Folding", "unfold", "(I)I"⟩) ∈ TBL := qs_0 24 rfl rfl
set_option maxRecDepth 20000 in
theorem q_25 : (Cond.selects "Thumbreel$Piles" ⟨"Thumbreel$Piles", "foldAll", "(LThumbreel$Folding;)V"⟩ ⟨"Thumbreel$Piles", "foldAll", "(LThumbreel$Folding;)V"⟩) ∈ TBL := qs_0 25 rfl rfl
set_option maxRecDepth 20000 in
theorem q_26 : (Cond.selects "Thumbreel$Piles" ⟨"Thumbreel$Piles", "spread", "()V"⟩ ⟨"Thumbreel$Piles", "spread", "()V"⟩) ∈ TBL := qs_0 26 rfl rfl
set_option maxRecDepth 20000 in
theorem q_27 : (Cond.selects "Thumbreel$Piles" ⟨"Thumbreel$Piles", "foldSideways", "(Z)V"⟩ ⟨"Thumbreel$Piles", "foldSideways", "(Z)V"⟩) ∈ TBL := qs_0 27 rfl rfl
set_option maxRecDepth 20000 in
theorem q_28 : (Cond.selects "Thumbreel$Piles" ⟨"Thumbreel$Piles", "pileAt", "(II)I"⟩ ⟨"Thumbreel$Piles", "pileAt", "(II)I"⟩) ∈ TBL := qs_0 28 rfl rfl
set_option maxRecDepth 20000 in
theorem q_29 : (Cond.selects "Thumbreel$Piles" ⟨"Thumbreel$Piles", "turnOnto", "(II)V"⟩ ⟨"Thumbreel$Piles", "turnOnto", "(II)V"⟩) ∈ TBL := qs_0 29 rfl rfl
set_option maxRecDepth 20000 in
theorem q_30 : (Cond.selects "Thumbreel$Piles" ⟨"Thumbreel$Piles", "foldUpright", "(Z)V"⟩ ⟨"Thumbreel$Piles", "foldUpright", "(Z)V"⟩) ∈ TBL := qs_0 30 rfl rfl
set_option maxRecDepth 20000 in
theorem q_31 : (Cond.selects "Thumbreel$Piles" ⟨"Thumbreel$Piles", "cellAt", "(I)I"⟩ ⟨"Thumbreel$Piles", "cellAt", "(I)I"⟩) ∈ TBL := qs_0 31 rfl rfl
set_option maxRecDepth 20000 in
theorem q_32 : (Cond.selects "Thumbreel" ⟨"Thumbreel", "countAllLacking", "()I"⟩ ⟨"Thumbreel", "countAllLacking", "()I"⟩) ∈ TBL := qs_0 32 rfl rfl
set_option maxRecDepth 20000 in
theorem q_33 : (Cond.selects "Thumbreel" ⟨"Thumbreel", "sortOrders", "()V"⟩ ⟨"Thumbreel", "sortOrders", "()V"⟩) ∈ TBL := qs_0 33 rfl rfl
set_option maxRecDepth 20000 in
theorem q_34 : (Cond.selects "Thumbreel" ⟨"Thumbreel", "printSheet", "()LThumbreel$Sheet;"⟩ ⟨"Thumbreel", "printSheet", "()LThumbreel$Sheet;"⟩) ∈ TBL := qs_0 34 rfl rfl
set_option maxRecDepth 20000 in
theorem q_35 : (Cond.selects "Thumbreel$Order" ⟨"Thumbreel$Order", "fill", "(LThumbreel$Sheet;I)I"⟩ ⟨"Thumbreel$Order", "fill", "(LThumbreel$Sheet;I)I"⟩) ∈ TBL := qs_0 35 rfl rfl
set_option maxRecDepth 20000 in
theorem q_36 : (Cond.selects "Thumbreel$Copy" ⟨"Thumbreel$Copy", "take", "(LThumbreel$Leaf;)V"⟩ ⟨"Thumbreel$Copy", "take", "(LThumbreel$Leaf;)V"⟩) ∈ TBL := qs_0 36 rfl rfl
set_option maxRecDepth 20000 in
theorem q_37 : (Cond.selects "Thumbreel$Sheet" ⟨"Thumbreel$Sheet", "lay", "(LThumbreel$Leaf;I)V"⟩ ⟨"Thumbreel$Sheet", "lay", "(LThumbreel$Leaf;I)V"⟩) ∈ TBL := qs_0 37 rfl rfl
set_option maxRecDepth 20000 in
theorem q_38 : (Cond.selects "Thumbreel$Sheet" ⟨"Thumbreel$Sheet", "leafIn", "(I)LThumbreel$Leaf;"⟩ ⟨"Thumbreel$Sheet", "leafIn", "(I)LThumbreel$Leaf;"⟩) ∈ TBL := qs_0 38 rfl rfl
set_option maxRecDepth 20000 in
theorem q_39 : (Cond.selects "Thumbreel$Leaf" ⟨"Thumbreel$Leaf", "code", "()I"⟩ ⟨"Thumbreel$Leaf", "code", "()I"⟩) ∈ TBL := qs_0 39 rfl rfl
set_option maxRecDepth 20000 in
theorem q_40 : (Cond.selects "Thumbreel" ⟨"Thumbreel", "longestWaiting", "()LThumbreel$Sheet;"⟩ ⟨"Thumbreel", "longestWaiting", "()LThumbreel$Sheet;"⟩) ∈ TBL := qs_0 40 rfl rfl
set_option maxRecDepth 20000 in
theorem q_41 : (Cond.selects "Thumbreel$Sheet" ⟨"Thumbreel$Sheet", "cutWith", "(I)V"⟩ ⟨"Thumbreel$Sheet", "cutWith", "(I)V"⟩) ∈ TBL := qs_0 41 rfl rfl
set_option maxRecDepth 20000 in
theorem q_42 : (Cond.selects "Thumbreel$Copy" ⟨"Thumbreel$Copy", "isAllCut", "(I)Z"⟩ ⟨"Thumbreel$Copy", "isAllCut", "(I)Z"⟩) ∈ TBL := qs_0 42 rfl rfl
set_option maxRecDepth 20000 in
theorem q_43 : (Cond.selects "Thumbreel$Sheet" ⟨"Thumbreel$Sheet", "isCut", "()Z"⟩ ⟨"Thumbreel$Sheet", "isCut", "()Z"⟩) ∈ TBL := qs_0 43 rfl rfl
set_option maxRecDepth 20000 in
theorem q_44 : (Cond.selects "Thumbreel$Copy" ⟨"Thumbreel$Copy", "leastTrim", "(I)I"⟩ ⟨"Thumbreel$Copy", "leastTrim", "(I)I"⟩) ∈ TBL := qs_0 44 rfl rfl
set_option maxRecDepth 20000 in
theorem q_45 : (Cond.selects "Thumbreel$Copy" ⟨"Thumbreel$Copy", "spoilAbove", "(I)I"⟩ ⟨"Thumbreel$Copy", "spoilAbove", "(I)I"⟩) ∈ TBL := qs_0 45 rfl rfl
set_option maxRecDepth 20000 in
theorem q_46 : (Cond.selects "Thumbreel" ⟨"Thumbreel", "keptLeaf", "(III)LThumbreel$Leaf;"⟩ ⟨"Thumbreel", "keptLeaf", "(III)LThumbreel$Leaf;"⟩) ∈ TBL := qs_0 46 rfl rfl
set_option maxRecDepth 20000 in
theorem q_47 : (Cond.selects "Thumbreel$Order" ⟨"Thumbreel$Order", "lengthOf", "(LThumbreel$Copy;)I"⟩ ⟨"Thumbreel$Order", "lengthOf", "(LThumbreel$Copy;)I"⟩) ∈ TBL := qs_0 47 rfl rfl
set_option maxRecDepth 20000 in
theorem q_48 : (Cond.selects "Thumbreel" ⟨"Thumbreel", "findInPile", "(LThumbreel$Sheet;III)LThumbreel$Leaf;"⟩ ⟨"Thumbreel", "findInPile", "(LThumbreel$Sheet;III)LThumbreel$Leaf;"⟩) ∈ TBL := qs_0 48 rfl rfl
set_option maxRecDepth 20000 in
theorem q_49 : (Cond.selects "Thumbreel$Leaf" ⟨"Thumbreel$Leaf", "belongsTo", "(III)Z"⟩ ⟨"Thumbreel$Leaf", "belongsTo", "(III)Z"⟩) ∈ TBL := qs_0 49 rfl rfl
set_option maxRecDepth 20000 in
theorem q_50 : (Cond.selects "ThumbreelModel" ⟨"ThumbreelModel", "laysCells", "()V"⟩ ⟨"ThumbreelModel", "laysCells", "()V"⟩) ∈ TBL := qs_0 50 rfl rfl
set_option maxRecDepth 20000 in
theorem q_51 : (Cond.selects "ThumbreelModel" ⟨"ThumbreelModel", "unfolded", "(I)I"⟩ ⟨"ThumbreelModel", "unfolded", "(I)I"⟩) ∈ TBL := qs_0 51 rfl rfl
set_option maxRecDepth 20000 in
theorem q_52 : (Cond.selects "ThumbreelModel" ⟨"ThumbreelModel", "goes", "(I)Z"⟩ ⟨"ThumbreelModel", "goes", "(I)Z"⟩) ∈ TBL := qs_0 52 rfl rfl
set_option maxRecDepth 20000 in
theorem q_53 : (Cond.selects "ThumbreelModel" ⟨"ThumbreelModel", "isBook", "(I)Z"⟩ ⟨"ThumbreelModel", "isBook", "(I)Z"⟩) ∈ TBL := qs_0 53 rfl rfl
set_option maxRecDepth 20000 in
theorem q_54 : (Cond.selects "ThumbreelModel" ⟨"ThumbreelModel", "flows", "(I)I"⟩ ⟨"ThumbreelModel", "flows", "(I)I"⟩) ∈ TBL := qs_0 54 rfl rfl
set_option maxRecDepth 20000 in
theorem q_55 : (Cond.selects "ThumbreelModel" ⟨"ThumbreelModel", "framesOf", "(I)I"⟩ ⟨"ThumbreelModel", "framesOf", "(I)I"⟩) ∈ TBL := qs_0 55 rfl rfl
set_option maxRecDepth 20000 in
theorem q_56 : (Cond.selects "ThumbreelModel" ⟨"ThumbreelModel", "isBoundCopy", "(II)Z"⟩ ⟨"ThumbreelModel", "isBoundCopy", "(II)Z"⟩) ∈ TBL := qs_0 56 rfl rfl
set_option maxRecDepth 20000 in
theorem q_57 : (Cond.selects "ThumbreelModel" ⟨"ThumbreelModel", "positionOf", "(II)I"⟩ ⟨"ThumbreelModel", "positionOf", "(II)I"⟩) ∈ TBL := qs_0 57 rfl rfl
set_option maxRecDepth 20000 in
theorem q_58 : (Cond.selects "ThumbreelModel" ⟨"ThumbreelModel", "spoils", "(I)V"⟩ ⟨"ThumbreelModel", "spoils", "(I)V"⟩) ∈ TBL := qs_0 58 rfl rfl
set_option maxRecDepth 20000 in
theorem q_59 : (Cond.selects "ThumbreelModel" ⟨"ThumbreelModel", "wrong", "(II)I"⟩ ⟨"ThumbreelModel", "wrong", "(II)I"⟩) ∈ TBL := qs_0 59 rfl rfl
set_option maxRecDepth 20000 in
theorem q_60 : (Cond.selects "ThumbreelModel" ⟨"ThumbreelModel", "isOrder", "(I)Z"⟩ ⟨"ThumbreelModel", "isOrder", "(I)Z"⟩) ∈ TBL := qs_0 60 rfl rfl
set_option maxRecDepth 20000 in
theorem q_61 : (Cond.selects "ThumbreelModel" ⟨"ThumbreelModel", "laysWanted", "()V"⟩ ⟨"ThumbreelModel", "laysWanted", "()V"⟩) ∈ TBL := qs_0 61 rfl rfl
set_option maxRecDepth 20000 in
theorem q_62 : (Cond.selects "ThumbreelModel" ⟨"ThumbreelModel", "laysRanks", "()V"⟩ ⟨"ThumbreelModel", "laysRanks", "()V"⟩) ∈ TBL := qs_0 62 rfl rfl
set_option maxRecDepth 20000 in
theorem q_63 : (Cond.selects "ThumbreelModel" ⟨"ThumbreelModel", "size", "(I)I"⟩ ⟨"ThumbreelModel", "size", "(I)I"⟩) ∈ TBL := qs_0 63 rfl rfl
set_option maxRecDepth 20000 in
theorem q_64 : (Cond.selects "ThumbreelModel" ⟨"ThumbreelModel", "lackingOf", "(I)I"⟩ ⟨"ThumbreelModel", "lackingOf", "(I)I"⟩) ∈ TBL := qs_0 64 rfl rfl
set_option maxRecDepth 20000 in
theorem q_65 : (Cond.selects "ThumbreelModel" ⟨"ThumbreelModel", "printsOne", "(I)V"⟩ ⟨"ThumbreelModel", "printsOne", "(I)V"⟩) ∈ TBL := qs_0 65 rfl rfl
set_option maxRecDepth 20000 in
theorem q_66 : (Cond.selects "ThumbreelModel" ⟨"ThumbreelModel", "longest", "()I"⟩ ⟨"ThumbreelModel", "longest", "()I"⟩) ∈ TBL := qs_0 66 rfl rfl
set_option maxRecDepth 20000 in
theorem q_67 : (Cond.selects "ThumbreelModel" ⟨"ThumbreelModel", "isOn", "(II)Z"⟩ ⟨"ThumbreelModel", "isOn", "(II)Z"⟩) ∈ TBL := qs_0 67 rfl rfl
set_option maxRecDepth 20000 in
theorem q_68 : (Cond.selects "ThumbreelModel" ⟨"ThumbreelModel", "isCopy", "(II)Z"⟩ ⟨"ThumbreelModel", "isCopy", "(II)Z"⟩) ∈ TBL := qs_0 68 rfl rfl
set_option maxRecDepth 20000 in
theorem q_69 : (Cond.selects "ThumbreelModel" ⟨"ThumbreelModel", "isWhole", "(II)Z"⟩ ⟨"ThumbreelModel", "isWhole", "(II)Z"⟩) ∈ TBL := qs_0 69 rfl rfl
set_option maxRecDepth 20000 in
theorem q_70 : (Cond.selects "ThumbreelModel" ⟨"ThumbreelModel", "hasFrame", "(III)Z"⟩ ⟨"ThumbreelModel", "hasFrame", "(III)Z"⟩) ∈ TBL := qs_0 70 rfl rfl
set_option maxRecDepth 20000 in
theorem q_71 : (Cond.selects "ThumbreelModel" ⟨"ThumbreelModel", "leafShown", "(III)I"⟩ ⟨"ThumbreelModel", "leafShown", "(III)I"⟩) ∈ TBL := qs_0 71 rfl rfl
set_option maxRecDepth 20000 in
theorem q_72 : (Cond.initialized "ThumbreelLaw") ∈ TBL := qs_1 0 rfl rfl
set_option maxRecDepth 20000 in
theorem q_73 : (Cond.initialized "Thumbreel") ∈ TBL := qs_1 1 rfl rfl
set_option maxRecDepth 20000 in
theorem q_74 : (Cond.initialized "java/util/AbstractCollection") ∈ TBL := qs_1 2 rfl rfl
set_option maxRecDepth 20000 in
theorem q_75 : (Cond.initialized "java/util/AbstractList") ∈ TBL := qs_1 3 rfl rfl
set_option maxRecDepth 20000 in
theorem q_76 : (Cond.initialized "java/util/ArrayList") ∈ TBL := qs_1 4 rfl rfl
set_option maxRecDepth 20000 in
theorem q_77 : (Cond.initialized "Thumbreel$Piles") ∈ TBL := qs_1 5 rfl rfl
set_option maxRecDepth 20000 in
theorem q_78 : (Cond.initialized "Thumbreel$Folding") ∈ TBL := qs_1 6 rfl rfl
set_option maxRecDepth 20000 in
theorem q_79 : (Cond.initialized "ThumbreelModel") ∈ TBL := qs_1 7 rfl rfl
set_option maxRecDepth 20000 in
theorem q_80 : (Cond.initialized "java/lang/Throwable") ∈ TBL := qs_1 8 rfl rfl
set_option maxRecDepth 20000 in
theorem q_81 : (Cond.initialized "java/lang/Exception") ∈ TBL := qs_1 9 rfl rfl
set_option maxRecDepth 20000 in
theorem q_82 : (Cond.initialized "java/lang/RuntimeException") ∈ TBL := qs_1 10 rfl rfl
set_option maxRecDepth 20000 in
theorem q_83 : (Cond.initialized "java/lang/IllegalStateException") ∈ TBL := qs_1 11 rfl rfl
set_option maxRecDepth 20000 in
theorem q_84 : (Cond.initialized "Thumbreel$Book") ∈ TBL := qs_1 12 rfl rfl
set_option maxRecDepth 20000 in
theorem q_85 : (Cond.initialized "jdk/internal/util/ArraysSupport") ∈ TBL := qs_1 13 rfl rfl
set_option maxRecDepth 20000 in
theorem q_86 : (Cond.initialized "java/lang/Math") ∈ TBL := qs_1 14 rfl rfl
set_option maxRecDepth 20000 in
theorem q_87 : (Cond.initialized "java/util/Arrays") ∈ TBL := qs_1 15 rfl rfl
set_option maxRecDepth 20000 in
theorem q_88 : (Cond.initialized "java/lang/System") ∈ TBL := qs_1 16 rfl rfl
set_option maxRecDepth 20000 in
theorem q_89 : (Cond.initialized "java/lang/IndexOutOfBoundsException") ∈ TBL := qs_1 17 rfl rfl
set_option maxRecDepth 20000 in
theorem q_90 : (Cond.initialized "java/util/Objects") ∈ TBL := qs_1 18 rfl rfl
set_option maxRecDepth 20000 in
theorem q_91 : (Cond.initialized "jdk/internal/util/Preconditions") ∈ TBL := qs_1 19 rfl rfl
set_option maxRecDepth 20000 in
theorem q_92 : (Cond.initialized "java/lang/IllegalArgumentException") ∈ TBL := qs_1 20 rfl rfl
set_option maxRecDepth 20000 in
theorem q_93 : (Cond.initialized "Thumbreel$Order") ∈ TBL := qs_1 21 rfl rfl
set_option maxRecDepth 20000 in
theorem q_94 : (Cond.initialized "Thumbreel$Copy") ∈ TBL := qs_1 22 rfl rfl
set_option maxRecDepth 20000 in
theorem q_95 : (Cond.initialized "Thumbreel$Sheet") ∈ TBL := qs_1 23 rfl rfl
set_option maxRecDepth 20000 in
theorem q_96 : (Cond.initialized "Thumbreel$Leaf") ∈ TBL := qs_1 24 rfl rfl
set_option maxRecDepth 20000 in
theorem q_97 : (Cond.initialized "java/util/NoSuchElementException") ∈ TBL := qs_1 25 rfl rfl
set_option maxRecDepth 20000 in
theorem q_98 : (Cond.classLink "ThumbreelLaw" 8 "Thumbreel") ∈ TBL := qs_1 26 rfl rfl
set_option maxRecDepth 20000 in
theorem q_99 : (Cond.instantiable "Thumbreel" 9) ∈ TBL := qs_1 27 rfl rfl
set_option maxRecDepth 20000 in
theorem q_100 : (Cond.methodLink "ThumbreelLaw" 90 ⟨"Thumbreel", "<init>", "()V"⟩) ∈ TBL := qs_1 28 rfl rfl
set_option maxRecDepth 20000 in
theorem q_101 : (Cond.instanceMethod ⟨"Thumbreel", "<init>", "()V"⟩) ∈ TBL := qs_1 29 rfl rfl
set_option maxRecDepth 20000 in
theorem q_102 : (Cond.code ⟨"Thumbreel", "<init>", "()V"⟩ prog_1_method_1_code 1 none) ∈ TBL := qs_1 30 rfl rfl
set_option maxRecDepth 20000 in
theorem q_103 : (Cond.methodLink "Thumbreel" 3 ⟨"java/lang/Object", "<init>", "()V"⟩) ∈ TBL := qs_1 31 rfl rfl
set_option maxRecDepth 20000 in
theorem q_104 : (Cond.instanceMethod ⟨"java/lang/Object", "<init>", "()V"⟩) ∈ TBL := qs_1 32 rfl rfl
set_option maxRecDepth 20000 in
theorem q_105 : (Cond.code ⟨"java/lang/Object", "<init>", "()V"⟩ object_method_1_code 1 none) ∈ TBL := qs_1 33 rfl rfl
set_option maxRecDepth 20000 in
theorem q_106 : (Cond.classLink "Thumbreel" 9 "java/util/ArrayList") ∈ TBL := qs_1 34 rfl rfl
set_option maxRecDepth 20000 in
theorem q_107 : (Cond.instantiable "java/util/ArrayList" 3) ∈ TBL := qs_1 35 rfl rfl
set_option maxRecDepth 20000 in
theorem q_108 : (Cond.methodLink "Thumbreel" 11 ⟨"java/util/ArrayList", "<init>", "()V"⟩) ∈ TBL := qs_1 36 rfl rfl
set_option maxRecDepth 20000 in
theorem q_109 : (Cond.instanceMethod ⟨"java/util/ArrayList", "<init>", "()V"⟩) ∈ TBL := qs_1 37 rfl rfl
set_option maxRecDepth 20000 in
theorem q_110 : (Cond.code ⟨"java/util/ArrayList", "<init>", "()V"⟩ prog_25_method_2_code 1 none) ∈ TBL := qs_1 38 rfl rfl
set_option maxRecDepth 20000 in
theorem q_111 : (Cond.methodLink "java/util/ArrayList" 1 ⟨"java/util/AbstractList", "<init>", "()V"⟩) ∈ TBL := qs_1 39 rfl rfl
set_option maxRecDepth 20000 in
theorem q_112 : (Cond.instanceMethod ⟨"java/util/AbstractList", "<init>", "()V"⟩) ∈ TBL := qs_1 40 rfl rfl
set_option maxRecDepth 20000 in
theorem q_113 : (Cond.code ⟨"java/util/AbstractList", "<init>", "()V"⟩ prog_24_method_1_code 1 none) ∈ TBL := qs_1 41 rfl rfl
set_option maxRecDepth 20000 in
theorem q_114 : (Cond.methodLink "java/util/AbstractList" 1 ⟨"java/util/AbstractCollection", "<init>", "()V"⟩) ∈ TBL := qs_1 42 rfl rfl
set_option maxRecDepth 20000 in
theorem q_115 : (Cond.instanceMethod ⟨"java/util/AbstractCollection", "<init>", "()V"⟩) ∈ TBL := qs_1 43 rfl rfl
set_option maxRecDepth 20000 in
theorem q_116 : (Cond.code ⟨"java/util/AbstractCollection", "<init>", "()V"⟩ prog_23_method_1_code 1 none) ∈ TBL := qs_1 44 rfl rfl
set_option maxRecDepth 20000 in
theorem q_117 : (Cond.methodLink "java/util/AbstractCollection" 1 ⟨"java/lang/Object", "<init>", "()V"⟩) ∈ TBL := qs_1 45 rfl rfl
set_option maxRecDepth 20000 in
theorem q_118 : (Cond.fieldLink "java/util/ArrayList" 39 "java/util/ArrayList" "DEFAULTCAPACITY_EMPTY_ELEMENTDATA" "[Ljava/lang/Object;") ∈ TBL := qs_1 46 rfl rfl
set_option maxRecDepth 20000 in
theorem q_120 : (Cond.fieldLink "java/util/ArrayList" 9 "java/util/ArrayList" "elementData" "[Ljava/lang/Object;") ∈ TBL := qs_1 48 rfl rfl
set_option maxRecDepth 20000 in
theorem q_121 : (Cond.fieldLink "java/util/ArrayList" 48 "java/util/ArrayList" "size" "I") ∈ TBL := qs_1 49 rfl rfl
set_option maxRecDepth 20000 in
theorem q_122 : (Cond.fieldLink "java/util/AbstractList" 7 "java/util/AbstractList" "modCount" "I") ∈ TBL := qs_1 50 rfl rfl
set_option maxRecDepth 20000 in
theorem q_123 : (Cond.fieldLink "java/util/ArrayList" 63 "java/util/ArrayList" "modCount" "I") ∈ TBL := qs_1 51 rfl rfl
set_option maxRecDepth 20000 in
theorem q_124 : (Cond.sameField "java/util/ArrayList" "java/util/AbstractList" "modCount" "I") ∈ TBL := qs_1 52 rfl rfl
set_option maxRecDepth 20000 in
theorem q_125 : (Cond.lays "java/util/ArrayList" "java/util/ArrayList" "elementData" "[Ljava/lang/Object;") ∈ TBL := qs_1 53 rfl rfl
set_option maxRecDepth 20000 in
theorem q_126 : (Cond.soleField "java/util/ArrayList" "elementData") ∈ TBL := qs_1 54 rfl rfl
set_option maxRecDepth 20000 in
theorem q_127 : (Cond.lays "java/util/ArrayList" "java/util/ArrayList" "size" "I") ∈ TBL := qs_1 55 rfl rfl
set_option maxRecDepth 20000 in
theorem q_128 : (Cond.soleField "java/util/ArrayList" "size") ∈ TBL := qs_1 56 rfl rfl
set_option maxRecDepth 20000 in
theorem q_129 : (Cond.lays "java/util/ArrayList" "java/util/AbstractList" "modCount" "I") ∈ TBL := qs_1 57 rfl rfl
set_option maxRecDepth 20000 in
theorem q_130 : (Cond.soleField "java/util/AbstractList" "modCount") ∈ TBL := qs_1 58 rfl rfl
set_option maxRecDepth 20000 in
theorem q_131 : (Cond.superclass "java/util/ArrayList" "java/util/AbstractList") ∈ TBL := qs_1 59 rfl rfl
set_option maxRecDepth 20000 in
theorem q_132 : (Cond.classLink "Thumbreel" 29 "Thumbreel$Piles") ∈ TBL := qs_1 60 rfl rfl
set_option maxRecDepth 20000 in
theorem q_133 : (Cond.instantiable "Thumbreel$Piles" 6) ∈ TBL := qs_1 61 rfl rfl
set_option maxRecDepth 20000 in
theorem q_134 : (Cond.methodLinkNest "Thumbreel" 31 ⟨"Thumbreel$Piles", "<init>", "()V"⟩ "Thumbreel") ∈ TBL := qs_1 62 rfl rfl
set_option maxRecDepth 20000 in
theorem q_135 : (Cond.instanceMethod ⟨"Thumbreel$Piles", "<init>", "()V"⟩) ∈ TBL := qs_1 63 rfl rfl
set_option maxRecDepth 20000 in
theorem q_136 : (Cond.code ⟨"Thumbreel$Piles", "<init>", "()V"⟩ prog_7_method_1_code 1 none) ∈ TBL := qs_1 64 rfl rfl
set_option maxRecDepth 20000 in
theorem q_137 : (Cond.methodLink "Thumbreel$Piles" 3 ⟨"java/lang/Object", "<init>", "()V"⟩) ∈ TBL := qs_1 65 rfl rfl
set_option maxRecDepth 20000 in
theorem q_138 : (Cond.fieldLink "Thumbreel$Piles" 9 "Thumbreel$Piles" "cells" "[I") ∈ TBL := qs_1 66 rfl rfl
set_option maxRecDepth 20000 in
theorem q_139 : (Cond.fieldLink "Thumbreel$Piles" 15 "Thumbreel$Piles" "heights" "[I") ∈ TBL := qs_1 67 rfl rfl
set_option maxRecDepth 20000 in
theorem q_140 : (Cond.fieldLink "Thumbreel$Piles" 18 "Thumbreel$Piles" "top" "I") ∈ TBL := qs_1 68 rfl rfl
set_option maxRecDepth 20000 in
theorem q_141 : (Cond.fieldLink "Thumbreel$Piles" 22 "Thumbreel$Piles" "left" "I") ∈ TBL := qs_1 69 rfl rfl
set_option maxRecDepth 20000 in
theorem q_142 : (Cond.fieldLink "Thumbreel$Piles" 25 "Thumbreel$Piles" "rows" "I") ∈ TBL := qs_1 70 rfl rfl
set_option maxRecDepth 20000 in
theorem q_143 : (Cond.fieldLink "Thumbreel$Piles" 28 "Thumbreel$Piles" "columns" "I") ∈ TBL := qs_1 71 rfl rfl
set_option maxRecDepth 20000 in
theorem q_144 : (Cond.laysFinal "Thumbreel$Piles" "Thumbreel$Piles" "cells" "[I") ∈ TBL := qs_1 72 rfl rfl
set_option maxRecDepth 20000 in
theorem q_145 : (Cond.soleField "Thumbreel$Piles" "cells") ∈ TBL := qs_1 73 rfl rfl
set_option maxRecDepth 20000 in
theorem q_146 : (Cond.laysFinal "Thumbreel$Piles" "Thumbreel$Piles" "heights" "[I") ∈ TBL := qs_1 74 rfl rfl
set_option maxRecDepth 20000 in
theorem q_147 : (Cond.soleField "Thumbreel$Piles" "heights") ∈ TBL := qs_1 75 rfl rfl
set_option maxRecDepth 20000 in
theorem q_148 : (Cond.lays "Thumbreel$Piles" "Thumbreel$Piles" "top" "I") ∈ TBL := qs_1 76 rfl rfl
set_option maxRecDepth 20000 in
theorem q_149 : (Cond.soleField "Thumbreel$Piles" "top") ∈ TBL := qs_1 77 rfl rfl
set_option maxRecDepth 20000 in
theorem q_150 : (Cond.lays "Thumbreel$Piles" "Thumbreel$Piles" "left" "I") ∈ TBL := qs_1 78 rfl rfl
set_option maxRecDepth 20000 in
theorem q_151 : (Cond.soleField "Thumbreel$Piles" "left") ∈ TBL := qs_1 79 rfl rfl
set_option maxRecDepth 20000 in
theorem q_152 : (Cond.lays "Thumbreel$Piles" "Thumbreel$Piles" "rows" "I") ∈ TBL := qs_1 80 rfl rfl
set_option maxRecDepth 20000 in
theorem q_153 : (Cond.soleField "Thumbreel$Piles" "rows") ∈ TBL := qs_1 81 rfl rfl
set_option maxRecDepth 20000 in
theorem q_154 : (Cond.lays "Thumbreel$Piles" "Thumbreel$Piles" "columns" "I") ∈ TBL := qs_1 82 rfl rfl
set_option maxRecDepth 20000 in
theorem q_155 : (Cond.soleField "Thumbreel$Piles" "columns") ∈ TBL := qs_1 83 rfl rfl
set_option maxRecDepth 20000 in
theorem q_156 : (Cond.superclass "Thumbreel$Piles" "java/lang/Object") ∈ TBL := qs_1 84 rfl rfl
set_option maxRecDepth 20000 in
theorem q_157 : (Cond.arrayClass FieldType.int) ∈ TBL := qs_1 85 rfl rfl
set_option maxRecDepth 20000 in
theorem q_158 : (Cond.classLink "Thumbreel" 36 "Thumbreel$Folding") ∈ TBL := qs_1 86 rfl rfl
set_option maxRecDepth 20000 in
theorem q_159 : (Cond.instantiable "Thumbreel$Folding" 1) ∈ TBL := qs_1 87 rfl rfl
set_option maxRecDepth 20000 in
theorem q_160 : (Cond.methodLinkNest "Thumbreel" 38 ⟨"Thumbreel$Folding", "<init>", "(III)V"⟩ "Thumbreel") ∈ TBL := qs_1 88 rfl rfl
set_option maxRecDepth 20000 in
theorem q_161 : (Cond.instanceMethod ⟨"Thumbreel$Folding", "<init>", "(III)V"⟩) ∈ TBL := qs_1 89 rfl rfl
set_option maxRecDepth 20000 in
theorem q_162 : (Cond.code ⟨"Thumbreel$Folding", "<init>", "(III)V"⟩ prog_4_method_1_code 4 none) ∈ TBL := qs_1 90 rfl rfl
set_option maxRecDepth 20000 in
theorem q_163 : (Cond.methodLink "Thumbreel$Folding" 3 ⟨"java/lang/Object", "<init>", "()V"⟩) ∈ TBL := qs_1 91 rfl rfl
set_option maxRecDepth 20000 in
theorem q_164 : (Cond.fieldLink "Thumbreel$Folding" 9 "Thumbreel$Folding" "folds" "[I") ∈ TBL := qs_1 92 rfl rfl
set_option maxRecDepth 20000 in
theorem q_165 : (Cond.fieldLinkNest "Thumbreel$Piles" 34 "Thumbreel$Folding" "folds" "[I" "Thumbreel") ∈ TBL := qs_1 93 rfl rfl
set_option maxRecDepth 20000 in
theorem q_166 : (Cond.laysFinal "Thumbreel$Folding" "Thumbreel$Folding" "folds" "[I") ∈ TBL := qs_1 94 rfl rfl
set_option maxRecDepth 20000 in
theorem q_167 : (Cond.soleField "Thumbreel$Folding" "folds") ∈ TBL := qs_1 95 rfl rfl
set_option maxRecDepth 20000 in
theorem q_168 : (Cond.superclass "Thumbreel$Folding" "java/lang/Object") ∈ TBL := qs_1 96 rfl rfl
set_option maxRecDepth 20000 in
theorem q_169 : (Cond.fieldLink "Thumbreel" 12 "Thumbreel" "books" "Ljava/util/ArrayList;") ∈ TBL := qs_1 97 rfl rfl
set_option maxRecDepth 20000 in
theorem q_170 : (Cond.fieldLink "Thumbreel" 16 "Thumbreel" "orders" "Ljava/util/ArrayList;") ∈ TBL := qs_1 98 rfl rfl
set_option maxRecDepth 20000 in
theorem q_171 : (Cond.fieldLink "Thumbreel" 19 "Thumbreel" "sheets" "Ljava/util/ArrayList;") ∈ TBL := qs_1 99 rfl rfl
set_option maxRecDepth 20000 in
theorem q_172 : (Cond.fieldLink "Thumbreel" 22 "Thumbreel" "turns" "[I") ∈ TBL := qs_1 100 rfl rfl
set_option maxRecDepth 20000 in
theorem q_173 : (Cond.fieldLink "Thumbreel" 26 "Thumbreel" "dullness" "[I") ∈ TBL := qs_1 101 rfl rfl
set_option maxRecDepth 20000 in
theorem q_174 : (Cond.fieldLink "Thumbreel" 32 "Thumbreel" "piles" "LThumbreel$Piles;") ∈ TBL := qs_1 102 rfl rfl
set_option maxRecDepth 20000 in
theorem q_175 : (Cond.fieldLink "Thumbreel" 41 "Thumbreel" "folding" "LThumbreel$Folding;") ∈ TBL := qs_1 103 rfl rfl
set_option maxRecDepth 20000 in
theorem q_176 : (Cond.fieldLink "Thumbreel" 45 "Thumbreel" "tolerance" "I") ∈ TBL := qs_1 104 rfl rfl
set_option maxRecDepth 20000 in
theorem q_177 : (Cond.fieldLink "Thumbreel" 49 "Thumbreel" "spoiledLeaves" "I") ∈ TBL := qs_1 105 rfl rfl
set_option maxRecDepth 20000 in
theorem q_178 : (Cond.laysFinal "Thumbreel" "Thumbreel" "books" "Ljava/util/ArrayList;") ∈ TBL := qs_1 106 rfl rfl
set_option maxRecDepth 20000 in
theorem q_179 : (Cond.soleField "Thumbreel" "books") ∈ TBL := qs_1 107 rfl rfl
set_option maxRecDepth 20000 in
theorem q_180 : (Cond.laysFinal "Thumbreel" "Thumbreel" "orders" "Ljava/util/ArrayList;") ∈ TBL := qs_1 108 rfl rfl
set_option maxRecDepth 20000 in
theorem q_181 : (Cond.soleField "Thumbreel" "orders") ∈ TBL := qs_1 109 rfl rfl
set_option maxRecDepth 20000 in
theorem q_182 : (Cond.laysFinal "Thumbreel" "Thumbreel" "sheets" "Ljava/util/ArrayList;") ∈ TBL := qs_1 110 rfl rfl
set_option maxRecDepth 20000 in
theorem q_183 : (Cond.soleField "Thumbreel" "sheets") ∈ TBL := qs_1 111 rfl rfl
set_option maxRecDepth 20000 in
theorem q_184 : (Cond.laysFinal "Thumbreel" "Thumbreel" "turns" "[I") ∈ TBL := qs_1 112 rfl rfl
set_option maxRecDepth 20000 in
theorem q_185 : (Cond.soleField "Thumbreel" "turns") ∈ TBL := qs_1 113 rfl rfl
set_option maxRecDepth 20000 in
theorem q_186 : (Cond.laysFinal "Thumbreel" "Thumbreel" "dullness" "[I") ∈ TBL := qs_1 114 rfl rfl
set_option maxRecDepth 20000 in
theorem q_187 : (Cond.soleField "Thumbreel" "dullness") ∈ TBL := qs_1 115 rfl rfl
set_option maxRecDepth 20000 in
theorem q_188 : (Cond.laysFinal "Thumbreel" "Thumbreel" "piles" "LThumbreel$Piles;") ∈ TBL := qs_1 116 rfl rfl
set_option maxRecDepth 20000 in
theorem q_189 : (Cond.soleField "Thumbreel" "piles") ∈ TBL := qs_1 117 rfl rfl
set_option maxRecDepth 20000 in
theorem q_190 : (Cond.lays "Thumbreel" "Thumbreel" "folding" "LThumbreel$Folding;") ∈ TBL := qs_1 118 rfl rfl
set_option maxRecDepth 20000 in
theorem q_191 : (Cond.soleField "Thumbreel" "folding") ∈ TBL := qs_1 119 rfl rfl
set_option maxRecDepth 20000 in
theorem q_192 : (Cond.lays "Thumbreel" "Thumbreel" "tolerance" "I") ∈ TBL := qs_1 120 rfl rfl
set_option maxRecDepth 20000 in
theorem q_193 : (Cond.soleField "Thumbreel" "tolerance") ∈ TBL := qs_1 121 rfl rfl
set_option maxRecDepth 20000 in
theorem q_194 : (Cond.lays "Thumbreel" "Thumbreel" "spoiledLeaves" "I") ∈ TBL := qs_1 122 rfl rfl
set_option maxRecDepth 20000 in
theorem q_195 : (Cond.soleField "Thumbreel" "spoiledLeaves") ∈ TBL := qs_1 123 rfl rfl
set_option maxRecDepth 20000 in
theorem q_196 : (Cond.superclass "Thumbreel" "java/lang/Object") ∈ TBL := qs_1 124 rfl rfl
set_option maxRecDepth 20000 in
theorem q_197 : (Cond.methodLink "ThumbreelLaw" 144 ⟨"Thumbreel", "waiting", "()I"⟩) ∈ TBL := qs_1 125 rfl rfl
set_option maxRecDepth 20000 in
theorem q_198 : (Cond.instanceMethod ⟨"Thumbreel", "waiting", "()I"⟩) ∈ TBL := qs_1 126 rfl rfl
set_option maxRecDepth 20000 in
theorem q_199 : (Cond.selects "Thumbreel" ⟨"Thumbreel", "waiting", "()I"⟩ ⟨"Thumbreel", "waiting", "()I"⟩) ∈ TBL := qs_1 127 rfl rfl
set_option maxRecDepth 20000 in
theorem q_200 : (Cond.code ⟨"Thumbreel", "waiting", "()I"⟩ prog_1_method_15_code 3 (some FieldType.int)) ∈ TBL := qs_1 128 rfl rfl
set_option maxRecDepth 20000 in
theorem q_201 : (Cond.methodLink "Thumbreel" 52 ⟨"java/util/ArrayList", "size", "()I"⟩) ∈ TBL := qs_1 129 rfl rfl
set_option maxRecDepth 20000 in
theorem q_202 : (Cond.instanceMethod ⟨"java/util/ArrayList", "size", "()I"⟩) ∈ TBL := qs_1 130 rfl rfl
set_option maxRecDepth 20000 in
theorem q_203 : (Cond.selects "java/util/ArrayList" ⟨"java/util/ArrayList", "size", "()I"⟩ ⟨"java/util/ArrayList", "size", "()I"⟩) ∈ TBL := qs_1 131 rfl rfl
set_option maxRecDepth 20000 in
theorem q_204 : (Cond.code ⟨"java/util/ArrayList", "size", "()I"⟩ prog_25_method_8_code 1 (some FieldType.int)) ∈ TBL := qs_1 132 rfl rfl
set_option maxRecDepth 20000 in
theorem q_205 : (Cond.methodLink "Thumbreel" 127 ⟨"java/util/ArrayList", "get", "(I)Ljava/lang/Object;"⟩) ∈ TBL := qs_1 133 rfl rfl
set_option maxRecDepth 20000 in
theorem q_206 : (Cond.instanceMethod ⟨"java/util/ArrayList", "get", "(I)Ljava/lang/Object;"⟩) ∈ TBL := qs_1 134 rfl rfl
set_option maxRecDepth 20000 in
theorem q_207 : (Cond.selects "java/util/ArrayList" ⟨"java/util/ArrayList", "get", "(I)Ljava/lang/Object;"⟩ ⟨"java/util/ArrayList", "get", "(I)Ljava/lang/Object;"⟩) ∈ TBL := qs_1 135 rfl rfl
set_option maxRecDepth 20000 in
theorem q_208 : (Cond.code ⟨"java/util/ArrayList", "get", "(I)Ljava/lang/Object;"⟩ prog_25_method_20_code 2 (some (FieldType.object "java/lang/Object"))) ∈ TBL := qs_1 136 rfl rfl
set_option maxRecDepth 20000 in
theorem q_209 : (Cond.methodLink "java/util/ArrayList" 118 ⟨"java/util/Objects", "checkIndex", "(II)I"⟩) ∈ TBL := qs_1 137 rfl rfl
set_option maxRecDepth 20000 in
theorem q_210 : (Cond.static ⟨"java/util/Objects", "checkIndex", "(II)I"⟩) ∈ TBL := qs_1 138 rfl rfl
set_option maxRecDepth 20000 in
theorem q_211 : (Cond.code ⟨"java/util/Objects", "checkIndex", "(II)I"⟩ prog_30_method_17_code 2 (some FieldType.int)) ∈ TBL := qs_1 139 rfl rfl
set_option maxRecDepth 20000 in
theorem q_212 : (Cond.methodLink "java/util/Objects" 105 ⟨"jdk/internal/util/Preconditions", "checkIndex", "(IILjava/util/function/BiFunction;)I"⟩) ∈ TBL := qs_1 140 rfl rfl
set_option maxRecDepth 20000 in
theorem q_213 : (Cond.static ⟨"jdk/internal/util/Preconditions", "checkIndex", "(IILjava/util/function/BiFunction;)I"⟩) ∈ TBL := qs_1 141 rfl rfl
set_option maxRecDepth 20000 in
theorem q_214 : (Cond.code ⟨"jdk/internal/util/Preconditions", "checkIndex", "(IILjava/util/function/BiFunction;)I"⟩ prog_34_method_11_code 3 (some FieldType.int)) ∈ TBL := qs_1 142 rfl rfl
set_option maxRecDepth 20000 in
theorem q_215 : (Cond.methodLink "java/util/ArrayList" 123 ⟨"java/util/ArrayList", "elementData", "(I)Ljava/lang/Object;"⟩) ∈ TBL := qs_1 143 rfl rfl
set_option maxRecDepth 20000 in
theorem q_216 : (Cond.instanceMethod ⟨"java/util/ArrayList", "elementData", "(I)Ljava/lang/Object;"⟩) ∈ TBL := qs_1 144 rfl rfl
set_option maxRecDepth 20000 in
theorem q_217 : (Cond.selects "java/util/ArrayList" ⟨"java/util/ArrayList", "elementData", "(I)Ljava/lang/Object;"⟩ ⟨"java/util/ArrayList", "elementData", "(I)Ljava/lang/Object;"⟩) ∈ TBL := qs_1 145 rfl rfl
set_option maxRecDepth 20000 in
theorem q_218 : (Cond.code ⟨"java/util/ArrayList", "elementData", "(I)Ljava/lang/Object;"⟩ prog_25_method_18_code 2 (some (FieldType.object "java/lang/Object"))) ∈ TBL := qs_1 146 rfl rfl
set_option maxRecDepth 20000 in
theorem q_219 : (Cond.classLink "Thumbreel" 174 "Thumbreel$Sheet") ∈ TBL := qs_1 147 rfl rfl
set_option maxRecDepth 20000 in
theorem q_220 : (Cond.methodLink "ThumbreelLaw" 154 ⟨"Thumbreel", "discard", "()I"⟩) ∈ TBL := qs_1 148 rfl rfl
set_option maxRecDepth 20000 in
theorem q_221 : (Cond.instanceMethod ⟨"Thumbreel", "discard", "()I"⟩) ∈ TBL := qs_1 149 rfl rfl
set_option maxRecDepth 20000 in
theorem q_222 : (Cond.selects "Thumbreel" ⟨"Thumbreel", "discard", "()I"⟩ ⟨"Thumbreel", "discard", "()I"⟩) ∈ TBL := qs_1 150 rfl rfl
set_option maxRecDepth 20000 in
theorem q_223 : (Cond.code ⟨"Thumbreel", "discard", "()I"⟩ prog_1_method_18_code 4 (some FieldType.int)) ∈ TBL := qs_1 151 rfl rfl
set_option maxRecDepth 20000 in
theorem q_224 : (Cond.methodLinkNest "Thumbreel" 202 ⟨"Thumbreel$Sheet", "isOfUse", "()Z"⟩ "Thumbreel") ∈ TBL := qs_1 152 rfl rfl
set_option maxRecDepth 20000 in
theorem q_225 : (Cond.privateMethod ⟨"Thumbreel$Sheet", "isOfUse", "()Z"⟩) ∈ TBL := qs_1 153 rfl rfl
set_option maxRecDepth 20000 in
theorem q_226 : (Cond.instanceMethod ⟨"Thumbreel$Sheet", "isOfUse", "()Z"⟩) ∈ TBL := qs_1 154 rfl rfl
set_option maxRecDepth 20000 in
theorem q_227 : (Cond.instantiable "Thumbreel$Sheet" 4) ∈ TBL := qs_1 155 rfl rfl
set_option maxRecDepth 20000 in
theorem q_228 : (Cond.code ⟨"Thumbreel$Sheet", "isOfUse", "()Z"⟩ prog_8_method_6_code 3 (some FieldType.boolean)) ∈ TBL := qs_1 156 rfl rfl
set_option maxRecDepth 20000 in
theorem q_229 : (Cond.methodLink "ThumbreelLaw" 179 ⟨"Thumbreel", "spoiled", "()I"⟩) ∈ TBL := qs_1 157 rfl rfl
set_option maxRecDepth 20000 in
theorem q_230 : (Cond.instanceMethod ⟨"Thumbreel", "spoiled", "()I"⟩) ∈ TBL := qs_1 158 rfl rfl
set_option maxRecDepth 20000 in
theorem q_231 : (Cond.selects "Thumbreel" ⟨"Thumbreel", "spoiled", "()I"⟩ ⟨"Thumbreel", "spoiled", "()I"⟩) ∈ TBL := qs_1 159 rfl rfl
set_option maxRecDepth 20000 in
theorem q_232 : (Cond.code ⟨"Thumbreel", "spoiled", "()I"⟩ prog_1_method_26_code 1 (some FieldType.int)) ∈ TBL := qs_1 160 rfl rfl
set_option maxRecDepth 20000 in
theorem q_233 : (Cond.methodLink "ThumbreelLaw" 94 ⟨"ThumbreelLaw", "addBook", "(LThumbreel;[J)I"⟩) ∈ TBL := qs_1 161 rfl rfl
set_option maxRecDepth 20000 in
theorem q_234 : (Cond.static ⟨"ThumbreelLaw", "addBook", "(LThumbreel;[J)I"⟩) ∈ TBL := qs_1 162 rfl rfl
set_option maxRecDepth 20000 in
theorem q_235 : (Cond.codeWith ⟨"ThumbreelLaw", "addBook", "(LThumbreel;[J)I"⟩ method_3_code 3 (some FieldType.int) [(0, 8, 11, 13)]) ∈ TBL := qs_1 163 rfl rfl
set_option maxRecDepth 20000 in
theorem q_236 : (Cond.classLink "ThumbreelLaw" 13 "java/lang/IllegalStateException") ∈ TBL := qs_1 164 rfl rfl
set_option maxRecDepth 20000 in
theorem q_237 : (Cond.methodLink "ThumbreelLaw" 7 ⟨"Thumbreel", "addBook", "()I"⟩) ∈ TBL := qs_1 165 rfl rfl
set_option maxRecDepth 20000 in
theorem q_238 : (Cond.instanceMethod ⟨"Thumbreel", "addBook", "()I"⟩) ∈ TBL := qs_1 166 rfl rfl
set_option maxRecDepth 20000 in
theorem q_239 : (Cond.selects "Thumbreel" ⟨"Thumbreel", "addBook", "()I"⟩ ⟨"Thumbreel", "addBook", "()I"⟩) ∈ TBL := qs_1 167 rfl rfl
set_option maxRecDepth 20000 in
theorem q_240 : (Cond.code ⟨"Thumbreel", "addBook", "()I"⟩ prog_1_method_2_code 1 (some FieldType.int)) ∈ TBL := qs_1 168 rfl rfl
set_option maxRecDepth 20000 in
theorem q_241 : (Cond.classLink "Thumbreel" 56 "java/lang/IllegalStateException") ∈ TBL := qs_1 169 rfl rfl
set_option maxRecDepth 20000 in
theorem q_242 : (Cond.instantiable "java/lang/IllegalStateException" 6) ∈ TBL := qs_1 170 rfl rfl
set_option maxRecDepth 20000 in
theorem q_243 : (Cond.castable "java/lang/IllegalStateException" "java/lang/IllegalStateException") ∈ TBL := qs_1 171 rfl rfl
set_option maxRecDepth 20000 in
theorem q_244 : (Cond.declares ⟨"java/lang/RuntimeException", "<init>", "()V"⟩) ∈ TBL := qs_1 172 rfl rfl
set_option maxRecDepth 20000 in
theorem q_245 : (Cond.declares ⟨"java/lang/RuntimeException", "<init>", "(Ljava/lang/String;)V"⟩) ∈ TBL := qs_1 173 rfl rfl
set_option maxRecDepth 20000 in
theorem q_246 : (Cond.declares ⟨"java/lang/Exception", "<init>", "()V"⟩) ∈ TBL := qs_1 174 rfl rfl
set_option maxRecDepth 20000 in
theorem q_247 : (Cond.declares ⟨"java/lang/Exception", "<init>", "(Ljava/lang/String;)V"⟩) ∈ TBL := qs_1 175 rfl rfl
set_option maxRecDepth 20000 in
theorem q_248 : (Cond.declares ⟨"java/lang/Throwable", "<init>", "()V"⟩) ∈ TBL := qs_1 176 rfl rfl
set_option maxRecDepth 20000 in
theorem q_249 : (Cond.declares ⟨"java/lang/Throwable", "<init>", "(Ljava/lang/String;)V"⟩) ∈ TBL := qs_1 177 rfl rfl
set_option maxRecDepth 20000 in
theorem q_250 : (Cond.selects "java/lang/IllegalStateException" ⟨"java/lang/Throwable", "fillInStackTrace", "(I)Ljava/lang/Throwable;"⟩ ⟨"java/lang/Throwable", "fillInStackTrace", "(I)Ljava/lang/Throwable;"⟩) ∈ TBL := qs_1 178 rfl rfl
set_option maxRecDepth 20000 in
theorem q_251 : (Cond.selects "java/lang/IllegalStateException" ⟨"java/lang/Throwable", "fillInStackTrace", "()Ljava/lang/Throwable;"⟩ ⟨"java/lang/Throwable", "fillInStackTrace", "()Ljava/lang/Throwable;"⟩) ∈ TBL := qs_1 179 rfl rfl
set_option maxRecDepth 20000 in
theorem q_252 : (Cond.lays "java/lang/IllegalStateException" "java/lang/Throwable" "cause" "Ljava/lang/Throwable;") ∈ TBL := qs_1 180 rfl rfl
set_option maxRecDepth 20000 in
theorem q_253 : (Cond.lays "java/lang/Throwable" "java/lang/Throwable" "cause" "Ljava/lang/Throwable;") ∈ TBL := qs_1 181 rfl rfl
set_option maxRecDepth 20000 in
theorem q_254 : (Cond.lays "java/lang/IllegalStateException" "java/lang/Throwable" "stackTrace" "[Ljava/lang/StackTraceElement;") ∈ TBL := qs_1 182 rfl rfl
set_option maxRecDepth 20000 in
theorem q_255 : (Cond.lays "java/lang/Throwable" "java/lang/Throwable" "stackTrace" "[Ljava/lang/StackTraceElement;") ∈ TBL := qs_1 183 rfl rfl
set_option maxRecDepth 20000 in
theorem q_256 : (Cond.lays "java/lang/IllegalStateException" "java/lang/Throwable" "suppressedExceptions" "Ljava/util/List;") ∈ TBL := qs_1 184 rfl rfl
set_option maxRecDepth 20000 in
theorem q_257 : (Cond.lays "java/lang/Throwable" "java/lang/Throwable" "suppressedExceptions" "Ljava/util/List;") ∈ TBL := qs_1 185 rfl rfl
set_option maxRecDepth 20000 in
theorem q_258 : (Cond.lays "java/lang/IllegalStateException" "java/lang/Throwable" "detailMessage" "Ljava/lang/String;") ∈ TBL := qs_1 186 rfl rfl
set_option maxRecDepth 20000 in
theorem q_259 : (Cond.lays "java/lang/Throwable" "java/lang/Throwable" "detailMessage" "Ljava/lang/String;") ∈ TBL := qs_1 187 rfl rfl
set_option maxRecDepth 20000 in
theorem q_260 : (Cond.lays "java/lang/IllegalStateException" "java/lang/Throwable" "backtrace" "Ljava/lang/Object;") ∈ TBL := qs_1 188 rfl rfl
set_option maxRecDepth 20000 in
theorem q_261 : (Cond.lays "java/lang/Throwable" "java/lang/Throwable" "backtrace" "Ljava/lang/Object;") ∈ TBL := qs_1 189 rfl rfl
set_option maxRecDepth 20000 in
theorem q_262 : (Cond.fieldLink "java/lang/Throwable" 198 "java/lang/Throwable" "backtrace" "Ljava/lang/Object;") ∈ TBL := qs_1 190 rfl rfl
set_option maxRecDepth 20000 in
theorem q_263 : (Cond.superclass "java/lang/Throwable" "java/lang/Object") ∈ TBL := qs_1 191 rfl rfl
set_option maxRecDepth 20000 in
theorem q_264 : (Cond.instanceMethod ⟨"java/lang/Throwable", "<init>", "()V"⟩) ∈ TBL := qs_1 192 rfl rfl
set_option maxRecDepth 20000 in
theorem q_265 : (Cond.code ⟨"java/lang/Throwable", "<init>", "()V"⟩ prog_22_method_1_code 1 none) ∈ TBL := qs_1 193 rfl rfl
set_option maxRecDepth 20000 in
theorem q_266 : (Cond.methodLink "java/lang/Throwable" 1 ⟨"java/lang/Object", "<init>", "()V"⟩) ∈ TBL := qs_1 194 rfl rfl
set_option maxRecDepth 20000 in
theorem q_267 : (Cond.fieldLink "java/lang/Throwable" 13 "java/lang/Throwable" "UNASSIGNED_STACK" "[Ljava/lang/StackTraceElement;") ∈ TBL := qs_1 195 rfl rfl
set_option maxRecDepth 20000 in
theorem q_269 : (Cond.fieldLink "java/lang/Throwable" 20 "java/lang/Throwable" "SUPPRESSED_SENTINEL" "Ljava/util/List;") ∈ TBL := qs_1 197 rfl rfl
set_option maxRecDepth 20000 in
theorem q_271 : (Cond.methodLink "java/lang/Throwable" 27 ⟨"java/lang/Throwable", "fillInStackTrace", "()Ljava/lang/Throwable;"⟩) ∈ TBL := qs_1 199 rfl rfl
set_option maxRecDepth 20000 in
theorem q_272 : (Cond.instanceMethod ⟨"java/lang/Throwable", "fillInStackTrace", "()Ljava/lang/Throwable;"⟩) ∈ TBL := qs_1 200 rfl rfl
set_option maxRecDepth 20000 in
theorem q_273 : (Cond.sameMethod "java/lang/Throwable" "java/lang/Throwable" "fillInStackTrace" "()Ljava/lang/Throwable;") ∈ TBL := qs_1 201 rfl rfl
set_option maxRecDepth 20000 in
theorem q_274 : (Cond.selects "java/lang/IllegalArgumentException" ⟨"java/lang/Throwable", "fillInStackTrace", "()Ljava/lang/Throwable;"⟩ ⟨"java/lang/Throwable", "fillInStackTrace", "()Ljava/lang/Throwable;"⟩) ∈ TBL := qs_1 202 rfl rfl
set_option maxRecDepth 20000 in
theorem q_275 : (Cond.selects "java/lang/IndexOutOfBoundsException" ⟨"java/lang/Throwable", "fillInStackTrace", "()Ljava/lang/Throwable;"⟩ ⟨"java/lang/Throwable", "fillInStackTrace", "()Ljava/lang/Throwable;"⟩) ∈ TBL := qs_1 203 rfl rfl
set_option maxRecDepth 20000 in
theorem q_276 : (Cond.selects "java/util/NoSuchElementException" ⟨"java/lang/Throwable", "fillInStackTrace", "()Ljava/lang/Throwable;"⟩ ⟨"java/lang/Throwable", "fillInStackTrace", "()Ljava/lang/Throwable;"⟩) ∈ TBL := qs_1 204 rfl rfl
set_option maxRecDepth 20000 in
theorem q_277 : (Cond.codeSync ⟨"java/lang/Throwable", "fillInStackTrace", "()Ljava/lang/Throwable;"⟩ prog_22_method_18_code 1 (some (FieldType.object "java/lang/Throwable"))) ∈ TBL := qs_1 205 rfl rfl
set_option maxRecDepth 20000 in
theorem q_278 : (Cond.methodLink "java/lang/Throwable" 202 ⟨"java/lang/Throwable", "fillInStackTrace", "(I)Ljava/lang/Throwable;"⟩) ∈ TBL := qs_1 206 rfl rfl
set_option maxRecDepth 20000 in
theorem q_279 : (Cond.privateMethod ⟨"java/lang/Throwable", "fillInStackTrace", "(I)Ljava/lang/Throwable;"⟩) ∈ TBL := qs_1 207 rfl rfl
set_option maxRecDepth 20000 in
theorem q_280 : (Cond.instanceMethod ⟨"java/lang/Throwable", "fillInStackTrace", "(I)Ljava/lang/Throwable;"⟩) ∈ TBL := qs_1 208 rfl rfl
set_option maxRecDepth 20000 in
theorem q_281 : (Cond.instantiable "java/lang/Throwable" 6) ∈ TBL := qs_1 209 rfl rfl
set_option maxRecDepth 20000 in
theorem q_282 : (Cond.native ⟨"java/lang/Throwable", "fillInStackTrace", "(I)Ljava/lang/Throwable;"⟩) ∈ TBL := qs_1 210 rfl rfl
set_option maxRecDepth 20000 in
theorem q_284 : (Cond.methodLink "Thumbreel" 60 ⟨"java/lang/IllegalStateException", "<init>", "(Ljava/lang/String;)V"⟩) ∈ TBL := qs_1 212 rfl rfl
set_option maxRecDepth 20000 in
theorem q_285 : (Cond.instanceMethod ⟨"java/lang/IllegalStateException", "<init>", "(Ljava/lang/String;)V"⟩) ∈ TBL := qs_1 213 rfl rfl
set_option maxRecDepth 20000 in
theorem q_286 : (Cond.code ⟨"java/lang/IllegalStateException", "<init>", "(Ljava/lang/String;)V"⟩ prog_15_method_2_code 2 none) ∈ TBL := qs_1 214 rfl rfl
set_option maxRecDepth 20000 in
theorem q_287 : (Cond.methodLink "java/lang/IllegalStateException" 7 ⟨"java/lang/RuntimeException", "<init>", "(Ljava/lang/String;)V"⟩) ∈ TBL := qs_1 215 rfl rfl
set_option maxRecDepth 20000 in
theorem q_288 : (Cond.instanceMethod ⟨"java/lang/RuntimeException", "<init>", "(Ljava/lang/String;)V"⟩) ∈ TBL := qs_1 216 rfl rfl
set_option maxRecDepth 20000 in
theorem q_289 : (Cond.code ⟨"java/lang/RuntimeException", "<init>", "(Ljava/lang/String;)V"⟩ prog_19_method_2_code 2 none) ∈ TBL := qs_1 217 rfl rfl
set_option maxRecDepth 20000 in
theorem q_290 : (Cond.methodLink "java/lang/RuntimeException" 7 ⟨"java/lang/Exception", "<init>", "(Ljava/lang/String;)V"⟩) ∈ TBL := qs_1 218 rfl rfl
set_option maxRecDepth 20000 in
theorem q_291 : (Cond.instanceMethod ⟨"java/lang/Exception", "<init>", "(Ljava/lang/String;)V"⟩) ∈ TBL := qs_1 219 rfl rfl
set_option maxRecDepth 20000 in
theorem q_292 : (Cond.code ⟨"java/lang/Exception", "<init>", "(Ljava/lang/String;)V"⟩ prog_13_method_2_code 2 none) ∈ TBL := qs_1 220 rfl rfl
set_option maxRecDepth 20000 in
theorem q_293 : (Cond.methodLink "java/lang/Exception" 7 ⟨"java/lang/Throwable", "<init>", "(Ljava/lang/String;)V"⟩) ∈ TBL := qs_1 221 rfl rfl
set_option maxRecDepth 20000 in
theorem q_294 : (Cond.instanceMethod ⟨"java/lang/Throwable", "<init>", "(Ljava/lang/String;)V"⟩) ∈ TBL := qs_1 222 rfl rfl
set_option maxRecDepth 20000 in
theorem q_295 : (Cond.code ⟨"java/lang/Throwable", "<init>", "(Ljava/lang/String;)V"⟩ prog_22_method_2_code 2 none) ∈ TBL := qs_1 223 rfl rfl
set_option maxRecDepth 20000 in
theorem q_297 : (Cond.fieldLink "java/lang/Throwable" 31 "java/lang/Throwable" "detailMessage" "Ljava/lang/String;") ∈ TBL := qs_1 225 rfl rfl
set_option maxRecDepth 20000 in
theorem q_298 : (Cond.fieldLink "java/lang/Throwable" 7 "java/lang/Throwable" "cause" "Ljava/lang/Throwable;") ∈ TBL := qs_1 226 rfl rfl
set_option maxRecDepth 20000 in
theorem q_299 : (Cond.fieldLink "java/lang/Throwable" 17 "java/lang/Throwable" "stackTrace" "[Ljava/lang/StackTraceElement;") ∈ TBL := qs_1 227 rfl rfl
set_option maxRecDepth 20000 in
theorem q_300 : (Cond.fieldLink "java/lang/Throwable" 24 "java/lang/Throwable" "suppressedExceptions" "Ljava/util/List;") ∈ TBL := qs_1 228 rfl rfl
set_option maxRecDepth 20000 in
theorem q_301 : (Cond.soleField "java/lang/Throwable" "backtrace") ∈ TBL := qs_1 229 rfl rfl
set_option maxRecDepth 20000 in
theorem q_302 : (Cond.soleField "java/lang/Throwable" "detailMessage") ∈ TBL := qs_1 230 rfl rfl
set_option maxRecDepth 20000 in
theorem q_303 : (Cond.soleField "java/lang/Throwable" "cause") ∈ TBL := qs_1 231 rfl rfl
set_option maxRecDepth 20000 in
theorem q_304 : (Cond.soleField "java/lang/Throwable" "stackTrace") ∈ TBL := qs_1 232 rfl rfl
set_option maxRecDepth 20000 in
theorem q_305 : (Cond.lays "java/lang/IllegalStateException" "java/lang/Throwable" "depth" "I") ∈ TBL := qs_1 233 rfl rfl
set_option maxRecDepth 20000 in
theorem q_306 : (Cond.soleField "java/lang/Throwable" "depth") ∈ TBL := qs_1 234 rfl rfl
set_option maxRecDepth 20000 in
theorem q_307 : (Cond.soleField "java/lang/Throwable" "suppressedExceptions") ∈ TBL := qs_1 235 rfl rfl
set_option maxRecDepth 20000 in
theorem q_308 : (Cond.superclass "java/lang/IllegalStateException" "java/lang/RuntimeException") ∈ TBL := qs_1 236 rfl rfl
set_option maxRecDepth 20000 in
theorem q_309 : (Cond.arrayClass FieldType.byte) ∈ TBL := qs_1 237 rfl rfl
set_option maxRecDepth 20000 in
theorem q_310 : (Cond.classLink "Thumbreel" 63 "Thumbreel$Book") ∈ TBL := qs_1 238 rfl rfl
set_option maxRecDepth 20000 in
theorem q_311 : (Cond.instantiable "Thumbreel$Book" 6) ∈ TBL := qs_1 239 rfl rfl
set_option maxRecDepth 20000 in
theorem q_312 : (Cond.methodLinkNest "Thumbreel" 65 ⟨"Thumbreel$Book", "<init>", "()V"⟩ "Thumbreel") ∈ TBL := qs_2 0 rfl rfl
set_option maxRecDepth 20000 in
theorem q_313 : (Cond.instanceMethod ⟨"Thumbreel$Book", "<init>", "()V"⟩) ∈ TBL := qs_2 1 rfl rfl
set_option maxRecDepth 20000 in
theorem q_314 : (Cond.code ⟨"Thumbreel$Book", "<init>", "()V"⟩ prog_2_method_1_code 1 none) ∈ TBL := qs_2 2 rfl rfl
set_option maxRecDepth 20000 in
theorem q_315 : (Cond.methodLink "Thumbreel$Book" 3 ⟨"java/lang/Object", "<init>", "()V"⟩) ∈ TBL := qs_2 3 rfl rfl
set_option maxRecDepth 20000 in
theorem q_316 : (Cond.fieldLink "Thumbreel$Book" 9 "Thumbreel$Book" "positions" "[I") ∈ TBL := qs_2 4 rfl rfl
set_option maxRecDepth 20000 in
theorem q_317 : (Cond.fieldLink "Thumbreel$Book" 15 "Thumbreel$Book" "betweens" "[I") ∈ TBL := qs_2 5 rfl rfl
set_option maxRecDepth 20000 in
theorem q_318 : (Cond.fieldLink "Thumbreel$Book" 18 "Thumbreel$Book" "curves" "[I") ∈ TBL := qs_2 6 rfl rfl
set_option maxRecDepth 20000 in
theorem q_319 : (Cond.fieldLink "Thumbreel$Book" 21 "Thumbreel$Book" "row" "[I") ∈ TBL := qs_2 7 rfl rfl
set_option maxRecDepth 20000 in
theorem q_320 : (Cond.fieldLink "Thumbreel$Book" 24 "Thumbreel$Book" "drawings" "I") ∈ TBL := qs_2 8 rfl rfl
set_option maxRecDepth 20000 in
theorem q_321 : (Cond.fieldLinkNest "Thumbreel" 74 "Thumbreel$Book" "drawings" "I" "Thumbreel") ∈ TBL := qs_2 9 rfl rfl
set_option maxRecDepth 20000 in
theorem q_322 : (Cond.fieldLink "Thumbreel$Book" 28 "Thumbreel$Book" "length" "I") ∈ TBL := qs_2 10 rfl rfl
set_option maxRecDepth 20000 in
theorem q_323 : (Cond.fieldLinkNest "Thumbreel$Order" 33 "Thumbreel$Book" "length" "I" "Thumbreel") ∈ TBL := qs_2 11 rfl rfl
set_option maxRecDepth 20000 in
theorem q_324 : (Cond.fieldLinkNest "Thumbreel" 106 "Thumbreel$Book" "length" "I" "Thumbreel") ∈ TBL := qs_2 12 rfl rfl
set_option maxRecDepth 20000 in
theorem q_325 : (Cond.laysFinal "Thumbreel$Book" "Thumbreel$Book" "positions" "[I") ∈ TBL := qs_2 13 rfl rfl
set_option maxRecDepth 20000 in
theorem q_326 : (Cond.soleField "Thumbreel$Book" "positions") ∈ TBL := qs_2 14 rfl rfl
set_option maxRecDepth 20000 in
theorem q_327 : (Cond.laysFinal "Thumbreel$Book" "Thumbreel$Book" "betweens" "[I") ∈ TBL := qs_2 15 rfl rfl
set_option maxRecDepth 20000 in
theorem q_328 : (Cond.soleField "Thumbreel$Book" "betweens") ∈ TBL := qs_2 16 rfl rfl
set_option maxRecDepth 20000 in
theorem q_329 : (Cond.laysFinal "Thumbreel$Book" "Thumbreel$Book" "curves" "[I") ∈ TBL := qs_2 17 rfl rfl
set_option maxRecDepth 20000 in
theorem q_330 : (Cond.soleField "Thumbreel$Book" "curves") ∈ TBL := qs_2 18 rfl rfl
set_option maxRecDepth 20000 in
theorem q_331 : (Cond.laysFinal "Thumbreel$Book" "Thumbreel$Book" "row" "[I") ∈ TBL := qs_2 19 rfl rfl
set_option maxRecDepth 20000 in
theorem q_332 : (Cond.soleField "Thumbreel$Book" "row") ∈ TBL := qs_2 20 rfl rfl
set_option maxRecDepth 20000 in
theorem q_333 : (Cond.lays "Thumbreel$Book" "Thumbreel$Book" "drawings" "I") ∈ TBL := qs_2 21 rfl rfl
set_option maxRecDepth 20000 in
theorem q_334 : (Cond.soleField "Thumbreel$Book" "drawings") ∈ TBL := qs_2 22 rfl rfl
set_option maxRecDepth 20000 in
theorem q_335 : (Cond.lays "Thumbreel$Book" "Thumbreel$Book" "length" "I") ∈ TBL := qs_2 23 rfl rfl
set_option maxRecDepth 20000 in
theorem q_336 : (Cond.soleField "Thumbreel$Book" "length") ∈ TBL := qs_2 24 rfl rfl
set_option maxRecDepth 20000 in
theorem q_337 : (Cond.superclass "Thumbreel$Book" "java/lang/Object") ∈ TBL := qs_2 25 rfl rfl
set_option maxRecDepth 20000 in
theorem q_338 : (Cond.methodLink "Thumbreel" 66 ⟨"java/util/ArrayList", "add", "(Ljava/lang/Object;)Z"⟩) ∈ TBL := qs_2 26 rfl rfl
set_option maxRecDepth 20000 in
theorem q_339 : (Cond.instanceMethod ⟨"java/util/ArrayList", "add", "(Ljava/lang/Object;)Z"⟩) ∈ TBL := qs_2 27 rfl rfl
set_option maxRecDepth 20000 in
theorem q_340 : (Cond.selects "java/util/ArrayList" ⟨"java/util/ArrayList", "add", "(Ljava/lang/Object;)Z"⟩ ⟨"java/util/ArrayList", "add", "(Ljava/lang/Object;)Z"⟩) ∈ TBL := qs_2 28 rfl rfl
set_option maxRecDepth 20000 in
theorem q_341 : (Cond.code ⟨"java/util/ArrayList", "add", "(Ljava/lang/Object;)Z"⟩ prog_25_method_25_code 2 (some FieldType.boolean)) ∈ TBL := qs_2 29 rfl rfl
set_option maxRecDepth 20000 in
theorem q_342 : (Cond.methodLink "java/util/ArrayList" 131 ⟨"java/util/ArrayList", "add", "(Ljava/lang/Object;[Ljava/lang/Object;I)V"⟩) ∈ TBL := qs_2 30 rfl rfl
set_option maxRecDepth 20000 in
theorem q_343 : (Cond.privateMethod ⟨"java/util/ArrayList", "add", "(Ljava/lang/Object;[Ljava/lang/Object;I)V"⟩) ∈ TBL := qs_2 31 rfl rfl
set_option maxRecDepth 20000 in
theorem q_344 : (Cond.instanceMethod ⟨"java/util/ArrayList", "add", "(Ljava/lang/Object;[Ljava/lang/Object;I)V"⟩) ∈ TBL := qs_2 32 rfl rfl
set_option maxRecDepth 20000 in
theorem q_345 : (Cond.code ⟨"java/util/ArrayList", "add", "(Ljava/lang/Object;[Ljava/lang/Object;I)V"⟩ prog_25_method_24_code 4 none) ∈ TBL := qs_2 33 rfl rfl
set_option maxRecDepth 20000 in
theorem q_346 : (Cond.methodLink "java/util/ArrayList" 129 ⟨"java/util/ArrayList", "grow", "()[Ljava/lang/Object;"⟩) ∈ TBL := qs_2 34 rfl rfl
set_option maxRecDepth 20000 in
theorem q_347 : (Cond.privateMethod ⟨"java/util/ArrayList", "grow", "()[Ljava/lang/Object;"⟩) ∈ TBL := qs_2 35 rfl rfl
set_option maxRecDepth 20000 in
theorem q_348 : (Cond.instanceMethod ⟨"java/util/ArrayList", "grow", "()[Ljava/lang/Object;"⟩) ∈ TBL := qs_2 36 rfl rfl
set_option maxRecDepth 20000 in
theorem q_349 : (Cond.code ⟨"java/util/ArrayList", "grow", "()[Ljava/lang/Object;"⟩ prog_25_method_7_code 1 (some (FieldType.array (FieldType.object "java/lang/Object")))) ∈ TBL := qs_2 37 rfl rfl
set_option maxRecDepth 20000 in
theorem q_350 : (Cond.methodLink "java/util/ArrayList" 69 ⟨"java/util/ArrayList", "grow", "(I)[Ljava/lang/Object;"⟩) ∈ TBL := qs_2 38 rfl rfl
set_option maxRecDepth 20000 in
theorem q_351 : (Cond.privateMethod ⟨"java/util/ArrayList", "grow", "(I)[Ljava/lang/Object;"⟩) ∈ TBL := qs_2 39 rfl rfl
set_option maxRecDepth 20000 in
theorem q_352 : (Cond.instanceMethod ⟨"java/util/ArrayList", "grow", "(I)[Ljava/lang/Object;"⟩) ∈ TBL := qs_2 40 rfl rfl
set_option maxRecDepth 20000 in
theorem q_353 : (Cond.code ⟨"java/util/ArrayList", "grow", "(I)[Ljava/lang/Object;"⟩ prog_25_method_6_code 4 (some (FieldType.array (FieldType.object "java/lang/Object")))) ∈ TBL := qs_2 41 rfl rfl
set_option maxRecDepth 20000 in
theorem q_354 : (Cond.methodLink "java/util/ArrayList" 73 ⟨"jdk/internal/util/ArraysSupport", "newLength", "(III)I"⟩) ∈ TBL := qs_2 42 rfl rfl
set_option maxRecDepth 20000 in
theorem q_355 : (Cond.static ⟨"jdk/internal/util/ArraysSupport", "newLength", "(III)I"⟩) ∈ TBL := qs_2 43 rfl rfl
set_option maxRecDepth 20000 in
theorem q_356 : (Cond.code ⟨"jdk/internal/util/ArraysSupport", "newLength", "(III)I"⟩ prog_33_method_27_code 4 (some FieldType.int)) ∈ TBL := qs_2 44 rfl rfl
set_option maxRecDepth 20000 in
theorem q_357 : (Cond.methodLink "jdk/internal/util/ArraysSupport" 194 ⟨"java/lang/Math", "max", "(II)I"⟩) ∈ TBL := qs_2 45 rfl rfl
set_option maxRecDepth 20000 in
theorem q_358 : (Cond.static ⟨"java/lang/Math", "max", "(II)I"⟩) ∈ TBL := qs_2 46 rfl rfl
set_option maxRecDepth 20000 in
theorem q_359 : (Cond.code ⟨"java/lang/Math", "max", "(II)I"⟩ prog_18_method_65_code 2 (some FieldType.int)) ∈ TBL := qs_2 47 rfl rfl
set_option maxRecDepth 20000 in
theorem q_360 : (Cond.constant "jdk/internal/util/ArraysSupport" 200 (2147483639 : Int32)) ∈ TBL := qs_2 48 rfl rfl
set_option maxRecDepth 20000 in
theorem q_361 : (Cond.methodLink "jdk/internal/util/ArraysSupport" 201 ⟨"jdk/internal/util/ArraysSupport", "hugeLength", "(II)I"⟩) ∈ TBL := qs_2 49 rfl rfl
set_option maxRecDepth 20000 in
theorem q_362 : (Cond.static ⟨"jdk/internal/util/ArraysSupport", "hugeLength", "(II)I"⟩) ∈ TBL := qs_2 50 rfl rfl
set_option maxRecDepth 20000 in
theorem q_363 : (Cond.code ⟨"jdk/internal/util/ArraysSupport", "hugeLength", "(II)I"⟩ prog_33_method_28_code 3 (some FieldType.int)) ∈ TBL := qs_2 51 rfl rfl
set_option maxRecDepth 20000 in
theorem q_364 : (Cond.methodLink "java/util/ArrayList" 66 ⟨"java/util/Arrays", "copyOf", "([Ljava/lang/Object;I)[Ljava/lang/Object;"⟩) ∈ TBL := qs_2 52 rfl rfl
set_option maxRecDepth 20000 in
theorem q_365 : (Cond.static ⟨"java/util/Arrays", "copyOf", "([Ljava/lang/Object;I)[Ljava/lang/Object;"⟩) ∈ TBL := qs_2 53 rfl rfl
set_option maxRecDepth 20000 in
theorem q_366 : (Cond.code ⟨"java/util/Arrays", "copyOf", "([Ljava/lang/Object;I)[Ljava/lang/Object;"⟩ prog_26_method_119_code 2 (some (FieldType.array (FieldType.object "java/lang/Object")))) ∈ TBL := qs_2 54 rfl rfl
set_option maxRecDepth 20000 in
theorem q_367 : (Cond.methodLink "java/util/Arrays" 86 ⟨"java/lang/Object", "getClass", "()Ljava/lang/Class;"⟩) ∈ TBL := qs_2 55 rfl rfl
set_option maxRecDepth 20000 in
theorem q_368 : (Cond.instanceMethod ⟨"java/lang/Object", "getClass", "()Ljava/lang/Class;"⟩) ∈ TBL := qs_2 56 rfl rfl
set_option maxRecDepth 20000 in
theorem q_369 : (Cond.sameMethod "java/lang/Object" "java/lang/Object" "getClass" "()Ljava/lang/Class;") ∈ TBL := qs_2 57 rfl rfl
set_option maxRecDepth 20000 in
theorem q_370 : (Cond.selects "Thumbreel" ⟨"java/lang/Object", "getClass", "()Ljava/lang/Class;"⟩ ⟨"java/lang/Object", "getClass", "()Ljava/lang/Class;"⟩) ∈ TBL := qs_2 58 rfl rfl
set_option maxRecDepth 20000 in
theorem q_371 : (Cond.selects "Thumbreel$Book" ⟨"java/lang/Object", "getClass", "()Ljava/lang/Class;"⟩ ⟨"java/lang/Object", "getClass", "()Ljava/lang/Class;"⟩) ∈ TBL := qs_2 59 rfl rfl
set_option maxRecDepth 20000 in
theorem q_372 : (Cond.selects "Thumbreel$Copy" ⟨"java/lang/Object", "getClass", "()Ljava/lang/Class;"⟩ ⟨"java/lang/Object", "getClass", "()Ljava/lang/Class;"⟩) ∈ TBL := qs_2 60 rfl rfl
set_option maxRecDepth 20000 in
theorem q_373 : (Cond.selects "Thumbreel$Folding" ⟨"java/lang/Object", "getClass", "()Ljava/lang/Class;"⟩ ⟨"java/lang/Object", "getClass", "()Ljava/lang/Class;"⟩) ∈ TBL := qs_2 61 rfl rfl
set_option maxRecDepth 20000 in
theorem q_374 : (Cond.selects "Thumbreel$Leaf" ⟨"java/lang/Object", "getClass", "()Ljava/lang/Class;"⟩ ⟨"java/lang/Object", "getClass", "()Ljava/lang/Class;"⟩) ∈ TBL := qs_2 62 rfl rfl
set_option maxRecDepth 20000 in
theorem q_375 : (Cond.selects "Thumbreel$Order" ⟨"java/lang/Object", "getClass", "()Ljava/lang/Class;"⟩ ⟨"java/lang/Object", "getClass", "()Ljava/lang/Class;"⟩) ∈ TBL := qs_2 63 rfl rfl
set_option maxRecDepth 20000 in
theorem q_376 : (Cond.selects "Thumbreel$Piles" ⟨"java/lang/Object", "getClass", "()Ljava/lang/Class;"⟩ ⟨"java/lang/Object", "getClass", "()Ljava/lang/Class;"⟩) ∈ TBL := qs_2 64 rfl rfl
set_option maxRecDepth 20000 in
theorem q_377 : (Cond.selects "Thumbreel$Sheet" ⟨"java/lang/Object", "getClass", "()Ljava/lang/Class;"⟩ ⟨"java/lang/Object", "getClass", "()Ljava/lang/Class;"⟩) ∈ TBL := qs_2 65 rfl rfl
set_option maxRecDepth 20000 in
theorem q_378 : (Cond.selects "ThumbreelModel" ⟨"java/lang/Object", "getClass", "()Ljava/lang/Class;"⟩ ⟨"java/lang/Object", "getClass", "()Ljava/lang/Class;"⟩) ∈ TBL := qs_2 66 rfl rfl
set_option maxRecDepth 20000 in
theorem q_379 : (Cond.selects "java/lang/IllegalArgumentException" ⟨"java/lang/Object", "getClass", "()Ljava/lang/Class;"⟩ ⟨"java/lang/Object", "getClass", "()Ljava/lang/Class;"⟩) ∈ TBL := qs_2 67 rfl rfl
set_option maxRecDepth 20000 in
theorem q_380 : (Cond.selects "java/lang/IllegalStateException" ⟨"java/lang/Object", "getClass", "()Ljava/lang/Class;"⟩ ⟨"java/lang/Object", "getClass", "()Ljava/lang/Class;"⟩) ∈ TBL := qs_2 68 rfl rfl
set_option maxRecDepth 20000 in
theorem q_381 : (Cond.selects "java/lang/IndexOutOfBoundsException" ⟨"java/lang/Object", "getClass", "()Ljava/lang/Class;"⟩ ⟨"java/lang/Object", "getClass", "()Ljava/lang/Class;"⟩) ∈ TBL := qs_2 69 rfl rfl
set_option maxRecDepth 20000 in
theorem q_382 : (Cond.selects "java/util/ArrayList" ⟨"java/lang/Object", "getClass", "()Ljava/lang/Class;"⟩ ⟨"java/lang/Object", "getClass", "()Ljava/lang/Class;"⟩) ∈ TBL := qs_2 70 rfl rfl
set_option maxRecDepth 20000 in
theorem q_383 : (Cond.selects "java/util/NoSuchElementException" ⟨"java/lang/Object", "getClass", "()Ljava/lang/Class;"⟩ ⟨"java/lang/Object", "getClass", "()Ljava/lang/Class;"⟩) ∈ TBL := qs_2 71 rfl rfl
set_option maxRecDepth 20000 in
theorem q_384 : (Cond.native ⟨"java/lang/Object", "getClass", "()Ljava/lang/Class;"⟩) ∈ TBL := qs_2 72 rfl rfl
set_option maxRecDepth 20000 in
theorem q_385 : (Cond.methodLink "java/util/Arrays" 300 ⟨"java/util/Arrays", "copyOf", "([Ljava/lang/Object;ILjava/lang/Class;)[Ljava/lang/Object;"⟩) ∈ TBL := qs_2 73 rfl rfl
set_option maxRecDepth 20000 in
theorem q_386 : (Cond.static ⟨"java/util/Arrays", "copyOf", "([Ljava/lang/Object;ILjava/lang/Class;)[Ljava/lang/Object;"⟩) ∈ TBL := qs_2 74 rfl rfl
set_option maxRecDepth 20000 in
theorem q_387 : (Cond.code ⟨"java/util/Arrays", "copyOf", "([Ljava/lang/Object;ILjava/lang/Class;)[Ljava/lang/Object;"⟩ prog_26_method_120_code 4 (some (FieldType.array (FieldType.object "java/lang/Object")))) ∈ TBL := qs_2 75 rfl rfl
set_option maxRecDepth 20000 in
theorem q_388 : (Cond.classLink "java/util/Arrays" 110 "[Ljava/lang/Object;") ∈ TBL := qs_2 76 rfl rfl
set_option maxRecDepth 20000 in
theorem q_390 : (Cond.classLink "java/util/Arrays" 2 "java/lang/Object") ∈ TBL := qs_2 78 rfl rfl
set_option maxRecDepth 20000 in
theorem q_391 : (Cond.methodLink "java/util/Arrays" 304 ⟨"java/lang/Math", "min", "(II)I"⟩) ∈ TBL := qs_2 79 rfl rfl
set_option maxRecDepth 20000 in
theorem q_392 : (Cond.static ⟨"java/lang/Math", "min", "(II)I"⟩) ∈ TBL := qs_2 80 rfl rfl
set_option maxRecDepth 20000 in
theorem q_393 : (Cond.code ⟨"java/lang/Math", "min", "(II)I"⟩ prog_18_method_69_code 2 (some FieldType.int)) ∈ TBL := qs_2 81 rfl rfl
set_option maxRecDepth 20000 in
theorem q_394 : (Cond.methodLink "java/util/Arrays" 150 ⟨"java/lang/System", "arraycopy", "(Ljava/lang/Object;ILjava/lang/Object;II)V"⟩) ∈ TBL := qs_2 82 rfl rfl
set_option maxRecDepth 20000 in
theorem q_395 : (Cond.static ⟨"java/lang/System", "arraycopy", "(Ljava/lang/Object;ILjava/lang/Object;II)V"⟩) ∈ TBL := qs_2 83 rfl rfl
set_option maxRecDepth 20000 in
theorem q_396 : (Cond.native ⟨"java/lang/System", "arraycopy", "(Ljava/lang/Object;ILjava/lang/Object;II)V"⟩) ∈ TBL := qs_2 84 rfl rfl
set_option maxRecDepth 20000 in
theorem q_397 : (Cond.methodLink "java/util/ArrayList" 79 ⟨"java/lang/Math", "max", "(II)I"⟩) ∈ TBL := qs_2 85 rfl rfl
set_option maxRecDepth 20000 in
theorem q_398 : (Cond.classLink "java/util/ArrayList" 7 "java/lang/Object") ∈ TBL := qs_2 86 rfl rfl
set_option maxRecDepth 20000 in
theorem q_399 : (Cond.methodLink "ThumbreelLaw" 103 ⟨"ThumbreelLaw", "draw", "(LThumbreel;IIIII[J)I"⟩) ∈ TBL := qs_2 87 rfl rfl
set_option maxRecDepth 20000 in
theorem q_400 : (Cond.static ⟨"ThumbreelLaw", "draw", "(LThumbreel;IIIII[J)I"⟩) ∈ TBL := qs_2 88 rfl rfl
set_option maxRecDepth 20000 in
theorem q_401 : (Cond.codeWith ⟨"ThumbreelLaw", "draw", "(LThumbreel;IIIII[J)I"⟩ method_4_code 8 (some FieldType.int) [(0, 16, 19, 19), (0, 16, 23, 21), (0, 16, 27, 13)]) ∈ TBL := qs_2 89 rfl rfl
set_option maxRecDepth 20000 in
theorem q_402 : (Cond.classLink "ThumbreelLaw" 19 "java/lang/IndexOutOfBoundsException") ∈ TBL := qs_2 90 rfl rfl
set_option maxRecDepth 20000 in
theorem q_403 : (Cond.classLink "ThumbreelLaw" 21 "java/lang/IllegalArgumentException") ∈ TBL := qs_2 91 rfl rfl
set_option maxRecDepth 20000 in
theorem q_404 : (Cond.methodLink "ThumbreelLaw" 15 ⟨"Thumbreel", "draw", "(IIIII)I"⟩) ∈ TBL := qs_2 92 rfl rfl
set_option maxRecDepth 20000 in
theorem q_405 : (Cond.instanceMethod ⟨"Thumbreel", "draw", "(IIIII)I"⟩) ∈ TBL := qs_2 93 rfl rfl
set_option maxRecDepth 20000 in
theorem q_406 : (Cond.selects "Thumbreel" ⟨"Thumbreel", "draw", "(IIIII)I"⟩ ⟨"Thumbreel", "draw", "(IIIII)I"⟩) ∈ TBL := qs_2 94 rfl rfl
set_option maxRecDepth 20000 in
theorem q_407 : (Cond.code ⟨"Thumbreel", "draw", "(IIIII)I"⟩ prog_1_method_3_code 7 (some FieldType.int)) ∈ TBL := qs_2 95 rfl rfl
set_option maxRecDepth 20000 in
theorem q_408 : (Cond.methodLink "Thumbreel" 70 ⟨"Thumbreel", "bookNumbered", "(I)LThumbreel$Book;"⟩) ∈ TBL := qs_2 96 rfl rfl
set_option maxRecDepth 20000 in
theorem q_409 : (Cond.privateMethod ⟨"Thumbreel", "bookNumbered", "(I)LThumbreel$Book;"⟩) ∈ TBL := qs_2 97 rfl rfl
set_option maxRecDepth 20000 in
theorem q_410 : (Cond.instanceMethod ⟨"Thumbreel", "bookNumbered", "(I)LThumbreel$Book;"⟩) ∈ TBL := qs_2 98 rfl rfl
set_option maxRecDepth 20000 in
theorem q_411 : (Cond.code ⟨"Thumbreel", "bookNumbered", "(I)LThumbreel$Book;"⟩ prog_1_method_29_code 2 (some (FieldType.object "Thumbreel$Book"))) ∈ TBL := qs_2 99 rfl rfl
set_option maxRecDepth 20000 in
theorem q_412 : (Cond.methodLink "Thumbreel" 95 ⟨"Thumbreel", "checkIndex", "(II)V"⟩) ∈ TBL := qs_2 100 rfl rfl
set_option maxRecDepth 20000 in
theorem q_413 : (Cond.static ⟨"Thumbreel", "checkIndex", "(II)V"⟩) ∈ TBL := qs_2 101 rfl rfl
set_option maxRecDepth 20000 in
theorem q_414 : (Cond.code ⟨"Thumbreel", "checkIndex", "(II)V"⟩ prog_1_method_27_code 2 none) ∈ TBL := qs_2 102 rfl rfl
set_option maxRecDepth 20000 in
theorem q_415 : (Cond.classLink "Thumbreel" 77 "java/lang/IndexOutOfBoundsException") ∈ TBL := qs_2 103 rfl rfl
set_option maxRecDepth 20000 in
theorem q_416 : (Cond.instantiable "java/lang/IndexOutOfBoundsException" 6) ∈ TBL := qs_2 104 rfl rfl
set_option maxRecDepth 20000 in
theorem q_417 : (Cond.castable "java/lang/IndexOutOfBoundsException" "java/lang/IndexOutOfBoundsException") ∈ TBL := qs_2 105 rfl rfl
set_option maxRecDepth 20000 in
theorem q_418 : (Cond.selects "java/lang/IndexOutOfBoundsException" ⟨"java/lang/Throwable", "fillInStackTrace", "(I)Ljava/lang/Throwable;"⟩ ⟨"java/lang/Throwable", "fillInStackTrace", "(I)Ljava/lang/Throwable;"⟩) ∈ TBL := qs_2 106 rfl rfl
set_option maxRecDepth 20000 in
theorem q_419 : (Cond.lays "java/lang/IndexOutOfBoundsException" "java/lang/Throwable" "cause" "Ljava/lang/Throwable;") ∈ TBL := qs_2 107 rfl rfl
set_option maxRecDepth 20000 in
theorem q_420 : (Cond.lays "java/lang/IndexOutOfBoundsException" "java/lang/Throwable" "stackTrace" "[Ljava/lang/StackTraceElement;") ∈ TBL := qs_2 108 rfl rfl
set_option maxRecDepth 20000 in
theorem q_421 : (Cond.lays "java/lang/IndexOutOfBoundsException" "java/lang/Throwable" "suppressedExceptions" "Ljava/util/List;") ∈ TBL := qs_2 109 rfl rfl
set_option maxRecDepth 20000 in
theorem q_422 : (Cond.lays "java/lang/IndexOutOfBoundsException" "java/lang/Throwable" "detailMessage" "Ljava/lang/String;") ∈ TBL := qs_2 110 rfl rfl
set_option maxRecDepth 20000 in
theorem q_423 : (Cond.lays "java/lang/IndexOutOfBoundsException" "java/lang/Throwable" "backtrace" "Ljava/lang/Object;") ∈ TBL := qs_2 111 rfl rfl
set_option maxRecDepth 20000 in
theorem q_425 : (Cond.methodLink "Thumbreel" 81 ⟨"java/lang/IndexOutOfBoundsException", "<init>", "(Ljava/lang/String;)V"⟩) ∈ TBL := qs_2 113 rfl rfl
set_option maxRecDepth 20000 in
theorem q_426 : (Cond.instanceMethod ⟨"java/lang/IndexOutOfBoundsException", "<init>", "(Ljava/lang/String;)V"⟩) ∈ TBL := qs_2 114 rfl rfl
set_option maxRecDepth 20000 in
theorem q_427 : (Cond.code ⟨"java/lang/IndexOutOfBoundsException", "<init>", "(Ljava/lang/String;)V"⟩ prog_16_method_2_code 2 none) ∈ TBL := qs_2 115 rfl rfl
set_option maxRecDepth 20000 in
theorem q_428 : (Cond.methodLink "java/lang/IndexOutOfBoundsException" 7 ⟨"java/lang/RuntimeException", "<init>", "(Ljava/lang/String;)V"⟩) ∈ TBL := qs_2 116 rfl rfl
set_option maxRecDepth 20000 in
theorem q_429 : (Cond.lays "java/lang/IndexOutOfBoundsException" "java/lang/Throwable" "depth" "I") ∈ TBL := qs_2 117 rfl rfl
set_option maxRecDepth 20000 in
theorem q_430 : (Cond.superclass "java/lang/IndexOutOfBoundsException" "java/lang/RuntimeException") ∈ TBL := qs_2 118 rfl rfl
set_option maxRecDepth 20000 in
theorem q_432 : (Cond.methodLink "Thumbreel" 82 ⟨"Thumbreel", "checkRange", "(III)V"⟩) ∈ TBL := qs_2 120 rfl rfl
set_option maxRecDepth 20000 in
theorem q_433 : (Cond.static ⟨"Thumbreel", "checkRange", "(III)V"⟩) ∈ TBL := qs_2 121 rfl rfl
set_option maxRecDepth 20000 in
theorem q_434 : (Cond.code ⟨"Thumbreel", "checkRange", "(III)V"⟩ prog_1_method_28_code 3 none) ∈ TBL := qs_2 122 rfl rfl
set_option maxRecDepth 20000 in
theorem q_435 : (Cond.classLink "Thumbreel" 141 "java/lang/IllegalArgumentException") ∈ TBL := qs_2 123 rfl rfl
set_option maxRecDepth 20000 in
theorem q_436 : (Cond.instantiable "java/lang/IllegalArgumentException" 6) ∈ TBL := qs_2 124 rfl rfl
set_option maxRecDepth 20000 in
theorem q_437 : (Cond.castable "java/lang/IllegalArgumentException" "java/lang/IllegalArgumentException") ∈ TBL := qs_2 125 rfl rfl
set_option maxRecDepth 20000 in
theorem q_438 : (Cond.selects "java/lang/IllegalArgumentException" ⟨"java/lang/Throwable", "fillInStackTrace", "(I)Ljava/lang/Throwable;"⟩ ⟨"java/lang/Throwable", "fillInStackTrace", "(I)Ljava/lang/Throwable;"⟩) ∈ TBL := qs_2 126 rfl rfl
set_option maxRecDepth 20000 in
theorem q_439 : (Cond.lays "java/lang/IllegalArgumentException" "java/lang/Throwable" "cause" "Ljava/lang/Throwable;") ∈ TBL := qs_2 127 rfl rfl
set_option maxRecDepth 20000 in
theorem q_440 : (Cond.lays "java/lang/IllegalArgumentException" "java/lang/Throwable" "stackTrace" "[Ljava/lang/StackTraceElement;") ∈ TBL := qs_2 128 rfl rfl
set_option maxRecDepth 20000 in
theorem q_441 : (Cond.lays "java/lang/IllegalArgumentException" "java/lang/Throwable" "suppressedExceptions" "Ljava/util/List;") ∈ TBL := qs_2 129 rfl rfl
set_option maxRecDepth 20000 in
theorem q_442 : (Cond.lays "java/lang/IllegalArgumentException" "java/lang/Throwable" "detailMessage" "Ljava/lang/String;") ∈ TBL := qs_2 130 rfl rfl
set_option maxRecDepth 20000 in
theorem q_443 : (Cond.lays "java/lang/IllegalArgumentException" "java/lang/Throwable" "backtrace" "Ljava/lang/Object;") ∈ TBL := qs_2 131 rfl rfl
set_option maxRecDepth 20000 in
theorem q_445 : (Cond.methodLink "Thumbreel" 145 ⟨"java/lang/IllegalArgumentException", "<init>", "(Ljava/lang/String;)V"⟩) ∈ TBL := qs_2 133 rfl rfl
set_option maxRecDepth 20000 in
theorem q_446 : (Cond.instanceMethod ⟨"java/lang/IllegalArgumentException", "<init>", "(Ljava/lang/String;)V"⟩) ∈ TBL := qs_2 134 rfl rfl
set_option maxRecDepth 20000 in
theorem q_447 : (Cond.code ⟨"java/lang/IllegalArgumentException", "<init>", "(Ljava/lang/String;)V"⟩ prog_14_method_2_code 2 none) ∈ TBL := qs_2 135 rfl rfl
set_option maxRecDepth 20000 in
theorem q_448 : (Cond.methodLink "java/lang/IllegalArgumentException" 7 ⟨"java/lang/RuntimeException", "<init>", "(Ljava/lang/String;)V"⟩) ∈ TBL := qs_2 136 rfl rfl
set_option maxRecDepth 20000 in
theorem q_449 : (Cond.lays "java/lang/IllegalArgumentException" "java/lang/Throwable" "depth" "I") ∈ TBL := qs_2 137 rfl rfl
set_option maxRecDepth 20000 in
theorem q_450 : (Cond.superclass "java/lang/IllegalArgumentException" "java/lang/RuntimeException") ∈ TBL := qs_2 138 rfl rfl
set_option maxRecDepth 20000 in
theorem q_452 : (Cond.methodLinkNest "Thumbreel" 87 ⟨"Thumbreel$Book", "insert", "(IIII)V"⟩ "Thumbreel") ∈ TBL := qs_2 140 rfl rfl
set_option maxRecDepth 20000 in
theorem q_453 : (Cond.privateMethod ⟨"Thumbreel$Book", "insert", "(IIII)V"⟩) ∈ TBL := qs_2 141 rfl rfl
set_option maxRecDepth 20000 in
theorem q_454 : (Cond.instanceMethod ⟨"Thumbreel$Book", "insert", "(IIII)V"⟩) ∈ TBL := qs_2 142 rfl rfl
set_option maxRecDepth 20000 in
theorem q_455 : (Cond.code ⟨"Thumbreel$Book", "insert", "(IIII)V"⟩ prog_2_method_2_code 6 none) ∈ TBL := qs_2 143 rfl rfl
set_option maxRecDepth 20000 in
theorem q_456 : (Cond.methodLink "Thumbreel$Book" 31 ⟨"Thumbreel$Book", "copyDrawing", "(II)V"⟩) ∈ TBL := qs_2 144 rfl rfl
set_option maxRecDepth 20000 in
theorem q_457 : (Cond.privateMethod ⟨"Thumbreel$Book", "copyDrawing", "(II)V"⟩) ∈ TBL := qs_2 145 rfl rfl
set_option maxRecDepth 20000 in
theorem q_458 : (Cond.instanceMethod ⟨"Thumbreel$Book", "copyDrawing", "(II)V"⟩) ∈ TBL := qs_2 146 rfl rfl
set_option maxRecDepth 20000 in
theorem q_459 : (Cond.code ⟨"Thumbreel$Book", "copyDrawing", "(II)V"⟩ prog_2_method_6_code 3 none) ∈ TBL := qs_2 147 rfl rfl
set_option maxRecDepth 20000 in
theorem q_460 : (Cond.methodLink "Thumbreel$Book" 35 ⟨"Thumbreel$Book", "layFrames", "()V"⟩) ∈ TBL := qs_2 148 rfl rfl
set_option maxRecDepth 20000 in
theorem q_461 : (Cond.privateMethod ⟨"Thumbreel$Book", "layFrames", "()V"⟩) ∈ TBL := qs_2 149 rfl rfl
set_option maxRecDepth 20000 in
theorem q_462 : (Cond.instanceMethod ⟨"Thumbreel$Book", "layFrames", "()V"⟩) ∈ TBL := qs_2 150 rfl rfl
set_option maxRecDepth 20000 in
theorem q_463 : (Cond.code ⟨"Thumbreel$Book", "layFrames", "()V"⟩ prog_2_method_7_code 2 none) ∈ TBL := qs_2 151 rfl rfl
set_option maxRecDepth 20000 in
theorem q_464 : (Cond.methodLink "Thumbreel$Book" 38 ⟨"Thumbreel$Book", "addFrame", "(I)V"⟩) ∈ TBL := qs_2 152 rfl rfl
set_option maxRecDepth 20000 in
theorem q_465 : (Cond.privateMethod ⟨"Thumbreel$Book", "addFrame", "(I)V"⟩) ∈ TBL := qs_2 153 rfl rfl
set_option maxRecDepth 20000 in
theorem q_466 : (Cond.instanceMethod ⟨"Thumbreel$Book", "addFrame", "(I)V"⟩) ∈ TBL := qs_2 154 rfl rfl
set_option maxRecDepth 20000 in
theorem q_467 : (Cond.code ⟨"Thumbreel$Book", "addFrame", "(I)V"⟩ prog_2_method_9_code 2 none) ∈ TBL := qs_2 155 rfl rfl
set_option maxRecDepth 20000 in
theorem q_468 : (Cond.methodLink "Thumbreel$Book" 42 ⟨"Thumbreel$Book", "addBetweens", "(IIII)V"⟩) ∈ TBL := qs_2 156 rfl rfl
set_option maxRecDepth 20000 in
theorem q_469 : (Cond.privateMethod ⟨"Thumbreel$Book", "addBetweens", "(IIII)V"⟩) ∈ TBL := qs_2 157 rfl rfl
set_option maxRecDepth 20000 in
theorem q_470 : (Cond.instanceMethod ⟨"Thumbreel$Book", "addBetweens", "(IIII)V"⟩) ∈ TBL := qs_2 158 rfl rfl
set_option maxRecDepth 20000 in
theorem q_471 : (Cond.code ⟨"Thumbreel$Book", "addBetweens", "(IIII)V"⟩ prog_2_method_8_code 8 none) ∈ TBL := qs_2 159 rfl rfl
set_option maxRecDepth 20000 in
theorem q_472 : (Cond.methodLink "Thumbreel$Book" 46 ⟨"Thumbreel$Book", "shareOfWay", "(III)I"⟩) ∈ TBL := qs_2 160 rfl rfl
set_option maxRecDepth 20000 in
theorem q_473 : (Cond.static ⟨"Thumbreel$Book", "shareOfWay", "(III)I"⟩) ∈ TBL := qs_2 161 rfl rfl
set_option maxRecDepth 20000 in
theorem q_474 : (Cond.code ⟨"Thumbreel$Book", "shareOfWay", "(III)I"⟩ prog_2_method_10_code 4 (some FieldType.int)) ∈ TBL := qs_2 162 rfl rfl
set_option maxRecDepth 20000 in
theorem q_475 : (Cond.methodLink "Thumbreel" 91 ⟨"Thumbreel", "spoilChanged", "(LThumbreel$Book;)I"⟩) ∈ TBL := qs_2 163 rfl rfl
set_option maxRecDepth 20000 in
theorem q_476 : (Cond.privateMethod ⟨"Thumbreel", "spoilChanged", "(LThumbreel$Book;)I"⟩) ∈ TBL := qs_2 164 rfl rfl
set_option maxRecDepth 20000 in
theorem q_477 : (Cond.instanceMethod ⟨"Thumbreel", "spoilChanged", "(LThumbreel$Book;)I"⟩) ∈ TBL := qs_2 165 rfl rfl
set_option maxRecDepth 20000 in
theorem q_478 : (Cond.code ⟨"Thumbreel", "spoilChanged", "(LThumbreel$Book;)I"⟩ prog_1_method_34_code 5 (some FieldType.int)) ∈ TBL := qs_2 166 rfl rfl
set_option maxRecDepth 20000 in
theorem q_479 : (Cond.classLink "Thumbreel" 115 "Thumbreel$Order") ∈ TBL := qs_2 167 rfl rfl
set_option maxRecDepth 20000 in
theorem q_480 : (Cond.methodLinkNest "Thumbreel" 266 ⟨"Thumbreel$Order", "spoilChanged", "()I"⟩ "Thumbreel") ∈ TBL := qs_2 168 rfl rfl
set_option maxRecDepth 20000 in
theorem q_481 : (Cond.privateMethod ⟨"Thumbreel$Order", "spoilChanged", "()I"⟩) ∈ TBL := qs_2 169 rfl rfl
set_option maxRecDepth 20000 in
theorem q_482 : (Cond.instanceMethod ⟨"Thumbreel$Order", "spoilChanged", "()I"⟩) ∈ TBL := qs_2 170 rfl rfl
set_option maxRecDepth 20000 in
theorem q_483 : (Cond.instantiable "Thumbreel$Order" 3) ∈ TBL := qs_2 171 rfl rfl
set_option maxRecDepth 20000 in
theorem q_484 : (Cond.code ⟨"Thumbreel$Order", "spoilChanged", "()I"⟩ prog_6_method_5_code 3 (some FieldType.int)) ∈ TBL := qs_2 172 rfl rfl
set_option maxRecDepth 20000 in
theorem q_485 : (Cond.methodLink "Thumbreel$Order" 45 ⟨"java/util/ArrayList", "size", "()I"⟩) ∈ TBL := qs_2 173 rfl rfl
set_option maxRecDepth 20000 in
theorem q_486 : (Cond.methodLink "Thumbreel$Order" 49 ⟨"java/util/ArrayList", "get", "(I)Ljava/lang/Object;"⟩) ∈ TBL := qs_2 174 rfl rfl
set_option maxRecDepth 20000 in
theorem q_487 : (Cond.classLink "Thumbreel$Order" 26 "Thumbreel$Copy") ∈ TBL := qs_2 175 rfl rfl
set_option maxRecDepth 20000 in
theorem q_488 : (Cond.methodLinkNest "Thumbreel$Order" 57 ⟨"Thumbreel$Copy", "spoilChanged", "(LThumbreel$Book;)I"⟩ "Thumbreel") ∈ TBL := qs_2 176 rfl rfl
set_option maxRecDepth 20000 in
theorem q_489 : (Cond.privateMethod ⟨"Thumbreel$Copy", "spoilChanged", "(LThumbreel$Book;)I"⟩) ∈ TBL := qs_2 177 rfl rfl
set_option maxRecDepth 20000 in
theorem q_490 : (Cond.instanceMethod ⟨"Thumbreel$Copy", "spoilChanged", "(LThumbreel$Book;)I"⟩) ∈ TBL := qs_2 178 rfl rfl
set_option maxRecDepth 20000 in
theorem q_491 : (Cond.instantiable "Thumbreel$Copy" 3) ∈ TBL := qs_2 179 rfl rfl
set_option maxRecDepth 20000 in
theorem q_492 : (Cond.code ⟨"Thumbreel$Copy", "spoilChanged", "(LThumbreel$Book;)I"⟩ prog_3_method_9_code 5 (some FieldType.int)) ∈ TBL := qs_2 180 rfl rfl
set_option maxRecDepth 20000 in
theorem q_493 : (Cond.methodLinkNest "Thumbreel$Copy" 62 ⟨"Thumbreel$Book", "positionOf", "(I)I"⟩ "Thumbreel") ∈ TBL := qs_2 181 rfl rfl
set_option maxRecDepth 20000 in
theorem q_494 : (Cond.privateMethod ⟨"Thumbreel$Book", "positionOf", "(I)I"⟩) ∈ TBL := qs_2 182 rfl rfl
set_option maxRecDepth 20000 in
theorem q_495 : (Cond.instanceMethod ⟨"Thumbreel$Book", "positionOf", "(I)I"⟩) ∈ TBL := qs_2 183 rfl rfl
set_option maxRecDepth 20000 in
theorem q_496 : (Cond.code ⟨"Thumbreel$Book", "positionOf", "(I)I"⟩ prog_2_method_5_code 2 (some FieldType.int)) ∈ TBL := qs_2 184 rfl rfl
set_option maxRecDepth 20000 in
theorem q_497 : (Cond.methodLink "Thumbreel$Copy" 55 ⟨"Thumbreel$Copy", "spoil", "(LThumbreel$Leaf;)V"⟩) ∈ TBL := qs_2 185 rfl rfl
set_option maxRecDepth 20000 in
theorem q_498 : (Cond.privateMethod ⟨"Thumbreel$Copy", "spoil", "(LThumbreel$Leaf;)V"⟩) ∈ TBL := qs_2 186 rfl rfl
set_option maxRecDepth 20000 in
theorem q_499 : (Cond.instanceMethod ⟨"Thumbreel$Copy", "spoil", "(LThumbreel$Leaf;)V"⟩) ∈ TBL := qs_2 187 rfl rfl
set_option maxRecDepth 20000 in
theorem q_500 : (Cond.code ⟨"Thumbreel$Copy", "spoil", "(LThumbreel$Leaf;)V"⟩ prog_3_method_10_code 2 none) ∈ TBL := qs_2 188 rfl rfl
set_option maxRecDepth 20000 in
theorem q_501 : (Cond.methodLink "ThumbreelLaw" 107 ⟨"ThumbreelLaw", "erase", "(LThumbreel;II[J)I"⟩) ∈ TBL := qs_2 189 rfl rfl
set_option maxRecDepth 20000 in
theorem q_502 : (Cond.static ⟨"ThumbreelLaw", "erase", "(LThumbreel;II[J)I"⟩) ∈ TBL := qs_2 190 rfl rfl
set_option maxRecDepth 20000 in
theorem q_503 : (Cond.codeWith ⟨"ThumbreelLaw", "erase", "(LThumbreel;II[J)I"⟩ method_5_code 5 (some FieldType.int) [(0, 10, 13, 19)]) ∈ TBL := qs_2 191 rfl rfl
set_option maxRecDepth 20000 in
theorem q_504 : (Cond.methodLink "ThumbreelLaw" 23 ⟨"Thumbreel", "erase", "(II)I"⟩) ∈ TBL := qs_2 192 rfl rfl
set_option maxRecDepth 20000 in
theorem q_505 : (Cond.instanceMethod ⟨"Thumbreel", "erase", "(II)I"⟩) ∈ TBL := qs_2 193 rfl rfl
set_option maxRecDepth 20000 in
theorem q_506 : (Cond.selects "Thumbreel" ⟨"Thumbreel", "erase", "(II)I"⟩ ⟨"Thumbreel", "erase", "(II)I"⟩) ∈ TBL := qs_2 194 rfl rfl
set_option maxRecDepth 20000 in
theorem q_507 : (Cond.code ⟨"Thumbreel", "erase", "(II)I"⟩ prog_1_method_4_code 4 (some FieldType.int)) ∈ TBL := qs_2 195 rfl rfl
set_option maxRecDepth 20000 in
theorem q_508 : (Cond.methodLinkNest "Thumbreel" 99 ⟨"Thumbreel$Book", "takeOut", "(I)V"⟩ "Thumbreel") ∈ TBL := qs_2 196 rfl rfl
set_option maxRecDepth 20000 in
theorem q_509 : (Cond.privateMethod ⟨"Thumbreel$Book", "takeOut", "(I)V"⟩) ∈ TBL := qs_2 197 rfl rfl
set_option maxRecDepth 20000 in
theorem q_510 : (Cond.instanceMethod ⟨"Thumbreel$Book", "takeOut", "(I)V"⟩) ∈ TBL := qs_2 198 rfl rfl
set_option maxRecDepth 20000 in
theorem q_511 : (Cond.code ⟨"Thumbreel$Book", "takeOut", "(I)V"⟩ prog_2_method_3_code 3 none) ∈ TBL := qs_2 199 rfl rfl
set_option maxRecDepth 20000 in
theorem q_512 : (Cond.methodLink "ThumbreelLaw" 111 ⟨"ThumbreelLaw", "move", "(LThumbreel;III[J)I"⟩) ∈ TBL := qs_2 200 rfl rfl
set_option maxRecDepth 20000 in
theorem q_513 : (Cond.static ⟨"ThumbreelLaw", "move", "(LThumbreel;III[J)I"⟩) ∈ TBL := qs_2 201 rfl rfl
set_option maxRecDepth 20000 in
theorem q_514 : (Cond.codeWith ⟨"ThumbreelLaw", "move", "(LThumbreel;III[J)I"⟩ method_6_code 6 (some FieldType.int) [(0, 12, 15, 19), (0, 12, 19, 21)]) ∈ TBL := qs_2 202 rfl rfl
set_option maxRecDepth 20000 in
theorem q_515 : (Cond.methodLink "ThumbreelLaw" 27 ⟨"Thumbreel", "move", "(III)I"⟩) ∈ TBL := qs_2 203 rfl rfl
set_option maxRecDepth 20000 in
theorem q_516 : (Cond.instanceMethod ⟨"Thumbreel", "move", "(III)I"⟩) ∈ TBL := qs_2 204 rfl rfl
set_option maxRecDepth 20000 in
theorem q_517 : (Cond.selects "Thumbreel" ⟨"Thumbreel", "move", "(III)I"⟩ ⟨"Thumbreel", "move", "(III)I"⟩) ∈ TBL := qs_2 205 rfl rfl
set_option maxRecDepth 20000 in
theorem q_518 : (Cond.code ⟨"Thumbreel", "move", "(III)I"⟩ prog_1_method_5_code 5 (some FieldType.int)) ∈ TBL := qs_2 206 rfl rfl
set_option maxRecDepth 20000 in
theorem q_519 : (Cond.methodLinkNest "Thumbreel" 103 ⟨"Thumbreel$Book", "putAt", "(II)V"⟩ "Thumbreel") ∈ TBL := qs_2 207 rfl rfl
set_option maxRecDepth 20000 in
theorem q_520 : (Cond.privateMethod ⟨"Thumbreel$Book", "putAt", "(II)V"⟩) ∈ TBL := qs_2 208 rfl rfl
set_option maxRecDepth 20000 in
theorem q_521 : (Cond.instanceMethod ⟨"Thumbreel$Book", "putAt", "(II)V"⟩) ∈ TBL := qs_2 209 rfl rfl
set_option maxRecDepth 20000 in
theorem q_522 : (Cond.code ⟨"Thumbreel$Book", "putAt", "(II)V"⟩ prog_2_method_4_code 3 none) ∈ TBL := qs_2 210 rfl rfl
set_option maxRecDepth 20000 in
theorem q_523 : (Cond.methodLink "ThumbreelLaw" 115 ⟨"ThumbreelLaw", "frames", "(LThumbreel;I[J)I"⟩) ∈ TBL := qs_2 211 rfl rfl
set_option maxRecDepth 20000 in
theorem q_524 : (Cond.static ⟨"ThumbreelLaw", "frames", "(LThumbreel;I[J)I"⟩) ∈ TBL := qs_2 212 rfl rfl
set_option maxRecDepth 20000 in
theorem q_525 : (Cond.codeWith ⟨"ThumbreelLaw", "frames", "(LThumbreel;I[J)I"⟩ method_7_code 4 (some FieldType.int) [(0, 9, 12, 19)]) ∈ TBL := qs_2 213 rfl rfl
set_option maxRecDepth 20000 in
theorem q_526 : (Cond.methodLink "ThumbreelLaw" 31 ⟨"Thumbreel", "frames", "(I)I"⟩) ∈ TBL := qs_2 214 rfl rfl
set_option maxRecDepth 20000 in
theorem q_527 : (Cond.instanceMethod ⟨"Thumbreel", "frames", "(I)I"⟩) ∈ TBL := qs_2 215 rfl rfl
set_option maxRecDepth 20000 in
theorem q_528 : (Cond.selects "Thumbreel" ⟨"Thumbreel", "frames", "(I)I"⟩ ⟨"Thumbreel", "frames", "(I)I"⟩) ∈ TBL := qs_2 216 rfl rfl
set_option maxRecDepth 20000 in
theorem q_529 : (Cond.code ⟨"Thumbreel", "frames", "(I)I"⟩ prog_1_method_6_code 2 (some FieldType.int)) ∈ TBL := qs_2 217 rfl rfl
set_option maxRecDepth 20000 in
theorem q_530 : (Cond.methodLink "ThumbreelLaw" 119 ⟨"ThumbreelLaw", "frameAt", "(LThumbreel;II[J)I"⟩) ∈ TBL := qs_2 218 rfl rfl
set_option maxRecDepth 20000 in
theorem q_531 : (Cond.static ⟨"ThumbreelLaw", "frameAt", "(LThumbreel;II[J)I"⟩) ∈ TBL := qs_2 219 rfl rfl
set_option maxRecDepth 20000 in
theorem q_532 : (Cond.codeWith ⟨"ThumbreelLaw", "frameAt", "(LThumbreel;II[J)I"⟩ method_8_code 5 (some FieldType.int) [(0, 10, 13, 19)]) ∈ TBL := qs_2 220 rfl rfl
set_option maxRecDepth 20000 in
theorem q_533 : (Cond.methodLink "ThumbreelLaw" 35 ⟨"Thumbreel", "frameAt", "(II)I"⟩) ∈ TBL := qs_2 221 rfl rfl
set_option maxRecDepth 20000 in
theorem q_534 : (Cond.instanceMethod ⟨"Thumbreel", "frameAt", "(II)I"⟩) ∈ TBL := qs_2 222 rfl rfl
set_option maxRecDepth 20000 in
theorem q_535 : (Cond.selects "Thumbreel" ⟨"Thumbreel", "frameAt", "(II)I"⟩ ⟨"Thumbreel", "frameAt", "(II)I"⟩) ∈ TBL := qs_2 223 rfl rfl
set_option maxRecDepth 20000 in
theorem q_536 : (Cond.code ⟨"Thumbreel", "frameAt", "(II)I"⟩ prog_1_method_7_code 4 (some FieldType.int)) ∈ TBL := qs_2 224 rfl rfl
set_option maxRecDepth 20000 in
theorem q_537 : (Cond.methodLinkNest "Thumbreel" 109 ⟨"Thumbreel$Book", "positionOf", "(I)I"⟩ "Thumbreel") ∈ TBL := qs_2 225 rfl rfl
set_option maxRecDepth 20000 in
theorem q_538 : (Cond.methodLink "ThumbreelLaw" 122 ⟨"ThumbreelLaw", "order", "(LThumbreel;II[J)I"⟩) ∈ TBL := qs_2 226 rfl rfl
set_option maxRecDepth 20000 in
theorem q_539 : (Cond.static ⟨"ThumbreelLaw", "order", "(LThumbreel;II[J)I"⟩) ∈ TBL := qs_2 227 rfl rfl
set_option maxRecDepth 20000 in
theorem q_540 : (Cond.codeWith ⟨"ThumbreelLaw", "order", "(LThumbreel;II[J)I"⟩ method_9_code 5 (some FieldType.int) [(0, 10, 13, 19), (0, 10, 17, 21), (0, 10, 21, 13)]) ∈ TBL := qs_2 228 rfl rfl
set_option maxRecDepth 20000 in
theorem q_541 : (Cond.methodLink "ThumbreelLaw" 38 ⟨"Thumbreel", "order", "(II)I"⟩) ∈ TBL := qs_2 229 rfl rfl
set_option maxRecDepth 20000 in
theorem q_542 : (Cond.instanceMethod ⟨"Thumbreel", "order", "(II)I"⟩) ∈ TBL := qs_2 230 rfl rfl
set_option maxRecDepth 20000 in
theorem q_543 : (Cond.selects "Thumbreel" ⟨"Thumbreel", "order", "(II)I"⟩ ⟨"Thumbreel", "order", "(II)I"⟩) ∈ TBL := qs_2 231 rfl rfl
set_option maxRecDepth 20000 in
theorem q_544 : (Cond.code ⟨"Thumbreel", "order", "(II)I"⟩ prog_1_method_8_code 4 (some FieldType.int)) ∈ TBL := qs_2 232 rfl rfl
set_option maxRecDepth 20000 in
theorem q_546 : (Cond.methodLinkNest "Thumbreel" 117 ⟨"Thumbreel$Order", "<init>", "(ILThumbreel$Book;I)V"⟩ "Thumbreel") ∈ TBL := qs_2 234 rfl rfl
set_option maxRecDepth 20000 in
theorem q_547 : (Cond.instanceMethod ⟨"Thumbreel$Order", "<init>", "(ILThumbreel$Book;I)V"⟩) ∈ TBL := qs_2 235 rfl rfl
set_option maxRecDepth 20000 in
theorem q_548 : (Cond.code ⟨"Thumbreel$Order", "<init>", "(ILThumbreel$Book;I)V"⟩ prog_6_method_1_code 5 none) ∈ TBL := qs_2 236 rfl rfl
set_option maxRecDepth 20000 in
theorem q_549 : (Cond.methodLink "Thumbreel$Order" 3 ⟨"java/lang/Object", "<init>", "()V"⟩) ∈ TBL := qs_2 237 rfl rfl
set_option maxRecDepth 20000 in
theorem q_550 : (Cond.classLink "Thumbreel$Order" 9 "java/util/ArrayList") ∈ TBL := qs_2 238 rfl rfl
set_option maxRecDepth 20000 in
theorem q_551 : (Cond.methodLink "Thumbreel$Order" 11 ⟨"java/util/ArrayList", "<init>", "()V"⟩) ∈ TBL := qs_2 239 rfl rfl
set_option maxRecDepth 20000 in
theorem q_552 : (Cond.methodLinkNest "Thumbreel$Order" 28 ⟨"Thumbreel$Copy", "<init>", "()V"⟩ "Thumbreel") ∈ TBL := qs_3 0 rfl rfl
set_option maxRecDepth 20000 in
theorem q_553 : (Cond.instanceMethod ⟨"Thumbreel$Copy", "<init>", "()V"⟩) ∈ TBL := qs_3 1 rfl rfl
set_option maxRecDepth 20000 in
theorem q_554 : (Cond.code ⟨"Thumbreel$Copy", "<init>", "()V"⟩ prog_3_method_1_code 1 none) ∈ TBL := qs_3 2 rfl rfl
set_option maxRecDepth 20000 in
theorem q_555 : (Cond.methodLink "Thumbreel$Copy" 3 ⟨"java/lang/Object", "<init>", "()V"⟩) ∈ TBL := qs_3 3 rfl rfl
set_option maxRecDepth 20000 in
theorem q_556 : (Cond.classLink "Thumbreel$Copy" 9 "Thumbreel$Leaf") ∈ TBL := qs_3 4 rfl rfl
set_option maxRecDepth 20000 in
theorem q_558 : (Cond.fieldLink "Thumbreel$Copy" 11 "Thumbreel$Copy" "leaves" "[LThumbreel$Leaf;") ∈ TBL := qs_3 6 rfl rfl
set_option maxRecDepth 20000 in
theorem q_559 : (Cond.fieldLink "Thumbreel$Copy" 17 "Thumbreel$Copy" "isBound" "Z") ∈ TBL := qs_3 7 rfl rfl
set_option maxRecDepth 20000 in
theorem q_560 : (Cond.fieldLinkNest "Thumbreel$Order" 38 "Thumbreel$Copy" "isBound" "Z" "Thumbreel") ∈ TBL := qs_3 8 rfl rfl
set_option maxRecDepth 20000 in
theorem q_561 : (Cond.fieldLinkNest "Thumbreel" 214 "Thumbreel$Copy" "isBound" "Z" "Thumbreel") ∈ TBL := qs_3 9 rfl rfl
set_option maxRecDepth 20000 in
theorem q_562 : (Cond.fieldLink "Thumbreel$Copy" 21 "Thumbreel$Copy" "boundLength" "I") ∈ TBL := qs_3 10 rfl rfl
set_option maxRecDepth 20000 in
theorem q_563 : (Cond.fieldLinkNest "Thumbreel$Order" 42 "Thumbreel$Copy" "boundLength" "I" "Thumbreel") ∈ TBL := qs_3 11 rfl rfl
set_option maxRecDepth 20000 in
theorem q_564 : (Cond.fieldLinkNest "Thumbreel" 231 "Thumbreel$Copy" "boundLength" "I" "Thumbreel") ∈ TBL := qs_3 12 rfl rfl
set_option maxRecDepth 20000 in
theorem q_565 : (Cond.laysFinal "Thumbreel$Copy" "Thumbreel$Copy" "leaves" "[LThumbreel$Leaf;") ∈ TBL := qs_3 13 rfl rfl
set_option maxRecDepth 20000 in
theorem q_566 : (Cond.soleField "Thumbreel$Copy" "leaves") ∈ TBL := qs_3 14 rfl rfl
set_option maxRecDepth 20000 in
theorem q_567 : (Cond.lays "Thumbreel$Copy" "Thumbreel$Copy" "isBound" "Z") ∈ TBL := qs_3 15 rfl rfl
set_option maxRecDepth 20000 in
theorem q_568 : (Cond.soleField "Thumbreel$Copy" "isBound") ∈ TBL := qs_3 16 rfl rfl
set_option maxRecDepth 20000 in
theorem q_569 : (Cond.lays "Thumbreel$Copy" "Thumbreel$Copy" "boundLength" "I") ∈ TBL := qs_3 17 rfl rfl
set_option maxRecDepth 20000 in
theorem q_570 : (Cond.soleField "Thumbreel$Copy" "boundLength") ∈ TBL := qs_3 18 rfl rfl
set_option maxRecDepth 20000 in
theorem q_571 : (Cond.superclass "Thumbreel$Copy" "java/lang/Object") ∈ TBL := qs_3 19 rfl rfl
set_option maxRecDepth 20000 in
theorem q_572 : (Cond.methodLink "Thumbreel$Order" 29 ⟨"java/util/ArrayList", "add", "(Ljava/lang/Object;)Z"⟩) ∈ TBL := qs_3 20 rfl rfl
set_option maxRecDepth 20000 in
theorem q_573 : (Cond.fieldLink "Thumbreel$Order" 18 "Thumbreel$Order" "number" "I") ∈ TBL := qs_3 21 rfl rfl
set_option maxRecDepth 20000 in
theorem q_574 : (Cond.fieldLink "Thumbreel$Order" 22 "Thumbreel$Order" "book" "LThumbreel$Book;") ∈ TBL := qs_3 22 rfl rfl
set_option maxRecDepth 20000 in
theorem q_575 : (Cond.fieldLinkNest "Thumbreel" 210 "Thumbreel$Order" "book" "LThumbreel$Book;" "Thumbreel") ∈ TBL := qs_3 23 rfl rfl
set_option maxRecDepth 20000 in
theorem q_576 : (Cond.fieldLink "Thumbreel$Order" 12 "Thumbreel$Order" "copies" "Ljava/util/ArrayList;") ∈ TBL := qs_3 24 rfl rfl
set_option maxRecDepth 20000 in
theorem q_577 : (Cond.fieldLinkNest "Thumbreel" 263 "Thumbreel$Order" "copies" "Ljava/util/ArrayList;" "Thumbreel") ∈ TBL := qs_3 25 rfl rfl
set_option maxRecDepth 20000 in
theorem q_578 : (Cond.laysFinal "Thumbreel$Order" "Thumbreel$Order" "number" "I") ∈ TBL := qs_3 26 rfl rfl
set_option maxRecDepth 20000 in
theorem q_579 : (Cond.soleField "Thumbreel$Order" "number") ∈ TBL := qs_3 27 rfl rfl
set_option maxRecDepth 20000 in
theorem q_580 : (Cond.laysFinal "Thumbreel$Order" "Thumbreel$Order" "book" "LThumbreel$Book;") ∈ TBL := qs_3 28 rfl rfl
set_option maxRecDepth 20000 in
theorem q_581 : (Cond.soleField "Thumbreel$Order" "book") ∈ TBL := qs_3 29 rfl rfl
set_option maxRecDepth 20000 in
theorem q_582 : (Cond.laysFinal "Thumbreel$Order" "Thumbreel$Order" "copies" "Ljava/util/ArrayList;") ∈ TBL := qs_3 30 rfl rfl
set_option maxRecDepth 20000 in
theorem q_583 : (Cond.soleField "Thumbreel$Order" "copies") ∈ TBL := qs_3 31 rfl rfl
set_option maxRecDepth 20000 in
theorem q_584 : (Cond.superclass "Thumbreel$Order" "java/lang/Object") ∈ TBL := qs_3 32 rfl rfl
set_option maxRecDepth 20000 in
theorem q_585 : (Cond.methodLink "ThumbreelLaw" 125 ⟨"ThumbreelLaw", "lacking", "(LThumbreel;I[J)I"⟩) ∈ TBL := qs_3 33 rfl rfl
set_option maxRecDepth 20000 in
theorem q_586 : (Cond.static ⟨"ThumbreelLaw", "lacking", "(LThumbreel;I[J)I"⟩) ∈ TBL := qs_3 34 rfl rfl
set_option maxRecDepth 20000 in
theorem q_587 : (Cond.codeWith ⟨"ThumbreelLaw", "lacking", "(LThumbreel;I[J)I"⟩ method_10_code 4 (some FieldType.int) [(0, 9, 12, 19)]) ∈ TBL := qs_3 35 rfl rfl
set_option maxRecDepth 20000 in
theorem q_588 : (Cond.methodLink "ThumbreelLaw" 41 ⟨"Thumbreel", "lacking", "(I)I"⟩) ∈ TBL := qs_3 36 rfl rfl
set_option maxRecDepth 20000 in
theorem q_589 : (Cond.instanceMethod ⟨"Thumbreel", "lacking", "(I)I"⟩) ∈ TBL := qs_3 37 rfl rfl
set_option maxRecDepth 20000 in
theorem q_590 : (Cond.selects "Thumbreel" ⟨"Thumbreel", "lacking", "(I)I"⟩ ⟨"Thumbreel", "lacking", "(I)I"⟩) ∈ TBL := qs_3 38 rfl rfl
set_option maxRecDepth 20000 in
theorem q_591 : (Cond.code ⟨"Thumbreel", "lacking", "(I)I"⟩ prog_1_method_9_code 2 (some FieldType.int)) ∈ TBL := qs_3 39 rfl rfl
set_option maxRecDepth 20000 in
theorem q_592 : (Cond.methodLink "Thumbreel" 120 ⟨"Thumbreel", "orderNumbered", "(I)LThumbreel$Order;"⟩) ∈ TBL := qs_3 40 rfl rfl
set_option maxRecDepth 20000 in
theorem q_593 : (Cond.privateMethod ⟨"Thumbreel", "orderNumbered", "(I)LThumbreel$Order;"⟩) ∈ TBL := qs_3 41 rfl rfl
set_option maxRecDepth 20000 in
theorem q_594 : (Cond.instanceMethod ⟨"Thumbreel", "orderNumbered", "(I)LThumbreel$Order;"⟩) ∈ TBL := qs_3 42 rfl rfl
set_option maxRecDepth 20000 in
theorem q_595 : (Cond.code ⟨"Thumbreel", "orderNumbered", "(I)LThumbreel$Order;"⟩ prog_1_method_30_code 2 (some (FieldType.object "Thumbreel$Order"))) ∈ TBL := qs_3 43 rfl rfl
set_option maxRecDepth 20000 in
theorem q_596 : (Cond.methodLinkNest "Thumbreel" 124 ⟨"Thumbreel$Order", "countLacking", "()I"⟩ "Thumbreel") ∈ TBL := qs_3 44 rfl rfl
set_option maxRecDepth 20000 in
theorem q_597 : (Cond.privateMethod ⟨"Thumbreel$Order", "countLacking", "()I"⟩) ∈ TBL := qs_3 45 rfl rfl
set_option maxRecDepth 20000 in
theorem q_598 : (Cond.instanceMethod ⟨"Thumbreel$Order", "countLacking", "()I"⟩) ∈ TBL := qs_3 46 rfl rfl
set_option maxRecDepth 20000 in
theorem q_599 : (Cond.code ⟨"Thumbreel$Order", "countLacking", "()I"⟩ prog_6_method_4_code 3 (some FieldType.int)) ∈ TBL := qs_3 47 rfl rfl
set_option maxRecDepth 20000 in
theorem q_600 : (Cond.methodLinkNest "Thumbreel$Order" 53 ⟨"Thumbreel$Copy", "countLacking", "(I)I"⟩ "Thumbreel") ∈ TBL := qs_3 48 rfl rfl
set_option maxRecDepth 20000 in
theorem q_601 : (Cond.privateMethod ⟨"Thumbreel$Copy", "countLacking", "(I)I"⟩) ∈ TBL := qs_3 49 rfl rfl
set_option maxRecDepth 20000 in
theorem q_602 : (Cond.instanceMethod ⟨"Thumbreel$Copy", "countLacking", "(I)I"⟩) ∈ TBL := qs_3 50 rfl rfl
set_option maxRecDepth 20000 in
theorem q_603 : (Cond.code ⟨"Thumbreel$Copy", "countLacking", "(I)I"⟩ prog_3_method_5_code 4 (some FieldType.int)) ∈ TBL := qs_3 51 rfl rfl
set_option maxRecDepth 20000 in
theorem q_604 : (Cond.methodLink "Thumbreel$Copy" 32 ⟨"Thumbreel$Copy", "isLacking", "(I)Z"⟩) ∈ TBL := qs_3 52 rfl rfl
set_option maxRecDepth 20000 in
theorem q_605 : (Cond.privateMethod ⟨"Thumbreel$Copy", "isLacking", "(I)Z"⟩) ∈ TBL := qs_3 53 rfl rfl
set_option maxRecDepth 20000 in
theorem q_606 : (Cond.instanceMethod ⟨"Thumbreel$Copy", "isLacking", "(I)Z"⟩) ∈ TBL := qs_3 54 rfl rfl
set_option maxRecDepth 20000 in
theorem q_607 : (Cond.code ⟨"Thumbreel$Copy", "isLacking", "(I)Z"⟩ prog_3_method_4_code 2 (some FieldType.boolean)) ∈ TBL := qs_3 55 rfl rfl
set_option maxRecDepth 20000 in
theorem q_608 : (Cond.methodLink "Thumbreel$Copy" 28 ⟨"Thumbreel$Copy", "leafOf", "(I)LThumbreel$Leaf;"⟩) ∈ TBL := qs_3 56 rfl rfl
set_option maxRecDepth 20000 in
theorem q_609 : (Cond.privateMethod ⟨"Thumbreel$Copy", "leafOf", "(I)LThumbreel$Leaf;"⟩) ∈ TBL := qs_3 57 rfl rfl
set_option maxRecDepth 20000 in
theorem q_610 : (Cond.instanceMethod ⟨"Thumbreel$Copy", "leafOf", "(I)LThumbreel$Leaf;"⟩) ∈ TBL := qs_3 58 rfl rfl
set_option maxRecDepth 20000 in
theorem q_611 : (Cond.code ⟨"Thumbreel$Copy", "leafOf", "(I)LThumbreel$Leaf;"⟩ prog_3_method_2_code 2 (some (FieldType.object "Thumbreel$Leaf"))) ∈ TBL := qs_3 59 rfl rfl
set_option maxRecDepth 20000 in
theorem q_612 : (Cond.methodLink "ThumbreelLaw" 128 ⟨"ThumbreelLaw", "waits", "(LThumbreel;I[J)I"⟩) ∈ TBL := qs_3 60 rfl rfl
set_option maxRecDepth 20000 in
theorem q_613 : (Cond.static ⟨"ThumbreelLaw", "waits", "(LThumbreel;I[J)I"⟩) ∈ TBL := qs_3 61 rfl rfl
set_option maxRecDepth 20000 in
theorem q_614 : (Cond.codeWith ⟨"ThumbreelLaw", "waits", "(LThumbreel;I[J)I"⟩ method_11_code 4 (some FieldType.int) [(0, 9, 12, 19)]) ∈ TBL := qs_3 62 rfl rfl
set_option maxRecDepth 20000 in
theorem q_615 : (Cond.methodLink "ThumbreelLaw" 44 ⟨"Thumbreel", "waits", "(I)I"⟩) ∈ TBL := qs_3 63 rfl rfl
set_option maxRecDepth 20000 in
theorem q_616 : (Cond.instanceMethod ⟨"Thumbreel", "waits", "(I)I"⟩) ∈ TBL := qs_3 64 rfl rfl
set_option maxRecDepth 20000 in
theorem q_617 : (Cond.selects "Thumbreel" ⟨"Thumbreel", "waits", "(I)I"⟩ ⟨"Thumbreel", "waits", "(I)I"⟩) ∈ TBL := qs_3 65 rfl rfl
set_option maxRecDepth 20000 in
theorem q_618 : (Cond.code ⟨"Thumbreel", "waits", "(I)I"⟩ prog_1_method_10_code 7 (some FieldType.int)) ∈ TBL := qs_3 66 rfl rfl
set_option maxRecDepth 20000 in
theorem q_619 : (Cond.methodLinkNest "Thumbreel" 131 ⟨"Thumbreel$Order", "isAheadOf", "(LThumbreel$Order;)Z"⟩ "Thumbreel") ∈ TBL := qs_3 67 rfl rfl
set_option maxRecDepth 20000 in
theorem q_620 : (Cond.privateMethod ⟨"Thumbreel$Order", "isAheadOf", "(LThumbreel$Order;)Z"⟩) ∈ TBL := qs_3 68 rfl rfl
set_option maxRecDepth 20000 in
theorem q_621 : (Cond.instanceMethod ⟨"Thumbreel$Order", "isAheadOf", "(LThumbreel$Order;)Z"⟩) ∈ TBL := qs_3 69 rfl rfl
set_option maxRecDepth 20000 in
theorem q_622 : (Cond.code ⟨"Thumbreel$Order", "isAheadOf", "(LThumbreel$Order;)Z"⟩ prog_6_method_2_code 2 (some FieldType.boolean)) ∈ TBL := qs_3 70 rfl rfl
set_option maxRecDepth 20000 in
theorem q_623 : (Cond.methodLink "Thumbreel" 135 ⟨"Thumbreel", "sheetsFor", "(I)I"⟩) ∈ TBL := qs_3 71 rfl rfl
set_option maxRecDepth 20000 in
theorem q_624 : (Cond.static ⟨"Thumbreel", "sheetsFor", "(I)I"⟩) ∈ TBL := qs_3 72 rfl rfl
set_option maxRecDepth 20000 in
theorem q_625 : (Cond.code ⟨"Thumbreel", "sheetsFor", "(I)I"⟩ prog_1_method_33_code 1 (some FieldType.int)) ∈ TBL := qs_3 73 rfl rfl
set_option maxRecDepth 20000 in
theorem q_626 : (Cond.methodLink "ThumbreelLaw" 131 ⟨"ThumbreelLaw", "setFolds", "(LThumbreel;III)I"⟩) ∈ TBL := qs_3 74 rfl rfl
set_option maxRecDepth 20000 in
theorem q_627 : (Cond.static ⟨"ThumbreelLaw", "setFolds", "(LThumbreel;III)I"⟩) ∈ TBL := qs_3 75 rfl rfl
set_option maxRecDepth 20000 in
theorem q_628 : (Cond.codeWith ⟨"ThumbreelLaw", "setFolds", "(LThumbreel;III)I"⟩ method_12_code 5 (some FieldType.int) [(0, 7, 10, 21)]) ∈ TBL := qs_3 76 rfl rfl
set_option maxRecDepth 20000 in
theorem q_629 : (Cond.methodLink "ThumbreelLaw" 47 ⟨"Thumbreel", "setFolds", "(III)V"⟩) ∈ TBL := qs_3 77 rfl rfl
set_option maxRecDepth 20000 in
theorem q_630 : (Cond.instanceMethod ⟨"Thumbreel", "setFolds", "(III)V"⟩) ∈ TBL := qs_3 78 rfl rfl
set_option maxRecDepth 20000 in
theorem q_631 : (Cond.selects "Thumbreel" ⟨"Thumbreel", "setFolds", "(III)V"⟩ ⟨"Thumbreel", "setFolds", "(III)V"⟩) ∈ TBL := qs_3 79 rfl rfl
set_option maxRecDepth 20000 in
theorem q_632 : (Cond.code ⟨"Thumbreel", "setFolds", "(III)V"⟩ prog_1_method_11_code 5 none) ∈ TBL := qs_3 80 rfl rfl
set_option maxRecDepth 20000 in
theorem q_633 : (Cond.methodLink "Thumbreel" 138 ⟨"Thumbreel", "oneIfSideways", "(I)I"⟩) ∈ TBL := qs_3 81 rfl rfl
set_option maxRecDepth 20000 in
theorem q_634 : (Cond.static ⟨"Thumbreel", "oneIfSideways", "(I)I"⟩) ∈ TBL := qs_3 82 rfl rfl
set_option maxRecDepth 20000 in
theorem q_635 : (Cond.code ⟨"Thumbreel", "oneIfSideways", "(I)I"⟩ prog_1_method_32_code 1 (some FieldType.int)) ∈ TBL := qs_3 83 rfl rfl
set_option maxRecDepth 20000 in
theorem q_637 : (Cond.methodLink "ThumbreelLaw" 135 ⟨"ThumbreelLaw", "cellOf", "(LThumbreel;I[J)I"⟩) ∈ TBL := qs_3 85 rfl rfl
set_option maxRecDepth 20000 in
theorem q_638 : (Cond.static ⟨"ThumbreelLaw", "cellOf", "(LThumbreel;I[J)I"⟩) ∈ TBL := qs_3 86 rfl rfl
set_option maxRecDepth 20000 in
theorem q_639 : (Cond.codeWith ⟨"ThumbreelLaw", "cellOf", "(LThumbreel;I[J)I"⟩ method_13_code 4 (some FieldType.int) [(0, 9, 12, 19)]) ∈ TBL := qs_3 87 rfl rfl
set_option maxRecDepth 20000 in
theorem q_640 : (Cond.methodLink "ThumbreelLaw" 51 ⟨"Thumbreel", "cellOf", "(I)I"⟩) ∈ TBL := qs_3 88 rfl rfl
set_option maxRecDepth 20000 in
theorem q_641 : (Cond.instanceMethod ⟨"Thumbreel", "cellOf", "(I)I"⟩) ∈ TBL := qs_3 89 rfl rfl
set_option maxRecDepth 20000 in
theorem q_642 : (Cond.selects "Thumbreel" ⟨"Thumbreel", "cellOf", "(I)I"⟩ ⟨"Thumbreel", "cellOf", "(I)I"⟩) ∈ TBL := qs_3 90 rfl rfl
set_option maxRecDepth 20000 in
theorem q_643 : (Cond.code ⟨"Thumbreel", "cellOf", "(I)I"⟩ prog_1_method_12_code 2 (some FieldType.int)) ∈ TBL := qs_3 91 rfl rfl
set_option maxRecDepth 20000 in
theorem q_644 : (Cond.methodLinkNest "Thumbreel" 146 ⟨"Thumbreel$Folding", "unfold", "(I)I"⟩ "Thumbreel") ∈ TBL := qs_3 92 rfl rfl
set_option maxRecDepth 20000 in
theorem q_645 : (Cond.privateMethod ⟨"Thumbreel$Folding", "unfold", "(I)I"⟩) ∈ TBL := qs_3 93 rfl rfl
set_option maxRecDepth 20000 in
theorem q_646 : (Cond.instanceMethod ⟨"Thumbreel$Folding", "unfold", "(I)I"⟩) ∈ TBL := qs_3 94 rfl rfl
set_option maxRecDepth 20000 in
theorem q_647 : (Cond.code ⟨"Thumbreel$Folding", "unfold", "(I)I"⟩ prog_4_method_2_code 11 (some FieldType.int)) ∈ TBL := qs_3 95 rfl rfl
set_option maxRecDepth 20000 in
theorem q_648 : (Cond.methodLink "Thumbreel$Folding" 15 ⟨"Thumbreel$Folding", "unfoldLine", "(IIZZ)I"⟩) ∈ TBL := qs_3 96 rfl rfl
set_option maxRecDepth 20000 in
theorem q_649 : (Cond.static ⟨"Thumbreel$Folding", "unfoldLine", "(IIZZ)I"⟩) ∈ TBL := qs_3 97 rfl rfl
set_option maxRecDepth 20000 in
theorem q_650 : (Cond.code ⟨"Thumbreel$Folding", "unfoldLine", "(IIZZ)I"⟩ prog_4_method_3_code 5 (some FieldType.int)) ∈ TBL := qs_3 98 rfl rfl
set_option maxRecDepth 20000 in
theorem q_651 : (Cond.methodLink "ThumbreelLaw" 138 ⟨"ThumbreelLaw", "placeOf", "(LThumbreel;I[J)I"⟩) ∈ TBL := qs_3 99 rfl rfl
set_option maxRecDepth 20000 in
theorem q_652 : (Cond.static ⟨"ThumbreelLaw", "placeOf", "(LThumbreel;I[J)I"⟩) ∈ TBL := qs_3 100 rfl rfl
set_option maxRecDepth 20000 in
theorem q_653 : (Cond.codeWith ⟨"ThumbreelLaw", "placeOf", "(LThumbreel;I[J)I"⟩ method_14_code 4 (some FieldType.int) [(0, 9, 12, 19)]) ∈ TBL := qs_3 101 rfl rfl
set_option maxRecDepth 20000 in
theorem q_654 : (Cond.methodLink "ThumbreelLaw" 54 ⟨"Thumbreel", "placeOf", "(I)I"⟩) ∈ TBL := qs_3 102 rfl rfl
set_option maxRecDepth 20000 in
theorem q_655 : (Cond.instanceMethod ⟨"Thumbreel", "placeOf", "(I)I"⟩) ∈ TBL := qs_3 103 rfl rfl
set_option maxRecDepth 20000 in
theorem q_656 : (Cond.selects "Thumbreel" ⟨"Thumbreel", "placeOf", "(I)I"⟩ ⟨"Thumbreel", "placeOf", "(I)I"⟩) ∈ TBL := qs_3 104 rfl rfl
set_option maxRecDepth 20000 in
theorem q_657 : (Cond.code ⟨"Thumbreel", "placeOf", "(I)I"⟩ prog_1_method_13_code 3 (some FieldType.int)) ∈ TBL := qs_3 105 rfl rfl
set_option maxRecDepth 20000 in
theorem q_658 : (Cond.methodLinkNest "Thumbreel" 149 ⟨"Thumbreel$Piles", "foldAll", "(LThumbreel$Folding;)V"⟩ "Thumbreel") ∈ TBL := qs_3 106 rfl rfl
set_option maxRecDepth 20000 in
theorem q_659 : (Cond.privateMethod ⟨"Thumbreel$Piles", "foldAll", "(LThumbreel$Folding;)V"⟩) ∈ TBL := qs_3 107 rfl rfl
set_option maxRecDepth 20000 in
theorem q_660 : (Cond.instanceMethod ⟨"Thumbreel$Piles", "foldAll", "(LThumbreel$Folding;)V"⟩) ∈ TBL := qs_3 108 rfl rfl
set_option maxRecDepth 20000 in
theorem q_661 : (Cond.code ⟨"Thumbreel$Piles", "foldAll", "(LThumbreel$Folding;)V"⟩ prog_7_method_2_code 4 none) ∈ TBL := qs_3 109 rfl rfl
set_option maxRecDepth 20000 in
theorem q_662 : (Cond.methodLink "Thumbreel$Piles" 31 ⟨"Thumbreel$Piles", "spread", "()V"⟩) ∈ TBL := qs_3 110 rfl rfl
set_option maxRecDepth 20000 in
theorem q_663 : (Cond.privateMethod ⟨"Thumbreel$Piles", "spread", "()V"⟩) ∈ TBL := qs_3 111 rfl rfl
set_option maxRecDepth 20000 in
theorem q_664 : (Cond.instanceMethod ⟨"Thumbreel$Piles", "spread", "()V"⟩) ∈ TBL := qs_3 112 rfl rfl
set_option maxRecDepth 20000 in
theorem q_665 : (Cond.code ⟨"Thumbreel$Piles", "spread", "()V"⟩ prog_7_method_4_code 2 none) ∈ TBL := qs_3 113 rfl rfl
set_option maxRecDepth 20000 in
theorem q_666 : (Cond.methodLink "Thumbreel$Piles" 39 ⟨"Thumbreel$Piles", "foldSideways", "(Z)V"⟩) ∈ TBL := qs_3 114 rfl rfl
set_option maxRecDepth 20000 in
theorem q_667 : (Cond.privateMethod ⟨"Thumbreel$Piles", "foldSideways", "(Z)V"⟩) ∈ TBL := qs_3 115 rfl rfl
set_option maxRecDepth 20000 in
theorem q_668 : (Cond.instanceMethod ⟨"Thumbreel$Piles", "foldSideways", "(Z)V"⟩) ∈ TBL := qs_3 116 rfl rfl
set_option maxRecDepth 20000 in
theorem q_669 : (Cond.code ⟨"Thumbreel$Piles", "foldSideways", "(Z)V"⟩ prog_7_method_6_code 7 none) ∈ TBL := qs_3 117 rfl rfl
set_option maxRecDepth 20000 in
theorem q_670 : (Cond.methodLink "Thumbreel$Piles" 46 ⟨"Thumbreel$Piles", "pileAt", "(II)I"⟩) ∈ TBL := qs_3 118 rfl rfl
set_option maxRecDepth 20000 in
theorem q_671 : (Cond.privateMethod ⟨"Thumbreel$Piles", "pileAt", "(II)I"⟩) ∈ TBL := qs_3 119 rfl rfl
set_option maxRecDepth 20000 in
theorem q_672 : (Cond.instanceMethod ⟨"Thumbreel$Piles", "pileAt", "(II)I"⟩) ∈ TBL := qs_3 120 rfl rfl
set_option maxRecDepth 20000 in
theorem q_673 : (Cond.code ⟨"Thumbreel$Piles", "pileAt", "(II)I"⟩ prog_7_method_5_code 3 (some FieldType.int)) ∈ TBL := qs_3 121 rfl rfl
set_option maxRecDepth 20000 in
theorem q_674 : (Cond.methodLink "Thumbreel$Piles" 50 ⟨"Thumbreel$Piles", "turnOnto", "(II)V"⟩) ∈ TBL := qs_3 122 rfl rfl
set_option maxRecDepth 20000 in
theorem q_675 : (Cond.privateMethod ⟨"Thumbreel$Piles", "turnOnto", "(II)V"⟩) ∈ TBL := qs_3 123 rfl rfl
set_option maxRecDepth 20000 in
theorem q_676 : (Cond.instanceMethod ⟨"Thumbreel$Piles", "turnOnto", "(II)V"⟩) ∈ TBL := qs_3 124 rfl rfl
set_option maxRecDepth 20000 in
theorem q_677 : (Cond.code ⟨"Thumbreel$Piles", "turnOnto", "(II)V"⟩ prog_7_method_8_code 6 none) ∈ TBL := qs_3 125 rfl rfl
set_option maxRecDepth 20000 in
theorem q_678 : (Cond.methodLink "Thumbreel$Piles" 43 ⟨"Thumbreel$Piles", "foldUpright", "(Z)V"⟩) ∈ TBL := qs_3 126 rfl rfl
set_option maxRecDepth 20000 in
theorem q_679 : (Cond.privateMethod ⟨"Thumbreel$Piles", "foldUpright", "(Z)V"⟩) ∈ TBL := qs_3 127 rfl rfl
set_option maxRecDepth 20000 in
theorem q_680 : (Cond.instanceMethod ⟨"Thumbreel$Piles", "foldUpright", "(Z)V"⟩) ∈ TBL := qs_3 128 rfl rfl
set_option maxRecDepth 20000 in
theorem q_681 : (Cond.code ⟨"Thumbreel$Piles", "foldUpright", "(Z)V"⟩ prog_7_method_7_code 7 none) ∈ TBL := qs_3 129 rfl rfl
set_option maxRecDepth 20000 in
theorem q_682 : (Cond.methodLinkNest "Thumbreel" 153 ⟨"Thumbreel$Piles", "cellAt", "(I)I"⟩ "Thumbreel") ∈ TBL := qs_3 130 rfl rfl
set_option maxRecDepth 20000 in
theorem q_683 : (Cond.privateMethod ⟨"Thumbreel$Piles", "cellAt", "(I)I"⟩) ∈ TBL := qs_3 131 rfl rfl
set_option maxRecDepth 20000 in
theorem q_684 : (Cond.instanceMethod ⟨"Thumbreel$Piles", "cellAt", "(I)I"⟩) ∈ TBL := qs_3 132 rfl rfl
set_option maxRecDepth 20000 in
theorem q_685 : (Cond.code ⟨"Thumbreel$Piles", "cellAt", "(I)I"⟩ prog_7_method_3_code 3 (some FieldType.int)) ∈ TBL := qs_3 133 rfl rfl
set_option maxRecDepth 20000 in
theorem q_686 : (Cond.methodLink "ThumbreelLaw" 141 ⟨"ThumbreelLaw", "print", "(LThumbreel;I[J)I"⟩) ∈ TBL := qs_3 134 rfl rfl
set_option maxRecDepth 20000 in
theorem q_687 : (Cond.static ⟨"ThumbreelLaw", "print", "(LThumbreel;I[J)I"⟩) ∈ TBL := qs_3 135 rfl rfl
set_option maxRecDepth 20000 in
theorem q_688 : (Cond.codeWith ⟨"ThumbreelLaw", "print", "(LThumbreel;I[J)I"⟩ method_15_code 4 (some FieldType.int) [(0, 9, 12, 21), (0, 9, 15, 13)]) ∈ TBL := qs_3 136 rfl rfl
set_option maxRecDepth 20000 in
theorem q_689 : (Cond.methodLink "ThumbreelLaw" 57 ⟨"Thumbreel", "print", "(I)I"⟩) ∈ TBL := qs_3 137 rfl rfl
set_option maxRecDepth 20000 in
theorem q_690 : (Cond.instanceMethod ⟨"Thumbreel", "print", "(I)I"⟩) ∈ TBL := qs_3 138 rfl rfl
set_option maxRecDepth 20000 in
theorem q_691 : (Cond.selects "Thumbreel" ⟨"Thumbreel", "print", "(I)I"⟩ ⟨"Thumbreel", "print", "(I)I"⟩) ∈ TBL := qs_3 139 rfl rfl
set_option maxRecDepth 20000 in
theorem q_692 : (Cond.code ⟨"Thumbreel", "print", "(I)I"⟩ prog_1_method_14_code 4 (some FieldType.int)) ∈ TBL := qs_3 140 rfl rfl
set_option maxRecDepth 20000 in
theorem q_693 : (Cond.methodLink "Thumbreel" 156 ⟨"Thumbreel", "countAllLacking", "()I"⟩) ∈ TBL := qs_3 141 rfl rfl
set_option maxRecDepth 20000 in
theorem q_694 : (Cond.privateMethod ⟨"Thumbreel", "countAllLacking", "()I"⟩) ∈ TBL := qs_3 142 rfl rfl
set_option maxRecDepth 20000 in
theorem q_695 : (Cond.instanceMethod ⟨"Thumbreel", "countAllLacking", "()I"⟩) ∈ TBL := qs_3 143 rfl rfl
set_option maxRecDepth 20000 in
theorem q_696 : (Cond.code ⟨"Thumbreel", "countAllLacking", "()I"⟩ prog_1_method_35_code 3 (some FieldType.int)) ∈ TBL := qs_3 144 rfl rfl
set_option maxRecDepth 20000 in
theorem q_697 : (Cond.methodLink "Thumbreel" 159 ⟨"java/lang/Math", "min", "(II)I"⟩) ∈ TBL := qs_3 145 rfl rfl
set_option maxRecDepth 20000 in
theorem q_699 : (Cond.methodLink "Thumbreel" 167 ⟨"Thumbreel", "sortOrders", "()V"⟩) ∈ TBL := qs_3 147 rfl rfl
set_option maxRecDepth 20000 in
theorem q_700 : (Cond.privateMethod ⟨"Thumbreel", "sortOrders", "()V"⟩) ∈ TBL := qs_3 148 rfl rfl
set_option maxRecDepth 20000 in
theorem q_701 : (Cond.instanceMethod ⟨"Thumbreel", "sortOrders", "()V"⟩) ∈ TBL := qs_3 149 rfl rfl
set_option maxRecDepth 20000 in
theorem q_702 : (Cond.code ⟨"Thumbreel", "sortOrders", "()V"⟩ prog_1_method_36_code 4 none) ∈ TBL := qs_3 150 rfl rfl
set_option maxRecDepth 20000 in
theorem q_703 : (Cond.methodLink "Thumbreel" 170 ⟨"Thumbreel", "printSheet", "()LThumbreel$Sheet;"⟩) ∈ TBL := qs_3 151 rfl rfl
set_option maxRecDepth 20000 in
theorem q_704 : (Cond.privateMethod ⟨"Thumbreel", "printSheet", "()LThumbreel$Sheet;"⟩) ∈ TBL := qs_3 152 rfl rfl
set_option maxRecDepth 20000 in
theorem q_705 : (Cond.instanceMethod ⟨"Thumbreel", "printSheet", "()LThumbreel$Sheet;"⟩) ∈ TBL := qs_3 153 rfl rfl
set_option maxRecDepth 20000 in
theorem q_706 : (Cond.code ⟨"Thumbreel", "printSheet", "()LThumbreel$Sheet;"⟩ prog_1_method_37_code 5 (some (FieldType.object "Thumbreel$Sheet"))) ∈ TBL := qs_3 154 rfl rfl
set_option maxRecDepth 20000 in
theorem q_707 : (Cond.methodLinkNest "Thumbreel" 268 ⟨"Thumbreel$Sheet", "<init>", "(LThumbreel$Folding;)V"⟩ "Thumbreel") ∈ TBL := qs_3 155 rfl rfl
set_option maxRecDepth 20000 in
theorem q_708 : (Cond.instanceMethod ⟨"Thumbreel$Sheet", "<init>", "(LThumbreel$Folding;)V"⟩) ∈ TBL := qs_3 156 rfl rfl
set_option maxRecDepth 20000 in
theorem q_709 : (Cond.code ⟨"Thumbreel$Sheet", "<init>", "(LThumbreel$Folding;)V"⟩ prog_8_method_1_code 2 none) ∈ TBL := qs_3 157 rfl rfl
set_option maxRecDepth 20000 in
theorem q_710 : (Cond.methodLink "Thumbreel$Sheet" 3 ⟨"java/lang/Object", "<init>", "()V"⟩) ∈ TBL := qs_3 158 rfl rfl
set_option maxRecDepth 20000 in
theorem q_711 : (Cond.classLink "Thumbreel$Sheet" 9 "Thumbreel$Leaf") ∈ TBL := qs_3 159 rfl rfl
set_option maxRecDepth 20000 in
theorem q_712 : (Cond.fieldLink "Thumbreel$Sheet" 11 "Thumbreel$Sheet" "cells" "[LThumbreel$Leaf;") ∈ TBL := qs_3 160 rfl rfl
set_option maxRecDepth 20000 in
theorem q_713 : (Cond.fieldLink "Thumbreel$Sheet" 25 "Thumbreel$Sheet" "folding" "LThumbreel$Folding;") ∈ TBL := qs_3 161 rfl rfl
set_option maxRecDepth 20000 in
theorem q_714 : (Cond.fieldLinkNest "Thumbreel" 277 "Thumbreel$Sheet" "folding" "LThumbreel$Folding;" "Thumbreel") ∈ TBL := qs_3 162 rfl rfl
set_option maxRecDepth 20000 in
theorem q_715 : (Cond.fieldLink "Thumbreel$Sheet" 17 "Thumbreel$Sheet" "isWaiting" "Z") ∈ TBL := qs_3 163 rfl rfl
set_option maxRecDepth 20000 in
theorem q_716 : (Cond.fieldLinkNest "Thumbreel" 176 "Thumbreel$Sheet" "isWaiting" "Z" "Thumbreel") ∈ TBL := qs_3 164 rfl rfl
set_option maxRecDepth 20000 in
theorem q_717 : (Cond.fieldLink "Thumbreel$Sheet" 21 "Thumbreel$Sheet" "trimmed" "I") ∈ TBL := qs_3 165 rfl rfl
set_option maxRecDepth 20000 in
theorem q_718 : (Cond.fieldLinkNest "Thumbreel$Copy" 46 "Thumbreel$Sheet" "trimmed" "I" "Thumbreel") ∈ TBL := qs_3 166 rfl rfl
set_option maxRecDepth 20000 in
theorem q_719 : (Cond.fieldLinkNest "Thumbreel" 242 "Thumbreel$Sheet" "trimmed" "I" "Thumbreel") ∈ TBL := qs_3 167 rfl rfl
set_option maxRecDepth 20000 in
theorem q_720 : (Cond.laysFinal "Thumbreel$Sheet" "Thumbreel$Sheet" "cells" "[LThumbreel$Leaf;") ∈ TBL := qs_3 168 rfl rfl
set_option maxRecDepth 20000 in
theorem q_721 : (Cond.soleField "Thumbreel$Sheet" "cells") ∈ TBL := qs_3 169 rfl rfl
set_option maxRecDepth 20000 in
theorem q_722 : (Cond.laysFinal "Thumbreel$Sheet" "Thumbreel$Sheet" "folding" "LThumbreel$Folding;") ∈ TBL := qs_3 170 rfl rfl
set_option maxRecDepth 20000 in
theorem q_723 : (Cond.soleField "Thumbreel$Sheet" "folding") ∈ TBL := qs_3 171 rfl rfl
set_option maxRecDepth 20000 in
theorem q_724 : (Cond.lays "Thumbreel$Sheet" "Thumbreel$Sheet" "isWaiting" "Z") ∈ TBL := qs_3 172 rfl rfl
set_option maxRecDepth 20000 in
theorem q_725 : (Cond.soleField "Thumbreel$Sheet" "isWaiting") ∈ TBL := qs_3 173 rfl rfl
set_option maxRecDepth 20000 in
theorem q_726 : (Cond.lays "Thumbreel$Sheet" "Thumbreel$Sheet" "trimmed" "I") ∈ TBL := qs_3 174 rfl rfl
set_option maxRecDepth 20000 in
theorem q_727 : (Cond.soleField "Thumbreel$Sheet" "trimmed") ∈ TBL := qs_3 175 rfl rfl
set_option maxRecDepth 20000 in
theorem q_728 : (Cond.superclass "Thumbreel$Sheet" "java/lang/Object") ∈ TBL := qs_3 176 rfl rfl
set_option maxRecDepth 20000 in
theorem q_729 : (Cond.methodLinkNest "Thumbreel" 270 ⟨"Thumbreel$Order", "fill", "(LThumbreel$Sheet;I)I"⟩ "Thumbreel") ∈ TBL := qs_3 177 rfl rfl
set_option maxRecDepth 20000 in
theorem q_730 : (Cond.privateMethod ⟨"Thumbreel$Order", "fill", "(LThumbreel$Sheet;I)I"⟩) ∈ TBL := qs_3 178 rfl rfl
set_option maxRecDepth 20000 in
theorem q_731 : (Cond.instanceMethod ⟨"Thumbreel$Order", "fill", "(LThumbreel$Sheet;I)I"⟩) ∈ TBL := qs_3 179 rfl rfl
set_option maxRecDepth 20000 in
theorem q_732 : (Cond.code ⟨"Thumbreel$Order", "fill", "(LThumbreel$Sheet;I)I"⟩ prog_6_method_6_code 8 (some FieldType.int)) ∈ TBL := qs_3 180 rfl rfl
set_option maxRecDepth 20000 in
theorem q_733 : (Cond.methodLinkNest "Thumbreel$Order" 61 ⟨"Thumbreel$Copy", "isLacking", "(I)Z"⟩ "Thumbreel") ∈ TBL := qs_3 181 rfl rfl
set_option maxRecDepth 20000 in
theorem q_734 : (Cond.classLink "Thumbreel$Order" 65 "Thumbreel$Leaf") ∈ TBL := qs_3 182 rfl rfl
set_option maxRecDepth 20000 in
theorem q_735 : (Cond.instantiable "Thumbreel$Leaf" 6) ∈ TBL := qs_3 183 rfl rfl
set_option maxRecDepth 20000 in
theorem q_736 : (Cond.methodLinkNest "Thumbreel$Order" 67 ⟨"Thumbreel$Book", "positionOf", "(I)I"⟩ "Thumbreel") ∈ TBL := qs_3 184 rfl rfl
set_option maxRecDepth 20000 in
theorem q_737 : (Cond.methodLinkNest "Thumbreel$Order" 70 ⟨"Thumbreel$Leaf", "<init>", "(IIIILThumbreel$Sheet;)V"⟩ "Thumbreel") ∈ TBL := qs_3 185 rfl rfl
set_option maxRecDepth 20000 in
theorem q_738 : (Cond.instanceMethod ⟨"Thumbreel$Leaf", "<init>", "(IIIILThumbreel$Sheet;)V"⟩) ∈ TBL := qs_3 186 rfl rfl
set_option maxRecDepth 20000 in
theorem q_739 : (Cond.code ⟨"Thumbreel$Leaf", "<init>", "(IIIILThumbreel$Sheet;)V"⟩ prog_5_method_1_code 6 none) ∈ TBL := qs_3 187 rfl rfl
set_option maxRecDepth 20000 in
theorem q_740 : (Cond.methodLink "Thumbreel$Leaf" 3 ⟨"java/lang/Object", "<init>", "()V"⟩) ∈ TBL := qs_3 188 rfl rfl
set_option maxRecDepth 20000 in
theorem q_741 : (Cond.fieldLink "Thumbreel$Leaf" 15 "Thumbreel$Leaf" "order" "I") ∈ TBL := qs_3 189 rfl rfl
set_option maxRecDepth 20000 in
theorem q_742 : (Cond.fieldLink "Thumbreel$Leaf" 19 "Thumbreel$Leaf" "copy" "I") ∈ TBL := qs_3 190 rfl rfl
set_option maxRecDepth 20000 in
theorem q_743 : (Cond.fieldLink "Thumbreel$Leaf" 22 "Thumbreel$Leaf" "frame" "I") ∈ TBL := qs_3 191 rfl rfl
set_option maxRecDepth 20000 in
theorem q_744 : (Cond.fieldLinkNest "Thumbreel$Copy" 25 "Thumbreel$Leaf" "frame" "I" "Thumbreel") ∈ TBL := qs_3 192 rfl rfl
set_option maxRecDepth 20000 in
theorem q_745 : (Cond.fieldLink "Thumbreel$Leaf" 25 "Thumbreel$Leaf" "position" "I") ∈ TBL := qs_3 193 rfl rfl
set_option maxRecDepth 20000 in
theorem q_746 : (Cond.fieldLinkNest "Thumbreel$Copy" 59 "Thumbreel$Leaf" "position" "I" "Thumbreel") ∈ TBL := qs_3 194 rfl rfl
set_option maxRecDepth 20000 in
theorem q_747 : (Cond.fieldLinkNest "Thumbreel" 245 "Thumbreel$Leaf" "position" "I" "Thumbreel") ∈ TBL := qs_3 195 rfl rfl
set_option maxRecDepth 20000 in
theorem q_748 : (Cond.fieldLink "Thumbreel$Leaf" 28 "Thumbreel$Leaf" "sheet" "LThumbreel$Sheet;") ∈ TBL := qs_3 196 rfl rfl
set_option maxRecDepth 20000 in
theorem q_749 : (Cond.fieldLinkNest "Thumbreel$Copy" 36 "Thumbreel$Leaf" "sheet" "LThumbreel$Sheet;" "Thumbreel") ∈ TBL := qs_3 197 rfl rfl
set_option maxRecDepth 20000 in
theorem q_750 : (Cond.fieldLinkNest "Thumbreel" 238 "Thumbreel$Leaf" "sheet" "LThumbreel$Sheet;" "Thumbreel") ∈ TBL := qs_3 198 rfl rfl
set_option maxRecDepth 20000 in
theorem q_751 : (Cond.fieldLink "Thumbreel$Leaf" 9 "Thumbreel$Leaf" "isSpoiled" "Z") ∈ TBL := qs_3 199 rfl rfl
set_option maxRecDepth 20000 in
theorem q_752 : (Cond.fieldLinkNest "Thumbreel$Sheet" 35 "Thumbreel$Leaf" "isSpoiled" "Z" "Thumbreel") ∈ TBL := qs_3 200 rfl rfl
set_option maxRecDepth 20000 in
theorem q_753 : (Cond.fieldLinkNest "Thumbreel$Copy" 68 "Thumbreel$Leaf" "isSpoiled" "Z" "Thumbreel") ∈ TBL := qs_3 201 rfl rfl
set_option maxRecDepth 20000 in
theorem q_754 : (Cond.fieldLinkNest "Thumbreel" 278 "Thumbreel$Leaf" "isSpoiled" "Z" "Thumbreel") ∈ TBL := qs_3 202 rfl rfl
set_option maxRecDepth 20000 in
theorem q_755 : (Cond.laysFinal "Thumbreel$Leaf" "Thumbreel$Leaf" "order" "I") ∈ TBL := qs_3 203 rfl rfl
set_option maxRecDepth 20000 in
theorem q_756 : (Cond.soleField "Thumbreel$Leaf" "order") ∈ TBL := qs_3 204 rfl rfl
set_option maxRecDepth 20000 in
theorem q_757 : (Cond.laysFinal "Thumbreel$Leaf" "Thumbreel$Leaf" "copy" "I") ∈ TBL := qs_3 205 rfl rfl
set_option maxRecDepth 20000 in
theorem q_758 : (Cond.soleField "Thumbreel$Leaf" "copy") ∈ TBL := qs_3 206 rfl rfl
set_option maxRecDepth 20000 in
theorem q_759 : (Cond.laysFinal "Thumbreel$Leaf" "Thumbreel$Leaf" "frame" "I") ∈ TBL := qs_3 207 rfl rfl
set_option maxRecDepth 20000 in
theorem q_760 : (Cond.soleField "Thumbreel$Leaf" "frame") ∈ TBL := qs_3 208 rfl rfl
set_option maxRecDepth 20000 in
theorem q_761 : (Cond.laysFinal "Thumbreel$Leaf" "Thumbreel$Leaf" "position" "I") ∈ TBL := qs_3 209 rfl rfl
set_option maxRecDepth 20000 in
theorem q_762 : (Cond.soleField "Thumbreel$Leaf" "position") ∈ TBL := qs_3 210 rfl rfl
set_option maxRecDepth 20000 in
theorem q_763 : (Cond.laysFinal "Thumbreel$Leaf" "Thumbreel$Leaf" "sheet" "LThumbreel$Sheet;") ∈ TBL := qs_3 211 rfl rfl
set_option maxRecDepth 20000 in
theorem q_764 : (Cond.soleField "Thumbreel$Leaf" "sheet") ∈ TBL := qs_3 212 rfl rfl
set_option maxRecDepth 20000 in
theorem q_765 : (Cond.lays "Thumbreel$Leaf" "Thumbreel$Leaf" "isSpoiled" "Z") ∈ TBL := qs_3 213 rfl rfl
set_option maxRecDepth 20000 in
theorem q_766 : (Cond.soleField "Thumbreel$Leaf" "isSpoiled") ∈ TBL := qs_3 214 rfl rfl
set_option maxRecDepth 20000 in
theorem q_767 : (Cond.superclass "Thumbreel$Leaf" "java/lang/Object") ∈ TBL := qs_3 215 rfl rfl
set_option maxRecDepth 20000 in
theorem q_768 : (Cond.methodLinkNest "Thumbreel$Order" 73 ⟨"Thumbreel$Copy", "take", "(LThumbreel$Leaf;)V"⟩ "Thumbreel") ∈ TBL := qs_3 216 rfl rfl
set_option maxRecDepth 20000 in
theorem q_769 : (Cond.privateMethod ⟨"Thumbreel$Copy", "take", "(LThumbreel$Leaf;)V"⟩) ∈ TBL := qs_3 217 rfl rfl
set_option maxRecDepth 20000 in
theorem q_770 : (Cond.instanceMethod ⟨"Thumbreel$Copy", "take", "(LThumbreel$Leaf;)V"⟩) ∈ TBL := qs_3 218 rfl rfl
set_option maxRecDepth 20000 in
theorem q_771 : (Cond.code ⟨"Thumbreel$Copy", "take", "(LThumbreel$Leaf;)V"⟩ prog_3_method_3_code 2 none) ∈ TBL := qs_3 219 rfl rfl
set_option maxRecDepth 20000 in
theorem q_772 : (Cond.methodLinkNest "Thumbreel$Order" 77 ⟨"Thumbreel$Sheet", "lay", "(LThumbreel$Leaf;I)V"⟩ "Thumbreel") ∈ TBL := qs_3 220 rfl rfl
set_option maxRecDepth 20000 in
theorem q_773 : (Cond.privateMethod ⟨"Thumbreel$Sheet", "lay", "(LThumbreel$Leaf;I)V"⟩) ∈ TBL := qs_3 221 rfl rfl
set_option maxRecDepth 20000 in
theorem q_774 : (Cond.instanceMethod ⟨"Thumbreel$Sheet", "lay", "(LThumbreel$Leaf;I)V"⟩) ∈ TBL := qs_3 222 rfl rfl
set_option maxRecDepth 20000 in
theorem q_775 : (Cond.code ⟨"Thumbreel$Sheet", "lay", "(LThumbreel$Leaf;I)V"⟩ prog_8_method_3_code 4 none) ∈ TBL := qs_3 223 rfl rfl
set_option maxRecDepth 20000 in
theorem q_776 : (Cond.methodLinkNest "Thumbreel$Sheet" 29 ⟨"Thumbreel$Folding", "unfold", "(I)I"⟩ "Thumbreel") ∈ TBL := qs_3 224 rfl rfl
set_option maxRecDepth 20000 in
theorem q_777 : (Cond.methodLink "ThumbreelLaw" 148 ⟨"ThumbreelLaw", "onSheet", "(LThumbreel;II[J)I"⟩) ∈ TBL := qs_3 225 rfl rfl
set_option maxRecDepth 20000 in
theorem q_778 : (Cond.static ⟨"ThumbreelLaw", "onSheet", "(LThumbreel;II[J)I"⟩) ∈ TBL := qs_3 226 rfl rfl
set_option maxRecDepth 20000 in
theorem q_779 : (Cond.codeWith ⟨"ThumbreelLaw", "onSheet", "(LThumbreel;II[J)I"⟩ method_16_code 5 (some FieldType.int) [(0, 10, 13, 19), (0, 10, 17, 63)]) ∈ TBL := qs_3 227 rfl rfl
set_option maxRecDepth 20000 in
theorem q_780 : (Cond.classLink "ThumbreelLaw" 63 "java/util/NoSuchElementException") ∈ TBL := qs_3 228 rfl rfl
set_option maxRecDepth 20000 in
theorem q_781 : (Cond.methodLink "ThumbreelLaw" 60 ⟨"Thumbreel", "onSheet", "(II)I"⟩) ∈ TBL := qs_3 229 rfl rfl
set_option maxRecDepth 20000 in
theorem q_782 : (Cond.instanceMethod ⟨"Thumbreel", "onSheet", "(II)I"⟩) ∈ TBL := qs_3 230 rfl rfl
set_option maxRecDepth 20000 in
theorem q_783 : (Cond.selects "Thumbreel" ⟨"Thumbreel", "onSheet", "(II)I"⟩ ⟨"Thumbreel", "onSheet", "(II)I"⟩) ∈ TBL := qs_3 231 rfl rfl
set_option maxRecDepth 20000 in
theorem q_784 : (Cond.code ⟨"Thumbreel", "onSheet", "(II)I"⟩ prog_1_method_16_code 4 (some FieldType.int)) ∈ TBL := qs_3 232 rfl rfl
set_option maxRecDepth 20000 in
theorem q_785 : (Cond.classLink "Thumbreel" 180 "java/util/NoSuchElementException") ∈ TBL := qs_3 233 rfl rfl
set_option maxRecDepth 20000 in
theorem q_786 : (Cond.instantiable "java/util/NoSuchElementException" 6) ∈ TBL := qs_3 234 rfl rfl
set_option maxRecDepth 20000 in
theorem q_787 : (Cond.castable "java/util/NoSuchElementException" "java/util/NoSuchElementException") ∈ TBL := qs_3 235 rfl rfl
set_option maxRecDepth 20000 in
theorem q_788 : (Cond.selects "java/util/NoSuchElementException" ⟨"java/lang/Throwable", "fillInStackTrace", "(I)Ljava/lang/Throwable;"⟩ ⟨"java/lang/Throwable", "fillInStackTrace", "(I)Ljava/lang/Throwable;"⟩) ∈ TBL := qs_3 236 rfl rfl
set_option maxRecDepth 20000 in
theorem q_789 : (Cond.lays "java/util/NoSuchElementException" "java/lang/Throwable" "cause" "Ljava/lang/Throwable;") ∈ TBL := qs_3 237 rfl rfl
set_option maxRecDepth 20000 in
theorem q_790 : (Cond.lays "java/util/NoSuchElementException" "java/lang/Throwable" "stackTrace" "[Ljava/lang/StackTraceElement;") ∈ TBL := qs_3 238 rfl rfl
set_option maxRecDepth 20000 in
theorem q_791 : (Cond.lays "java/util/NoSuchElementException" "java/lang/Throwable" "suppressedExceptions" "Ljava/util/List;") ∈ TBL := qs_3 239 rfl rfl
set_option maxRecDepth 20000 in
theorem q_792 : (Cond.lays "java/util/NoSuchElementException" "java/lang/Throwable" "detailMessage" "Ljava/lang/String;") ∈ TBL := qs_4 0 rfl rfl
set_option maxRecDepth 20000 in
theorem q_793 : (Cond.lays "java/util/NoSuchElementException" "java/lang/Throwable" "backtrace" "Ljava/lang/Object;") ∈ TBL := qs_4 1 rfl rfl
set_option maxRecDepth 20000 in
theorem q_795 : (Cond.methodLink "Thumbreel" 184 ⟨"java/util/NoSuchElementException", "<init>", "(Ljava/lang/String;)V"⟩) ∈ TBL := qs_4 3 rfl rfl
set_option maxRecDepth 20000 in
theorem q_796 : (Cond.instanceMethod ⟨"java/util/NoSuchElementException", "<init>", "(Ljava/lang/String;)V"⟩) ∈ TBL := qs_4 4 rfl rfl
set_option maxRecDepth 20000 in
theorem q_797 : (Cond.code ⟨"java/util/NoSuchElementException", "<init>", "(Ljava/lang/String;)V"⟩ prog_29_method_4_code 2 none) ∈ TBL := qs_4 5 rfl rfl
set_option maxRecDepth 20000 in
theorem q_798 : (Cond.methodLink "java/util/NoSuchElementException" 13 ⟨"java/lang/RuntimeException", "<init>", "(Ljava/lang/String;)V"⟩) ∈ TBL := qs_4 6 rfl rfl
set_option maxRecDepth 20000 in
theorem q_799 : (Cond.lays "java/util/NoSuchElementException" "java/lang/Throwable" "depth" "I") ∈ TBL := qs_4 7 rfl rfl
set_option maxRecDepth 20000 in
theorem q_800 : (Cond.superclass "java/util/NoSuchElementException" "java/lang/RuntimeException") ∈ TBL := qs_4 8 rfl rfl
set_option maxRecDepth 20000 in
theorem q_801 : (Cond.methodLinkNest "Thumbreel" 185 ⟨"Thumbreel$Sheet", "leafIn", "(I)LThumbreel$Leaf;"⟩ "Thumbreel") ∈ TBL := qs_4 9 rfl rfl
set_option maxRecDepth 20000 in
theorem q_802 : (Cond.privateMethod ⟨"Thumbreel$Sheet", "leafIn", "(I)LThumbreel$Leaf;"⟩) ∈ TBL := qs_4 10 rfl rfl
set_option maxRecDepth 20000 in
theorem q_803 : (Cond.instanceMethod ⟨"Thumbreel$Sheet", "leafIn", "(I)LThumbreel$Leaf;"⟩) ∈ TBL := qs_4 11 rfl rfl
set_option maxRecDepth 20000 in
theorem q_804 : (Cond.code ⟨"Thumbreel$Sheet", "leafIn", "(I)LThumbreel$Leaf;"⟩ prog_8_method_2_code 2 (some (FieldType.object "Thumbreel$Leaf"))) ∈ TBL := qs_4 12 rfl rfl
set_option maxRecDepth 20000 in
theorem q_805 : (Cond.methodLinkNest "Thumbreel" 189 ⟨"Thumbreel$Leaf", "code", "()I"⟩ "Thumbreel") ∈ TBL := qs_4 13 rfl rfl
set_option maxRecDepth 20000 in
theorem q_806 : (Cond.privateMethod ⟨"Thumbreel$Leaf", "code", "()I"⟩) ∈ TBL := qs_4 14 rfl rfl
set_option maxRecDepth 20000 in
theorem q_807 : (Cond.instanceMethod ⟨"Thumbreel$Leaf", "code", "()I"⟩) ∈ TBL := qs_4 15 rfl rfl
set_option maxRecDepth 20000 in
theorem q_808 : (Cond.code ⟨"Thumbreel$Leaf", "code", "()I"⟩ prog_5_method_2_code 1 (some FieldType.int)) ∈ TBL := qs_4 16 rfl rfl
set_option maxRecDepth 20000 in
theorem q_809 : (Cond.methodLink "ThumbreelLaw" 151 ⟨"ThumbreelLaw", "cut", "(LThumbreel;I[J)I"⟩) ∈ TBL := qs_4 17 rfl rfl
set_option maxRecDepth 20000 in
theorem q_810 : (Cond.static ⟨"ThumbreelLaw", "cut", "(LThumbreel;I[J)I"⟩) ∈ TBL := qs_4 18 rfl rfl
set_option maxRecDepth 20000 in
theorem q_811 : (Cond.codeWith ⟨"ThumbreelLaw", "cut", "(LThumbreel;I[J)I"⟩ method_17_code 4 (some FieldType.int) [(0, 9, 12, 19), (0, 9, 15, 63)]) ∈ TBL := qs_4 19 rfl rfl
set_option maxRecDepth 20000 in
theorem q_812 : (Cond.methodLink "ThumbreelLaw" 65 ⟨"Thumbreel", "cut", "(I)I"⟩) ∈ TBL := qs_4 20 rfl rfl
set_option maxRecDepth 20000 in
theorem q_813 : (Cond.instanceMethod ⟨"Thumbreel", "cut", "(I)I"⟩) ∈ TBL := qs_4 21 rfl rfl
set_option maxRecDepth 20000 in
theorem q_814 : (Cond.selects "Thumbreel" ⟨"Thumbreel", "cut", "(I)I"⟩ ⟨"Thumbreel", "cut", "(I)I"⟩) ∈ TBL := qs_4 22 rfl rfl
set_option maxRecDepth 20000 in
theorem q_815 : (Cond.code ⟨"Thumbreel", "cut", "(I)I"⟩ prog_1_method_17_code 4 (some FieldType.int)) ∈ TBL := qs_4 23 rfl rfl
set_option maxRecDepth 20000 in
theorem q_816 : (Cond.methodLink "Thumbreel" 194 ⟨"Thumbreel", "longestWaiting", "()LThumbreel$Sheet;"⟩) ∈ TBL := qs_4 24 rfl rfl
set_option maxRecDepth 20000 in
theorem q_817 : (Cond.privateMethod ⟨"Thumbreel", "longestWaiting", "()LThumbreel$Sheet;"⟩) ∈ TBL := qs_4 25 rfl rfl
set_option maxRecDepth 20000 in
theorem q_818 : (Cond.instanceMethod ⟨"Thumbreel", "longestWaiting", "()LThumbreel$Sheet;"⟩) ∈ TBL := qs_4 26 rfl rfl
set_option maxRecDepth 20000 in
theorem q_819 : (Cond.code ⟨"Thumbreel", "longestWaiting", "()LThumbreel$Sheet;"⟩ prog_1_method_38_code 2 (some (FieldType.object "Thumbreel$Sheet"))) ∈ TBL := qs_4 27 rfl rfl
set_option maxRecDepth 20000 in
theorem q_821 : (Cond.methodLinkNest "Thumbreel" 199 ⟨"Thumbreel$Sheet", "cutWith", "(I)V"⟩ "Thumbreel") ∈ TBL := qs_4 29 rfl rfl
set_option maxRecDepth 20000 in
theorem q_822 : (Cond.privateMethod ⟨"Thumbreel$Sheet", "cutWith", "(I)V"⟩) ∈ TBL := qs_4 30 rfl rfl
set_option maxRecDepth 20000 in
theorem q_823 : (Cond.instanceMethod ⟨"Thumbreel$Sheet", "cutWith", "(I)V"⟩) ∈ TBL := qs_4 31 rfl rfl
set_option maxRecDepth 20000 in
theorem q_824 : (Cond.code ⟨"Thumbreel$Sheet", "cutWith", "(I)V"⟩ prog_8_method_4_code 2 none) ∈ TBL := qs_4 32 rfl rfl
set_option maxRecDepth 20000 in
theorem q_825 : (Cond.methodLink "ThumbreelLaw" 158 ⟨"ThumbreelLaw", "sharpen", "(LThumbreel;I[J)I"⟩) ∈ TBL := qs_4 33 rfl rfl
set_option maxRecDepth 20000 in
theorem q_826 : (Cond.static ⟨"ThumbreelLaw", "sharpen", "(LThumbreel;I[J)I"⟩) ∈ TBL := qs_4 34 rfl rfl
set_option maxRecDepth 20000 in
theorem q_827 : (Cond.codeWith ⟨"ThumbreelLaw", "sharpen", "(LThumbreel;I[J)I"⟩ method_18_code 4 (some FieldType.int) [(0, 9, 12, 19)]) ∈ TBL := qs_4 35 rfl rfl
set_option maxRecDepth 20000 in
theorem q_828 : (Cond.methodLink "ThumbreelLaw" 68 ⟨"Thumbreel", "sharpen", "(I)I"⟩) ∈ TBL := qs_4 36 rfl rfl
set_option maxRecDepth 20000 in
theorem q_829 : (Cond.instanceMethod ⟨"Thumbreel", "sharpen", "(I)I"⟩) ∈ TBL := qs_4 37 rfl rfl
set_option maxRecDepth 20000 in
theorem q_830 : (Cond.selects "Thumbreel" ⟨"Thumbreel", "sharpen", "(I)I"⟩ ⟨"Thumbreel", "sharpen", "(I)I"⟩) ∈ TBL := qs_4 38 rfl rfl
set_option maxRecDepth 20000 in
theorem q_831 : (Cond.code ⟨"Thumbreel", "sharpen", "(I)I"⟩ prog_1_method_19_code 3 (some FieldType.int)) ∈ TBL := qs_4 39 rfl rfl
set_option maxRecDepth 20000 in
theorem q_832 : (Cond.methodLink "ThumbreelLaw" 161 ⟨"ThumbreelLaw", "setTolerance", "(LThumbreel;I[J)I"⟩) ∈ TBL := qs_4 40 rfl rfl
set_option maxRecDepth 20000 in
theorem q_833 : (Cond.static ⟨"ThumbreelLaw", "setTolerance", "(LThumbreel;I[J)I"⟩) ∈ TBL := qs_4 41 rfl rfl
set_option maxRecDepth 20000 in
theorem q_834 : (Cond.codeWith ⟨"ThumbreelLaw", "setTolerance", "(LThumbreel;I[J)I"⟩ method_19_code 4 (some FieldType.int) [(0, 9, 12, 21)]) ∈ TBL := qs_4 42 rfl rfl
set_option maxRecDepth 20000 in
theorem q_835 : (Cond.methodLink "ThumbreelLaw" 71 ⟨"Thumbreel", "setTolerance", "(I)I"⟩) ∈ TBL := qs_4 43 rfl rfl
set_option maxRecDepth 20000 in
theorem q_836 : (Cond.instanceMethod ⟨"Thumbreel", "setTolerance", "(I)I"⟩) ∈ TBL := qs_4 44 rfl rfl
set_option maxRecDepth 20000 in
theorem q_837 : (Cond.selects "Thumbreel" ⟨"Thumbreel", "setTolerance", "(I)I"⟩ ⟨"Thumbreel", "setTolerance", "(I)I"⟩) ∈ TBL := qs_4 45 rfl rfl
set_option maxRecDepth 20000 in
theorem q_838 : (Cond.code ⟨"Thumbreel", "setTolerance", "(I)I"⟩ prog_1_method_20_code 3 (some FieldType.int)) ∈ TBL := qs_4 46 rfl rfl
set_option maxRecDepth 20000 in
theorem q_839 : (Cond.methodLink "ThumbreelLaw" 164 ⟨"ThumbreelLaw", "bind", "(LThumbreel;II[J)I"⟩) ∈ TBL := qs_4 47 rfl rfl
set_option maxRecDepth 20000 in
theorem q_840 : (Cond.static ⟨"ThumbreelLaw", "bind", "(LThumbreel;II[J)I"⟩) ∈ TBL := qs_4 48 rfl rfl
set_option maxRecDepth 20000 in
theorem q_841 : (Cond.codeWith ⟨"ThumbreelLaw", "bind", "(LThumbreel;II[J)I"⟩ method_20_code 5 (some FieldType.int) [(0, 10, 13, 19), (0, 10, 17, 13)]) ∈ TBL := qs_4 49 rfl rfl
set_option maxRecDepth 20000 in
theorem q_842 : (Cond.methodLink "ThumbreelLaw" 74 ⟨"Thumbreel", "bind", "(II)I"⟩) ∈ TBL := qs_4 50 rfl rfl
set_option maxRecDepth 20000 in
theorem q_843 : (Cond.instanceMethod ⟨"Thumbreel", "bind", "(II)I"⟩) ∈ TBL := qs_4 51 rfl rfl
set_option maxRecDepth 20000 in
theorem q_844 : (Cond.selects "Thumbreel" ⟨"Thumbreel", "bind", "(II)I"⟩ ⟨"Thumbreel", "bind", "(II)I"⟩) ∈ TBL := qs_4 52 rfl rfl
set_option maxRecDepth 20000 in
theorem q_845 : (Cond.code ⟨"Thumbreel", "bind", "(II)I"⟩ prog_1_method_21_code 7 (some FieldType.int)) ∈ TBL := qs_4 53 rfl rfl
set_option maxRecDepth 20000 in
theorem q_846 : (Cond.methodLink "Thumbreel" 206 ⟨"Thumbreel", "copyNumbered", "(LThumbreel$Order;I)LThumbreel$Copy;"⟩) ∈ TBL := qs_4 54 rfl rfl
set_option maxRecDepth 20000 in
theorem q_847 : (Cond.static ⟨"Thumbreel", "copyNumbered", "(LThumbreel$Order;I)LThumbreel$Copy;"⟩) ∈ TBL := qs_4 55 rfl rfl
set_option maxRecDepth 20000 in
theorem q_848 : (Cond.code ⟨"Thumbreel", "copyNumbered", "(LThumbreel$Order;I)LThumbreel$Copy;"⟩ prog_1_method_31_code 2 (some (FieldType.object "Thumbreel$Copy"))) ∈ TBL := qs_4 56 rfl rfl
set_option maxRecDepth 20000 in
theorem q_849 : (Cond.classLink "Thumbreel" 215 "Thumbreel$Copy") ∈ TBL := qs_4 57 rfl rfl
set_option maxRecDepth 20000 in
theorem q_850 : (Cond.methodLinkNest "Thumbreel" 219 ⟨"Thumbreel$Copy", "isAllCut", "(I)Z"⟩ "Thumbreel") ∈ TBL := qs_4 58 rfl rfl
set_option maxRecDepth 20000 in
theorem q_851 : (Cond.privateMethod ⟨"Thumbreel$Copy", "isAllCut", "(I)Z"⟩) ∈ TBL := qs_4 59 rfl rfl
set_option maxRecDepth 20000 in
theorem q_852 : (Cond.instanceMethod ⟨"Thumbreel$Copy", "isAllCut", "(I)Z"⟩) ∈ TBL := qs_4 60 rfl rfl
set_option maxRecDepth 20000 in
theorem q_853 : (Cond.code ⟨"Thumbreel$Copy", "isAllCut", "(I)Z"⟩ prog_3_method_6_code 4 (some FieldType.boolean)) ∈ TBL := qs_4 61 rfl rfl
set_option maxRecDepth 20000 in
theorem q_854 : (Cond.methodLinkNest "Thumbreel$Copy" 40 ⟨"Thumbreel$Sheet", "isCut", "()Z"⟩ "Thumbreel") ∈ TBL := qs_4 62 rfl rfl
set_option maxRecDepth 20000 in
theorem q_855 : (Cond.privateMethod ⟨"Thumbreel$Sheet", "isCut", "()Z"⟩) ∈ TBL := qs_4 63 rfl rfl
set_option maxRecDepth 20000 in
theorem q_856 : (Cond.instanceMethod ⟨"Thumbreel$Sheet", "isCut", "()Z"⟩) ∈ TBL := qs_4 64 rfl rfl
set_option maxRecDepth 20000 in
theorem q_857 : (Cond.code ⟨"Thumbreel$Sheet", "isCut", "()Z"⟩ prog_8_method_5_code 1 (some FieldType.boolean)) ∈ TBL := qs_4 65 rfl rfl
set_option maxRecDepth 20000 in
theorem q_859 : (Cond.methodLinkNest "Thumbreel" 225 ⟨"Thumbreel$Copy", "leastTrim", "(I)I"⟩ "Thumbreel") ∈ TBL := qs_4 67 rfl rfl
set_option maxRecDepth 20000 in
theorem q_860 : (Cond.privateMethod ⟨"Thumbreel$Copy", "leastTrim", "(I)I"⟩) ∈ TBL := qs_4 68 rfl rfl
set_option maxRecDepth 20000 in
theorem q_861 : (Cond.instanceMethod ⟨"Thumbreel$Copy", "leastTrim", "(I)I"⟩) ∈ TBL := qs_4 69 rfl rfl
set_option maxRecDepth 20000 in
theorem q_862 : (Cond.code ⟨"Thumbreel$Copy", "leastTrim", "(I)I"⟩ prog_3_method_7_code 5 (some FieldType.int)) ∈ TBL := qs_4 70 rfl rfl
set_option maxRecDepth 20000 in
theorem q_863 : (Cond.methodLink "Thumbreel$Copy" 49 ⟨"java/lang/Math", "min", "(II)I"⟩) ∈ TBL := qs_4 71 rfl rfl
set_option maxRecDepth 20000 in
theorem q_864 : (Cond.methodLinkNest "Thumbreel" 228 ⟨"Thumbreel$Copy", "spoilAbove", "(I)I"⟩ "Thumbreel") ∈ TBL := qs_4 72 rfl rfl
set_option maxRecDepth 20000 in
theorem q_865 : (Cond.privateMethod ⟨"Thumbreel$Copy", "spoilAbove", "(I)I"⟩) ∈ TBL := qs_4 73 rfl rfl
set_option maxRecDepth 20000 in
theorem q_866 : (Cond.instanceMethod ⟨"Thumbreel$Copy", "spoilAbove", "(I)I"⟩) ∈ TBL := qs_4 74 rfl rfl
set_option maxRecDepth 20000 in
theorem q_867 : (Cond.code ⟨"Thumbreel$Copy", "spoilAbove", "(I)I"⟩ prog_3_method_8_code 5 (some FieldType.int)) ∈ TBL := qs_4 75 rfl rfl
set_option maxRecDepth 20000 in
theorem q_868 : (Cond.methodLink "ThumbreelLaw" 167 ⟨"ThumbreelLaw", "isBound", "(LThumbreel;II[J)I"⟩) ∈ TBL := qs_4 76 rfl rfl
set_option maxRecDepth 20000 in
theorem q_869 : (Cond.static ⟨"ThumbreelLaw", "isBound", "(LThumbreel;II[J)I"⟩) ∈ TBL := qs_4 77 rfl rfl
set_option maxRecDepth 20000 in
theorem q_870 : (Cond.codeWith ⟨"ThumbreelLaw", "isBound", "(LThumbreel;II[J)I"⟩ method_21_code 5 (some FieldType.int) [(0, 17, 20, 19)]) ∈ TBL := qs_4 78 rfl rfl
set_option maxRecDepth 20000 in
theorem q_871 : (Cond.methodLink "ThumbreelLaw" 77 ⟨"Thumbreel", "isBound", "(II)Z"⟩) ∈ TBL := qs_4 79 rfl rfl
set_option maxRecDepth 20000 in
theorem q_872 : (Cond.instanceMethod ⟨"Thumbreel", "isBound", "(II)Z"⟩) ∈ TBL := qs_4 80 rfl rfl
set_option maxRecDepth 20000 in
theorem q_873 : (Cond.selects "Thumbreel" ⟨"Thumbreel", "isBound", "(II)Z"⟩ ⟨"Thumbreel", "isBound", "(II)Z"⟩) ∈ TBL := qs_4 81 rfl rfl
set_option maxRecDepth 20000 in
theorem q_874 : (Cond.code ⟨"Thumbreel", "isBound", "(II)Z"⟩ prog_1_method_22_code 3 (some FieldType.boolean)) ∈ TBL := qs_4 82 rfl rfl
set_option maxRecDepth 20000 in
theorem q_875 : (Cond.methodLink "ThumbreelLaw" 170 ⟨"ThumbreelLaw", "trim", "(LThumbreel;III[J)I"⟩) ∈ TBL := qs_4 83 rfl rfl
set_option maxRecDepth 20000 in
theorem q_876 : (Cond.static ⟨"ThumbreelLaw", "trim", "(LThumbreel;III[J)I"⟩) ∈ TBL := qs_4 84 rfl rfl
set_option maxRecDepth 20000 in
theorem q_877 : (Cond.codeWith ⟨"ThumbreelLaw", "trim", "(LThumbreel;III[J)I"⟩ method_22_code 6 (some FieldType.int) [(0, 12, 15, 19)]) ∈ TBL := qs_4 85 rfl rfl
set_option maxRecDepth 20000 in
theorem q_878 : (Cond.methodLink "ThumbreelLaw" 81 ⟨"Thumbreel", "trim", "(III)I"⟩) ∈ TBL := qs_4 86 rfl rfl
set_option maxRecDepth 20000 in
theorem q_879 : (Cond.instanceMethod ⟨"Thumbreel", "trim", "(III)I"⟩) ∈ TBL := qs_4 87 rfl rfl
set_option maxRecDepth 20000 in
theorem q_880 : (Cond.selects "Thumbreel" ⟨"Thumbreel", "trim", "(III)I"⟩ ⟨"Thumbreel", "trim", "(III)I"⟩) ∈ TBL := qs_4 88 rfl rfl
set_option maxRecDepth 20000 in
theorem q_881 : (Cond.code ⟨"Thumbreel", "trim", "(III)I"⟩ prog_1_method_23_code 5 (some FieldType.int)) ∈ TBL := qs_4 89 rfl rfl
set_option maxRecDepth 20000 in
theorem q_882 : (Cond.methodLink "Thumbreel" 234 ⟨"Thumbreel", "keptLeaf", "(III)LThumbreel$Leaf;"⟩) ∈ TBL := qs_4 90 rfl rfl
set_option maxRecDepth 20000 in
theorem q_883 : (Cond.privateMethod ⟨"Thumbreel", "keptLeaf", "(III)LThumbreel$Leaf;"⟩) ∈ TBL := qs_4 91 rfl rfl
set_option maxRecDepth 20000 in
theorem q_884 : (Cond.instanceMethod ⟨"Thumbreel", "keptLeaf", "(III)LThumbreel$Leaf;"⟩) ∈ TBL := qs_4 92 rfl rfl
set_option maxRecDepth 20000 in
theorem q_885 : (Cond.code ⟨"Thumbreel", "keptLeaf", "(III)LThumbreel$Leaf;"⟩ prog_1_method_39_code 7 (some (FieldType.object "Thumbreel$Leaf"))) ∈ TBL := qs_4 93 rfl rfl
set_option maxRecDepth 20000 in
theorem q_886 : (Cond.methodLinkNest "Thumbreel" 248 ⟨"Thumbreel$Order", "lengthOf", "(LThumbreel$Copy;)I"⟩ "Thumbreel") ∈ TBL := qs_4 94 rfl rfl
set_option maxRecDepth 20000 in
theorem q_887 : (Cond.privateMethod ⟨"Thumbreel$Order", "lengthOf", "(LThumbreel$Copy;)I"⟩) ∈ TBL := qs_4 95 rfl rfl
set_option maxRecDepth 20000 in
theorem q_888 : (Cond.instanceMethod ⟨"Thumbreel$Order", "lengthOf", "(LThumbreel$Copy;)I"⟩) ∈ TBL := qs_4 96 rfl rfl
set_option maxRecDepth 20000 in
theorem q_889 : (Cond.code ⟨"Thumbreel$Order", "lengthOf", "(LThumbreel$Copy;)I"⟩ prog_6_method_3_code 2 (some FieldType.int)) ∈ TBL := qs_4 97 rfl rfl
set_option maxRecDepth 20000 in
theorem q_890 : (Cond.methodLinkNest "Thumbreel" 274 ⟨"Thumbreel$Copy", "leafOf", "(I)LThumbreel$Leaf;"⟩ "Thumbreel") ∈ TBL := qs_4 98 rfl rfl
set_option maxRecDepth 20000 in
theorem q_891 : (Cond.methodLinkNest "Thumbreel" 252 ⟨"Thumbreel$Sheet", "isCut", "()Z"⟩ "Thumbreel") ∈ TBL := qs_4 99 rfl rfl
set_option maxRecDepth 20000 in
theorem q_892 : (Cond.methodLink "ThumbreelLaw" 173 ⟨"ThumbreelLaw", "leaf", "(LThumbreel;III[J)I"⟩) ∈ TBL := qs_4 100 rfl rfl
set_option maxRecDepth 20000 in
theorem q_893 : (Cond.static ⟨"ThumbreelLaw", "leaf", "(LThumbreel;III[J)I"⟩) ∈ TBL := qs_4 101 rfl rfl
set_option maxRecDepth 20000 in
theorem q_894 : (Cond.codeWith ⟨"ThumbreelLaw", "leaf", "(LThumbreel;III[J)I"⟩ method_23_code 6 (some FieldType.int) [(0, 12, 15, 19)]) ∈ TBL := qs_4 102 rfl rfl
set_option maxRecDepth 20000 in
theorem q_895 : (Cond.methodLink "ThumbreelLaw" 84 ⟨"Thumbreel", "leaf", "(III)I"⟩) ∈ TBL := qs_4 103 rfl rfl
set_option maxRecDepth 20000 in
theorem q_896 : (Cond.instanceMethod ⟨"Thumbreel", "leaf", "(III)I"⟩) ∈ TBL := qs_4 104 rfl rfl
set_option maxRecDepth 20000 in
theorem q_897 : (Cond.selects "Thumbreel" ⟨"Thumbreel", "leaf", "(III)I"⟩ ⟨"Thumbreel", "leaf", "(III)I"⟩) ∈ TBL := qs_4 105 rfl rfl
set_option maxRecDepth 20000 in
theorem q_898 : (Cond.code ⟨"Thumbreel", "leaf", "(III)I"⟩ prog_1_method_24_code 5 (some FieldType.int)) ∈ TBL := qs_4 106 rfl rfl
set_option maxRecDepth 20000 in
theorem q_899 : (Cond.methodLink "ThumbreelLaw" 176 ⟨"ThumbreelLaw", "leafByPiles", "(LThumbreel;III[J)I"⟩) ∈ TBL := qs_4 107 rfl rfl
set_option maxRecDepth 20000 in
theorem q_900 : (Cond.static ⟨"ThumbreelLaw", "leafByPiles", "(LThumbreel;III[J)I"⟩) ∈ TBL := qs_4 108 rfl rfl
set_option maxRecDepth 20000 in
theorem q_901 : (Cond.codeWith ⟨"ThumbreelLaw", "leafByPiles", "(LThumbreel;III[J)I"⟩ method_24_code 6 (some FieldType.int) [(0, 12, 15, 19)]) ∈ TBL := qs_4 109 rfl rfl
set_option maxRecDepth 20000 in
theorem q_902 : (Cond.methodLink "ThumbreelLaw" 87 ⟨"Thumbreel", "leafByPiles", "(III)I"⟩) ∈ TBL := qs_4 110 rfl rfl
set_option maxRecDepth 20000 in
theorem q_903 : (Cond.instanceMethod ⟨"Thumbreel", "leafByPiles", "(III)I"⟩) ∈ TBL := qs_4 111 rfl rfl
set_option maxRecDepth 20000 in
theorem q_904 : (Cond.selects "Thumbreel" ⟨"Thumbreel", "leafByPiles", "(III)I"⟩ ⟨"Thumbreel", "leafByPiles", "(III)I"⟩) ∈ TBL := qs_4 112 rfl rfl
set_option maxRecDepth 20000 in
theorem q_905 : (Cond.code ⟨"Thumbreel", "leafByPiles", "(III)I"⟩ prog_1_method_25_code 9 (some FieldType.int)) ∈ TBL := qs_4 113 rfl rfl
set_option maxRecDepth 20000 in
theorem q_906 : (Cond.methodLink "Thumbreel" 255 ⟨"Thumbreel", "findInPile", "(LThumbreel$Sheet;III)LThumbreel$Leaf;"⟩) ∈ TBL := qs_4 114 rfl rfl
set_option maxRecDepth 20000 in
theorem q_907 : (Cond.privateMethod ⟨"Thumbreel", "findInPile", "(LThumbreel$Sheet;III)LThumbreel$Leaf;"⟩) ∈ TBL := qs_4 115 rfl rfl
set_option maxRecDepth 20000 in
theorem q_908 : (Cond.instanceMethod ⟨"Thumbreel", "findInPile", "(LThumbreel$Sheet;III)LThumbreel$Leaf;"⟩) ∈ TBL := qs_4 116 rfl rfl
set_option maxRecDepth 20000 in
theorem q_909 : (Cond.code ⟨"Thumbreel", "findInPile", "(LThumbreel$Sheet;III)LThumbreel$Leaf;"⟩ prog_1_method_40_code 7 (some (FieldType.object "Thumbreel$Leaf"))) ∈ TBL := qs_4 117 rfl rfl
set_option maxRecDepth 20000 in
theorem q_910 : (Cond.methodLinkNest "Thumbreel" 281 ⟨"Thumbreel$Leaf", "belongsTo", "(III)Z"⟩ "Thumbreel") ∈ TBL := qs_4 118 rfl rfl
set_option maxRecDepth 20000 in
theorem q_911 : (Cond.privateMethod ⟨"Thumbreel$Leaf", "belongsTo", "(III)Z"⟩) ∈ TBL := qs_4 119 rfl rfl
set_option maxRecDepth 20000 in
theorem q_912 : (Cond.instanceMethod ⟨"Thumbreel$Leaf", "belongsTo", "(III)Z"⟩) ∈ TBL := qs_4 120 rfl rfl
set_option maxRecDepth 20000 in
theorem q_913 : (Cond.code ⟨"Thumbreel$Leaf", "belongsTo", "(III)Z"⟩ prog_5_method_3_code 4 (some FieldType.boolean)) ∈ TBL := qs_4 121 rfl rfl
set_option maxRecDepth 20000 in
theorem q_914 : (Cond.classLink "ThumbreelLaw" 91 "ThumbreelModel") ∈ TBL := qs_4 122 rfl rfl
set_option maxRecDepth 20000 in
theorem q_915 : (Cond.instantiable "ThumbreelModel" 24) ∈ TBL := qs_4 123 rfl rfl
set_option maxRecDepth 20000 in
theorem q_916 : (Cond.methodLink "ThumbreelLaw" 93 ⟨"ThumbreelModel", "<init>", "()V"⟩) ∈ TBL := qs_4 124 rfl rfl
set_option maxRecDepth 20000 in
theorem q_917 : (Cond.instanceMethod ⟨"ThumbreelModel", "<init>", "()V"⟩) ∈ TBL := qs_4 125 rfl rfl
set_option maxRecDepth 20000 in
theorem q_918 : (Cond.code ⟨"ThumbreelModel", "<init>", "()V"⟩ prog_10_method_1_code 1 none) ∈ TBL := qs_4 126 rfl rfl
set_option maxRecDepth 20000 in
theorem q_919 : (Cond.methodLink "ThumbreelModel" 1 ⟨"java/lang/Object", "<init>", "()V"⟩) ∈ TBL := qs_4 127 rfl rfl
set_option maxRecDepth 20000 in
theorem q_920 : (Cond.methodLink "ThumbreelModel" 66 ⟨"ThumbreelModel", "laysCells", "()V"⟩) ∈ TBL := qs_4 128 rfl rfl
set_option maxRecDepth 20000 in
theorem q_921 : (Cond.privateMethod ⟨"ThumbreelModel", "laysCells", "()V"⟩) ∈ TBL := qs_4 129 rfl rfl
set_option maxRecDepth 20000 in
theorem q_922 : (Cond.instanceMethod ⟨"ThumbreelModel", "laysCells", "()V"⟩) ∈ TBL := qs_4 130 rfl rfl
set_option maxRecDepth 20000 in
theorem q_923 : (Cond.code ⟨"ThumbreelModel", "laysCells", "()V"⟩ prog_10_method_30_code 2 none) ∈ TBL := qs_4 131 rfl rfl
set_option maxRecDepth 20000 in
theorem q_924 : (Cond.methodLink "ThumbreelModel" 140 ⟨"ThumbreelModel", "unfolded", "(I)I"⟩) ∈ TBL := qs_4 132 rfl rfl
set_option maxRecDepth 20000 in
theorem q_925 : (Cond.privateMethod ⟨"ThumbreelModel", "unfolded", "(I)I"⟩) ∈ TBL := qs_4 133 rfl rfl
set_option maxRecDepth 20000 in
theorem q_926 : (Cond.instanceMethod ⟨"ThumbreelModel", "unfolded", "(I)I"⟩) ∈ TBL := qs_4 134 rfl rfl
set_option maxRecDepth 20000 in
theorem q_927 : (Cond.code ⟨"ThumbreelModel", "unfolded", "(I)I"⟩ prog_10_method_29_code 12 (some FieldType.int)) ∈ TBL := qs_4 135 rfl rfl
set_option maxRecDepth 20000 in
theorem q_928 : (Cond.fieldLink "ThumbreelModel" 72 "ThumbreelModel" "books" "I") ∈ TBL := qs_4 136 rfl rfl
set_option maxRecDepth 20000 in
theorem q_929 : (Cond.fieldLink "ThumbreelModel" 7 "ThumbreelModel" "sizes" "[I") ∈ TBL := qs_4 137 rfl rfl
set_option maxRecDepth 20000 in
theorem q_930 : (Cond.fieldLink "ThumbreelModel" 13 "ThumbreelModel" "positions" "[I") ∈ TBL := qs_4 138 rfl rfl
set_option maxRecDepth 20000 in
theorem q_931 : (Cond.fieldLink "ThumbreelModel" 16 "ThumbreelModel" "betweens" "[I") ∈ TBL := qs_4 139 rfl rfl
set_option maxRecDepth 20000 in
theorem q_932 : (Cond.fieldLink "ThumbreelModel" 19 "ThumbreelModel" "curves" "[I") ∈ TBL := qs_4 140 rfl rfl
set_option maxRecDepth 20000 in
theorem q_933 : (Cond.fieldLink "ThumbreelModel" 79 "ThumbreelModel" "orders" "I") ∈ TBL := qs_4 141 rfl rfl
set_option maxRecDepth 20000 in
theorem q_934 : (Cond.fieldLink "ThumbreelModel" 22 "ThumbreelModel" "orderBooks" "[I") ∈ TBL := qs_4 142 rfl rfl
set_option maxRecDepth 20000 in
theorem q_935 : (Cond.fieldLink "ThumbreelModel" 25 "ThumbreelModel" "copies" "[I") ∈ TBL := qs_4 143 rfl rfl
set_option maxRecDepth 20000 in
theorem q_936 : (Cond.fieldLink "ThumbreelModel" 28 "ThumbreelModel" "bound" "[I") ∈ TBL := qs_4 144 rfl rfl
set_option maxRecDepth 20000 in
theorem q_937 : (Cond.fieldLink "ThumbreelModel" 31 "ThumbreelModel" "shown" "[I") ∈ TBL := qs_4 145 rfl rfl
set_option maxRecDepth 20000 in
theorem q_938 : (Cond.fieldLink "ThumbreelModel" 34 "ThumbreelModel" "sheetOf" "[I") ∈ TBL := qs_4 146 rfl rfl
set_option maxRecDepth 20000 in
theorem q_939 : (Cond.fieldLink "ThumbreelModel" 37 "ThumbreelModel" "trims" "[I") ∈ TBL := qs_4 147 rfl rfl
set_option maxRecDepth 20000 in
theorem q_940 : (Cond.fieldLink "ThumbreelModel" 40 "ThumbreelModel" "folds" "[I") ∈ TBL := qs_4 148 rfl rfl
set_option maxRecDepth 20000 in
theorem q_941 : (Cond.fieldLink "ThumbreelModel" 43 "ThumbreelModel" "cells" "[I") ∈ TBL := qs_4 149 rfl rfl
set_option maxRecDepth 20000 in
theorem q_942 : (Cond.fieldLink "ThumbreelModel" 143 "ThumbreelModel" "sheets" "I") ∈ TBL := qs_4 150 rfl rfl
set_option maxRecDepth 20000 in
theorem q_943 : (Cond.fieldLink "ThumbreelModel" 46 "ThumbreelModel" "lies" "[I") ∈ TBL := qs_4 151 rfl rfl
set_option maxRecDepth 20000 in
theorem q_944 : (Cond.fieldLink "ThumbreelModel" 49 "ThumbreelModel" "isWaiting" "[Z") ∈ TBL := qs_4 152 rfl rfl
set_option maxRecDepth 20000 in
theorem q_945 : (Cond.fieldLink "ThumbreelModel" 53 "ThumbreelModel" "dullness" "[I") ∈ TBL := qs_4 153 rfl rfl
set_option maxRecDepth 20000 in
theorem q_946 : (Cond.fieldLink "ThumbreelModel" 56 "ThumbreelModel" "tolerance" "I") ∈ TBL := qs_4 154 rfl rfl
set_option maxRecDepth 20000 in
theorem q_947 : (Cond.fieldLink "ThumbreelModel" 90 "ThumbreelModel" "spoiled" "I") ∈ TBL := qs_4 155 rfl rfl
set_option maxRecDepth 20000 in
theorem q_948 : (Cond.fieldLink "ThumbreelModel" 60 "ThumbreelModel" "ranks" "[I") ∈ TBL := qs_4 156 rfl rfl
set_option maxRecDepth 20000 in
theorem q_949 : (Cond.fieldLink "ThumbreelModel" 63 "ThumbreelModel" "wanted" "[I") ∈ TBL := qs_4 157 rfl rfl
set_option maxRecDepth 20000 in
theorem q_950 : (Cond.fieldLink "ThumbreelModel" 128 "ThumbreelModel" "many" "I") ∈ TBL := qs_4 158 rfl rfl
set_option maxRecDepth 20000 in
theorem q_951 : (Cond.fieldLink "ThumbreelModel" 69 "ThumbreelModel" "thrown" "I") ∈ TBL := qs_4 159 rfl rfl
set_option maxRecDepth 20000 in
theorem q_952 : (Cond.lays "ThumbreelModel" "ThumbreelModel" "books" "I") ∈ TBL := qs_4 160 rfl rfl
set_option maxRecDepth 20000 in
theorem q_953 : (Cond.soleField "ThumbreelModel" "books") ∈ TBL := qs_4 161 rfl rfl
set_option maxRecDepth 20000 in
theorem q_954 : (Cond.laysFinal "ThumbreelModel" "ThumbreelModel" "sizes" "[I") ∈ TBL := qs_4 162 rfl rfl
set_option maxRecDepth 20000 in
theorem q_955 : (Cond.soleField "ThumbreelModel" "sizes") ∈ TBL := qs_4 163 rfl rfl
set_option maxRecDepth 20000 in
theorem q_956 : (Cond.laysFinal "ThumbreelModel" "ThumbreelModel" "positions" "[I") ∈ TBL := qs_4 164 rfl rfl
set_option maxRecDepth 20000 in
theorem q_957 : (Cond.soleField "ThumbreelModel" "positions") ∈ TBL := qs_4 165 rfl rfl
set_option maxRecDepth 20000 in
theorem q_958 : (Cond.laysFinal "ThumbreelModel" "ThumbreelModel" "betweens" "[I") ∈ TBL := qs_4 166 rfl rfl
set_option maxRecDepth 20000 in
theorem q_959 : (Cond.soleField "ThumbreelModel" "betweens") ∈ TBL := qs_4 167 rfl rfl
set_option maxRecDepth 20000 in
theorem q_960 : (Cond.laysFinal "ThumbreelModel" "ThumbreelModel" "curves" "[I") ∈ TBL := qs_4 168 rfl rfl
set_option maxRecDepth 20000 in
theorem q_961 : (Cond.soleField "ThumbreelModel" "curves") ∈ TBL := qs_4 169 rfl rfl
set_option maxRecDepth 20000 in
theorem q_962 : (Cond.lays "ThumbreelModel" "ThumbreelModel" "orders" "I") ∈ TBL := qs_4 170 rfl rfl
set_option maxRecDepth 20000 in
theorem q_963 : (Cond.soleField "ThumbreelModel" "orders") ∈ TBL := qs_4 171 rfl rfl
set_option maxRecDepth 20000 in
theorem q_964 : (Cond.laysFinal "ThumbreelModel" "ThumbreelModel" "orderBooks" "[I") ∈ TBL := qs_4 172 rfl rfl
set_option maxRecDepth 20000 in
theorem q_965 : (Cond.soleField "ThumbreelModel" "orderBooks") ∈ TBL := qs_4 173 rfl rfl
set_option maxRecDepth 20000 in
theorem q_966 : (Cond.laysFinal "ThumbreelModel" "ThumbreelModel" "copies" "[I") ∈ TBL := qs_4 174 rfl rfl
set_option maxRecDepth 20000 in
theorem q_967 : (Cond.soleField "ThumbreelModel" "copies") ∈ TBL := qs_4 175 rfl rfl
set_option maxRecDepth 20000 in
theorem q_968 : (Cond.laysFinal "ThumbreelModel" "ThumbreelModel" "bound" "[I") ∈ TBL := qs_4 176 rfl rfl
set_option maxRecDepth 20000 in
theorem q_969 : (Cond.soleField "ThumbreelModel" "bound") ∈ TBL := qs_4 177 rfl rfl
set_option maxRecDepth 20000 in
theorem q_970 : (Cond.laysFinal "ThumbreelModel" "ThumbreelModel" "shown" "[I") ∈ TBL := qs_4 178 rfl rfl
set_option maxRecDepth 20000 in
theorem q_971 : (Cond.soleField "ThumbreelModel" "shown") ∈ TBL := qs_4 179 rfl rfl
set_option maxRecDepth 20000 in
theorem q_972 : (Cond.laysFinal "ThumbreelModel" "ThumbreelModel" "sheetOf" "[I") ∈ TBL := qs_4 180 rfl rfl
set_option maxRecDepth 20000 in
theorem q_973 : (Cond.soleField "ThumbreelModel" "sheetOf") ∈ TBL := qs_4 181 rfl rfl
set_option maxRecDepth 20000 in
theorem q_974 : (Cond.laysFinal "ThumbreelModel" "ThumbreelModel" "trims" "[I") ∈ TBL := qs_4 182 rfl rfl
set_option maxRecDepth 20000 in
theorem q_975 : (Cond.soleField "ThumbreelModel" "trims") ∈ TBL := qs_4 183 rfl rfl
set_option maxRecDepth 20000 in
theorem q_976 : (Cond.laysFinal "ThumbreelModel" "ThumbreelModel" "folds" "[I") ∈ TBL := qs_4 184 rfl rfl
set_option maxRecDepth 20000 in
theorem q_977 : (Cond.soleField "ThumbreelModel" "folds") ∈ TBL := qs_4 185 rfl rfl
set_option maxRecDepth 20000 in
theorem q_978 : (Cond.laysFinal "ThumbreelModel" "ThumbreelModel" "cells" "[I") ∈ TBL := qs_4 186 rfl rfl
set_option maxRecDepth 20000 in
theorem q_979 : (Cond.soleField "ThumbreelModel" "cells") ∈ TBL := qs_4 187 rfl rfl
set_option maxRecDepth 20000 in
theorem q_980 : (Cond.lays "ThumbreelModel" "ThumbreelModel" "sheets" "I") ∈ TBL := qs_4 188 rfl rfl
set_option maxRecDepth 20000 in
theorem q_981 : (Cond.soleField "ThumbreelModel" "sheets") ∈ TBL := qs_4 189 rfl rfl
set_option maxRecDepth 20000 in
theorem q_982 : (Cond.laysFinal "ThumbreelModel" "ThumbreelModel" "lies" "[I") ∈ TBL := qs_4 190 rfl rfl
set_option maxRecDepth 20000 in
theorem q_983 : (Cond.soleField "ThumbreelModel" "lies") ∈ TBL := qs_4 191 rfl rfl
set_option maxRecDepth 20000 in
theorem q_984 : (Cond.laysFinal "ThumbreelModel" "ThumbreelModel" "isWaiting" "[Z") ∈ TBL := qs_4 192 rfl rfl
set_option maxRecDepth 20000 in
theorem q_985 : (Cond.soleField "ThumbreelModel" "isWaiting") ∈ TBL := qs_4 193 rfl rfl
set_option maxRecDepth 20000 in
theorem q_986 : (Cond.laysFinal "ThumbreelModel" "ThumbreelModel" "dullness" "[I") ∈ TBL := qs_4 194 rfl rfl
set_option maxRecDepth 20000 in
theorem q_987 : (Cond.soleField "ThumbreelModel" "dullness") ∈ TBL := qs_4 195 rfl rfl
set_option maxRecDepth 20000 in
theorem q_988 : (Cond.lays "ThumbreelModel" "ThumbreelModel" "tolerance" "I") ∈ TBL := qs_4 196 rfl rfl
set_option maxRecDepth 20000 in
theorem q_989 : (Cond.soleField "ThumbreelModel" "tolerance") ∈ TBL := qs_4 197 rfl rfl
set_option maxRecDepth 20000 in
theorem q_990 : (Cond.lays "ThumbreelModel" "ThumbreelModel" "spoiled" "I") ∈ TBL := qs_4 198 rfl rfl
set_option maxRecDepth 20000 in
theorem q_991 : (Cond.soleField "ThumbreelModel" "spoiled") ∈ TBL := qs_4 199 rfl rfl
set_option maxRecDepth 20000 in
theorem q_992 : (Cond.laysFinal "ThumbreelModel" "ThumbreelModel" "ranks" "[I") ∈ TBL := qs_4 200 rfl rfl
set_option maxRecDepth 20000 in
theorem q_993 : (Cond.soleField "ThumbreelModel" "ranks") ∈ TBL := qs_4 201 rfl rfl
set_option maxRecDepth 20000 in
theorem q_994 : (Cond.laysFinal "ThumbreelModel" "ThumbreelModel" "wanted" "[I") ∈ TBL := qs_4 202 rfl rfl
set_option maxRecDepth 20000 in
theorem q_995 : (Cond.soleField "ThumbreelModel" "wanted") ∈ TBL := qs_4 203 rfl rfl
set_option maxRecDepth 20000 in
theorem q_996 : (Cond.lays "ThumbreelModel" "ThumbreelModel" "many" "I") ∈ TBL := qs_4 204 rfl rfl
set_option maxRecDepth 20000 in
theorem q_997 : (Cond.soleField "ThumbreelModel" "many") ∈ TBL := qs_4 205 rfl rfl
set_option maxRecDepth 20000 in
theorem q_998 : (Cond.lays "ThumbreelModel" "ThumbreelModel" "thrown" "I") ∈ TBL := qs_4 206 rfl rfl
set_option maxRecDepth 20000 in
theorem q_999 : (Cond.soleField "ThumbreelModel" "thrown") ∈ TBL := qs_4 207 rfl rfl
set_option maxRecDepth 20000 in
theorem q_1000 : (Cond.superclass "ThumbreelModel" "java/lang/Object") ∈ TBL := qs_4 208 rfl rfl
set_option maxRecDepth 20000 in
theorem q_1001 : (Cond.arrayClass FieldType.boolean) ∈ TBL := qs_4 209 rfl rfl
set_option maxRecDepth 20000 in
theorem q_1002 : (Cond.methodLink "ThumbreelLaw" 100 ⟨"ThumbreelModel", "thrown", "()I"⟩) ∈ TBL := qs_4 210 rfl rfl
set_option maxRecDepth 20000 in
theorem q_1003 : (Cond.instanceMethod ⟨"ThumbreelModel", "thrown", "()I"⟩) ∈ TBL := qs_4 211 rfl rfl
set_option maxRecDepth 20000 in
theorem q_1004 : (Cond.selects "ThumbreelModel" ⟨"ThumbreelModel", "thrown", "()I"⟩ ⟨"ThumbreelModel", "thrown", "()I"⟩) ∈ TBL := qs_4 212 rfl rfl
set_option maxRecDepth 20000 in
theorem q_1005 : (Cond.code ⟨"ThumbreelModel", "thrown", "()I"⟩ prog_10_method_2_code 1 (some FieldType.int)) ∈ TBL := qs_4 213 rfl rfl
set_option maxRecDepth 20000 in
theorem q_1006 : (Cond.methodLink "ThumbreelLaw" 99 ⟨"ThumbreelModel", "addBook", "()I"⟩) ∈ TBL := qs_4 214 rfl rfl
set_option maxRecDepth 20000 in
theorem q_1007 : (Cond.instanceMethod ⟨"ThumbreelModel", "addBook", "()I"⟩) ∈ TBL := qs_4 215 rfl rfl
set_option maxRecDepth 20000 in
theorem q_1008 : (Cond.selects "ThumbreelModel" ⟨"ThumbreelModel", "addBook", "()I"⟩ ⟨"ThumbreelModel", "addBook", "()I"⟩) ∈ TBL := qs_4 216 rfl rfl
set_option maxRecDepth 20000 in
theorem q_1009 : (Cond.code ⟨"ThumbreelModel", "addBook", "()I"⟩ prog_10_method_15_code 1 (some FieldType.int)) ∈ TBL := qs_4 217 rfl rfl
set_option maxRecDepth 20000 in
theorem q_1010 : (Cond.methodLink "ThumbreelModel" 109 ⟨"ThumbreelModel", "goes", "(I)Z"⟩) ∈ TBL := qs_4 218 rfl rfl
set_option maxRecDepth 20000 in
theorem q_1011 : (Cond.privateMethod ⟨"ThumbreelModel", "goes", "(I)Z"⟩) ∈ TBL := qs_4 219 rfl rfl
set_option maxRecDepth 20000 in
theorem q_1012 : (Cond.instanceMethod ⟨"ThumbreelModel", "goes", "(I)Z"⟩) ∈ TBL := qs_4 220 rfl rfl
set_option maxRecDepth 20000 in
theorem q_1013 : (Cond.code ⟨"ThumbreelModel", "goes", "(I)Z"⟩ prog_10_method_3_code 2 (some FieldType.boolean)) ∈ TBL := qs_4 221 rfl rfl
set_option maxRecDepth 20000 in
theorem q_1014 : (Cond.methodLink "ThumbreelLaw" 106 ⟨"ThumbreelModel", "draw", "(IIIII)I"⟩) ∈ TBL := qs_4 222 rfl rfl
set_option maxRecDepth 20000 in
theorem q_1015 : (Cond.instanceMethod ⟨"ThumbreelModel", "draw", "(IIIII)I"⟩) ∈ TBL := qs_4 223 rfl rfl
set_option maxRecDepth 20000 in
theorem q_1016 : (Cond.selects "ThumbreelModel" ⟨"ThumbreelModel", "draw", "(IIIII)I"⟩ ⟨"ThumbreelModel", "draw", "(IIIII)I"⟩) ∈ TBL := qs_4 224 rfl rfl
set_option maxRecDepth 20000 in
theorem q_1017 : (Cond.code ⟨"ThumbreelModel", "draw", "(IIIII)I"⟩ prog_10_method_16_code 8 (some FieldType.int)) ∈ TBL := qs_4 225 rfl rfl
set_option maxRecDepth 20000 in
theorem q_1018 : (Cond.methodLink "ThumbreelModel" 112 ⟨"ThumbreelModel", "isBook", "(I)Z"⟩) ∈ TBL := qs_4 226 rfl rfl
set_option maxRecDepth 20000 in
theorem q_1019 : (Cond.privateMethod ⟨"ThumbreelModel", "isBook", "(I)Z"⟩) ∈ TBL := qs_4 227 rfl rfl
set_option maxRecDepth 20000 in
theorem q_1020 : (Cond.instanceMethod ⟨"ThumbreelModel", "isBook", "(I)Z"⟩) ∈ TBL := qs_4 228 rfl rfl
set_option maxRecDepth 20000 in
theorem q_1021 : (Cond.code ⟨"ThumbreelModel", "isBook", "(I)Z"⟩ prog_10_method_5_code 2 (some FieldType.boolean)) ∈ TBL := qs_4 229 rfl rfl
set_option maxRecDepth 20000 in
theorem q_1022 : (Cond.methodLink "ThumbreelModel" 75 ⟨"ThumbreelModel", "isIn", "(III)Z"⟩) ∈ TBL := qs_4 230 rfl rfl
set_option maxRecDepth 20000 in
theorem q_1023 : (Cond.static ⟨"ThumbreelModel", "isIn", "(III)Z"⟩) ∈ TBL := qs_4 231 rfl rfl
set_option maxRecDepth 20000 in
theorem q_1024 : (Cond.code ⟨"ThumbreelModel", "isIn", "(III)Z"⟩ prog_10_method_4_code 3 (some FieldType.boolean)) ∈ TBL := qs_4 232 rfl rfl
set_option maxRecDepth 20000 in
theorem q_1025 : (Cond.methodLink "ThumbreelModel" 115 ⟨"ThumbreelModel", "flows", "(I)I"⟩) ∈ TBL := qs_4 233 rfl rfl
set_option maxRecDepth 20000 in
theorem q_1026 : (Cond.privateMethod ⟨"ThumbreelModel", "flows", "(I)I"⟩) ∈ TBL := qs_4 234 rfl rfl
set_option maxRecDepth 20000 in
theorem q_1027 : (Cond.instanceMethod ⟨"ThumbreelModel", "flows", "(I)I"⟩) ∈ TBL := qs_4 235 rfl rfl
set_option maxRecDepth 20000 in
theorem q_1028 : (Cond.code ⟨"ThumbreelModel", "flows", "(I)I"⟩ prog_10_method_14_code 9 (some FieldType.int)) ∈ TBL := qs_4 236 rfl rfl
set_option maxRecDepth 20000 in
theorem q_1029 : (Cond.methodLink "ThumbreelModel" 93 ⟨"ThumbreelModel", "framesOf", "(I)I"⟩) ∈ TBL := qs_4 237 rfl rfl
set_option maxRecDepth 20000 in
theorem q_1030 : (Cond.privateMethod ⟨"ThumbreelModel", "framesOf", "(I)I"⟩) ∈ TBL := qs_4 238 rfl rfl
set_option maxRecDepth 20000 in
theorem q_1031 : (Cond.instanceMethod ⟨"ThumbreelModel", "framesOf", "(I)I"⟩) ∈ TBL := qs_4 239 rfl rfl
set_option maxRecDepth 20000 in
theorem q_1032 : (Cond.code ⟨"ThumbreelModel", "framesOf", "(I)I"⟩ prog_10_method_8_code 4 (some FieldType.int)) ∈ TBL := qs_5 0 rfl rfl
set_option maxRecDepth 20000 in
theorem q_1033 : (Cond.methodLink "ThumbreelModel" 97 ⟨"ThumbreelModel", "isBoundCopy", "(II)Z"⟩) ∈ TBL := qs_5 1 rfl rfl
set_option maxRecDepth 20000 in
theorem q_1034 : (Cond.privateMethod ⟨"ThumbreelModel", "isBoundCopy", "(II)Z"⟩) ∈ TBL := qs_5 2 rfl rfl
set_option maxRecDepth 20000 in
theorem q_1035 : (Cond.instanceMethod ⟨"ThumbreelModel", "isBoundCopy", "(II)Z"⟩) ∈ TBL := qs_5 3 rfl rfl
set_option maxRecDepth 20000 in
theorem q_1036 : (Cond.code ⟨"ThumbreelModel", "isBoundCopy", "(II)Z"⟩ prog_10_method_12_code 3 (some FieldType.boolean)) ∈ TBL := qs_5 4 rfl rfl
set_option maxRecDepth 20000 in
theorem q_1037 : (Cond.methodLink "ThumbreelModel" 101 ⟨"ThumbreelModel", "positionOf", "(II)I"⟩) ∈ TBL := qs_5 5 rfl rfl
set_option maxRecDepth 20000 in
theorem q_1038 : (Cond.privateMethod ⟨"ThumbreelModel", "positionOf", "(II)I"⟩) ∈ TBL := qs_5 6 rfl rfl
set_option maxRecDepth 20000 in
theorem q_1039 : (Cond.instanceMethod ⟨"ThumbreelModel", "positionOf", "(II)I"⟩) ∈ TBL := qs_5 7 rfl rfl
set_option maxRecDepth 20000 in
theorem q_1040 : (Cond.code ⟨"ThumbreelModel", "positionOf", "(II)I"⟩ prog_10_method_10_code 5 (some FieldType.int)) ∈ TBL := qs_5 8 rfl rfl
set_option maxRecDepth 20000 in
theorem q_1041 : (Cond.methodLink "ThumbreelModel" 86 ⟨"ThumbreelModel", "part", "(IIII)I"⟩) ∈ TBL := qs_5 9 rfl rfl
set_option maxRecDepth 20000 in
theorem q_1042 : (Cond.static ⟨"ThumbreelModel", "part", "(IIII)I"⟩) ∈ TBL := qs_5 10 rfl rfl
set_option maxRecDepth 20000 in
theorem q_1043 : (Cond.code ⟨"ThumbreelModel", "part", "(IIII)I"⟩ prog_10_method_9_code 5 (some FieldType.int)) ∈ TBL := qs_5 11 rfl rfl
set_option maxRecDepth 20000 in
theorem q_1044 : (Cond.methodLink "ThumbreelModel" 105 ⟨"ThumbreelModel", "spoils", "(I)V"⟩) ∈ TBL := qs_5 12 rfl rfl
set_option maxRecDepth 20000 in
theorem q_1045 : (Cond.privateMethod ⟨"ThumbreelModel", "spoils", "(I)V"⟩) ∈ TBL := qs_5 13 rfl rfl
set_option maxRecDepth 20000 in
theorem q_1046 : (Cond.instanceMethod ⟨"ThumbreelModel", "spoils", "(I)V"⟩) ∈ TBL := qs_5 14 rfl rfl
set_option maxRecDepth 20000 in
theorem q_1047 : (Cond.code ⟨"ThumbreelModel", "spoils", "(I)V"⟩ prog_10_method_13_code 2 none) ∈ TBL := qs_5 15 rfl rfl
set_option maxRecDepth 20000 in
theorem q_1048 : (Cond.methodLink "ThumbreelLaw" 110 ⟨"ThumbreelModel", "erase", "(II)I"⟩) ∈ TBL := qs_5 16 rfl rfl
set_option maxRecDepth 20000 in
theorem q_1049 : (Cond.instanceMethod ⟨"ThumbreelModel", "erase", "(II)I"⟩) ∈ TBL := qs_5 17 rfl rfl
set_option maxRecDepth 20000 in
theorem q_1050 : (Cond.selects "ThumbreelModel" ⟨"ThumbreelModel", "erase", "(II)I"⟩ ⟨"ThumbreelModel", "erase", "(II)I"⟩) ∈ TBL := qs_5 18 rfl rfl
set_option maxRecDepth 20000 in
theorem q_1051 : (Cond.code ⟨"ThumbreelModel", "erase", "(II)I"⟩ prog_10_method_18_code 4 (some FieldType.int)) ∈ TBL := qs_5 19 rfl rfl
set_option maxRecDepth 20000 in
theorem q_1052 : (Cond.methodLink "ThumbreelModel" 118 ⟨"ThumbreelModel", "wrong", "(II)I"⟩) ∈ TBL := qs_5 20 rfl rfl
set_option maxRecDepth 20000 in
theorem q_1053 : (Cond.privateMethod ⟨"ThumbreelModel", "wrong", "(II)I"⟩) ∈ TBL := qs_5 21 rfl rfl
set_option maxRecDepth 20000 in
theorem q_1054 : (Cond.instanceMethod ⟨"ThumbreelModel", "wrong", "(II)I"⟩) ∈ TBL := qs_5 22 rfl rfl
set_option maxRecDepth 20000 in
theorem q_1055 : (Cond.code ⟨"ThumbreelModel", "wrong", "(II)I"⟩ prog_10_method_17_code 3 (some FieldType.int)) ∈ TBL := qs_5 23 rfl rfl
set_option maxRecDepth 20000 in
theorem q_1056 : (Cond.methodLink "ThumbreelLaw" 114 ⟨"ThumbreelModel", "move", "(III)I"⟩) ∈ TBL := qs_5 24 rfl rfl
set_option maxRecDepth 20000 in
theorem q_1057 : (Cond.instanceMethod ⟨"ThumbreelModel", "move", "(III)I"⟩) ∈ TBL := qs_5 25 rfl rfl
set_option maxRecDepth 20000 in
theorem q_1058 : (Cond.selects "ThumbreelModel" ⟨"ThumbreelModel", "move", "(III)I"⟩ ⟨"ThumbreelModel", "move", "(III)I"⟩) ∈ TBL := qs_5 26 rfl rfl
set_option maxRecDepth 20000 in
theorem q_1059 : (Cond.code ⟨"ThumbreelModel", "move", "(III)I"⟩ prog_10_method_19_code 4 (some FieldType.int)) ∈ TBL := qs_5 27 rfl rfl
set_option maxRecDepth 20000 in
theorem q_1060 : (Cond.methodLink "ThumbreelLaw" 118 ⟨"ThumbreelModel", "frames", "(I)I"⟩) ∈ TBL := qs_5 28 rfl rfl
set_option maxRecDepth 20000 in
theorem q_1061 : (Cond.instanceMethod ⟨"ThumbreelModel", "frames", "(I)I"⟩) ∈ TBL := qs_5 29 rfl rfl
set_option maxRecDepth 20000 in
theorem q_1062 : (Cond.selects "ThumbreelModel" ⟨"ThumbreelModel", "frames", "(I)I"⟩ ⟨"ThumbreelModel", "frames", "(I)I"⟩) ∈ TBL := qs_5 30 rfl rfl
set_option maxRecDepth 20000 in
theorem q_1063 : (Cond.code ⟨"ThumbreelModel", "frames", "(I)I"⟩ prog_10_method_20_code 2 (some FieldType.int)) ∈ TBL := qs_5 31 rfl rfl
set_option maxRecDepth 20000 in
theorem q_1064 : (Cond.methodLink "ThumbreelLaw" 121 ⟨"ThumbreelModel", "frameAt", "(II)I"⟩) ∈ TBL := qs_5 32 rfl rfl
set_option maxRecDepth 20000 in
theorem q_1065 : (Cond.instanceMethod ⟨"ThumbreelModel", "frameAt", "(II)I"⟩) ∈ TBL := qs_5 33 rfl rfl
set_option maxRecDepth 20000 in
theorem q_1066 : (Cond.selects "ThumbreelModel" ⟨"ThumbreelModel", "frameAt", "(II)I"⟩ ⟨"ThumbreelModel", "frameAt", "(II)I"⟩) ∈ TBL := qs_5 34 rfl rfl
set_option maxRecDepth 20000 in
theorem q_1067 : (Cond.code ⟨"ThumbreelModel", "frameAt", "(II)I"⟩ prog_10_method_21_code 3 (some FieldType.int)) ∈ TBL := qs_5 35 rfl rfl
set_option maxRecDepth 20000 in
theorem q_1068 : (Cond.methodLink "ThumbreelLaw" 124 ⟨"ThumbreelModel", "order", "(II)I"⟩) ∈ TBL := qs_5 36 rfl rfl
set_option maxRecDepth 20000 in
theorem q_1069 : (Cond.instanceMethod ⟨"ThumbreelModel", "order", "(II)I"⟩) ∈ TBL := qs_5 37 rfl rfl
set_option maxRecDepth 20000 in
theorem q_1070 : (Cond.selects "ThumbreelModel" ⟨"ThumbreelModel", "order", "(II)I"⟩ ⟨"ThumbreelModel", "order", "(II)I"⟩) ∈ TBL := qs_5 38 rfl rfl
set_option maxRecDepth 20000 in
theorem q_1071 : (Cond.code ⟨"ThumbreelModel", "order", "(II)I"⟩ prog_10_method_22_code 5 (some FieldType.int)) ∈ TBL := qs_5 39 rfl rfl
set_option maxRecDepth 20000 in
theorem q_1072 : (Cond.methodLink "ThumbreelModel" 121 ⟨"ThumbreelModel", "leafAt", "(III)I"⟩) ∈ TBL := qs_5 40 rfl rfl
set_option maxRecDepth 20000 in
theorem q_1073 : (Cond.static ⟨"ThumbreelModel", "leafAt", "(III)I"⟩) ∈ TBL := qs_5 41 rfl rfl
set_option maxRecDepth 20000 in
theorem q_1074 : (Cond.code ⟨"ThumbreelModel", "leafAt", "(III)I"⟩ prog_10_method_11_code 3 (some FieldType.int)) ∈ TBL := qs_5 42 rfl rfl
set_option maxRecDepth 20000 in
theorem q_1075 : (Cond.methodLink "ThumbreelLaw" 127 ⟨"ThumbreelModel", "lacking", "(I)I"⟩) ∈ TBL := qs_5 43 rfl rfl
set_option maxRecDepth 20000 in
theorem q_1076 : (Cond.instanceMethod ⟨"ThumbreelModel", "lacking", "(I)I"⟩) ∈ TBL := qs_5 44 rfl rfl
set_option maxRecDepth 20000 in
theorem q_1077 : (Cond.selects "ThumbreelModel" ⟨"ThumbreelModel", "lacking", "(I)I"⟩ ⟨"ThumbreelModel", "lacking", "(I)I"⟩) ∈ TBL := qs_5 45 rfl rfl
set_option maxRecDepth 20000 in
theorem q_1078 : (Cond.code ⟨"ThumbreelModel", "lacking", "(I)I"⟩ prog_10_method_27_code 2 (some FieldType.int)) ∈ TBL := qs_5 46 rfl rfl
set_option maxRecDepth 20000 in
theorem q_1079 : (Cond.methodLink "ThumbreelModel" 82 ⟨"ThumbreelModel", "isOrder", "(I)Z"⟩) ∈ TBL := qs_5 47 rfl rfl
set_option maxRecDepth 20000 in
theorem q_1080 : (Cond.privateMethod ⟨"ThumbreelModel", "isOrder", "(I)Z"⟩) ∈ TBL := qs_5 48 rfl rfl
set_option maxRecDepth 20000 in
theorem q_1081 : (Cond.instanceMethod ⟨"ThumbreelModel", "isOrder", "(I)Z"⟩) ∈ TBL := qs_5 49 rfl rfl
set_option maxRecDepth 20000 in
theorem q_1082 : (Cond.code ⟨"ThumbreelModel", "isOrder", "(I)Z"⟩ prog_10_method_6_code 2 (some FieldType.boolean)) ∈ TBL := qs_5 50 rfl rfl
set_option maxRecDepth 20000 in
theorem q_1083 : (Cond.methodLink "ThumbreelModel" 134 ⟨"ThumbreelModel", "laysWanted", "()V"⟩) ∈ TBL := qs_5 51 rfl rfl
set_option maxRecDepth 20000 in
theorem q_1084 : (Cond.privateMethod ⟨"ThumbreelModel", "laysWanted", "()V"⟩) ∈ TBL := qs_5 52 rfl rfl
set_option maxRecDepth 20000 in
theorem q_1085 : (Cond.instanceMethod ⟨"ThumbreelModel", "laysWanted", "()V"⟩) ∈ TBL := qs_5 53 rfl rfl
set_option maxRecDepth 20000 in
theorem q_1086 : (Cond.code ⟨"ThumbreelModel", "laysWanted", "()V"⟩ prog_10_method_25_code 6 none) ∈ TBL := qs_5 54 rfl rfl
set_option maxRecDepth 20000 in
theorem q_1087 : (Cond.methodLink "ThumbreelModel" 131 ⟨"ThumbreelModel", "laysRanks", "()V"⟩) ∈ TBL := qs_5 55 rfl rfl
set_option maxRecDepth 20000 in
theorem q_1088 : (Cond.privateMethod ⟨"ThumbreelModel", "laysRanks", "()V"⟩) ∈ TBL := qs_5 56 rfl rfl
set_option maxRecDepth 20000 in
theorem q_1089 : (Cond.instanceMethod ⟨"ThumbreelModel", "laysRanks", "()V"⟩) ∈ TBL := qs_5 57 rfl rfl
set_option maxRecDepth 20000 in
theorem q_1090 : (Cond.code ⟨"ThumbreelModel", "laysRanks", "()V"⟩ prog_10_method_24_code 5 none) ∈ TBL := qs_5 58 rfl rfl
set_option maxRecDepth 20000 in
theorem q_1091 : (Cond.methodLink "ThumbreelModel" 125 ⟨"ThumbreelModel", "size", "(I)I"⟩) ∈ TBL := qs_5 59 rfl rfl
set_option maxRecDepth 20000 in
theorem q_1092 : (Cond.privateMethod ⟨"ThumbreelModel", "size", "(I)I"⟩) ∈ TBL := qs_5 60 rfl rfl
set_option maxRecDepth 20000 in
theorem q_1093 : (Cond.instanceMethod ⟨"ThumbreelModel", "size", "(I)I"⟩) ∈ TBL := qs_5 61 rfl rfl
set_option maxRecDepth 20000 in
theorem q_1094 : (Cond.code ⟨"ThumbreelModel", "size", "(I)I"⟩ prog_10_method_23_code 2 (some FieldType.int)) ∈ TBL := qs_5 62 rfl rfl
set_option maxRecDepth 20000 in
theorem q_1095 : (Cond.methodLink "ThumbreelModel" 137 ⟨"ThumbreelModel", "lackingOf", "(I)I"⟩) ∈ TBL := qs_5 63 rfl rfl
set_option maxRecDepth 20000 in
theorem q_1096 : (Cond.privateMethod ⟨"ThumbreelModel", "lackingOf", "(I)I"⟩) ∈ TBL := qs_5 64 rfl rfl
set_option maxRecDepth 20000 in
theorem q_1097 : (Cond.instanceMethod ⟨"ThumbreelModel", "lackingOf", "(I)I"⟩) ∈ TBL := qs_5 65 rfl rfl
set_option maxRecDepth 20000 in
theorem q_1098 : (Cond.code ⟨"ThumbreelModel", "lackingOf", "(I)I"⟩ prog_10_method_26_code 4 (some FieldType.int)) ∈ TBL := qs_5 66 rfl rfl
set_option maxRecDepth 20000 in
theorem q_1099 : (Cond.methodLink "ThumbreelLaw" 130 ⟨"ThumbreelModel", "waits", "(I)I"⟩) ∈ TBL := qs_5 67 rfl rfl
set_option maxRecDepth 20000 in
theorem q_1100 : (Cond.instanceMethod ⟨"ThumbreelModel", "waits", "(I)I"⟩) ∈ TBL := qs_5 68 rfl rfl
set_option maxRecDepth 20000 in
theorem q_1101 : (Cond.selects "ThumbreelModel" ⟨"ThumbreelModel", "waits", "(I)I"⟩ ⟨"ThumbreelModel", "waits", "(I)I"⟩) ∈ TBL := qs_5 69 rfl rfl
set_option maxRecDepth 20000 in
theorem q_1102 : (Cond.code ⟨"ThumbreelModel", "waits", "(I)I"⟩ prog_10_method_28_code 4 (some FieldType.int)) ∈ TBL := qs_5 70 rfl rfl
set_option maxRecDepth 20000 in
theorem q_1103 : (Cond.methodLink "ThumbreelLaw" 134 ⟨"ThumbreelModel", "setFolds", "(III)V"⟩) ∈ TBL := qs_5 71 rfl rfl
set_option maxRecDepth 20000 in
theorem q_1104 : (Cond.instanceMethod ⟨"ThumbreelModel", "setFolds", "(III)V"⟩) ∈ TBL := qs_5 72 rfl rfl
set_option maxRecDepth 20000 in
theorem q_1105 : (Cond.selects "ThumbreelModel" ⟨"ThumbreelModel", "setFolds", "(III)V"⟩ ⟨"ThumbreelModel", "setFolds", "(III)V"⟩) ∈ TBL := qs_5 73 rfl rfl
set_option maxRecDepth 20000 in
theorem q_1106 : (Cond.code ⟨"ThumbreelModel", "setFolds", "(III)V"⟩ prog_10_method_31_code 6 none) ∈ TBL := qs_5 74 rfl rfl
set_option maxRecDepth 20000 in
theorem q_1107 : (Cond.methodLink "ThumbreelLaw" 137 ⟨"ThumbreelModel", "cellOf", "(I)I"⟩) ∈ TBL := qs_5 75 rfl rfl
set_option maxRecDepth 20000 in
theorem q_1108 : (Cond.instanceMethod ⟨"ThumbreelModel", "cellOf", "(I)I"⟩) ∈ TBL := qs_5 76 rfl rfl
set_option maxRecDepth 20000 in
theorem q_1109 : (Cond.selects "ThumbreelModel" ⟨"ThumbreelModel", "cellOf", "(I)I"⟩ ⟨"ThumbreelModel", "cellOf", "(I)I"⟩) ∈ TBL := qs_5 77 rfl rfl
set_option maxRecDepth 20000 in
theorem q_1110 : (Cond.code ⟨"ThumbreelModel", "cellOf", "(I)I"⟩ prog_10_method_32_code 2 (some FieldType.int)) ∈ TBL := qs_5 78 rfl rfl
set_option maxRecDepth 20000 in
theorem q_1111 : (Cond.methodLink "ThumbreelLaw" 140 ⟨"ThumbreelModel", "placeOf", "(I)I"⟩) ∈ TBL := qs_5 79 rfl rfl
set_option maxRecDepth 20000 in
theorem q_1112 : (Cond.instanceMethod ⟨"ThumbreelModel", "placeOf", "(I)I"⟩) ∈ TBL := qs_5 80 rfl rfl
set_option maxRecDepth 20000 in
theorem q_1113 : (Cond.selects "ThumbreelModel" ⟨"ThumbreelModel", "placeOf", "(I)I"⟩ ⟨"ThumbreelModel", "placeOf", "(I)I"⟩) ∈ TBL := qs_5 81 rfl rfl
set_option maxRecDepth 20000 in
theorem q_1114 : (Cond.code ⟨"ThumbreelModel", "placeOf", "(I)I"⟩ prog_10_method_33_code 5 (some FieldType.int)) ∈ TBL := qs_5 82 rfl rfl
set_option maxRecDepth 20000 in
theorem q_1115 : (Cond.methodLink "ThumbreelLaw" 143 ⟨"ThumbreelModel", "print", "(I)I"⟩) ∈ TBL := qs_5 83 rfl rfl
set_option maxRecDepth 20000 in
theorem q_1116 : (Cond.instanceMethod ⟨"ThumbreelModel", "print", "(I)I"⟩) ∈ TBL := qs_5 84 rfl rfl
set_option maxRecDepth 20000 in
theorem q_1117 : (Cond.selects "ThumbreelModel" ⟨"ThumbreelModel", "print", "(I)I"⟩ ⟨"ThumbreelModel", "print", "(I)I"⟩) ∈ TBL := qs_5 85 rfl rfl
set_option maxRecDepth 20000 in
theorem q_1118 : (Cond.code ⟨"ThumbreelModel", "print", "(I)I"⟩ prog_10_method_35_code 5 (some FieldType.int)) ∈ TBL := qs_5 86 rfl rfl
set_option maxRecDepth 20000 in
theorem q_1119 : (Cond.methodLink "ThumbreelModel" 146 ⟨"ThumbreelModel", "printsOne", "(I)V"⟩) ∈ TBL := qs_5 87 rfl rfl
set_option maxRecDepth 20000 in
theorem q_1120 : (Cond.privateMethod ⟨"ThumbreelModel", "printsOne", "(I)V"⟩) ∈ TBL := qs_5 88 rfl rfl
set_option maxRecDepth 20000 in
theorem q_1121 : (Cond.instanceMethod ⟨"ThumbreelModel", "printsOne", "(I)V"⟩) ∈ TBL := qs_5 89 rfl rfl
set_option maxRecDepth 20000 in
theorem q_1122 : (Cond.code ⟨"ThumbreelModel", "printsOne", "(I)V"⟩ prog_10_method_34_code 6 none) ∈ TBL := qs_5 90 rfl rfl
set_option maxRecDepth 20000 in
theorem q_1123 : (Cond.methodLink "ThumbreelLaw" 147 ⟨"ThumbreelModel", "waiting", "()I"⟩) ∈ TBL := qs_5 91 rfl rfl
set_option maxRecDepth 20000 in
theorem q_1124 : (Cond.instanceMethod ⟨"ThumbreelModel", "waiting", "()I"⟩) ∈ TBL := qs_5 92 rfl rfl
set_option maxRecDepth 20000 in
theorem q_1125 : (Cond.selects "ThumbreelModel" ⟨"ThumbreelModel", "waiting", "()I"⟩ ⟨"ThumbreelModel", "waiting", "()I"⟩) ∈ TBL := qs_5 93 rfl rfl
set_option maxRecDepth 20000 in
theorem q_1126 : (Cond.code ⟨"ThumbreelModel", "waiting", "()I"⟩ prog_10_method_36_code 3 (some FieldType.int)) ∈ TBL := qs_5 94 rfl rfl
set_option maxRecDepth 20000 in
theorem q_1127 : (Cond.methodLink "ThumbreelLaw" 150 ⟨"ThumbreelModel", "onSheet", "(II)I"⟩) ∈ TBL := qs_5 95 rfl rfl
set_option maxRecDepth 20000 in
theorem q_1128 : (Cond.instanceMethod ⟨"ThumbreelModel", "onSheet", "(II)I"⟩) ∈ TBL := qs_5 96 rfl rfl
set_option maxRecDepth 20000 in
theorem q_1129 : (Cond.selects "ThumbreelModel" ⟨"ThumbreelModel", "onSheet", "(II)I"⟩ ⟨"ThumbreelModel", "onSheet", "(II)I"⟩) ∈ TBL := qs_5 97 rfl rfl
set_option maxRecDepth 20000 in
theorem q_1130 : (Cond.code ⟨"ThumbreelModel", "onSheet", "(II)I"⟩ prog_10_method_37_code 3 (some FieldType.int)) ∈ TBL := qs_5 98 rfl rfl
set_option maxRecDepth 20000 in
theorem q_1131 : (Cond.methodLink "ThumbreelLaw" 153 ⟨"ThumbreelModel", "cut", "(I)I"⟩) ∈ TBL := qs_5 99 rfl rfl
set_option maxRecDepth 20000 in
theorem q_1132 : (Cond.instanceMethod ⟨"ThumbreelModel", "cut", "(I)I"⟩) ∈ TBL := qs_5 100 rfl rfl
set_option maxRecDepth 20000 in
theorem q_1133 : (Cond.selects "ThumbreelModel" ⟨"ThumbreelModel", "cut", "(I)I"⟩ ⟨"ThumbreelModel", "cut", "(I)I"⟩) ∈ TBL := qs_5 101 rfl rfl
set_option maxRecDepth 20000 in
theorem q_1134 : (Cond.code ⟨"ThumbreelModel", "cut", "(I)I"⟩ prog_10_method_40_code 5 (some FieldType.int)) ∈ TBL := qs_5 102 rfl rfl
set_option maxRecDepth 20000 in
theorem q_1135 : (Cond.methodLink "ThumbreelModel" 149 ⟨"ThumbreelModel", "longest", "()I"⟩) ∈ TBL := qs_5 103 rfl rfl
set_option maxRecDepth 20000 in
theorem q_1136 : (Cond.privateMethod ⟨"ThumbreelModel", "longest", "()I"⟩) ∈ TBL := qs_5 104 rfl rfl
set_option maxRecDepth 20000 in
theorem q_1137 : (Cond.instanceMethod ⟨"ThumbreelModel", "longest", "()I"⟩) ∈ TBL := qs_5 105 rfl rfl
set_option maxRecDepth 20000 in
theorem q_1138 : (Cond.code ⟨"ThumbreelModel", "longest", "()I"⟩ prog_10_method_38_code 3 (some FieldType.int)) ∈ TBL := qs_5 106 rfl rfl
set_option maxRecDepth 20000 in
theorem q_1139 : (Cond.methodLink "ThumbreelModel" 153 ⟨"ThumbreelModel", "isOn", "(II)Z"⟩) ∈ TBL := qs_5 107 rfl rfl
set_option maxRecDepth 20000 in
theorem q_1140 : (Cond.privateMethod ⟨"ThumbreelModel", "isOn", "(II)Z"⟩) ∈ TBL := qs_5 108 rfl rfl
set_option maxRecDepth 20000 in
theorem q_1141 : (Cond.instanceMethod ⟨"ThumbreelModel", "isOn", "(II)Z"⟩) ∈ TBL := qs_5 109 rfl rfl
set_option maxRecDepth 20000 in
theorem q_1142 : (Cond.code ⟨"ThumbreelModel", "isOn", "(II)Z"⟩ prog_10_method_39_code 3 (some FieldType.boolean)) ∈ TBL := qs_5 110 rfl rfl
set_option maxRecDepth 20000 in
theorem q_1143 : (Cond.methodLink "ThumbreelLaw" 157 ⟨"ThumbreelModel", "discard", "()I"⟩) ∈ TBL := qs_5 111 rfl rfl
set_option maxRecDepth 20000 in
theorem q_1144 : (Cond.instanceMethod ⟨"ThumbreelModel", "discard", "()I"⟩) ∈ TBL := qs_5 112 rfl rfl
set_option maxRecDepth 20000 in
theorem q_1145 : (Cond.selects "ThumbreelModel" ⟨"ThumbreelModel", "discard", "()I"⟩ ⟨"ThumbreelModel", "discard", "()I"⟩) ∈ TBL := qs_5 113 rfl rfl
set_option maxRecDepth 20000 in
theorem q_1146 : (Cond.code ⟨"ThumbreelModel", "discard", "()I"⟩ prog_10_method_41_code 5 (some FieldType.int)) ∈ TBL := qs_5 114 rfl rfl
set_option maxRecDepth 20000 in
theorem q_1147 : (Cond.methodLink "ThumbreelLaw" 160 ⟨"ThumbreelModel", "sharpen", "(I)I"⟩) ∈ TBL := qs_5 115 rfl rfl
set_option maxRecDepth 20000 in
theorem q_1148 : (Cond.instanceMethod ⟨"ThumbreelModel", "sharpen", "(I)I"⟩) ∈ TBL := qs_5 116 rfl rfl
set_option maxRecDepth 20000 in
theorem q_1149 : (Cond.selects "ThumbreelModel" ⟨"ThumbreelModel", "sharpen", "(I)I"⟩ ⟨"ThumbreelModel", "sharpen", "(I)I"⟩) ∈ TBL := qs_5 117 rfl rfl
set_option maxRecDepth 20000 in
theorem q_1150 : (Cond.code ⟨"ThumbreelModel", "sharpen", "(I)I"⟩ prog_10_method_42_code 3 (some FieldType.int)) ∈ TBL := qs_5 118 rfl rfl
set_option maxRecDepth 20000 in
theorem q_1151 : (Cond.methodLink "ThumbreelLaw" 163 ⟨"ThumbreelModel", "setTolerance", "(I)I"⟩) ∈ TBL := qs_5 119 rfl rfl
set_option maxRecDepth 20000 in
theorem q_1152 : (Cond.instanceMethod ⟨"ThumbreelModel", "setTolerance", "(I)I"⟩) ∈ TBL := qs_5 120 rfl rfl
set_option maxRecDepth 20000 in
theorem q_1153 : (Cond.selects "ThumbreelModel" ⟨"ThumbreelModel", "setTolerance", "(I)I"⟩ ⟨"ThumbreelModel", "setTolerance", "(I)I"⟩) ∈ TBL := qs_5 121 rfl rfl
set_option maxRecDepth 20000 in
theorem q_1154 : (Cond.code ⟨"ThumbreelModel", "setTolerance", "(I)I"⟩ prog_10_method_43_code 3 (some FieldType.int)) ∈ TBL := qs_5 122 rfl rfl
set_option maxRecDepth 20000 in
theorem q_1155 : (Cond.methodLink "ThumbreelLaw" 166 ⟨"ThumbreelModel", "bind", "(II)I"⟩) ∈ TBL := qs_5 123 rfl rfl
set_option maxRecDepth 20000 in
theorem q_1156 : (Cond.instanceMethod ⟨"ThumbreelModel", "bind", "(II)I"⟩) ∈ TBL := qs_5 124 rfl rfl
set_option maxRecDepth 20000 in
theorem q_1157 : (Cond.selects "ThumbreelModel" ⟨"ThumbreelModel", "bind", "(II)I"⟩ ⟨"ThumbreelModel", "bind", "(II)I"⟩) ∈ TBL := qs_5 125 rfl rfl
set_option maxRecDepth 20000 in
theorem q_1158 : (Cond.code ⟨"ThumbreelModel", "bind", "(II)I"⟩ prog_10_method_45_code 7 (some FieldType.int)) ∈ TBL := qs_5 126 rfl rfl
set_option maxRecDepth 20000 in
theorem q_1159 : (Cond.methodLink "ThumbreelModel" 156 ⟨"ThumbreelModel", "isCopy", "(II)Z"⟩) ∈ TBL := qs_5 127 rfl rfl
set_option maxRecDepth 20000 in
theorem q_1160 : (Cond.privateMethod ⟨"ThumbreelModel", "isCopy", "(II)Z"⟩) ∈ TBL := qs_5 128 rfl rfl
set_option maxRecDepth 20000 in
theorem q_1161 : (Cond.instanceMethod ⟨"ThumbreelModel", "isCopy", "(II)Z"⟩) ∈ TBL := qs_5 129 rfl rfl
set_option maxRecDepth 20000 in
theorem q_1162 : (Cond.code ⟨"ThumbreelModel", "isCopy", "(II)Z"⟩ prog_10_method_7_code 3 (some FieldType.boolean)) ∈ TBL := qs_5 130 rfl rfl
set_option maxRecDepth 20000 in
theorem q_1163 : (Cond.methodLink "ThumbreelModel" 159 ⟨"ThumbreelModel", "isWhole", "(II)Z"⟩) ∈ TBL := qs_5 131 rfl rfl
set_option maxRecDepth 20000 in
theorem q_1164 : (Cond.privateMethod ⟨"ThumbreelModel", "isWhole", "(II)Z"⟩) ∈ TBL := qs_5 132 rfl rfl
set_option maxRecDepth 20000 in
theorem q_1165 : (Cond.instanceMethod ⟨"ThumbreelModel", "isWhole", "(II)Z"⟩) ∈ TBL := qs_5 133 rfl rfl
set_option maxRecDepth 20000 in
theorem q_1166 : (Cond.code ⟨"ThumbreelModel", "isWhole", "(II)Z"⟩ prog_10_method_44_code 5 (some FieldType.boolean)) ∈ TBL := qs_5 134 rfl rfl
set_option maxRecDepth 20000 in
theorem q_1167 : (Cond.methodLink "ThumbreelLaw" 169 ⟨"ThumbreelModel", "isBound", "(II)Z"⟩) ∈ TBL := qs_5 135 rfl rfl
set_option maxRecDepth 20000 in
theorem q_1168 : (Cond.instanceMethod ⟨"ThumbreelModel", "isBound", "(II)Z"⟩) ∈ TBL := qs_5 136 rfl rfl
set_option maxRecDepth 20000 in
theorem q_1169 : (Cond.selects "ThumbreelModel" ⟨"ThumbreelModel", "isBound", "(II)Z"⟩ ⟨"ThumbreelModel", "isBound", "(II)Z"⟩) ∈ TBL := qs_5 137 rfl rfl
set_option maxRecDepth 20000 in
theorem q_1170 : (Cond.code ⟨"ThumbreelModel", "isBound", "(II)Z"⟩ prog_10_method_46_code 3 (some FieldType.boolean)) ∈ TBL := qs_5 138 rfl rfl
set_option maxRecDepth 20000 in
theorem q_1171 : (Cond.methodLink "ThumbreelLaw" 172 ⟨"ThumbreelModel", "trim", "(III)I"⟩) ∈ TBL := qs_5 139 rfl rfl
set_option maxRecDepth 20000 in
theorem q_1172 : (Cond.instanceMethod ⟨"ThumbreelModel", "trim", "(III)I"⟩) ∈ TBL := qs_5 140 rfl rfl
set_option maxRecDepth 20000 in
theorem q_1173 : (Cond.selects "ThumbreelModel" ⟨"ThumbreelModel", "trim", "(III)I"⟩ ⟨"ThumbreelModel", "trim", "(III)I"⟩) ∈ TBL := qs_5 141 rfl rfl
set_option maxRecDepth 20000 in
theorem q_1174 : (Cond.code ⟨"ThumbreelModel", "trim", "(III)I"⟩ prog_10_method_48_code 4 (some FieldType.int)) ∈ TBL := qs_5 142 rfl rfl
set_option maxRecDepth 20000 in
theorem q_1175 : (Cond.methodLink "ThumbreelModel" 162 ⟨"ThumbreelModel", "hasFrame", "(III)Z"⟩) ∈ TBL := qs_5 143 rfl rfl
set_option maxRecDepth 20000 in
theorem q_1176 : (Cond.privateMethod ⟨"ThumbreelModel", "hasFrame", "(III)Z"⟩) ∈ TBL := qs_5 144 rfl rfl
set_option maxRecDepth 20000 in
theorem q_1177 : (Cond.instanceMethod ⟨"ThumbreelModel", "hasFrame", "(III)Z"⟩) ∈ TBL := qs_5 145 rfl rfl
set_option maxRecDepth 20000 in
theorem q_1178 : (Cond.code ⟨"ThumbreelModel", "hasFrame", "(III)Z"⟩ prog_10_method_47_code 4 (some FieldType.boolean)) ∈ TBL := qs_5 146 rfl rfl
set_option maxRecDepth 20000 in
theorem q_1179 : (Cond.methodLink "ThumbreelLaw" 175 ⟨"ThumbreelModel", "leaf", "(III)I"⟩) ∈ TBL := qs_5 147 rfl rfl
set_option maxRecDepth 20000 in
theorem q_1180 : (Cond.instanceMethod ⟨"ThumbreelModel", "leaf", "(III)I"⟩) ∈ TBL := qs_5 148 rfl rfl
set_option maxRecDepth 20000 in
theorem q_1181 : (Cond.selects "ThumbreelModel" ⟨"ThumbreelModel", "leaf", "(III)I"⟩ ⟨"ThumbreelModel", "leaf", "(III)I"⟩) ∈ TBL := qs_5 149 rfl rfl
set_option maxRecDepth 20000 in
theorem q_1182 : (Cond.code ⟨"ThumbreelModel", "leaf", "(III)I"⟩ prog_10_method_50_code 4 (some FieldType.int)) ∈ TBL := qs_5 150 rfl rfl
set_option maxRecDepth 20000 in
theorem q_1183 : (Cond.methodLink "ThumbreelModel" 165 ⟨"ThumbreelModel", "leafShown", "(III)I"⟩) ∈ TBL := qs_5 151 rfl rfl
set_option maxRecDepth 20000 in
theorem q_1184 : (Cond.privateMethod ⟨"ThumbreelModel", "leafShown", "(III)I"⟩) ∈ TBL := qs_5 152 rfl rfl
set_option maxRecDepth 20000 in
theorem q_1185 : (Cond.instanceMethod ⟨"ThumbreelModel", "leafShown", "(III)I"⟩) ∈ TBL := qs_5 153 rfl rfl
set_option maxRecDepth 20000 in
theorem q_1186 : (Cond.code ⟨"ThumbreelModel", "leafShown", "(III)I"⟩ prog_10_method_49_code 5 (some FieldType.int)) ∈ TBL := qs_5 154 rfl rfl
set_option maxRecDepth 20000 in
theorem q_1187 : (Cond.methodLink "ThumbreelLaw" 178 ⟨"ThumbreelModel", "leafByPiles", "(III)I"⟩) ∈ TBL := qs_5 155 rfl rfl
set_option maxRecDepth 20000 in
theorem q_1188 : (Cond.instanceMethod ⟨"ThumbreelModel", "leafByPiles", "(III)I"⟩) ∈ TBL := qs_5 156 rfl rfl
set_option maxRecDepth 20000 in
theorem q_1189 : (Cond.selects "ThumbreelModel" ⟨"ThumbreelModel", "leafByPiles", "(III)I"⟩ ⟨"ThumbreelModel", "leafByPiles", "(III)I"⟩) ∈ TBL := qs_5 157 rfl rfl
set_option maxRecDepth 20000 in
theorem q_1190 : (Cond.code ⟨"ThumbreelModel", "leafByPiles", "(III)I"⟩ prog_10_method_51_code 4 (some FieldType.int)) ∈ TBL := qs_5 158 rfl rfl
set_option maxRecDepth 20000 in
theorem q_1191 : (Cond.methodLink "ThumbreelLaw" 182 ⟨"ThumbreelModel", "spoiled", "()I"⟩) ∈ TBL := qs_5 159 rfl rfl
set_option maxRecDepth 20000 in
theorem q_1192 : (Cond.instanceMethod ⟨"ThumbreelModel", "spoiled", "()I"⟩) ∈ TBL := qs_5 160 rfl rfl
set_option maxRecDepth 20000 in
theorem q_1193 : (Cond.selects "ThumbreelModel" ⟨"ThumbreelModel", "spoiled", "()I"⟩ ⟨"ThumbreelModel", "spoiled", "()I"⟩) ∈ TBL := qs_5 161 rfl rfl
set_option maxRecDepth 20000 in
theorem q_1194 : (Cond.code ⟨"ThumbreelModel", "spoiled", "()I"⟩ prog_10_method_52_code 1 (some FieldType.int)) ∈ TBL := qs_5 162 rfl rfl
set_option maxRecDepth 20000 in
theorem q_1195 : (Cond.arrayClass FieldType.long) ∈ TBL := qs_5 163 rfl rfl
set_option maxRecDepth 20000 in
theorem q_1196 : (Cond.sameMethod "java/lang/Throwable" "java/lang/Throwable" "fillInStackTrace" "(I)Ljava/lang/Throwable;") ∈ TBL := qs_5 164 rfl rfl
set_option maxRecDepth 20000 in
theorem q_1197 : (Cond.castable "Thumbreel$Leaf" "java/lang/Object") ∈ TBL := qs_5 165 rfl rfl
set_option maxRecDepth 20000 in
theorem q_1198 : (Cond.castable "Thumbreel" "java/lang/Object") ∈ TBL := qs_5 166 rfl rfl
set_option maxRecDepth 20000 in
theorem q_1199 : (Cond.castable "java/util/ArrayList" "java/lang/Object") ∈ TBL := qs_5 167 rfl rfl
set_option maxRecDepth 20000 in
theorem q_1200 : (Cond.castable "Thumbreel$Piles" "java/lang/Object") ∈ TBL := qs_5 168 rfl rfl
set_option maxRecDepth 20000 in
theorem q_1201 : (Cond.castable "Thumbreel$Folding" "java/lang/Object") ∈ TBL := qs_5 169 rfl rfl
set_option maxRecDepth 20000 in
theorem q_1202 : (Cond.castable "ThumbreelModel" "java/lang/Object") ∈ TBL := qs_5 170 rfl rfl
set_option maxRecDepth 20000 in
theorem q_1203 : (Cond.castable "java/lang/IllegalStateException" "java/lang/Object") ∈ TBL := qs_5 171 rfl rfl
set_option maxRecDepth 20000 in
theorem q_1204 : (Cond.castable "Thumbreel$Book" "java/lang/Object") ∈ TBL := qs_5 172 rfl rfl
set_option maxRecDepth 20000 in
theorem q_1205 : (Cond.castable "java/lang/IndexOutOfBoundsException" "java/lang/Object") ∈ TBL := qs_5 173 rfl rfl
set_option maxRecDepth 20000 in
theorem q_1206 : (Cond.castable "java/lang/IllegalArgumentException" "java/lang/Object") ∈ TBL := qs_5 174 rfl rfl
set_option maxRecDepth 20000 in
theorem q_1207 : (Cond.castable "Thumbreel$Order" "java/lang/Object") ∈ TBL := qs_5 175 rfl rfl
set_option maxRecDepth 20000 in
theorem q_1208 : (Cond.castable "Thumbreel$Copy" "java/lang/Object") ∈ TBL := qs_5 176 rfl rfl
set_option maxRecDepth 20000 in
theorem q_1209 : (Cond.castable "Thumbreel$Sheet" "java/lang/Object") ∈ TBL := qs_5 177 rfl rfl
set_option maxRecDepth 20000 in
theorem q_1210 : (Cond.castable "java/util/NoSuchElementException" "java/lang/Object") ∈ TBL := qs_5 178 rfl rfl
set_option maxRecDepth 20000 in
theorem q_1211 : (Cond.castable "java/lang/Throwable" "java/lang/Object") ∈ TBL := qs_5 179 rfl rfl
set_option maxRecDepth 20000 in
theorem q_1212 : (Cond.castable "java/lang/String" "java/lang/Object") ∈ TBL := qs_5 180 rfl rfl
set_option maxRecDepth 20000 in
theorem q_1213 : (Cond.sameMethod "[Ljava/lang/Object;" "java/lang/Object" "getClass" "()Ljava/lang/Class;") ∈ TBL := qs_5 181 rfl rfl
set_option maxRecDepth 20000 in
theorem q_1214 : (Cond.selects "[Ljava/lang/Object;" ⟨"java/lang/Object", "getClass", "()Ljava/lang/Class;"⟩ ⟨"java/lang/Object", "getClass", "()Ljava/lang/Class;"⟩) ∈ TBL := qs_5 182 rfl rfl
set_option maxRecDepth 20000 in
theorem q_1215 : (Cond.declares ⟨"java/lang/Object", "getClass", "()Ljava/lang/Class;"⟩) ∈ TBL := qs_5 183 rfl rfl
set_option maxRecDepth 20000 in
theorem q_1216 : (Cond.castable "[I" "java/lang/Object") ∈ TBL := qs_5 184 rfl rfl
set_option maxRecDepth 20000 in
theorem q_1217 : (Cond.castable "[B" "java/lang/Object") ∈ TBL := qs_5 185 rfl rfl
set_option maxRecDepth 20000 in
theorem q_1218 : (Cond.castable "[Ljava/lang/Object;" "java/lang/Object") ∈ TBL := qs_5 186 rfl rfl
set_option maxRecDepth 20000 in
theorem q_1219 : (Cond.castable "[LThumbreel$Leaf;" "java/lang/Object") ∈ TBL := qs_5 187 rfl rfl
set_option maxRecDepth 20000 in
theorem q_1220 : (Cond.castable "[Z" "java/lang/Object") ∈ TBL := qs_5 188 rfl rfl
set_option maxRecDepth 20000 in
theorem q_1221 : (Cond.castable "[J" "java/lang/Object") ∈ TBL := qs_5 189 rfl rfl
