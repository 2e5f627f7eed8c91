def RX0 : String := "Thumbreel$Book"
def TX0 : u_T := fun k => match k with
  | 0 => ("Thumbreel$Book", "positions", "[I", true)
  | 1 => ("Thumbreel$Book", "betweens", "[I", true)
  | 2 => ("Thumbreel$Book", "curves", "[I", true)
  | 3 => ("Thumbreel$Book", "row", "[I", true)
  | 4 => ("Thumbreel$Book", "drawings", "I", false)
  | _ => ("Thumbreel$Book", "length", "I", false)
def tyX0 : Nat → FieldType := fun k => match k with
  | 0 => .array .int
  | 1 => .array .int
  | 2 => .array .int
  | 3 => .array .int
  | 4 => .int
  | _ => .int
abbrev wsX00 : List Cond := u_ws RX0 TX0 6
theorem nmX0 : ∀ a, a < 6 → ∀ b, b < 6 → a ≠ b → (TX0 a).2.1 ≠ (TX0 b).2.1 := by decide +kernel
theorem tyX0_ok : ∀ k, k < 6 → parseFieldDescriptor (TX0 k).2.2.1 = some (tyX0 k) := by decide +kernel
abbrev cX0_init : ByteArray := prog_2_method_1_code
def yX0_init : MethodName := ⟨RX0, "<init>", "()V"⟩
abbrev cX0_insert : ByteArray := prog_2_method_2_code
def yX0_insert : MethodName := ⟨RX0, "insert", "(IIII)V"⟩
abbrev cX0_takeOut : ByteArray := prog_2_method_3_code
def yX0_takeOut : MethodName := ⟨RX0, "takeOut", "(I)V"⟩
abbrev cX0_putAt : ByteArray := prog_2_method_4_code
def yX0_putAt : MethodName := ⟨RX0, "putAt", "(II)V"⟩
abbrev cX0_positionOf : ByteArray := prog_2_method_5_code
def yX0_positionOf : MethodName := ⟨RX0, "positionOf", "(I)I"⟩
abbrev cX0_copyDrawing : ByteArray := prog_2_method_6_code
def yX0_copyDrawing : MethodName := ⟨RX0, "copyDrawing", "(II)V"⟩
abbrev cX0_layFrames : ByteArray := prog_2_method_7_code
def yX0_layFrames : MethodName := ⟨RX0, "layFrames", "()V"⟩
abbrev cX0_addBetweens : ByteArray := prog_2_method_8_code
def yX0_addBetweens : MethodName := ⟨RX0, "addBetweens", "(IIII)V"⟩
abbrev cX0_addFrame : ByteArray := prog_2_method_9_code
def yX0_addFrame : MethodName := ⟨RX0, "addFrame", "(I)V"⟩
abbrev cX0_shareOfWay : ByteArray := prog_2_method_10_code
def yX0_shareOfWay : MethodName := ⟨RX0, "shareOfWay", "(III)I"⟩
def RX1 : String := "Thumbreel$Copy"
def TX1 : u_T := fun k => match k with
  | 0 => ("Thumbreel$Copy", "leaves", "[LThumbreel$Leaf;", true)
  | 1 => ("Thumbreel$Copy", "isBound", "Z", false)
  | _ => ("Thumbreel$Copy", "boundLength", "I", false)
def tyX1 : Nat → FieldType := fun k => match k with
  | 0 => .array (.object "Thumbreel$Leaf")
  | 1 => .boolean
  | _ => .int
abbrev wsX10 : List Cond := u_ws RX1 TX1 3
theorem nmX1 : ∀ a, a < 3 → ∀ b, b < 3 → a ≠ b → (TX1 a).2.1 ≠ (TX1 b).2.1 := by decide +kernel
theorem tyX1_ok : ∀ k, k < 3 → parseFieldDescriptor (TX1 k).2.2.1 = some (tyX1 k) := by decide +kernel
abbrev cX1_init : ByteArray := prog_3_method_1_code
def yX1_init : MethodName := ⟨RX1, "<init>", "()V"⟩
abbrev cX1_leafOf : ByteArray := prog_3_method_2_code
def yX1_leafOf : MethodName := ⟨RX1, "leafOf", "(I)LThumbreel$Leaf;"⟩
abbrev cX1_take : ByteArray := prog_3_method_3_code
def yX1_take : MethodName := ⟨RX1, "take", "(LThumbreel$Leaf;)V"⟩
abbrev cX1_isLacking : ByteArray := prog_3_method_4_code
def yX1_isLacking : MethodName := ⟨RX1, "isLacking", "(I)Z"⟩
abbrev cX1_countLacking : ByteArray := prog_3_method_5_code
def yX1_countLacking : MethodName := ⟨RX1, "countLacking", "(I)I"⟩
abbrev cX1_isAllCut : ByteArray := prog_3_method_6_code
def yX1_isAllCut : MethodName := ⟨RX1, "isAllCut", "(I)Z"⟩
abbrev cX1_leastTrim : ByteArray := prog_3_method_7_code
def yX1_leastTrim : MethodName := ⟨RX1, "leastTrim", "(I)I"⟩
abbrev cX1_spoilAbove : ByteArray := prog_3_method_8_code
def yX1_spoilAbove : MethodName := ⟨RX1, "spoilAbove", "(I)I"⟩
abbrev cX1_spoilChanged : ByteArray := prog_3_method_9_code
def yX1_spoilChanged : MethodName := ⟨RX1, "spoilChanged", "(LThumbreel$Book;)I"⟩
abbrev cX1_spoil : ByteArray := prog_3_method_10_code
def yX1_spoil : MethodName := ⟨RX1, "spoil", "(LThumbreel$Leaf;)V"⟩
def RX2 : String := "Thumbreel$Folding"
def TX2 : u_T := fun k => match k with
  | _ => ("Thumbreel$Folding", "folds", "[I", true)
def tyX2 : Nat → FieldType := fun k => match k with
  | _ => .array .int
abbrev wsX20 : List Cond := u_ws RX2 TX2 1
theorem nmX2 : ∀ a, a < 1 → ∀ b, b < 1 → a ≠ b → (TX2 a).2.1 ≠ (TX2 b).2.1 := by decide +kernel
theorem tyX2_ok : ∀ k, k < 1 → parseFieldDescriptor (TX2 k).2.2.1 = some (tyX2 k) := by decide +kernel
abbrev cX2_init : ByteArray := prog_4_method_1_code
def yX2_init : MethodName := ⟨RX2, "<init>", "(III)V"⟩
abbrev cX2_unfold : ByteArray := prog_4_method_2_code
def yX2_unfold : MethodName := ⟨RX2, "unfold", "(I)I"⟩
abbrev cX2_unfoldLine : ByteArray := prog_4_method_3_code
def yX2_unfoldLine : MethodName := ⟨RX2, "unfoldLine", "(IIZZ)I"⟩
def RX3 : String := "Thumbreel$Leaf"
def TX3 : u_T := fun k => match k with
  | 0 => ("Thumbreel$Leaf", "order", "I", true)
  | 1 => ("Thumbreel$Leaf", "copy", "I", true)
  | 2 => ("Thumbreel$Leaf", "frame", "I", true)
  | 3 => ("Thumbreel$Leaf", "position", "I", true)
  | 4 => ("Thumbreel$Leaf", "sheet", "LThumbreel$Sheet;", true)
  | _ => ("Thumbreel$Leaf", "isSpoiled", "Z", false)
def tyX3 : Nat → FieldType := fun k => match k with
  | 0 => .int
  | 1 => .int
  | 2 => .int
  | 3 => .int
  | 4 => .object "Thumbreel$Sheet"
  | _ => .boolean
abbrev wsX30 : List Cond := u_ws RX3 TX3 6
theorem nmX3 : ∀ a, a < 6 → ∀ b, b < 6 → a ≠ b → (TX3 a).2.1 ≠ (TX3 b).2.1 := by decide +kernel
theorem tyX3_ok : ∀ k, k < 6 → parseFieldDescriptor (TX3 k).2.2.1 = some (tyX3 k) := by decide +kernel
abbrev cX3_init : ByteArray := prog_5_method_1_code
def yX3_init : MethodName := ⟨RX3, "<init>", "(IIIILThumbreel$Sheet;)V"⟩
abbrev cX3_code : ByteArray := prog_5_method_2_code
def yX3_code : MethodName := ⟨RX3, "code", "()I"⟩
abbrev cX3_belongsTo : ByteArray := prog_5_method_3_code
def yX3_belongsTo : MethodName := ⟨RX3, "belongsTo", "(III)Z"⟩
def RX4 : String := "Thumbreel$Order"
def TX4 : u_T := fun k => match k with
  | 0 => ("Thumbreel$Order", "number", "I", true)
  | 1 => ("Thumbreel$Order", "book", "LThumbreel$Book;", true)
  | _ => ("Thumbreel$Order", "copies", "Ljava/util/ArrayList;", true)
def tyX4 : Nat → FieldType := fun k => match k with
  | 0 => .int
  | 1 => .object "Thumbreel$Book"
  | _ => .object "java/util/ArrayList"
abbrev wsX40 : List Cond := u_ws RX4 TX4 3
theorem nmX4 : ∀ a, a < 3 → ∀ b, b < 3 → a ≠ b → (TX4 a).2.1 ≠ (TX4 b).2.1 := by decide +kernel
theorem tyX4_ok : ∀ k, k < 3 → parseFieldDescriptor (TX4 k).2.2.1 = some (tyX4 k) := by decide +kernel
abbrev cX4_init : ByteArray := prog_6_method_1_code
def yX4_init : MethodName := ⟨RX4, "<init>", "(ILThumbreel$Book;I)V"⟩
abbrev cX4_isAheadOf : ByteArray := prog_6_method_2_code
def yX4_isAheadOf : MethodName := ⟨RX4, "isAheadOf", "(LThumbreel$Order;)Z"⟩
abbrev cX4_lengthOf : ByteArray := prog_6_method_3_code
def yX4_lengthOf : MethodName := ⟨RX4, "lengthOf", "(LThumbreel$Copy;)I"⟩
abbrev cX4_countLacking : ByteArray := prog_6_method_4_code
def yX4_countLacking : MethodName := ⟨RX4, "countLacking", "()I"⟩
abbrev cX4_spoilChanged : ByteArray := prog_6_method_5_code
def yX4_spoilChanged : MethodName := ⟨RX4, "spoilChanged", "()I"⟩
abbrev cX4_fill : ByteArray := prog_6_method_6_code
def yX4_fill : MethodName := ⟨RX4, "fill", "(LThumbreel$Sheet;I)I"⟩
def RX5 : String := "Thumbreel$Piles"
def TX5 : u_T := fun k => match k with
  | 0 => ("Thumbreel$Piles", "cells", "[I", true)
  | 1 => ("Thumbreel$Piles", "heights", "[I", true)
  | 2 => ("Thumbreel$Piles", "top", "I", false)
  | 3 => ("Thumbreel$Piles", "left", "I", false)
  | 4 => ("Thumbreel$Piles", "rows", "I", false)
  | _ => ("Thumbreel$Piles", "columns", "I", false)
def tyX5 : Nat → FieldType := fun k => match k with
  | 0 => .array .int
  | 1 => .array .int
  | 2 => .int
  | 3 => .int
  | 4 => .int
  | _ => .int
abbrev wsX50 : List Cond := u_ws RX5 TX5 6
theorem nmX5 : ∀ a, a < 6 → ∀ b, b < 6 → a ≠ b → (TX5 a).2.1 ≠ (TX5 b).2.1 := by decide +kernel
theorem tyX5_ok : ∀ k, k < 6 → parseFieldDescriptor (TX5 k).2.2.1 = some (tyX5 k) := by decide +kernel
abbrev cX5_init : ByteArray := prog_7_method_1_code
def yX5_init : MethodName := ⟨RX5, "<init>", "()V"⟩
abbrev cX5_foldAll : ByteArray := prog_7_method_2_code
def yX5_foldAll : MethodName := ⟨RX5, "foldAll", "(LThumbreel$Folding;)V"⟩
abbrev cX5_cellAt : ByteArray := prog_7_method_3_code
def yX5_cellAt : MethodName := ⟨RX5, "cellAt", "(I)I"⟩
abbrev cX5_spread : ByteArray := prog_7_method_4_code
def yX5_spread : MethodName := ⟨RX5, "spread", "()V"⟩
abbrev cX5_pileAt : ByteArray := prog_7_method_5_code
def yX5_pileAt : MethodName := ⟨RX5, "pileAt", "(II)I"⟩
abbrev cX5_foldSideways : ByteArray := prog_7_method_6_code
def yX5_foldSideways : MethodName := ⟨RX5, "foldSideways", "(Z)V"⟩
abbrev cX5_foldUpright : ByteArray := prog_7_method_7_code
def yX5_foldUpright : MethodName := ⟨RX5, "foldUpright", "(Z)V"⟩
abbrev cX5_turnOnto : ByteArray := prog_7_method_8_code
def yX5_turnOnto : MethodName := ⟨RX5, "turnOnto", "(II)V"⟩
def RX6 : String := "Thumbreel$Sheet"
def TX6 : u_T := fun k => match k with
  | 0 => ("Thumbreel$Sheet", "cells", "[LThumbreel$Leaf;", true)
  | 1 => ("Thumbreel$Sheet", "folding", "LThumbreel$Folding;", true)
  | 2 => ("Thumbreel$Sheet", "isWaiting", "Z", false)
  | _ => ("Thumbreel$Sheet", "trimmed", "I", false)
def tyX6 : Nat → FieldType := fun k => match k with
  | 0 => .array (.object "Thumbreel$Leaf")
  | 1 => .object "Thumbreel$Folding"
  | 2 => .boolean
  | _ => .int
abbrev wsX60 : List Cond := u_ws RX6 TX6 4
theorem nmX6 : ∀ a, a < 4 → ∀ b, b < 4 → a ≠ b → (TX6 a).2.1 ≠ (TX6 b).2.1 := by decide +kernel
theorem tyX6_ok : ∀ k, k < 4 → parseFieldDescriptor (TX6 k).2.2.1 = some (tyX6 k) := by decide +kernel
abbrev cX6_init : ByteArray := prog_8_method_1_code
def yX6_init : MethodName := ⟨RX6, "<init>", "(LThumbreel$Folding;)V"⟩
abbrev cX6_leafIn : ByteArray := prog_8_method_2_code
def yX6_leafIn : MethodName := ⟨RX6, "leafIn", "(I)LThumbreel$Leaf;"⟩
abbrev cX6_lay : ByteArray := prog_8_method_3_code
def yX6_lay : MethodName := ⟨RX6, "lay", "(LThumbreel$Leaf;I)V"⟩
abbrev cX6_cutWith : ByteArray := prog_8_method_4_code
def yX6_cutWith : MethodName := ⟨RX6, "cutWith", "(I)V"⟩
abbrev cX6_isCut : ByteArray := prog_8_method_5_code
def yX6_isCut : MethodName := ⟨RX6, "isCut", "()Z"⟩
abbrev cX6_isOfUse : ByteArray := prog_8_method_6_code
def yX6_isOfUse : MethodName := ⟨RX6, "isOfUse", "()Z"⟩
def RX7 : String := "Thumbreel"
def TX7 : u_T := fun k => match k with
  | 0 => ("Thumbreel", "books", "Ljava/util/ArrayList;", true)
  | 1 => ("Thumbreel", "orders", "Ljava/util/ArrayList;", true)
  | 2 => ("Thumbreel", "sheets", "Ljava/util/ArrayList;", true)
  | 3 => ("Thumbreel", "turns", "[I", true)
  | 4 => ("Thumbreel", "dullness", "[I", true)
  | 5 => ("Thumbreel", "piles", "LThumbreel$Piles;", true)
  | 6 => ("Thumbreel", "folding", "LThumbreel$Folding;", false)
  | 7 => ("Thumbreel", "tolerance", "I", false)
  | _ => ("Thumbreel", "spoiledLeaves", "I", false)
def tyX7 : Nat → FieldType := fun k => match k with
  | 0 => .object "java/util/ArrayList"
  | 1 => .object "java/util/ArrayList"
  | 2 => .object "java/util/ArrayList"
  | 3 => .array .int
  | 4 => .array .int
  | 5 => .object "Thumbreel$Piles"
  | 6 => .object "Thumbreel$Folding"
  | 7 => .int
  | _ => .int
abbrev wsX70 : List Cond := u_ws RX7 TX7 9
theorem nmX7 : ∀ a, a < 9 → ∀ b, b < 9 → a ≠ b → (TX7 a).2.1 ≠ (TX7 b).2.1 := by decide +kernel
theorem tyX7_ok : ∀ k, k < 9 → parseFieldDescriptor (TX7 k).2.2.1 = some (tyX7 k) := by decide +kernel
abbrev cX7_init : ByteArray := prog_1_method_1_code
def yX7_init : MethodName := ⟨RX7, "<init>", "()V"⟩
abbrev cX7_addBook : ByteArray := prog_1_method_2_code
def yX7_addBook : MethodName := ⟨RX7, "addBook", "()I"⟩
abbrev cX7_draw : ByteArray := prog_1_method_3_code
def yX7_draw : MethodName := ⟨RX7, "draw", "(IIIII)I"⟩
abbrev cX7_erase : ByteArray := prog_1_method_4_code
def yX7_erase : MethodName := ⟨RX7, "erase", "(II)I"⟩
abbrev cX7_move : ByteArray := prog_1_method_5_code
def yX7_move : MethodName := ⟨RX7, "move", "(III)I"⟩
abbrev cX7_frames : ByteArray := prog_1_method_6_code
def yX7_frames : MethodName := ⟨RX7, "frames", "(I)I"⟩
abbrev cX7_frameAt : ByteArray := prog_1_method_7_code
def yX7_frameAt : MethodName := ⟨RX7, "frameAt", "(II)I"⟩
abbrev cX7_order : ByteArray := prog_1_method_8_code
def yX7_order : MethodName := ⟨RX7, "order", "(II)I"⟩
abbrev cX7_lacking : ByteArray := prog_1_method_9_code
def yX7_lacking : MethodName := ⟨RX7, "lacking", "(I)I"⟩
abbrev cX7_waits : ByteArray := prog_1_method_10_code
def yX7_waits : MethodName := ⟨RX7, "waits", "(I)I"⟩
abbrev cX7_setFolds : ByteArray := prog_1_method_11_code
def yX7_setFolds : MethodName := ⟨RX7, "setFolds", "(III)V"⟩
abbrev cX7_cellOf : ByteArray := prog_1_method_12_code
def yX7_cellOf : MethodName := ⟨RX7, "cellOf", "(I)I"⟩
abbrev cX7_placeOf : ByteArray := prog_1_method_13_code
def yX7_placeOf : MethodName := ⟨RX7, "placeOf", "(I)I"⟩
abbrev cX7_print : ByteArray := prog_1_method_14_code
def yX7_print : MethodName := ⟨RX7, "print", "(I)I"⟩
abbrev cX7_waiting : ByteArray := prog_1_method_15_code
def yX7_waiting : MethodName := ⟨RX7, "waiting", "()I"⟩
abbrev cX7_onSheet : ByteArray := prog_1_method_16_code
def yX7_onSheet : MethodName := ⟨RX7, "onSheet", "(II)I"⟩
abbrev cX7_cut : ByteArray := prog_1_method_17_code
def yX7_cut : MethodName := ⟨RX7, "cut", "(I)I"⟩
abbrev cX7_discard : ByteArray := prog_1_method_18_code
def yX7_discard : MethodName := ⟨RX7, "discard", "()I"⟩
abbrev cX7_sharpen : ByteArray := prog_1_method_19_code
def yX7_sharpen : MethodName := ⟨RX7, "sharpen", "(I)I"⟩
abbrev cX7_setTolerance : ByteArray := prog_1_method_20_code
def yX7_setTolerance : MethodName := ⟨RX7, "setTolerance", "(I)I"⟩
abbrev cX7_bind : ByteArray := prog_1_method_21_code
def yX7_bind : MethodName := ⟨RX7, "bind", "(II)I"⟩
abbrev cX7_isBound : ByteArray := prog_1_method_22_code
def yX7_isBound : MethodName := ⟨RX7, "isBound", "(II)Z"⟩
abbrev cX7_trim : ByteArray := prog_1_method_23_code
def yX7_trim : MethodName := ⟨RX7, "trim", "(III)I"⟩
abbrev cX7_leaf : ByteArray := prog_1_method_24_code
def yX7_leaf : MethodName := ⟨RX7, "leaf", "(III)I"⟩
abbrev cX7_leafByPiles : ByteArray := prog_1_method_25_code
def yX7_leafByPiles : MethodName := ⟨RX7, "leafByPiles", "(III)I"⟩
abbrev cX7_spoiled : ByteArray := prog_1_method_26_code
def yX7_spoiled : MethodName := ⟨RX7, "spoiled", "()I"⟩
abbrev cX7_checkIndex : ByteArray := prog_1_method_27_code
def yX7_checkIndex : MethodName := ⟨RX7, "checkIndex", "(II)V"⟩
abbrev cX7_checkRange : ByteArray := prog_1_method_28_code
def yX7_checkRange : MethodName := ⟨RX7, "checkRange", "(III)V"⟩
abbrev cX7_bookNumbered : ByteArray := prog_1_method_29_code
def yX7_bookNumbered : MethodName := ⟨RX7, "bookNumbered", "(I)LThumbreel$Book;"⟩
abbrev cX7_orderNumbered : ByteArray := prog_1_method_30_code
def yX7_orderNumbered : MethodName := ⟨RX7, "orderNumbered", "(I)LThumbreel$Order;"⟩
abbrev cX7_copyNumbered : ByteArray := prog_1_method_31_code
def yX7_copyNumbered : MethodName := ⟨RX7, "copyNumbered", "(LThumbreel$Order;I)LThumbreel$Copy;"⟩
abbrev cX7_oneIfSideways : ByteArray := prog_1_method_32_code
def yX7_oneIfSideways : MethodName := ⟨RX7, "oneIfSideways", "(I)I"⟩
abbrev cX7_sheetsFor : ByteArray := prog_1_method_33_code
def yX7_sheetsFor : MethodName := ⟨RX7, "sheetsFor", "(I)I"⟩
abbrev cX7_spoilChanged : ByteArray := prog_1_method_34_code
def yX7_spoilChanged : MethodName := ⟨RX7, "spoilChanged", "(LThumbreel$Book;)I"⟩
abbrev cX7_countAllLacking : ByteArray := prog_1_method_35_code
def yX7_countAllLacking : MethodName := ⟨RX7, "countAllLacking", "()I"⟩
abbrev cX7_sortOrders : ByteArray := prog_1_method_36_code
def yX7_sortOrders : MethodName := ⟨RX7, "sortOrders", "()V"⟩
abbrev cX7_printSheet : ByteArray := prog_1_method_37_code
def yX7_printSheet : MethodName := ⟨RX7, "printSheet", "()LThumbreel$Sheet;"⟩
abbrev cX7_longestWaiting : ByteArray := prog_1_method_38_code
def yX7_longestWaiting : MethodName := ⟨RX7, "longestWaiting", "()LThumbreel$Sheet;"⟩
abbrev cX7_keptLeaf : ByteArray := prog_1_method_39_code
def yX7_keptLeaf : MethodName := ⟨RX7, "keptLeaf", "(III)LThumbreel$Leaf;"⟩
abbrev cX7_findInPile : ByteArray := prog_1_method_40_code
def yX7_findInPile : MethodName := ⟨RX7, "findInPile", "(LThumbreel$Sheet;III)LThumbreel$Leaf;"⟩
def RX8 : String := "ThumbreelModel"
def TX8 : u_T := fun k => match k with
  | 0 => ("ThumbreelModel", "books", "I", false)
  | 1 => ("ThumbreelModel", "sizes", "[I", true)
  | 2 => ("ThumbreelModel", "positions", "[I", true)
  | 3 => ("ThumbreelModel", "betweens", "[I", true)
  | 4 => ("ThumbreelModel", "curves", "[I", true)
  | 5 => ("ThumbreelModel", "orders", "I", false)
  | 6 => ("ThumbreelModel", "orderBooks", "[I", true)
  | 7 => ("ThumbreelModel", "copies", "[I", true)
  | 8 => ("ThumbreelModel", "bound", "[I", true)
  | 9 => ("ThumbreelModel", "shown", "[I", true)
  | 10 => ("ThumbreelModel", "sheetOf", "[I", true)
  | 11 => ("ThumbreelModel", "trims", "[I", true)
  | 12 => ("ThumbreelModel", "folds", "[I", true)
  | 13 => ("ThumbreelModel", "cells", "[I", true)
  | 14 => ("ThumbreelModel", "sheets", "I", false)
  | 15 => ("ThumbreelModel", "lies", "[I", true)
  | 16 => ("ThumbreelModel", "isWaiting", "[Z", true)
  | 17 => ("ThumbreelModel", "dullness", "[I", true)
  | 18 => ("ThumbreelModel", "tolerance", "I", false)
  | 19 => ("ThumbreelModel", "spoiled", "I", false)
  | 20 => ("ThumbreelModel", "ranks", "[I", true)
  | 21 => ("ThumbreelModel", "wanted", "[I", true)
  | 22 => ("ThumbreelModel", "many", "I", false)
  | _ => ("ThumbreelModel", "thrown", "I", false)
def tyX8 : Nat → FieldType := fun k => match k with
  | 0 => .int
  | 1 => .array .int
  | 2 => .array .int
  | 3 => .array .int
  | 4 => .array .int
  | 5 => .int
  | 6 => .array .int
  | 7 => .array .int
  | 8 => .array .int
  | 9 => .array .int
  | 10 => .array .int
  | 11 => .array .int
  | 12 => .array .int
  | 13 => .array .int
  | 14 => .int
  | 15 => .array .int
  | 16 => .array .boolean
  | 17 => .array .int
  | 18 => .int
  | 19 => .int
  | 20 => .array .int
  | 21 => .array .int
  | 22 => .int
  | _ => .int
abbrev wsX80 : List Cond := u_ws RX8 TX8 24
theorem nmX8 : ∀ a, a < 24 → ∀ b, b < 24 → a ≠ b → (TX8 a).2.1 ≠ (TX8 b).2.1 := by decide +kernel
theorem tyX8_ok : ∀ k, k < 24 → parseFieldDescriptor (TX8 k).2.2.1 = some (tyX8 k) := by decide +kernel
abbrev cX8_init : ByteArray := prog_10_method_1_code
def yX8_init : MethodName := ⟨RX8, "<init>", "()V"⟩
abbrev cX8_thrown : ByteArray := prog_10_method_2_code
def yX8_thrown : MethodName := ⟨RX8, "thrown", "()I"⟩
abbrev cX8_goes : ByteArray := prog_10_method_3_code
def yX8_goes : MethodName := ⟨RX8, "goes", "(I)Z"⟩
abbrev cX8_isIn : ByteArray := prog_10_method_4_code
def yX8_isIn : MethodName := ⟨RX8, "isIn", "(III)Z"⟩
abbrev cX8_isBook : ByteArray := prog_10_method_5_code
def yX8_isBook : MethodName := ⟨RX8, "isBook", "(I)Z"⟩
abbrev cX8_isOrder : ByteArray := prog_10_method_6_code
def yX8_isOrder : MethodName := ⟨RX8, "isOrder", "(I)Z"⟩
abbrev cX8_isCopy : ByteArray := prog_10_method_7_code
def yX8_isCopy : MethodName := ⟨RX8, "isCopy", "(II)Z"⟩
abbrev cX8_framesOf : ByteArray := prog_10_method_8_code
def yX8_framesOf : MethodName := ⟨RX8, "framesOf", "(I)I"⟩
abbrev cX8_part : ByteArray := prog_10_method_9_code
def yX8_part : MethodName := ⟨RX8, "part", "(IIII)I"⟩
abbrev cX8_positionOf : ByteArray := prog_10_method_10_code
def yX8_positionOf : MethodName := ⟨RX8, "positionOf", "(II)I"⟩
abbrev cX8_leafAt : ByteArray := prog_10_method_11_code
def yX8_leafAt : MethodName := ⟨RX8, "leafAt", "(III)I"⟩
abbrev cX8_isBoundCopy : ByteArray := prog_10_method_12_code
def yX8_isBoundCopy : MethodName := ⟨RX8, "isBoundCopy", "(II)Z"⟩
abbrev cX8_spoils : ByteArray := prog_10_method_13_code
def yX8_spoils : MethodName := ⟨RX8, "spoils", "(I)V"⟩
abbrev cX8_flows : ByteArray := prog_10_method_14_code
def yX8_flows : MethodName := ⟨RX8, "flows", "(I)I"⟩
abbrev cX8_addBook : ByteArray := prog_10_method_15_code
def yX8_addBook : MethodName := ⟨RX8, "addBook", "()I"⟩
abbrev cX8_draw : ByteArray := prog_10_method_16_code
def yX8_draw : MethodName := ⟨RX8, "draw", "(IIIII)I"⟩
abbrev cX8_wrong : ByteArray := prog_10_method_17_code
def yX8_wrong : MethodName := ⟨RX8, "wrong", "(II)I"⟩
abbrev cX8_erase : ByteArray := prog_10_method_18_code
def yX8_erase : MethodName := ⟨RX8, "erase", "(II)I"⟩
abbrev cX8_move : ByteArray := prog_10_method_19_code
def yX8_move : MethodName := ⟨RX8, "move", "(III)I"⟩
abbrev cX8_frames : ByteArray := prog_10_method_20_code
def yX8_frames : MethodName := ⟨RX8, "frames", "(I)I"⟩
abbrev cX8_frameAt : ByteArray := prog_10_method_21_code
def yX8_frameAt : MethodName := ⟨RX8, "frameAt", "(II)I"⟩
abbrev cX8_order : ByteArray := prog_10_method_22_code
def yX8_order : MethodName := ⟨RX8, "order", "(II)I"⟩
abbrev cX8_size : ByteArray := prog_10_method_23_code
def yX8_size : MethodName := ⟨RX8, "size", "(I)I"⟩
abbrev cX8_laysRanks : ByteArray := prog_10_method_24_code
def yX8_laysRanks : MethodName := ⟨RX8, "laysRanks", "()V"⟩
abbrev cX8_laysWanted : ByteArray := prog_10_method_25_code
def yX8_laysWanted : MethodName := ⟨RX8, "laysWanted", "()V"⟩
abbrev cX8_lackingOf : ByteArray := prog_10_method_26_code
def yX8_lackingOf : MethodName := ⟨RX8, "lackingOf", "(I)I"⟩
abbrev cX8_lacking : ByteArray := prog_10_method_27_code
def yX8_lacking : MethodName := ⟨RX8, "lacking", "(I)I"⟩
abbrev cX8_waits : ByteArray := prog_10_method_28_code
def yX8_waits : MethodName := ⟨RX8, "waits", "(I)I"⟩
abbrev cX8_unfolded : ByteArray := prog_10_method_29_code
def yX8_unfolded : MethodName := ⟨RX8, "unfolded", "(I)I"⟩
abbrev cX8_laysCells : ByteArray := prog_10_method_30_code
def yX8_laysCells : MethodName := ⟨RX8, "laysCells", "()V"⟩
abbrev cX8_setFolds : ByteArray := prog_10_method_31_code
def yX8_setFolds : MethodName := ⟨RX8, "setFolds", "(III)V"⟩
abbrev cX8_cellOf : ByteArray := prog_10_method_32_code
def yX8_cellOf : MethodName := ⟨RX8, "cellOf", "(I)I"⟩
abbrev cX8_placeOf : ByteArray := prog_10_method_33_code
def yX8_placeOf : MethodName := ⟨RX8, "placeOf", "(I)I"⟩
abbrev cX8_printsOne : ByteArray := prog_10_method_34_code
def yX8_printsOne : MethodName := ⟨RX8, "printsOne", "(I)V"⟩
abbrev cX8_print : ByteArray := prog_10_method_35_code
def yX8_print : MethodName := ⟨RX8, "print", "(I)I"⟩
abbrev cX8_waiting : ByteArray := prog_10_method_36_code
def yX8_waiting : MethodName := ⟨RX8, "waiting", "()I"⟩
abbrev cX8_onSheet : ByteArray := prog_10_method_37_code
def yX8_onSheet : MethodName := ⟨RX8, "onSheet", "(II)I"⟩
abbrev cX8_longest : ByteArray := prog_10_method_38_code
def yX8_longest : MethodName := ⟨RX8, "longest", "()I"⟩
abbrev cX8_isOn : ByteArray := prog_10_method_39_code
def yX8_isOn : MethodName := ⟨RX8, "isOn", "(II)Z"⟩
abbrev cX8_cut : ByteArray := prog_10_method_40_code
def yX8_cut : MethodName := ⟨RX8, "cut", "(I)I"⟩
abbrev cX8_discard : ByteArray := prog_10_method_41_code
def yX8_discard : MethodName := ⟨RX8, "discard", "()I"⟩
abbrev cX8_sharpen : ByteArray := prog_10_method_42_code
def yX8_sharpen : MethodName := ⟨RX8, "sharpen", "(I)I"⟩
abbrev cX8_setTolerance : ByteArray := prog_10_method_43_code
def yX8_setTolerance : MethodName := ⟨RX8, "setTolerance", "(I)I"⟩
abbrev cX8_isWhole : ByteArray := prog_10_method_44_code
def yX8_isWhole : MethodName := ⟨RX8, "isWhole", "(II)Z"⟩
abbrev cX8_bind : ByteArray := prog_10_method_45_code
def yX8_bind : MethodName := ⟨RX8, "bind", "(II)I"⟩
abbrev cX8_isBound : ByteArray := prog_10_method_46_code
def yX8_isBound : MethodName := ⟨RX8, "isBound", "(II)Z"⟩
abbrev cX8_hasFrame : ByteArray := prog_10_method_47_code
def yX8_hasFrame : MethodName := ⟨RX8, "hasFrame", "(III)Z"⟩
abbrev cX8_trim : ByteArray := prog_10_method_48_code
def yX8_trim : MethodName := ⟨RX8, "trim", "(III)I"⟩
abbrev cX8_leafShown : ByteArray := prog_10_method_49_code
def yX8_leafShown : MethodName := ⟨RX8, "leafShown", "(III)I"⟩
abbrev cX8_leaf : ByteArray := prog_10_method_50_code
def yX8_leaf : MethodName := ⟨RX8, "leaf", "(III)I"⟩
abbrev cX8_leafByPiles : ByteArray := prog_10_method_51_code
def yX8_leafByPiles : MethodName := ⟨RX8, "leafByPiles", "(III)I"⟩
abbrev cX8_spoiled : ByteArray := prog_10_method_52_code
def yX8_spoiled : MethodName := ⟨RX8, "spoiled", "()I"⟩
def RJx145de : String := "java/io/Serializable"
def TJx145de : u_T := fun k => match k with
  | _ => ("", "", "", false)
def tyJx145de : Nat → FieldType := fun k => match k with
  | _ => .int
abbrev wsJx145de0 : List Cond := u_ws RJx145de TJx145de 0
theorem nmJx145de : ∀ a, a < 0 → ∀ b, b < 0 → a ≠ b → (TJx145de a).2.1 ≠ (TJx145de b).2.1 := by decide +kernel
theorem tyJx145de_ok : ∀ k, k < 0 → parseFieldDescriptor (TJx145de k).2.2.1 = some (tyJx145de k) := by decide +kernel
def RJx8e188 : String := "java/lang/Cloneable"
def TJx8e188 : u_T := fun k => match k with
  | _ => ("", "", "", false)
def tyJx8e188 : Nat → FieldType := fun k => match k with
  | _ => .int
abbrev wsJx8e1880 : List Cond := u_ws RJx8e188 TJx8e188 0
theorem nmJx8e188 : ∀ a, a < 0 → ∀ b, b < 0 → a ≠ b → (TJx8e188 a).2.1 ≠ (TJx8e188 b).2.1 := by decide +kernel
theorem tyJx8e188_ok : ∀ k, k < 0 → parseFieldDescriptor (TJx8e188 k).2.2.1 = some (tyJx8e188 k) := by decide +kernel
def RJxab1ab : String := "java/lang/Iterable"
def TJxab1ab : u_T := fun k => match k with
  | _ => ("", "", "", false)
def tyJxab1ab : Nat → FieldType := fun k => match k with
  | _ => .int
abbrev wsJxab1ab0 : List Cond := u_ws RJxab1ab TJxab1ab 0
theorem nmJxab1ab : ∀ a, a < 0 → ∀ b, b < 0 → a ≠ b → (TJxab1ab a).2.1 ≠ (TJxab1ab b).2.1 := by decide +kernel
theorem tyJxab1ab_ok : ∀ k, k < 0 → parseFieldDescriptor (TJxab1ab k).2.2.1 = some (tyJxab1ab k) := by decide +kernel
def RJ9 : String := "java/lang/Math"
def TJ9 : u_T := fun k => match k with
  | _ => ("", "", "", false)
def tyJ9 : Nat → FieldType := fun k => match k with
  | _ => .int
abbrev wsJ90 : List Cond := u_ws RJ9 TJ9 0
theorem nmJ9 : ∀ a, a < 0 → ∀ b, b < 0 → a ≠ b → (TJ9 a).2.1 ≠ (TJ9 b).2.1 := by decide +kernel
theorem tyJ9_ok : ∀ k, k < 0 → parseFieldDescriptor (TJ9 k).2.2.1 = some (tyJ9 k) := by decide +kernel
abbrev cJ9_max_7cf53 : ByteArray := prog_18_method_65_code
def yJ9_max_7cf53 : MethodName := ⟨RJ9, "max", "(II)I"⟩
abbrev cJ9_min_7cf53 : ByteArray := prog_18_method_69_code
def yJ9_min_7cf53 : MethodName := ⟨RJ9, "min", "(II)I"⟩
def RJ0 : String := "java/lang/String"
def TJ0 : u_T := fun k => match k with
  | _ => ("", "", "", false)
def tyJ0 : Nat → FieldType := fun k => match k with
  | _ => .int
abbrev wsJ00 : List Cond := u_ws RJ0 TJ0 0
theorem nmJ0 : ∀ a, a < 0 → ∀ b, b < 0 → a ≠ b → (TJ0 a).2.1 ≠ (TJ0 b).2.1 := by decide +kernel
theorem tyJ0_ok : ∀ k, k < 0 → parseFieldDescriptor (TJ0 k).2.2.1 = some (tyJ0 k) := by decide +kernel
def RJ10 : String := "java/lang/System"
def TJ10 : u_T := fun k => match k with
  | _ => ("", "", "", false)
def tyJ10 : Nat → FieldType := fun k => match k with
  | _ => .int
abbrev wsJ100 : List Cond := u_ws RJ10 TJ10 0
theorem nmJ10 : ∀ a, a < 0 → ∀ b, b < 0 → a ≠ b → (TJ10 a).2.1 ≠ (TJ10 b).2.1 := by decide +kernel
theorem tyJ10_ok : ∀ k, k < 0 → parseFieldDescriptor (TJ10 k).2.2.1 = some (tyJ10 k) := by decide +kernel
def RJxa1e45 : String := "java/util/AbstractCollection"
def TJxa1e45 : u_T := fun k => match k with
  | _ => ("", "", "", false)
def tyJxa1e45 : Nat → FieldType := fun k => match k with
  | _ => .int
abbrev wsJxa1e450 : List Cond := u_ws RJxa1e45 TJxa1e45 0
theorem nmJxa1e45 : ∀ a, a < 0 → ∀ b, b < 0 → a ≠ b → (TJxa1e45 a).2.1 ≠ (TJxa1e45 b).2.1 := by decide +kernel
theorem tyJxa1e45_ok : ∀ k, k < 0 → parseFieldDescriptor (TJxa1e45 k).2.2.1 = some (tyJxa1e45 k) := by decide +kernel
abbrev cJxa1e45_init_da8c8 : ByteArray := prog_23_method_1_code
def yJxa1e45_init_da8c8 : MethodName := ⟨RJxa1e45, "<init>", "()V"⟩
def RJxc12de : String := "java/util/AbstractList"
def TJxc12de : u_T := fun k => match k with
  | _ => ("", "", "", false)
def tyJxc12de : Nat → FieldType := fun k => match k with
  | _ => .int
abbrev wsJxc12de0 : List Cond := u_ws RJxc12de TJxc12de 0
theorem nmJxc12de : ∀ a, a < 0 → ∀ b, b < 0 → a ≠ b → (TJxc12de a).2.1 ≠ (TJxc12de b).2.1 := by decide +kernel
theorem tyJxc12de_ok : ∀ k, k < 0 → parseFieldDescriptor (TJxc12de k).2.2.1 = some (tyJxc12de k) := by decide +kernel
abbrev cJxc12de_init_da8c8 : ByteArray := prog_24_method_1_code
def yJxc12de_init_da8c8 : MethodName := ⟨RJxc12de, "<init>", "()V"⟩
def RJx4a65c : String := "java/util/ArrayList"
def TJx4a65c : u_T := fun k => match k with
  | 0 => ("java/util/AbstractList", "modCount", "I", false)
  | 1 => ("java/util/ArrayList", "elementData", "[Ljava/lang/Object;", false)
  | _ => ("java/util/ArrayList", "size", "I", false)
def tyJx4a65c : Nat → FieldType := fun k => match k with
  | 0 => .int
  | 1 => .array (.object "java/lang/Object")
  | _ => .int
abbrev wsJx4a65c0 : List Cond := u_ws RJx4a65c TJx4a65c 3
theorem nmJx4a65c : ∀ a, a < 3 → ∀ b, b < 3 → a ≠ b → (TJx4a65c a).2.1 ≠ (TJx4a65c b).2.1 := by decide +kernel
theorem tyJx4a65c_ok : ∀ k, k < 3 → parseFieldDescriptor (TJx4a65c k).2.2.1 = some (tyJx4a65c k) := by decide +kernel
abbrev cJx4a65c_init_da8c8 : ByteArray := prog_25_method_2_code
def yJx4a65c_init_da8c8 : MethodName := ⟨RJx4a65c, "<init>", "()V"⟩
abbrev cJx4a65c_grow_92f84 : ByteArray := prog_25_method_6_code
def yJx4a65c_grow_92f84 : MethodName := ⟨RJx4a65c, "grow", "(I)[Ljava/lang/Object;"⟩
abbrev cJx4a65c_grow_d5877 : ByteArray := prog_25_method_7_code
def yJx4a65c_grow_d5877 : MethodName := ⟨RJx4a65c, "grow", "()[Ljava/lang/Object;"⟩
abbrev cJx4a65c_size_8abf5 : ByteArray := prog_25_method_8_code
def yJx4a65c_size_8abf5 : MethodName := ⟨RJx4a65c, "size", "()I"⟩
abbrev cJx4a65c_elementData_915e3 : ByteArray := prog_25_method_18_code
def yJx4a65c_elementData_915e3 : MethodName := ⟨RJx4a65c, "elementData", "(I)Ljava/lang/Object;"⟩
abbrev cJx4a65c_get_915e3 : ByteArray := prog_25_method_20_code
def yJx4a65c_get_915e3 : MethodName := ⟨RJx4a65c, "get", "(I)Ljava/lang/Object;"⟩
abbrev cJx4a65c_add_72be8 : ByteArray := prog_25_method_24_code
def yJx4a65c_add_72be8 : MethodName := ⟨RJx4a65c, "add", "(Ljava/lang/Object;[Ljava/lang/Object;I)V"⟩
abbrev cJx4a65c_add_9ea2d : ByteArray := prog_25_method_25_code
def yJx4a65c_add_9ea2d : MethodName := ⟨RJx4a65c, "add", "(Ljava/lang/Object;)Z"⟩
def RJ7 : String := "java/util/Arrays"
def TJ7 : u_T := fun k => match k with
  | _ => ("", "", "", false)
def tyJ7 : Nat → FieldType := fun k => match k with
  | _ => .int
abbrev wsJ70 : List Cond := u_ws RJ7 TJ7 0
theorem nmJ7 : ∀ a, a < 0 → ∀ b, b < 0 → a ≠ b → (TJ7 a).2.1 ≠ (TJ7 b).2.1 := by decide +kernel
theorem tyJ7_ok : ∀ k, k < 0 → parseFieldDescriptor (TJ7 k).2.2.1 = some (tyJ7 k) := by decide +kernel
abbrev cJ7_copyOf_1904c : ByteArray := prog_26_method_119_code
def yJ7_copyOf_1904c : MethodName := ⟨RJ7, "copyOf", "([Ljava/lang/Object;I)[Ljava/lang/Object;"⟩
abbrev cJ7_copyOf_6403c : ByteArray := prog_26_method_120_code
def yJ7_copyOf_6403c : MethodName := ⟨RJ7, "copyOf", "([Ljava/lang/Object;ILjava/lang/Class;)[Ljava/lang/Object;"⟩
def RJx5ef63 : String := "java/util/Collection"
def TJx5ef63 : u_T := fun k => match k with
  | _ => ("", "", "", false)
def tyJx5ef63 : Nat → FieldType := fun k => match k with
  | _ => .int
abbrev wsJx5ef630 : List Cond := u_ws RJx5ef63 TJx5ef63 0
theorem nmJx5ef63 : ∀ a, a < 0 → ∀ b, b < 0 → a ≠ b → (TJx5ef63 a).2.1 ≠ (TJx5ef63 b).2.1 := by decide +kernel
theorem tyJx5ef63_ok : ∀ k, k < 0 → parseFieldDescriptor (TJx5ef63 k).2.2.1 = some (tyJx5ef63 k) := by decide +kernel
def RJxbd725 : String := "java/util/List"
def TJxbd725 : u_T := fun k => match k with
  | _ => ("", "", "", false)
def tyJxbd725 : Nat → FieldType := fun k => match k with
  | _ => .int
abbrev wsJxbd7250 : List Cond := u_ws RJxbd725 TJxbd725 0
theorem nmJxbd725 : ∀ a, a < 0 → ∀ b, b < 0 → a ≠ b → (TJxbd725 a).2.1 ≠ (TJxbd725 b).2.1 := by decide +kernel
theorem tyJxbd725_ok : ∀ k, k < 0 → parseFieldDescriptor (TJxbd725 k).2.2.1 = some (tyJxbd725 k) := by decide +kernel
def RJ15 : String := "java/util/Objects"
def TJ15 : u_T := fun k => match k with
  | _ => ("", "", "", false)
def tyJ15 : Nat → FieldType := fun k => match k with
  | _ => .int
abbrev wsJ150 : List Cond := u_ws RJ15 TJ15 0
theorem nmJ15 : ∀ a, a < 0 → ∀ b, b < 0 → a ≠ b → (TJ15 a).2.1 ≠ (TJ15 b).2.1 := by decide +kernel
theorem tyJ15_ok : ∀ k, k < 0 → parseFieldDescriptor (TJ15 k).2.2.1 = some (tyJ15 k) := by decide +kernel
abbrev cJ15_checkIndex_7cf53 : ByteArray := prog_30_method_17_code
def yJ15_checkIndex_7cf53 : MethodName := ⟨RJ15, "checkIndex", "(II)I"⟩
def RJxf0a74 : String := "java/util/RandomAccess"
def TJxf0a74 : u_T := fun k => match k with
  | _ => ("", "", "", false)
def tyJxf0a74 : Nat → FieldType := fun k => match k with
  | _ => .int
abbrev wsJxf0a740 : List Cond := u_ws RJxf0a74 TJxf0a74 0
theorem nmJxf0a74 : ∀ a, a < 0 → ∀ b, b < 0 → a ≠ b → (TJxf0a74 a).2.1 ≠ (TJxf0a74 b).2.1 := by decide +kernel
theorem tyJxf0a74_ok : ∀ k, k < 0 → parseFieldDescriptor (TJxf0a74 k).2.2.1 = some (tyJxf0a74 k) := by decide +kernel
def RJxa66e6 : String := "java/util/SequencedCollection"
def TJxa66e6 : u_T := fun k => match k with
  | _ => ("", "", "", false)
def tyJxa66e6 : Nat → FieldType := fun k => match k with
  | _ => .int
abbrev wsJxa66e60 : List Cond := u_ws RJxa66e6 TJxa66e6 0
theorem nmJxa66e6 : ∀ a, a < 0 → ∀ b, b < 0 → a ≠ b → (TJxa66e6 a).2.1 ≠ (TJxa66e6 b).2.1 := by decide +kernel
theorem tyJxa66e6_ok : ∀ k, k < 0 → parseFieldDescriptor (TJxa66e6 k).2.2.1 = some (tyJxa66e6 k) := by decide +kernel
def RJ8 : String := "jdk/internal/util/ArraysSupport"
def TJ8 : u_T := fun k => match k with
  | _ => ("", "", "", false)
def tyJ8 : Nat → FieldType := fun k => match k with
  | _ => .int
abbrev wsJ80 : List Cond := u_ws RJ8 TJ8 0
theorem nmJ8 : ∀ a, a < 0 → ∀ b, b < 0 → a ≠ b → (TJ8 a).2.1 ≠ (TJ8 b).2.1 := by decide +kernel
theorem tyJ8_ok : ∀ k, k < 0 → parseFieldDescriptor (TJ8 k).2.2.1 = some (tyJ8 k) := by decide +kernel
abbrev cJ8_newLength_cabcc : ByteArray := prog_33_method_27_code
def yJ8_newLength_cabcc : MethodName := ⟨RJ8, "newLength", "(III)I"⟩
abbrev cJ8_hugeLength_7cf53 : ByteArray := prog_33_method_28_code
def yJ8_hugeLength_7cf53 : MethodName := ⟨RJ8, "hugeLength", "(II)I"⟩
def RJ3 : String := "jdk/internal/util/Preconditions"
def TJ3 : u_T := fun k => match k with
  | _ => ("", "", "", false)
def tyJ3 : Nat → FieldType := fun k => match k with
  | _ => .int
abbrev wsJ30 : List Cond := u_ws RJ3 TJ3 0
theorem nmJ3 : ∀ a, a < 0 → ∀ b, b < 0 → a ≠ b → (TJ3 a).2.1 ≠ (TJ3 b).2.1 := by decide +kernel
theorem tyJ3_ok : ∀ k, k < 0 → parseFieldDescriptor (TJ3 k).2.2.1 = some (tyJ3 k) := by decide +kernel
abbrev cJ3_checkIndex_8e157 : ByteArray := prog_34_method_11_code
def yJ3_checkIndex_8e157 : MethodName := ⟨RJ3, "checkIndex", "(IILjava/util/function/BiFunction;)I"⟩
def RL : String := "ThumbreelLaw"
abbrev cL_addBook : ByteArray := method_3_code
def yL_addBook : MethodName := ⟨RL, "addBook", "(LThumbreel;[J)I"⟩
abbrev cL_draw : ByteArray := method_4_code
def yL_draw : MethodName := ⟨RL, "draw", "(LThumbreel;IIIII[J)I"⟩
abbrev cL_erase : ByteArray := method_5_code
def yL_erase : MethodName := ⟨RL, "erase", "(LThumbreel;II[J)I"⟩
abbrev cL_move : ByteArray := method_6_code
def yL_move : MethodName := ⟨RL, "move", "(LThumbreel;III[J)I"⟩
abbrev cL_frames : ByteArray := method_7_code
def yL_frames : MethodName := ⟨RL, "frames", "(LThumbreel;I[J)I"⟩
abbrev cL_frameAt : ByteArray := method_8_code
def yL_frameAt : MethodName := ⟨RL, "frameAt", "(LThumbreel;II[J)I"⟩
abbrev cL_order : ByteArray := method_9_code
def yL_order : MethodName := ⟨RL, "order", "(LThumbreel;II[J)I"⟩
abbrev cL_lacking : ByteArray := method_10_code
def yL_lacking : MethodName := ⟨RL, "lacking", "(LThumbreel;I[J)I"⟩
abbrev cL_waits : ByteArray := method_11_code
def yL_waits : MethodName := ⟨RL, "waits", "(LThumbreel;I[J)I"⟩
abbrev cL_setFolds : ByteArray := method_12_code
def yL_setFolds : MethodName := ⟨RL, "setFolds", "(LThumbreel;III)I"⟩
abbrev cL_cellOf : ByteArray := method_13_code
def yL_cellOf : MethodName := ⟨RL, "cellOf", "(LThumbreel;I[J)I"⟩
abbrev cL_placeOf : ByteArray := method_14_code
def yL_placeOf : MethodName := ⟨RL, "placeOf", "(LThumbreel;I[J)I"⟩
abbrev cL_print : ByteArray := method_15_code
def yL_print : MethodName := ⟨RL, "print", "(LThumbreel;I[J)I"⟩
abbrev cL_onSheet : ByteArray := method_16_code
def yL_onSheet : MethodName := ⟨RL, "onSheet", "(LThumbreel;II[J)I"⟩
abbrev cL_cut : ByteArray := method_17_code
def yL_cut : MethodName := ⟨RL, "cut", "(LThumbreel;I[J)I"⟩
abbrev cL_sharpen : ByteArray := method_18_code
def yL_sharpen : MethodName := ⟨RL, "sharpen", "(LThumbreel;I[J)I"⟩
abbrev cL_setTolerance : ByteArray := method_19_code
def yL_setTolerance : MethodName := ⟨RL, "setTolerance", "(LThumbreel;I[J)I"⟩
abbrev cL_bind : ByteArray := method_20_code
def yL_bind : MethodName := ⟨RL, "bind", "(LThumbreel;II[J)I"⟩
abbrev cL_isBound : ByteArray := method_21_code
def yL_isBound : MethodName := ⟨RL, "isBound", "(LThumbreel;II[J)I"⟩
abbrev cL_trim : ByteArray := method_22_code
def yL_trim : MethodName := ⟨RL, "trim", "(LThumbreel;III[J)I"⟩
abbrev cL_leaf : ByteArray := method_23_code
def yL_leaf : MethodName := ⟨RL, "leaf", "(LThumbreel;III[J)I"⟩
abbrev cL_leafByPiles : ByteArray := method_24_code
def yL_leafByPiles : MethodName := ⟨RL, "leafByPiles", "(LThumbreel;III[J)I"⟩
abbrev cL_law : ByteArray := code
def yL_law : MethodName := ⟨RL, "law", "([I)Z"⟩
