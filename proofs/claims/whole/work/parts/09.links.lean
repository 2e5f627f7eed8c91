theorem uin_X0 : ∀ w ∈ u_ws RX0 TX0 6, w ∈ TBL := by
  show ∀ w ∈ ([(Cond.laysFinal "Thumbreel$Book" "Thumbreel$Book" "positions" "[I"), (Cond.laysFinal "Thumbreel$Book" "Thumbreel$Book" "betweens" "[I"), (Cond.laysFinal "Thumbreel$Book" "Thumbreel$Book" "curves" "[I"), (Cond.laysFinal "Thumbreel$Book" "Thumbreel$Book" "row" "[I"), (Cond.lays "Thumbreel$Book" "Thumbreel$Book" "drawings" "I"), (Cond.lays "Thumbreel$Book" "Thumbreel$Book" "length" "I")] : List Cond), w ∈ TBL
  exact List.forall_mem_cons.mpr ⟨q_325, List.forall_mem_cons.mpr ⟨q_327, List.forall_mem_cons.mpr ⟨q_329, List.forall_mem_cons.mpr ⟨q_331, List.forall_mem_cons.mpr ⟨q_333, List.forall_mem_cons.mpr ⟨q_335, fun _ h => absurd h List.not_mem_nil⟩⟩⟩⟩⟩⟩
theorem uin_X1 : ∀ w ∈ u_ws RX1 TX1 3, w ∈ TBL := by
  show ∀ w ∈ ([(Cond.laysFinal "Thumbreel$Copy" "Thumbreel$Copy" "leaves" "[LThumbreel$Leaf;"), (Cond.lays "Thumbreel$Copy" "Thumbreel$Copy" "isBound" "Z"), (Cond.lays "Thumbreel$Copy" "Thumbreel$Copy" "boundLength" "I")] : List Cond), w ∈ TBL
  exact List.forall_mem_cons.mpr ⟨q_565, List.forall_mem_cons.mpr ⟨q_567, List.forall_mem_cons.mpr ⟨q_569, fun _ h => absurd h List.not_mem_nil⟩⟩⟩
theorem uin_X2 : ∀ w ∈ u_ws RX2 TX2 1, w ∈ TBL := by
  show ∀ w ∈ ([(Cond.laysFinal "Thumbreel$Folding" "Thumbreel$Folding" "folds" "[I")] : List Cond), w ∈ TBL
  exact List.forall_mem_cons.mpr ⟨q_166, fun _ h => absurd h List.not_mem_nil⟩
theorem uin_X3 : ∀ w ∈ u_ws RX3 TX3 6, w ∈ TBL := by
  show ∀ w ∈ ([(Cond.laysFinal "Thumbreel$Leaf" "Thumbreel$Leaf" "order" "I"), (Cond.laysFinal "Thumbreel$Leaf" "Thumbreel$Leaf" "copy" "I"), (Cond.laysFinal "Thumbreel$Leaf" "Thumbreel$Leaf" "frame" "I"), (Cond.laysFinal "Thumbreel$Leaf" "Thumbreel$Leaf" "position" "I"), (Cond.laysFinal "Thumbreel$Leaf" "Thumbreel$Leaf" "sheet" "LThumbreel$Sheet;"), (Cond.lays "Thumbreel$Leaf" "Thumbreel$Leaf" "isSpoiled" "Z")] : List Cond), w ∈ TBL
  exact List.forall_mem_cons.mpr ⟨q_755, List.forall_mem_cons.mpr ⟨q_757, List.forall_mem_cons.mpr ⟨q_759, List.forall_mem_cons.mpr ⟨q_761, List.forall_mem_cons.mpr ⟨q_763, List.forall_mem_cons.mpr ⟨q_765, fun _ h => absurd h List.not_mem_nil⟩⟩⟩⟩⟩⟩
theorem uin_X4 : ∀ w ∈ u_ws RX4 TX4 3, w ∈ TBL := by
  show ∀ w ∈ ([(Cond.laysFinal "Thumbreel$Order" "Thumbreel$Order" "number" "I"), (Cond.laysFinal "Thumbreel$Order" "Thumbreel$Order" "book" "LThumbreel$Book;"), (Cond.laysFinal "Thumbreel$Order" "Thumbreel$Order" "copies" "Ljava/util/ArrayList;")] : List Cond), w ∈ TBL
  exact List.forall_mem_cons.mpr ⟨q_578, List.forall_mem_cons.mpr ⟨q_580, List.forall_mem_cons.mpr ⟨q_582, fun _ h => absurd h List.not_mem_nil⟩⟩⟩
theorem uin_X5 : ∀ w ∈ u_ws RX5 TX5 6, w ∈ TBL := by
  show ∀ w ∈ ([(Cond.laysFinal "Thumbreel$Piles" "Thumbreel$Piles" "cells" "[I"), (Cond.laysFinal "Thumbreel$Piles" "Thumbreel$Piles" "heights" "[I"), (Cond.lays "Thumbreel$Piles" "Thumbreel$Piles" "top" "I"), (Cond.lays "Thumbreel$Piles" "Thumbreel$Piles" "left" "I"), (Cond.lays "Thumbreel$Piles" "Thumbreel$Piles" "rows" "I"), (Cond.lays "Thumbreel$Piles" "Thumbreel$Piles" "columns" "I")] : List Cond), w ∈ TBL
  exact List.forall_mem_cons.mpr ⟨q_144, List.forall_mem_cons.mpr ⟨q_146, List.forall_mem_cons.mpr ⟨q_148, List.forall_mem_cons.mpr ⟨q_150, List.forall_mem_cons.mpr ⟨q_152, List.forall_mem_cons.mpr ⟨q_154, fun _ h => absurd h List.not_mem_nil⟩⟩⟩⟩⟩⟩
theorem uin_X6 : ∀ w ∈ u_ws RX6 TX6 4, w ∈ TBL := by
  show ∀ w ∈ ([(Cond.laysFinal "Thumbreel$Sheet" "Thumbreel$Sheet" "cells" "[LThumbreel$Leaf;"), (Cond.laysFinal "Thumbreel$Sheet" "Thumbreel$Sheet" "folding" "LThumbreel$Folding;"), (Cond.lays "Thumbreel$Sheet" "Thumbreel$Sheet" "isWaiting" "Z"), (Cond.lays "Thumbreel$Sheet" "Thumbreel$Sheet" "trimmed" "I")] : List Cond), w ∈ TBL
  exact List.forall_mem_cons.mpr ⟨q_720, List.forall_mem_cons.mpr ⟨q_722, List.forall_mem_cons.mpr ⟨q_724, List.forall_mem_cons.mpr ⟨q_726, fun _ h => absurd h List.not_mem_nil⟩⟩⟩⟩
theorem uin_X7 : ∀ w ∈ u_ws RX7 TX7 9, w ∈ TBL := by
  show ∀ w ∈ ([(Cond.laysFinal "Thumbreel" "Thumbreel" "books" "Ljava/util/ArrayList;"), (Cond.laysFinal "Thumbreel" "Thumbreel" "orders" "Ljava/util/ArrayList;"), (Cond.laysFinal "Thumbreel" "Thumbreel" "sheets" "Ljava/util/ArrayList;"), (Cond.laysFinal "Thumbreel" "Thumbreel" "turns" "[I"), (Cond.laysFinal "Thumbreel" "Thumbreel" "dullness" "[I"), (Cond.laysFinal "Thumbreel" "Thumbreel" "piles" "LThumbreel$Piles;"), (Cond.lays "Thumbreel" "Thumbreel" "folding" "LThumbreel$Folding;"), (Cond.lays "Thumbreel" "Thumbreel" "tolerance" "I"), (Cond.lays "Thumbreel" "Thumbreel" "spoiledLeaves" "I")] : List Cond), w ∈ TBL
  exact List.forall_mem_cons.mpr ⟨q_178, List.forall_mem_cons.mpr ⟨q_180, List.forall_mem_cons.mpr ⟨q_182, List.forall_mem_cons.mpr ⟨q_184, List.forall_mem_cons.mpr ⟨q_186, List.forall_mem_cons.mpr ⟨q_188, List.forall_mem_cons.mpr ⟨q_190, List.forall_mem_cons.mpr ⟨q_192, List.forall_mem_cons.mpr ⟨q_194, fun _ h => absurd h List.not_mem_nil⟩⟩⟩⟩⟩⟩⟩⟩⟩
theorem uin_X8 : ∀ w ∈ u_ws RX8 TX8 24, w ∈ TBL := by
  show ∀ w ∈ ([(Cond.lays "ThumbreelModel" "ThumbreelModel" "books" "I"), (Cond.laysFinal "ThumbreelModel" "ThumbreelModel" "sizes" "[I"), (Cond.laysFinal "ThumbreelModel" "ThumbreelModel" "positions" "[I"), (Cond.laysFinal "ThumbreelModel" "ThumbreelModel" "betweens" "[I"), (Cond.laysFinal "ThumbreelModel" "ThumbreelModel" "curves" "[I"), (Cond.lays "ThumbreelModel" "ThumbreelModel" "orders" "I"), (Cond.laysFinal "ThumbreelModel" "ThumbreelModel" "orderBooks" "[I"), (Cond.laysFinal "ThumbreelModel" "ThumbreelModel" "copies" "[I"), (Cond.laysFinal "ThumbreelModel" "ThumbreelModel" "bound" "[I"), (Cond.laysFinal "ThumbreelModel" "ThumbreelModel" "shown" "[I"), (Cond.laysFinal "ThumbreelModel" "ThumbreelModel" "sheetOf" "[I"), (Cond.laysFinal "ThumbreelModel" "ThumbreelModel" "trims" "[I"), (Cond.laysFinal "ThumbreelModel" "ThumbreelModel" "folds" "[I"), (Cond.laysFinal "ThumbreelModel" "ThumbreelModel" "cells" "[I"), (Cond.lays "ThumbreelModel" "ThumbreelModel" "sheets" "I"), (Cond.laysFinal "ThumbreelModel" "ThumbreelModel" "lies" "[I"), (Cond.laysFinal "ThumbreelModel" "ThumbreelModel" "isWaiting" "[Z"), (Cond.laysFinal "ThumbreelModel" "ThumbreelModel" "dullness" "[I"), (Cond.lays "ThumbreelModel" "ThumbreelModel" "tolerance" "I"), (Cond.lays "ThumbreelModel" "ThumbreelModel" "spoiled" "I"), (Cond.laysFinal "ThumbreelModel" "ThumbreelModel" "ranks" "[I"), (Cond.laysFinal "ThumbreelModel" "ThumbreelModel" "wanted" "[I"), (Cond.lays "ThumbreelModel" "ThumbreelModel" "many" "I"), (Cond.lays "ThumbreelModel" "ThumbreelModel" "thrown" "I")] : List Cond), w ∈ TBL
  exact List.forall_mem_cons.mpr ⟨q_952, List.forall_mem_cons.mpr ⟨q_954, List.forall_mem_cons.mpr ⟨q_956, List.forall_mem_cons.mpr ⟨q_958, List.forall_mem_cons.mpr ⟨q_960, List.forall_mem_cons.mpr ⟨q_962, List.forall_mem_cons.mpr ⟨q_964, List.forall_mem_cons.mpr ⟨q_966, List.forall_mem_cons.mpr ⟨q_968, List.forall_mem_cons.mpr ⟨q_970, List.forall_mem_cons.mpr ⟨q_972, List.forall_mem_cons.mpr ⟨q_974, List.forall_mem_cons.mpr ⟨q_976, List.forall_mem_cons.mpr ⟨q_978, List.forall_mem_cons.mpr ⟨q_980, List.forall_mem_cons.mpr ⟨q_982, List.forall_mem_cons.mpr ⟨q_984, List.forall_mem_cons.mpr ⟨q_986, List.forall_mem_cons.mpr ⟨q_988, List.forall_mem_cons.mpr ⟨q_990, List.forall_mem_cons.mpr ⟨q_992, List.forall_mem_cons.mpr ⟨q_994, List.forall_mem_cons.mpr ⟨q_996, List.forall_mem_cons.mpr ⟨q_998, fun _ h => absurd h List.not_mem_nil⟩⟩⟩⟩⟩⟩⟩⟩⟩⟩⟩⟩⟩⟩⟩⟩⟩⟩⟩⟩⟩⟩⟩⟩
theorem uin_Jx4a65c : ∀ w ∈ u_ws RJx4a65c TJx4a65c 3, w ∈ TBL := by
  show ∀ w ∈ ([(Cond.lays "java/util/ArrayList" "java/util/AbstractList" "modCount" "I"), (Cond.lays "java/util/ArrayList" "java/util/ArrayList" "elementData" "[Ljava/lang/Object;"), (Cond.lays "java/util/ArrayList" "java/util/ArrayList" "size" "I")] : List Cond), w ∈ TBL
  exact List.forall_mem_cons.mpr ⟨q_129, List.forall_mem_cons.mpr ⟨q_125, List.forall_mem_cons.mpr ⟨q_127, fun _ h => absurd h List.not_mem_nil⟩⟩⟩
theorem fl_X7_12 : FL RX7 12 7 224 2 true false := ⟨0, "Thumbreel", RX7, TX7, 9, tyX7, rfl, by decide, q_169, uin_X7, rfl, by decide, rfl, Or.inl rfl, tyX7_ok, nmX7, rfl, fun h => absurd h (by decide), fun h => absurd h (by decide), fun _ => Or.inl ⟨_, rfl⟩⟩
theorem fl_X7_16 : FL RX7 16 7 225 2 true false := ⟨1, "Thumbreel", RX7, TX7, 9, tyX7, rfl, by decide, q_170, uin_X7, rfl, by decide, rfl, Or.inl rfl, tyX7_ok, nmX7, rfl, fun h => absurd h (by decide), fun h => absurd h (by decide), fun _ => Or.inl ⟨_, rfl⟩⟩
theorem fl_X7_19 : FL RX7 19 7 226 2 true false := ⟨2, "Thumbreel", RX7, TX7, 9, tyX7, rfl, by decide, q_171, uin_X7, rfl, by decide, rfl, Or.inl rfl, tyX7_ok, nmX7, rfl, fun h => absurd h (by decide), fun h => absurd h (by decide), fun _ => Or.inl ⟨_, rfl⟩⟩
theorem fl_X7_22 : FL RX7 22 7 227 2 true false := ⟨3, "Thumbreel", RX7, TX7, 9, tyX7, rfl, by decide, q_172, uin_X7, rfl, by decide, rfl, Or.inl rfl, tyX7_ok, nmX7, rfl, fun h => absurd h (by decide), fun h => absurd h (by decide), fun _ => Or.inr ⟨_, rfl⟩⟩
theorem fl_X7_26 : FL RX7 26 7 228 2 true false := ⟨4, "Thumbreel", RX7, TX7, 9, tyX7, rfl, by decide, q_173, uin_X7, rfl, by decide, rfl, Or.inl rfl, tyX7_ok, nmX7, rfl, fun h => absurd h (by decide), fun h => absurd h (by decide), fun _ => Or.inr ⟨_, rfl⟩⟩
theorem fl_X7_32 : FL RX7 32 7 229 2 true false := ⟨5, "Thumbreel", RX7, TX7, 9, tyX7, rfl, by decide, q_174, uin_X7, rfl, by decide, rfl, Or.inl rfl, tyX7_ok, nmX7, rfl, fun h => absurd h (by decide), fun h => absurd h (by decide), fun _ => Or.inl ⟨_, rfl⟩⟩
theorem fl_X7_41 : FL RX7 41 7 230 2 false false := ⟨6, "Thumbreel", RX7, TX7, 9, tyX7, rfl, by decide, q_175, uin_X7, rfl, by decide, rfl, Or.inl rfl, tyX7_ok, nmX7, rfl, fun h => absurd h (by decide), fun h => absurd h (by decide), fun _ => Or.inl ⟨_, rfl⟩⟩
theorem fl_X7_45 : FL RX7 45 7 231 0 false false := ⟨7, "Thumbreel", RX7, TX7, 9, tyX7, rfl, by decide, q_176, uin_X7, rfl, by decide, rfl, Or.inl rfl, tyX7_ok, nmX7, rfl, fun _ => rfl, fun h => absurd h (by decide), fun h => absurd h (by decide)⟩
theorem fl_X7_49 : FL RX7 49 7 232 0 false false := ⟨8, "Thumbreel", RX7, TX7, 9, tyX7, rfl, by decide, q_177, uin_X7, rfl, by decide, rfl, Or.inl rfl, tyX7_ok, nmX7, rfl, fun _ => rfl, fun h => absurd h (by decide), fun h => absurd h (by decide)⟩
theorem fl_X0_9 : FL RX0 9 0 0 2 true false := ⟨0, "Thumbreel$Book", RX0, TX0, 6, tyX0, rfl, by decide, q_316, uin_X0, rfl, by decide, rfl, Or.inl rfl, tyX0_ok, nmX0, rfl, fun h => absurd h (by decide), fun h => absurd h (by decide), fun _ => Or.inr ⟨_, rfl⟩⟩
theorem fl_X0_15 : FL RX0 15 0 1 2 true false := ⟨1, "Thumbreel$Book", RX0, TX0, 6, tyX0, rfl, by decide, q_317, uin_X0, rfl, by decide, rfl, Or.inl rfl, tyX0_ok, nmX0, rfl, fun h => absurd h (by decide), fun h => absurd h (by decide), fun _ => Or.inr ⟨_, rfl⟩⟩
theorem fl_X0_18 : FL RX0 18 0 2 2 true false := ⟨2, "Thumbreel$Book", RX0, TX0, 6, tyX0, rfl, by decide, q_318, uin_X0, rfl, by decide, rfl, Or.inl rfl, tyX0_ok, nmX0, rfl, fun h => absurd h (by decide), fun h => absurd h (by decide), fun _ => Or.inr ⟨_, rfl⟩⟩
theorem fl_X0_21 : FL RX0 21 0 3 2 true false := ⟨3, "Thumbreel$Book", RX0, TX0, 6, tyX0, rfl, by decide, q_319, uin_X0, rfl, by decide, rfl, Or.inl rfl, tyX0_ok, nmX0, rfl, fun h => absurd h (by decide), fun h => absurd h (by decide), fun _ => Or.inr ⟨_, rfl⟩⟩
theorem fl_X0_24 : FL RX0 24 0 4 0 false false := ⟨4, "Thumbreel$Book", RX0, TX0, 6, tyX0, rfl, by decide, q_320, uin_X0, rfl, by decide, rfl, Or.inl rfl, tyX0_ok, nmX0, rfl, fun _ => rfl, fun h => absurd h (by decide), fun h => absurd h (by decide)⟩
theorem fl_X0_28 : FL RX0 28 0 5 0 false false := ⟨5, "Thumbreel$Book", RX0, TX0, 6, tyX0, rfl, by decide, q_322, uin_X0, rfl, by decide, rfl, Or.inl rfl, tyX0_ok, nmX0, rfl, fun _ => rfl, fun h => absurd h (by decide), fun h => absurd h (by decide)⟩
theorem fl_X1_11 : FL RX1 11 1 32 2 true false := ⟨0, "Thumbreel$Copy", RX1, TX1, 3, tyX1, rfl, by decide, q_558, uin_X1, rfl, by decide, rfl, Or.inl rfl, tyX1_ok, nmX1, rfl, fun h => absurd h (by decide), fun h => absurd h (by decide), fun _ => Or.inr ⟨_, rfl⟩⟩
theorem fl_X1_17 : FL RX1 17 1 33 1 false false := ⟨1, "Thumbreel$Copy", RX1, TX1, 3, tyX1, rfl, by decide, q_559, uin_X1, rfl, by decide, rfl, Or.inl rfl, tyX1_ok, nmX1, rfl, fun h => absurd h (by decide), fun _ => rfl, fun h => absurd h (by decide)⟩
theorem fl_X1_21 : FL RX1 21 1 34 0 false false := ⟨2, "Thumbreel$Copy", RX1, TX1, 3, tyX1, rfl, by decide, q_562, uin_X1, rfl, by decide, rfl, Or.inl rfl, tyX1_ok, nmX1, rfl, fun _ => rfl, fun h => absurd h (by decide), fun h => absurd h (by decide)⟩
theorem fl_X2_9 : FL RX2 9 2 64 2 true false := ⟨0, "Thumbreel$Folding", RX2, TX2, 1, tyX2, rfl, by decide, q_164, uin_X2, rfl, by decide, rfl, Or.inl rfl, tyX2_ok, nmX2, rfl, fun h => absurd h (by decide), fun h => absurd h (by decide), fun _ => Or.inr ⟨_, rfl⟩⟩
theorem fl_X3_9 : FL RX3 9 3 101 1 false false := ⟨5, "Thumbreel$Leaf", RX3, TX3, 6, tyX3, rfl, by decide, q_751, uin_X3, rfl, by decide, rfl, Or.inl rfl, tyX3_ok, nmX3, rfl, fun h => absurd h (by decide), fun _ => rfl, fun h => absurd h (by decide)⟩
theorem fl_X3_15 : FL RX3 15 3 96 0 true false := ⟨0, "Thumbreel$Leaf", RX3, TX3, 6, tyX3, rfl, by decide, q_741, uin_X3, rfl, by decide, rfl, Or.inl rfl, tyX3_ok, nmX3, rfl, fun _ => rfl, fun h => absurd h (by decide), fun h => absurd h (by decide)⟩
theorem fl_X3_19 : FL RX3 19 3 97 0 true false := ⟨1, "Thumbreel$Leaf", RX3, TX3, 6, tyX3, rfl, by decide, q_742, uin_X3, rfl, by decide, rfl, Or.inl rfl, tyX3_ok, nmX3, rfl, fun _ => rfl, fun h => absurd h (by decide), fun h => absurd h (by decide)⟩
theorem fl_X3_22 : FL RX3 22 3 98 0 true false := ⟨2, "Thumbreel$Leaf", RX3, TX3, 6, tyX3, rfl, by decide, q_743, uin_X3, rfl, by decide, rfl, Or.inl rfl, tyX3_ok, nmX3, rfl, fun _ => rfl, fun h => absurd h (by decide), fun h => absurd h (by decide)⟩
theorem fl_X3_25 : FL RX3 25 3 99 0 true false := ⟨3, "Thumbreel$Leaf", RX3, TX3, 6, tyX3, rfl, by decide, q_745, uin_X3, rfl, by decide, rfl, Or.inl rfl, tyX3_ok, nmX3, rfl, fun _ => rfl, fun h => absurd h (by decide), fun h => absurd h (by decide)⟩
theorem fl_X3_28 : FL RX3 28 3 100 2 true false := ⟨4, "Thumbreel$Leaf", RX3, TX3, 6, tyX3, rfl, by decide, q_748, uin_X3, rfl, by decide, rfl, Or.inl rfl, tyX3_ok, nmX3, rfl, fun h => absurd h (by decide), fun h => absurd h (by decide), fun _ => Or.inl ⟨_, rfl⟩⟩
theorem fl_X4_12 : FL RX4 12 4 130 2 true false := ⟨2, "Thumbreel$Order", RX4, TX4, 3, tyX4, rfl, by decide, q_576, uin_X4, rfl, by decide, rfl, Or.inl rfl, tyX4_ok, nmX4, rfl, fun h => absurd h (by decide), fun h => absurd h (by decide), fun _ => Or.inl ⟨_, rfl⟩⟩
theorem fl_X4_18 : FL RX4 18 4 128 0 true false := ⟨0, "Thumbreel$Order", RX4, TX4, 3, tyX4, rfl, by decide, q_573, uin_X4, rfl, by decide, rfl, Or.inl rfl, tyX4_ok, nmX4, rfl, fun _ => rfl, fun h => absurd h (by decide), fun h => absurd h (by decide)⟩
theorem fl_X4_22 : FL RX4 22 4 129 2 true false := ⟨1, "Thumbreel$Order", RX4, TX4, 3, tyX4, rfl, by decide, q_574, uin_X4, rfl, by decide, rfl, Or.inl rfl, tyX4_ok, nmX4, rfl, fun h => absurd h (by decide), fun h => absurd h (by decide), fun _ => Or.inl ⟨_, rfl⟩⟩
theorem fl_X5_9 : FL RX5 9 5 160 2 true false := ⟨0, "Thumbreel$Piles", RX5, TX5, 6, tyX5, rfl, by decide, q_138, uin_X5, rfl, by decide, rfl, Or.inl rfl, tyX5_ok, nmX5, rfl, fun h => absurd h (by decide), fun h => absurd h (by decide), fun _ => Or.inr ⟨_, rfl⟩⟩
theorem fl_X5_15 : FL RX5 15 5 161 2 true false := ⟨1, "Thumbreel$Piles", RX5, TX5, 6, tyX5, rfl, by decide, q_139, uin_X5, rfl, by decide, rfl, Or.inl rfl, tyX5_ok, nmX5, rfl, fun h => absurd h (by decide), fun h => absurd h (by decide), fun _ => Or.inr ⟨_, rfl⟩⟩
theorem fl_X5_18 : FL RX5 18 5 162 0 false false := ⟨2, "Thumbreel$Piles", RX5, TX5, 6, tyX5, rfl, by decide, q_140, uin_X5, rfl, by decide, rfl, Or.inl rfl, tyX5_ok, nmX5, rfl, fun _ => rfl, fun h => absurd h (by decide), fun h => absurd h (by decide)⟩
theorem fl_X5_22 : FL RX5 22 5 163 0 false false := ⟨3, "Thumbreel$Piles", RX5, TX5, 6, tyX5, rfl, by decide, q_141, uin_X5, rfl, by decide, rfl, Or.inl rfl, tyX5_ok, nmX5, rfl, fun _ => rfl, fun h => absurd h (by decide), fun h => absurd h (by decide)⟩
theorem fl_X5_25 : FL RX5 25 5 164 0 false false := ⟨4, "Thumbreel$Piles", RX5, TX5, 6, tyX5, rfl, by decide, q_142, uin_X5, rfl, by decide, rfl, Or.inl rfl, tyX5_ok, nmX5, rfl, fun _ => rfl, fun h => absurd h (by decide), fun h => absurd h (by decide)⟩
theorem fl_X5_28 : FL RX5 28 5 165 0 false false := ⟨5, "Thumbreel$Piles", RX5, TX5, 6, tyX5, rfl, by decide, q_143, uin_X5, rfl, by decide, rfl, Or.inl rfl, tyX5_ok, nmX5, rfl, fun _ => rfl, fun h => absurd h (by decide), fun h => absurd h (by decide)⟩
theorem fl_X6_11 : FL RX6 11 6 192 2 true false := ⟨0, "Thumbreel$Sheet", RX6, TX6, 4, tyX6, rfl, by decide, q_712, uin_X6, rfl, by decide, rfl, Or.inl rfl, tyX6_ok, nmX6, rfl, fun h => absurd h (by decide), fun h => absurd h (by decide), fun _ => Or.inr ⟨_, rfl⟩⟩
theorem fl_X6_17 : FL RX6 17 6 194 1 false false := ⟨2, "Thumbreel$Sheet", RX6, TX6, 4, tyX6, rfl, by decide, q_715, uin_X6, rfl, by decide, rfl, Or.inl rfl, tyX6_ok, nmX6, rfl, fun h => absurd h (by decide), fun _ => rfl, fun h => absurd h (by decide)⟩
theorem fl_X6_21 : FL RX6 21 6 195 0 false false := ⟨3, "Thumbreel$Sheet", RX6, TX6, 4, tyX6, rfl, by decide, q_717, uin_X6, rfl, by decide, rfl, Or.inl rfl, tyX6_ok, nmX6, rfl, fun _ => rfl, fun h => absurd h (by decide), fun h => absurd h (by decide)⟩
theorem fl_X6_25 : FL RX6 25 6 193 2 true false := ⟨1, "Thumbreel$Sheet", RX6, TX6, 4, tyX6, rfl, by decide, q_713, uin_X6, rfl, by decide, rfl, Or.inl rfl, tyX6_ok, nmX6, rfl, fun h => absurd h (by decide), fun h => absurd h (by decide), fun _ => Or.inl ⟨_, rfl⟩⟩
theorem fl_X8_7 : FL RX8 7 8 257 2 true false := ⟨1, "ThumbreelModel", RX8, TX8, 24, tyX8, rfl, by decide, q_929, uin_X8, rfl, by decide, rfl, Or.inl rfl, tyX8_ok, nmX8, rfl, fun h => absurd h (by decide), fun h => absurd h (by decide), fun _ => Or.inr ⟨_, rfl⟩⟩
theorem fl_X8_13 : FL RX8 13 8 258 2 true false := ⟨2, "ThumbreelModel", RX8, TX8, 24, tyX8, rfl, by decide, q_930, uin_X8, rfl, by decide, rfl, Or.inl rfl, tyX8_ok, nmX8, rfl, fun h => absurd h (by decide), fun h => absurd h (by decide), fun _ => Or.inr ⟨_, rfl⟩⟩
theorem fl_X8_16 : FL RX8 16 8 259 2 true false := ⟨3, "ThumbreelModel", RX8, TX8, 24, tyX8, rfl, by decide, q_931, uin_X8, rfl, by decide, rfl, Or.inl rfl, tyX8_ok, nmX8, rfl, fun h => absurd h (by decide), fun h => absurd h (by decide), fun _ => Or.inr ⟨_, rfl⟩⟩
theorem fl_X8_19 : FL RX8 19 8 260 2 true false := ⟨4, "ThumbreelModel", RX8, TX8, 24, tyX8, rfl, by decide, q_932, uin_X8, rfl, by decide, rfl, Or.inl rfl, tyX8_ok, nmX8, rfl, fun h => absurd h (by decide), fun h => absurd h (by decide), fun _ => Or.inr ⟨_, rfl⟩⟩
theorem fl_X8_22 : FL RX8 22 8 262 2 true false := ⟨6, "ThumbreelModel", RX8, TX8, 24, tyX8, rfl, by decide, q_934, uin_X8, rfl, by decide, rfl, Or.inl rfl, tyX8_ok, nmX8, rfl, fun h => absurd h (by decide), fun h => absurd h (by decide), fun _ => Or.inr ⟨_, rfl⟩⟩
theorem fl_X8_25 : FL RX8 25 8 263 2 true false := ⟨7, "ThumbreelModel", RX8, TX8, 24, tyX8, rfl, by decide, q_935, uin_X8, rfl, by decide, rfl, Or.inl rfl, tyX8_ok, nmX8, rfl, fun h => absurd h (by decide), fun h => absurd h (by decide), fun _ => Or.inr ⟨_, rfl⟩⟩
theorem fl_X8_28 : FL RX8 28 8 264 2 true false := ⟨8, "ThumbreelModel", RX8, TX8, 24, tyX8, rfl, by decide, q_936, uin_X8, rfl, by decide, rfl, Or.inl rfl, tyX8_ok, nmX8, rfl, fun h => absurd h (by decide), fun h => absurd h (by decide), fun _ => Or.inr ⟨_, rfl⟩⟩
theorem fl_X8_31 : FL RX8 31 8 265 2 true false := ⟨9, "ThumbreelModel", RX8, TX8, 24, tyX8, rfl, by decide, q_937, uin_X8, rfl, by decide, rfl, Or.inl rfl, tyX8_ok, nmX8, rfl, fun h => absurd h (by decide), fun h => absurd h (by decide), fun _ => Or.inr ⟨_, rfl⟩⟩
theorem fl_X8_34 : FL RX8 34 8 266 2 true false := ⟨10, "ThumbreelModel", RX8, TX8, 24, tyX8, rfl, by decide, q_938, uin_X8, rfl, by decide, rfl, Or.inl rfl, tyX8_ok, nmX8, rfl, fun h => absurd h (by decide), fun h => absurd h (by decide), fun _ => Or.inr ⟨_, rfl⟩⟩
theorem fl_X8_37 : FL RX8 37 8 267 2 true false := ⟨11, "ThumbreelModel", RX8, TX8, 24, tyX8, rfl, by decide, q_939, uin_X8, rfl, by decide, rfl, Or.inl rfl, tyX8_ok, nmX8, rfl, fun h => absurd h (by decide), fun h => absurd h (by decide), fun _ => Or.inr ⟨_, rfl⟩⟩
theorem fl_X8_40 : FL RX8 40 8 268 2 true false := ⟨12, "ThumbreelModel", RX8, TX8, 24, tyX8, rfl, by decide, q_940, uin_X8, rfl, by decide, rfl, Or.inl rfl, tyX8_ok, nmX8, rfl, fun h => absurd h (by decide), fun h => absurd h (by decide), fun _ => Or.inr ⟨_, rfl⟩⟩
theorem fl_X8_43 : FL RX8 43 8 269 2 true false := ⟨13, "ThumbreelModel", RX8, TX8, 24, tyX8, rfl, by decide, q_941, uin_X8, rfl, by decide, rfl, Or.inl rfl, tyX8_ok, nmX8, rfl, fun h => absurd h (by decide), fun h => absurd h (by decide), fun _ => Or.inr ⟨_, rfl⟩⟩
theorem fl_X8_46 : FL RX8 46 8 271 2 true false := ⟨15, "ThumbreelModel", RX8, TX8, 24, tyX8, rfl, by decide, q_943, uin_X8, rfl, by decide, rfl, Or.inl rfl, tyX8_ok, nmX8, rfl, fun h => absurd h (by decide), fun h => absurd h (by decide), fun _ => Or.inr ⟨_, rfl⟩⟩
theorem fl_X8_49 : FL RX8 49 8 272 2 true false := ⟨16, "ThumbreelModel", RX8, TX8, 24, tyX8, rfl, by decide, q_944, uin_X8, rfl, by decide, rfl, Or.inl rfl, tyX8_ok, nmX8, rfl, fun h => absurd h (by decide), fun h => absurd h (by decide), fun _ => Or.inr ⟨_, rfl⟩⟩
theorem fl_X8_53 : FL RX8 53 8 273 2 true false := ⟨17, "ThumbreelModel", RX8, TX8, 24, tyX8, rfl, by decide, q_945, uin_X8, rfl, by decide, rfl, Or.inl rfl, tyX8_ok, nmX8, rfl, fun h => absurd h (by decide), fun h => absurd h (by decide), fun _ => Or.inr ⟨_, rfl⟩⟩
theorem fl_X8_56 : FL RX8 56 8 274 0 false false := ⟨18, "ThumbreelModel", RX8, TX8, 24, tyX8, rfl, by decide, q_946, uin_X8, rfl, by decide, rfl, Or.inl rfl, tyX8_ok, nmX8, rfl, fun _ => rfl, fun h => absurd h (by decide), fun h => absurd h (by decide)⟩
theorem fl_X8_60 : FL RX8 60 8 276 2 true false := ⟨20, "ThumbreelModel", RX8, TX8, 24, tyX8, rfl, by decide, q_948, uin_X8, rfl, by decide, rfl, Or.inl rfl, tyX8_ok, nmX8, rfl, fun h => absurd h (by decide), fun h => absurd h (by decide), fun _ => Or.inr ⟨_, rfl⟩⟩
theorem fl_X8_63 : FL RX8 63 8 277 2 true false := ⟨21, "ThumbreelModel", RX8, TX8, 24, tyX8, rfl, by decide, q_949, uin_X8, rfl, by decide, rfl, Or.inl rfl, tyX8_ok, nmX8, rfl, fun h => absurd h (by decide), fun h => absurd h (by decide), fun _ => Or.inr ⟨_, rfl⟩⟩
theorem fl_X8_69 : FL RX8 69 8 279 0 false false := ⟨23, "ThumbreelModel", RX8, TX8, 24, tyX8, rfl, by decide, q_951, uin_X8, rfl, by decide, rfl, Or.inl rfl, tyX8_ok, nmX8, rfl, fun _ => rfl, fun h => absurd h (by decide), fun h => absurd h (by decide)⟩
theorem fl_X8_72 : FL RX8 72 8 256 0 false false := ⟨0, "ThumbreelModel", RX8, TX8, 24, tyX8, rfl, by decide, q_928, uin_X8, rfl, by decide, rfl, Or.inl rfl, tyX8_ok, nmX8, rfl, fun _ => rfl, fun h => absurd h (by decide), fun h => absurd h (by decide)⟩
theorem fl_X8_79 : FL RX8 79 8 261 0 false false := ⟨5, "ThumbreelModel", RX8, TX8, 24, tyX8, rfl, by decide, q_933, uin_X8, rfl, by decide, rfl, Or.inl rfl, tyX8_ok, nmX8, rfl, fun _ => rfl, fun h => absurd h (by decide), fun h => absurd h (by decide)⟩
theorem fl_X8_90 : FL RX8 90 8 275 0 false false := ⟨19, "ThumbreelModel", RX8, TX8, 24, tyX8, rfl, by decide, q_947, uin_X8, rfl, by decide, rfl, Or.inl rfl, tyX8_ok, nmX8, rfl, fun _ => rfl, fun h => absurd h (by decide), fun h => absurd h (by decide)⟩
theorem fl_X8_128 : FL RX8 128 8 278 0 false false := ⟨22, "ThumbreelModel", RX8, TX8, 24, tyX8, rfl, by decide, q_950, uin_X8, rfl, by decide, rfl, Or.inl rfl, tyX8_ok, nmX8, rfl, fun _ => rfl, fun h => absurd h (by decide), fun h => absurd h (by decide)⟩
theorem fl_X8_143 : FL RX8 143 8 270 0 false false := ⟨14, "ThumbreelModel", RX8, TX8, 24, tyX8, rfl, by decide, q_942, uin_X8, rfl, by decide, rfl, Or.inl rfl, tyX8_ok, nmX8, rfl, fun _ => rfl, fun h => absurd h (by decide), fun h => absurd h (by decide)⟩
theorem fl_Jxc12de_7 : FL RJxc12de 7 9 288 0 false false := ⟨0, "java/util/AbstractList", RJx4a65c, TJx4a65c, 3, tyJx4a65c, rfl, by decide, q_122, uin_Jx4a65c, rfl, by decide, rfl, Or.inl rfl, tyJx4a65c_ok, nmJx4a65c, rfl, fun _ => rfl, fun h => absurd h (by decide), fun h => absurd h (by decide)⟩
theorem fl_Jx4a65c_9 : FL RJx4a65c 9 9 289 2 false false := ⟨1, "java/util/ArrayList", RJx4a65c, TJx4a65c, 3, tyJx4a65c, rfl, by decide, q_120, uin_Jx4a65c, rfl, by decide, rfl, Or.inl rfl, tyJx4a65c_ok, nmJx4a65c, rfl, fun h => absurd h (by decide), fun h => absurd h (by decide), fun _ => Or.inr ⟨_, rfl⟩⟩
theorem fl_Jx4a65c_48 : FL RJx4a65c 48 9 290 0 false false := ⟨2, "java/util/ArrayList", RJx4a65c, TJx4a65c, 3, tyJx4a65c, rfl, by decide, q_121, uin_Jx4a65c, rfl, by decide, rfl, Or.inl rfl, tyJx4a65c_ok, nmJx4a65c, rfl, fun _ => rfl, fun h => absurd h (by decide), fun h => absurd h (by decide)⟩
theorem fl_Jx4a65c_63 : FL RJx4a65c 63 9 288 0 false false := ⟨0, "java/util/ArrayList", RJx4a65c, TJx4a65c, 3, tyJx4a65c, rfl, by decide, q_123, uin_Jx4a65c, rfl, by decide, rfl, Or.inr q_124, tyJx4a65c_ok, nmJx4a65c, rfl, fun _ => rfl, fun h => absurd h (by decide), fun h => absurd h (by decide)⟩
theorem fl_X7_74 : FL RX7 74 0 4 0 false true := ⟨4, "Thumbreel$Book", RX0, TX0, 6, tyX0, rfl, by decide, ⟨"Thumbreel", q_321⟩, uin_X0, rfl, by decide, rfl, Or.inl rfl, tyX0_ok, nmX0, rfl, fun _ => rfl, fun h => absurd h (by decide), fun h => absurd h (by decide)⟩
theorem fl_X7_106 : FL RX7 106 0 5 0 false true := ⟨5, "Thumbreel$Book", RX0, TX0, 6, tyX0, rfl, by decide, ⟨"Thumbreel", q_324⟩, uin_X0, rfl, by decide, rfl, Or.inl rfl, tyX0_ok, nmX0, rfl, fun _ => rfl, fun h => absurd h (by decide), fun h => absurd h (by decide)⟩
theorem fl_X7_176 : FL RX7 176 6 194 1 false true := ⟨2, "Thumbreel$Sheet", RX6, TX6, 4, tyX6, rfl, by decide, ⟨"Thumbreel", q_716⟩, uin_X6, rfl, by decide, rfl, Or.inl rfl, tyX6_ok, nmX6, rfl, fun h => absurd h (by decide), fun _ => rfl, fun h => absurd h (by decide)⟩
theorem fl_X7_210 : FL RX7 210 4 129 2 true true := ⟨1, "Thumbreel$Order", RX4, TX4, 3, tyX4, rfl, by decide, ⟨"Thumbreel", q_575⟩, uin_X4, rfl, by decide, rfl, Or.inl rfl, tyX4_ok, nmX4, rfl, fun h => absurd h (by decide), fun h => absurd h (by decide), fun _ => Or.inl ⟨_, rfl⟩⟩
theorem fl_X7_214 : FL RX7 214 1 33 1 false true := ⟨1, "Thumbreel$Copy", RX1, TX1, 3, tyX1, rfl, by decide, ⟨"Thumbreel", q_561⟩, uin_X1, rfl, by decide, rfl, Or.inl rfl, tyX1_ok, nmX1, rfl, fun h => absurd h (by decide), fun _ => rfl, fun h => absurd h (by decide)⟩
theorem fl_X7_231 : FL RX7 231 1 34 0 false true := ⟨2, "Thumbreel$Copy", RX1, TX1, 3, tyX1, rfl, by decide, ⟨"Thumbreel", q_564⟩, uin_X1, rfl, by decide, rfl, Or.inl rfl, tyX1_ok, nmX1, rfl, fun _ => rfl, fun h => absurd h (by decide), fun h => absurd h (by decide)⟩
theorem fl_X7_238 : FL RX7 238 3 100 2 true true := ⟨4, "Thumbreel$Leaf", RX3, TX3, 6, tyX3, rfl, by decide, ⟨"Thumbreel", q_750⟩, uin_X3, rfl, by decide, rfl, Or.inl rfl, tyX3_ok, nmX3, rfl, fun h => absurd h (by decide), fun h => absurd h (by decide), fun _ => Or.inl ⟨_, rfl⟩⟩
theorem fl_X7_242 : FL RX7 242 6 195 0 false true := ⟨3, "Thumbreel$Sheet", RX6, TX6, 4, tyX6, rfl, by decide, ⟨"Thumbreel", q_719⟩, uin_X6, rfl, by decide, rfl, Or.inl rfl, tyX6_ok, nmX6, rfl, fun _ => rfl, fun h => absurd h (by decide), fun h => absurd h (by decide)⟩
theorem fl_X7_245 : FL RX7 245 3 99 0 true true := ⟨3, "Thumbreel$Leaf", RX3, TX3, 6, tyX3, rfl, by decide, ⟨"Thumbreel", q_747⟩, uin_X3, rfl, by decide, rfl, Or.inl rfl, tyX3_ok, nmX3, rfl, fun _ => rfl, fun h => absurd h (by decide), fun h => absurd h (by decide)⟩
theorem fl_X7_263 : FL RX7 263 4 130 2 true true := ⟨2, "Thumbreel$Order", RX4, TX4, 3, tyX4, rfl, by decide, ⟨"Thumbreel", q_577⟩, uin_X4, rfl, by decide, rfl, Or.inl rfl, tyX4_ok, nmX4, rfl, fun h => absurd h (by decide), fun h => absurd h (by decide), fun _ => Or.inl ⟨_, rfl⟩⟩
theorem fl_X7_277 : FL RX7 277 6 193 2 true true := ⟨1, "Thumbreel$Sheet", RX6, TX6, 4, tyX6, rfl, by decide, ⟨"Thumbreel", q_714⟩, uin_X6, rfl, by decide, rfl, Or.inl rfl, tyX6_ok, nmX6, rfl, fun h => absurd h (by decide), fun h => absurd h (by decide), fun _ => Or.inl ⟨_, rfl⟩⟩
theorem fl_X7_278 : FL RX7 278 3 101 1 false true := ⟨5, "Thumbreel$Leaf", RX3, TX3, 6, tyX3, rfl, by decide, ⟨"Thumbreel", q_754⟩, uin_X3, rfl, by decide, rfl, Or.inl rfl, tyX3_ok, nmX3, rfl, fun h => absurd h (by decide), fun _ => rfl, fun h => absurd h (by decide)⟩
theorem fl_X1_25 : FL RX1 25 3 98 0 true true := ⟨2, "Thumbreel$Leaf", RX3, TX3, 6, tyX3, rfl, by decide, ⟨"Thumbreel", q_744⟩, uin_X3, rfl, by decide, rfl, Or.inl rfl, tyX3_ok, nmX3, rfl, fun _ => rfl, fun h => absurd h (by decide), fun h => absurd h (by decide)⟩
theorem fl_X1_36 : FL RX1 36 3 100 2 true true := ⟨4, "Thumbreel$Leaf", RX3, TX3, 6, tyX3, rfl, by decide, ⟨"Thumbreel", q_749⟩, uin_X3, rfl, by decide, rfl, Or.inl rfl, tyX3_ok, nmX3, rfl, fun h => absurd h (by decide), fun h => absurd h (by decide), fun _ => Or.inl ⟨_, rfl⟩⟩
theorem fl_X1_46 : FL RX1 46 6 195 0 false true := ⟨3, "Thumbreel$Sheet", RX6, TX6, 4, tyX6, rfl, by decide, ⟨"Thumbreel", q_718⟩, uin_X6, rfl, by decide, rfl, Or.inl rfl, tyX6_ok, nmX6, rfl, fun _ => rfl, fun h => absurd h (by decide), fun h => absurd h (by decide)⟩
theorem fl_X1_59 : FL RX1 59 3 99 0 true true := ⟨3, "Thumbreel$Leaf", RX3, TX3, 6, tyX3, rfl, by decide, ⟨"Thumbreel", q_746⟩, uin_X3, rfl, by decide, rfl, Or.inl rfl, tyX3_ok, nmX3, rfl, fun _ => rfl, fun h => absurd h (by decide), fun h => absurd h (by decide)⟩
theorem fl_X1_68 : FL RX1 68 3 101 1 false true := ⟨5, "Thumbreel$Leaf", RX3, TX3, 6, tyX3, rfl, by decide, ⟨"Thumbreel", q_753⟩, uin_X3, rfl, by decide, rfl, Or.inl rfl, tyX3_ok, nmX3, rfl, fun h => absurd h (by decide), fun _ => rfl, fun h => absurd h (by decide)⟩
theorem fl_X4_33 : FL RX4 33 0 5 0 false true := ⟨5, "Thumbreel$Book", RX0, TX0, 6, tyX0, rfl, by decide, ⟨"Thumbreel", q_323⟩, uin_X0, rfl, by decide, rfl, Or.inl rfl, tyX0_ok, nmX0, rfl, fun _ => rfl, fun h => absurd h (by decide), fun h => absurd h (by decide)⟩
theorem fl_X4_38 : FL RX4 38 1 33 1 false true := ⟨1, "Thumbreel$Copy", RX1, TX1, 3, tyX1, rfl, by decide, ⟨"Thumbreel", q_560⟩, uin_X1, rfl, by decide, rfl, Or.inl rfl, tyX1_ok, nmX1, rfl, fun h => absurd h (by decide), fun _ => rfl, fun h => absurd h (by decide)⟩
theorem fl_X4_42 : FL RX4 42 1 34 0 false true := ⟨2, "Thumbreel$Copy", RX1, TX1, 3, tyX1, rfl, by decide, ⟨"Thumbreel", q_563⟩, uin_X1, rfl, by decide, rfl, Or.inl rfl, tyX1_ok, nmX1, rfl, fun _ => rfl, fun h => absurd h (by decide), fun h => absurd h (by decide)⟩
theorem fl_X5_34 : FL RX5 34 2 64 2 true true := ⟨0, "Thumbreel$Folding", RX2, TX2, 1, tyX2, rfl, by decide, ⟨"Thumbreel", q_165⟩, uin_X2, rfl, by decide, rfl, Or.inl rfl, tyX2_ok, nmX2, rfl, fun h => absurd h (by decide), fun h => absurd h (by decide), fun _ => Or.inr ⟨_, rfl⟩⟩
theorem fl_X6_35 : FL RX6 35 3 101 1 false true := ⟨5, "Thumbreel$Leaf", RX3, TX3, 6, tyX3, rfl, by decide, ⟨"Thumbreel", q_752⟩, uin_X3, rfl, by decide, rfl, Or.inl rfl, tyX3_ok, nmX3, rfl, fun h => absurd h (by decide), fun _ => rfl, fun h => absurd h (by decide)⟩
theorem nw_X7_9 : NW RX7 9 9 3 := ⟨RJx4a65c, TJx4a65c, tyJx4a65c, by decide, q_106, q_107, q_76, uin_Jx4a65c, tyJx4a65c_ok, rfl, by decide +kernel⟩
theorem nw_X7_29 : NW RX7 29 5 6 := ⟨RX5, TX5, tyX5, by decide, q_132, q_133, q_77, uin_X5, tyX5_ok, rfl, by decide +kernel⟩
theorem nw_X7_36 : NW RX7 36 2 1 := ⟨RX2, TX2, tyX2, by decide, q_158, q_159, q_78, uin_X2, tyX2_ok, rfl, by decide +kernel⟩
theorem nw_X7_63 : NW RX7 63 0 6 := ⟨RX0, TX0, tyX0, by decide, q_310, q_311, q_84, uin_X0, tyX0_ok, rfl, by decide +kernel⟩
theorem nw_X7_115 : NW RX7 115 4 3 := ⟨RX4, TX4, tyX4, by decide, q_479, q_483, q_93, uin_X4, tyX4_ok, rfl, by decide +kernel⟩
theorem nw_X7_174 : NW RX7 174 6 4 := ⟨RX6, TX6, tyX6, by decide, q_219, q_227, q_95, uin_X6, tyX6_ok, rfl, by decide +kernel⟩
theorem nw_X7_215 : NW RX7 215 1 3 := ⟨RX1, TX1, tyX1, by decide, q_849, q_491, q_94, uin_X1, tyX1_ok, rfl, by decide +kernel⟩
theorem nw_X1_9 : NW RX1 9 3 6 := ⟨RX3, TX3, tyX3, by decide, q_556, q_735, q_96, uin_X3, tyX3_ok, rfl, by decide +kernel⟩
theorem nw_X4_9 : NW RX4 9 9 3 := ⟨RJx4a65c, TJx4a65c, tyJx4a65c, by decide, q_550, q_107, q_76, uin_Jx4a65c, tyJx4a65c_ok, rfl, by decide +kernel⟩
theorem nw_X4_26 : NW RX4 26 1 3 := ⟨RX1, TX1, tyX1, by decide, q_487, q_491, q_94, uin_X1, tyX1_ok, rfl, by decide +kernel⟩
theorem nw_X4_65 : NW RX4 65 3 6 := ⟨RX3, TX3, tyX3, by decide, q_734, q_735, q_96, uin_X3, tyX3_ok, rfl, by decide +kernel⟩
theorem nw_X6_9 : NW RX6 9 3 6 := ⟨RX3, TX3, tyX3, by decide, q_711, q_735, q_96, uin_X3, tyX3_ok, rfl, by decide +kernel⟩
theorem nw_L_8 : NW RL 8 7 9 := ⟨RX7, TX7, tyX7, by decide, q_98, q_99, q_73, uin_X7, tyX7_ok, rfl, by decide +kernel⟩
theorem nw_L_91 : NW RL 91 8 24 := ⟨RX8, TX8, tyX8, by decide, q_914, q_915, q_79, uin_X8, tyX8_ok, rfl, by decide +kernel⟩
theorem cs_X7_init : CS yX7_init cX7_init 1 none 0 := ⟨q_102, q_73, ⟨by decide, by decide⟩, by decide +kernel⟩
theorem cs_X7_addBook : CS yX7_addBook cX7_addBook 1 (some FieldType.int) 0 := ⟨q_240, q_73, ⟨by decide, by decide⟩, by decide +kernel⟩
theorem cs_X7_bind : CS yX7_bind cX7_bind 7 (some FieldType.int) 2 := ⟨q_845, q_73, ⟨by decide, by decide⟩, by decide +kernel⟩
theorem cs_X7_bookNumbered : CS yX7_bookNumbered cX7_bookNumbered 2 (some (FieldType.object "Thumbreel$Book")) 1 := ⟨q_411, q_73, ⟨by decide, by decide⟩, by decide +kernel⟩
theorem cs_X7_cellOf : CS yX7_cellOf cX7_cellOf 2 (some FieldType.int) 1 := ⟨q_643, q_73, ⟨by decide, by decide⟩, by decide +kernel⟩
theorem cs_X7_checkIndex : CS yX7_checkIndex cX7_checkIndex 2 none 2 := ⟨q_414, q_73, ⟨by decide, by decide⟩, by decide +kernel⟩
theorem cs_X7_checkRange : CS yX7_checkRange cX7_checkRange 3 none 3 := ⟨q_434, q_73, ⟨by decide, by decide⟩, by decide +kernel⟩
theorem cs_X7_copyNumbered : CS yX7_copyNumbered cX7_copyNumbered 2 (some (FieldType.object "Thumbreel$Copy")) 2 := ⟨q_848, q_73, ⟨by decide, by decide⟩, by decide +kernel⟩
theorem cs_X7_countAllLacking : CS yX7_countAllLacking cX7_countAllLacking 3 (some FieldType.int) 0 := ⟨q_696, q_73, ⟨by decide, by decide⟩, by decide +kernel⟩
theorem cs_X7_cut : CS yX7_cut cX7_cut 4 (some FieldType.int) 1 := ⟨q_815, q_73, ⟨by decide, by decide⟩, by decide +kernel⟩
theorem cs_X7_discard : CS yX7_discard cX7_discard 4 (some FieldType.int) 0 := ⟨q_223, q_73, ⟨by decide, by decide⟩, by decide +kernel⟩
theorem cs_X7_draw : CS yX7_draw cX7_draw 7 (some FieldType.int) 5 := ⟨q_407, q_73, ⟨by decide, by decide⟩, by decide +kernel⟩
theorem cs_X7_erase : CS yX7_erase cX7_erase 4 (some FieldType.int) 2 := ⟨q_507, q_73, ⟨by decide, by decide⟩, by decide +kernel⟩
theorem cs_X7_findInPile : CS yX7_findInPile cX7_findInPile 7 (some (FieldType.object "Thumbreel$Leaf")) 4 := ⟨q_909, q_73, ⟨by decide, by decide⟩, by decide +kernel⟩
theorem cs_X7_frameAt : CS yX7_frameAt cX7_frameAt 4 (some FieldType.int) 2 := ⟨q_536, q_73, ⟨by decide, by decide⟩, by decide +kernel⟩
theorem cs_X7_frames : CS yX7_frames cX7_frames 2 (some FieldType.int) 1 := ⟨q_529, q_73, ⟨by decide, by decide⟩, by decide +kernel⟩
theorem cs_X7_isBound : CS yX7_isBound cX7_isBound 3 (some FieldType.boolean) 2 := ⟨q_874, q_73, ⟨by decide, by decide⟩, by decide +kernel⟩
theorem cs_X7_keptLeaf : CS yX7_keptLeaf cX7_keptLeaf 7 (some (FieldType.object "Thumbreel$Leaf")) 3 := ⟨q_885, q_73, ⟨by decide, by decide⟩, by decide +kernel⟩
theorem cs_X7_lacking : CS yX7_lacking cX7_lacking 2 (some FieldType.int) 1 := ⟨q_591, q_73, ⟨by decide, by decide⟩, by decide +kernel⟩
theorem cs_X7_leaf : CS yX7_leaf cX7_leaf 5 (some FieldType.int) 3 := ⟨q_898, q_73, ⟨by decide, by decide⟩, by decide +kernel⟩
theorem cs_X7_leafByPiles : CS yX7_leafByPiles cX7_leafByPiles 9 (some FieldType.int) 3 := ⟨q_905, q_73, ⟨by decide, by decide⟩, by decide +kernel⟩
theorem cs_X7_longestWaiting : CS yX7_longestWaiting cX7_longestWaiting 2 (some (FieldType.object "Thumbreel$Sheet")) 0 := ⟨q_819, q_73, ⟨by decide, by decide⟩, by decide +kernel⟩
theorem cs_X7_move : CS yX7_move cX7_move 5 (some FieldType.int) 3 := ⟨q_518, q_73, ⟨by decide, by decide⟩, by decide +kernel⟩
theorem cs_X7_onSheet : CS yX7_onSheet cX7_onSheet 4 (some FieldType.int) 2 := ⟨q_784, q_73, ⟨by decide, by decide⟩, by decide +kernel⟩
theorem cs_X7_oneIfSideways : CS yX7_oneIfSideways cX7_oneIfSideways 1 (some FieldType.int) 1 := ⟨q_635, q_73, ⟨by decide, by decide⟩, by decide +kernel⟩
theorem cs_X7_order : CS yX7_order cX7_order 4 (some FieldType.int) 2 := ⟨q_544, q_73, ⟨by decide, by decide⟩, by decide +kernel⟩
theorem cs_X7_orderNumbered : CS yX7_orderNumbered cX7_orderNumbered 2 (some (FieldType.object "Thumbreel$Order")) 1 := ⟨q_595, q_73, ⟨by decide, by decide⟩, by decide +kernel⟩
theorem cs_X7_placeOf : CS yX7_placeOf cX7_placeOf 3 (some FieldType.int) 1 := ⟨q_657, q_73, ⟨by decide, by decide⟩, by decide +kernel⟩
theorem cs_X7_print : CS yX7_print cX7_print 4 (some FieldType.int) 1 := ⟨q_692, q_73, ⟨by decide, by decide⟩, by decide +kernel⟩
theorem cs_X7_printSheet : CS yX7_printSheet cX7_printSheet 5 (some (FieldType.object "Thumbreel$Sheet")) 0 := ⟨q_706, q_73, ⟨by decide, by decide⟩, by decide +kernel⟩
theorem cs_X7_setFolds : CS yX7_setFolds cX7_setFolds 5 none 3 := ⟨q_632, q_73, ⟨by decide, by decide⟩, by decide +kernel⟩
theorem cs_X7_setTolerance : CS yX7_setTolerance cX7_setTolerance 3 (some FieldType.int) 1 := ⟨q_838, q_73, ⟨by decide, by decide⟩, by decide +kernel⟩
theorem cs_X7_sharpen : CS yX7_sharpen cX7_sharpen 3 (some FieldType.int) 1 := ⟨q_831, q_73, ⟨by decide, by decide⟩, by decide +kernel⟩
theorem cs_X7_sheetsFor : CS yX7_sheetsFor cX7_sheetsFor 1 (some FieldType.int) 1 := ⟨q_625, q_73, ⟨by decide, by decide⟩, by decide +kernel⟩
theorem cs_X7_sortOrders : CS yX7_sortOrders cX7_sortOrders 4 none 0 := ⟨q_702, q_73, ⟨by decide, by decide⟩, by decide +kernel⟩
theorem cs_X7_spoilChanged : CS yX7_spoilChanged cX7_spoilChanged 5 (some FieldType.int) 1 := ⟨q_478, q_73, ⟨by decide, by decide⟩, by decide +kernel⟩
theorem cs_X7_spoiled : CS yX7_spoiled cX7_spoiled 1 (some FieldType.int) 0 := ⟨q_232, q_73, ⟨by decide, by decide⟩, by decide +kernel⟩
theorem cs_X7_trim : CS yX7_trim cX7_trim 5 (some FieldType.int) 3 := ⟨q_881, q_73, ⟨by decide, by decide⟩, by decide +kernel⟩
theorem cs_X7_waiting : CS yX7_waiting cX7_waiting 3 (some FieldType.int) 0 := ⟨q_200, q_73, ⟨by decide, by decide⟩, by decide +kernel⟩
theorem cs_X7_waits : CS yX7_waits cX7_waits 7 (some FieldType.int) 1 := ⟨q_618, q_73, ⟨by decide, by decide⟩, by decide +kernel⟩
theorem cs_X0_init : CS yX0_init cX0_init 1 none 0 := ⟨q_314, q_84, ⟨by decide, by decide⟩, by decide +kernel⟩
theorem cs_X0_addBetweens : CS yX0_addBetweens cX0_addBetweens 8 none 4 := ⟨q_471, q_84, ⟨by decide, by decide⟩, by decide +kernel⟩
theorem cs_X0_addFrame : CS yX0_addFrame cX0_addFrame 2 none 1 := ⟨q_467, q_84, ⟨by decide, by decide⟩, by decide +kernel⟩
theorem cs_X0_copyDrawing : CS yX0_copyDrawing cX0_copyDrawing 3 none 2 := ⟨q_459, q_84, ⟨by decide, by decide⟩, by decide +kernel⟩
theorem cs_X0_insert : CS yX0_insert cX0_insert 6 none 4 := ⟨q_455, q_84, ⟨by decide, by decide⟩, by decide +kernel⟩
theorem cs_X0_layFrames : CS yX0_layFrames cX0_layFrames 2 none 0 := ⟨q_463, q_84, ⟨by decide, by decide⟩, by decide +kernel⟩
theorem cs_X0_positionOf : CS yX0_positionOf cX0_positionOf 2 (some FieldType.int) 1 := ⟨q_496, q_84, ⟨by decide, by decide⟩, by decide +kernel⟩
theorem cs_X0_putAt : CS yX0_putAt cX0_putAt 3 none 2 := ⟨q_522, q_84, ⟨by decide, by decide⟩, by decide +kernel⟩
theorem cs_X0_shareOfWay : CS yX0_shareOfWay cX0_shareOfWay 4 (some FieldType.int) 3 := ⟨q_474, q_84, ⟨by decide, by decide⟩, by decide +kernel⟩
theorem cs_X0_takeOut : CS yX0_takeOut cX0_takeOut 3 none 1 := ⟨q_511, q_84, ⟨by decide, by decide⟩, by decide +kernel⟩
theorem cs_X1_init : CS yX1_init cX1_init 1 none 0 := ⟨q_554, q_94, ⟨by decide, by decide⟩, by decide +kernel⟩
theorem cs_X1_countLacking : CS yX1_countLacking cX1_countLacking 4 (some FieldType.int) 1 := ⟨q_603, q_94, ⟨by decide, by decide⟩, by decide +kernel⟩
theorem cs_X1_isAllCut : CS yX1_isAllCut cX1_isAllCut 4 (some FieldType.boolean) 1 := ⟨q_853, q_94, ⟨by decide, by decide⟩, by decide +kernel⟩
theorem cs_X1_isLacking : CS yX1_isLacking cX1_isLacking 2 (some FieldType.boolean) 1 := ⟨q_607, q_94, ⟨by decide, by decide⟩, by decide +kernel⟩
theorem cs_X1_leafOf : CS yX1_leafOf cX1_leafOf 2 (some (FieldType.object "Thumbreel$Leaf")) 1 := ⟨q_611, q_94, ⟨by decide, by decide⟩, by decide +kernel⟩
theorem cs_X1_leastTrim : CS yX1_leastTrim cX1_leastTrim 5 (some FieldType.int) 1 := ⟨q_862, q_94, ⟨by decide, by decide⟩, by decide +kernel⟩
theorem cs_X1_spoil : CS yX1_spoil cX1_spoil 2 none 1 := ⟨q_500, q_94, ⟨by decide, by decide⟩, by decide +kernel⟩
theorem cs_X1_spoilAbove : CS yX1_spoilAbove cX1_spoilAbove 5 (some FieldType.int) 1 := ⟨q_867, q_94, ⟨by decide, by decide⟩, by decide +kernel⟩
theorem cs_X1_spoilChanged : CS yX1_spoilChanged cX1_spoilChanged 5 (some FieldType.int) 1 := ⟨q_492, q_94, ⟨by decide, by decide⟩, by decide +kernel⟩
theorem cs_X1_take : CS yX1_take cX1_take 2 none 1 := ⟨q_771, q_94, ⟨by decide, by decide⟩, by decide +kernel⟩
theorem cs_X2_init : CS yX2_init cX2_init 4 none 3 := ⟨q_162, q_78, ⟨by decide, by decide⟩, by decide +kernel⟩
theorem cs_X2_unfold : CS yX2_unfold cX2_unfold 11 (some FieldType.int) 1 := ⟨q_647, q_78, ⟨by decide, by decide⟩, by decide +kernel⟩
theorem cs_X2_unfoldLine : CS yX2_unfoldLine cX2_unfoldLine 5 (some FieldType.int) 4 := ⟨q_650, q_78, ⟨by decide, by decide⟩, by decide +kernel⟩
theorem cs_X3_init : CS yX3_init cX3_init 6 none 5 := ⟨q_739, q_96, ⟨by decide, by decide⟩, by decide +kernel⟩
theorem cs_X3_belongsTo : CS yX3_belongsTo cX3_belongsTo 4 (some FieldType.boolean) 3 := ⟨q_913, q_96, ⟨by decide, by decide⟩, by decide +kernel⟩
theorem cs_X3_code : CS yX3_code cX3_code 1 (some FieldType.int) 0 := ⟨q_808, q_96, ⟨by decide, by decide⟩, by decide +kernel⟩
theorem cs_X4_init : CS yX4_init cX4_init 5 none 3 := ⟨q_548, q_93, ⟨by decide, by decide⟩, by decide +kernel⟩
theorem cs_X4_countLacking : CS yX4_countLacking cX4_countLacking 3 (some FieldType.int) 0 := ⟨q_599, q_93, ⟨by decide, by decide⟩, by decide +kernel⟩
theorem cs_X4_fill : CS yX4_fill cX4_fill 8 (some FieldType.int) 2 := ⟨q_732, q_93, ⟨by decide, by decide⟩, by decide +kernel⟩
theorem cs_X4_isAheadOf : CS yX4_isAheadOf cX4_isAheadOf 2 (some FieldType.boolean) 1 := ⟨q_622, q_93, ⟨by decide, by decide⟩, by decide +kernel⟩
theorem cs_X4_lengthOf : CS yX4_lengthOf cX4_lengthOf 2 (some FieldType.int) 1 := ⟨q_889, q_93, ⟨by decide, by decide⟩, by decide +kernel⟩
theorem cs_X4_spoilChanged : CS yX4_spoilChanged cX4_spoilChanged 3 (some FieldType.int) 0 := ⟨q_484, q_93, ⟨by decide, by decide⟩, by decide +kernel⟩
theorem cs_X5_init : CS yX5_init cX5_init 1 none 0 := ⟨q_136, q_77, ⟨by decide, by decide⟩, by decide +kernel⟩
theorem cs_X5_cellAt : CS yX5_cellAt cX5_cellAt 3 (some FieldType.int) 1 := ⟨q_685, q_77, ⟨by decide, by decide⟩, by decide +kernel⟩
theorem cs_X5_foldAll : CS yX5_foldAll cX5_foldAll 4 none 1 := ⟨q_661, q_77, ⟨by decide, by decide⟩, by decide +kernel⟩
theorem cs_X5_foldSideways : CS yX5_foldSideways cX5_foldSideways 7 none 1 := ⟨q_669, q_77, ⟨by decide, by decide⟩, by decide +kernel⟩
theorem cs_X5_foldUpright : CS yX5_foldUpright cX5_foldUpright 7 none 1 := ⟨q_681, q_77, ⟨by decide, by decide⟩, by decide +kernel⟩
theorem cs_X5_pileAt : CS yX5_pileAt cX5_pileAt 3 (some FieldType.int) 2 := ⟨q_673, q_77, ⟨by decide, by decide⟩, by decide +kernel⟩
theorem cs_X5_spread : CS yX5_spread cX5_spread 2 none 0 := ⟨q_665, q_77, ⟨by decide, by decide⟩, by decide +kernel⟩
theorem cs_X5_turnOnto : CS yX5_turnOnto cX5_turnOnto 6 none 2 := ⟨q_677, q_77, ⟨by decide, by decide⟩, by decide +kernel⟩
theorem cs_X6_init : CS yX6_init cX6_init 2 none 1 := ⟨q_709, q_95, ⟨by decide, by decide⟩, by decide +kernel⟩
theorem cs_X6_cutWith : CS yX6_cutWith cX6_cutWith 2 none 1 := ⟨q_824, q_95, ⟨by decide, by decide⟩, by decide +kernel⟩
theorem cs_X6_isCut : CS yX6_isCut cX6_isCut 1 (some FieldType.boolean) 0 := ⟨q_857, q_95, ⟨by decide, by decide⟩, by decide +kernel⟩
theorem cs_X6_isOfUse : CS yX6_isOfUse cX6_isOfUse 3 (some FieldType.boolean) 0 := ⟨q_228, q_95, ⟨by decide, by decide⟩, by decide +kernel⟩
theorem cs_X6_lay : CS yX6_lay cX6_lay 4 none 2 := ⟨q_775, q_95, ⟨by decide, by decide⟩, by decide +kernel⟩
theorem cs_X6_leafIn : CS yX6_leafIn cX6_leafIn 2 (some (FieldType.object "Thumbreel$Leaf")) 1 := ⟨q_804, q_95, ⟨by decide, by decide⟩, by decide +kernel⟩
theorem cs_X8_init : CS yX8_init cX8_init 1 none 0 := ⟨q_918, q_79, ⟨by decide, by decide⟩, by decide +kernel⟩
theorem cs_X8_addBook : CS yX8_addBook cX8_addBook 1 (some FieldType.int) 0 := ⟨q_1009, q_79, ⟨by decide, by decide⟩, by decide +kernel⟩
theorem cs_X8_bind : CS yX8_bind cX8_bind 7 (some FieldType.int) 2 := ⟨q_1158, q_79, ⟨by decide, by decide⟩, by decide +kernel⟩
theorem cs_X8_cellOf : CS yX8_cellOf cX8_cellOf 2 (some FieldType.int) 1 := ⟨q_1110, q_79, ⟨by decide, by decide⟩, by decide +kernel⟩
theorem cs_X8_cut : CS yX8_cut cX8_cut 5 (some FieldType.int) 1 := ⟨q_1134, q_79, ⟨by decide, by decide⟩, by decide +kernel⟩
theorem cs_X8_discard : CS yX8_discard cX8_discard 5 (some FieldType.int) 0 := ⟨q_1146, q_79, ⟨by decide, by decide⟩, by decide +kernel⟩
theorem cs_X8_draw : CS yX8_draw cX8_draw 8 (some FieldType.int) 5 := ⟨q_1017, q_79, ⟨by decide, by decide⟩, by decide +kernel⟩
theorem cs_X8_erase : CS yX8_erase cX8_erase 4 (some FieldType.int) 2 := ⟨q_1051, q_79, ⟨by decide, by decide⟩, by decide +kernel⟩
theorem cs_X8_flows : CS yX8_flows cX8_flows 9 (some FieldType.int) 1 := ⟨q_1028, q_79, ⟨by decide, by decide⟩, by decide +kernel⟩
theorem cs_X8_frameAt : CS yX8_frameAt cX8_frameAt 3 (some FieldType.int) 2 := ⟨q_1067, q_79, ⟨by decide, by decide⟩, by decide +kernel⟩
theorem cs_X8_frames : CS yX8_frames cX8_frames 2 (some FieldType.int) 1 := ⟨q_1063, q_79, ⟨by decide, by decide⟩, by decide +kernel⟩
theorem cs_X8_framesOf : CS yX8_framesOf cX8_framesOf 4 (some FieldType.int) 1 := ⟨q_1032, q_79, ⟨by decide, by decide⟩, by decide +kernel⟩
theorem cs_X8_goes : CS yX8_goes cX8_goes 2 (some FieldType.boolean) 1 := ⟨q_1013, q_79, ⟨by decide, by decide⟩, by decide +kernel⟩
theorem cs_X8_hasFrame : CS yX8_hasFrame cX8_hasFrame 4 (some FieldType.boolean) 3 := ⟨q_1178, q_79, ⟨by decide, by decide⟩, by decide +kernel⟩
theorem cs_X8_isBook : CS yX8_isBook cX8_isBook 2 (some FieldType.boolean) 1 := ⟨q_1021, q_79, ⟨by decide, by decide⟩, by decide +kernel⟩
theorem cs_X8_isBound : CS yX8_isBound cX8_isBound 3 (some FieldType.boolean) 2 := ⟨q_1170, q_79, ⟨by decide, by decide⟩, by decide +kernel⟩
theorem cs_X8_isBoundCopy : CS yX8_isBoundCopy cX8_isBoundCopy 3 (some FieldType.boolean) 2 := ⟨q_1036, q_79, ⟨by decide, by decide⟩, by decide +kernel⟩
theorem cs_X8_isCopy : CS yX8_isCopy cX8_isCopy 3 (some FieldType.boolean) 2 := ⟨q_1162, q_79, ⟨by decide, by decide⟩, by decide +kernel⟩
theorem cs_X8_isIn : CS yX8_isIn cX8_isIn 3 (some FieldType.boolean) 3 := ⟨q_1024, q_79, ⟨by decide, by decide⟩, by decide +kernel⟩
theorem cs_X8_isOn : CS yX8_isOn cX8_isOn 3 (some FieldType.boolean) 2 := ⟨q_1142, q_79, ⟨by decide, by decide⟩, by decide +kernel⟩
theorem cs_X8_isOrder : CS yX8_isOrder cX8_isOrder 2 (some FieldType.boolean) 1 := ⟨q_1082, q_79, ⟨by decide, by decide⟩, by decide +kernel⟩
theorem cs_X8_isWhole : CS yX8_isWhole cX8_isWhole 5 (some FieldType.boolean) 2 := ⟨q_1166, q_79, ⟨by decide, by decide⟩, by decide +kernel⟩
theorem cs_X8_lacking : CS yX8_lacking cX8_lacking 2 (some FieldType.int) 1 := ⟨q_1078, q_79, ⟨by decide, by decide⟩, by decide +kernel⟩
theorem cs_X8_lackingOf : CS yX8_lackingOf cX8_lackingOf 4 (some FieldType.int) 1 := ⟨q_1098, q_79, ⟨by decide, by decide⟩, by decide +kernel⟩
theorem cs_X8_laysCells : CS yX8_laysCells cX8_laysCells 2 none 0 := ⟨q_923, q_79, ⟨by decide, by decide⟩, by decide +kernel⟩
theorem cs_X8_laysRanks : CS yX8_laysRanks cX8_laysRanks 5 none 0 := ⟨q_1090, q_79, ⟨by decide, by decide⟩, by decide +kernel⟩
theorem cs_X8_laysWanted : CS yX8_laysWanted cX8_laysWanted 6 none 0 := ⟨q_1086, q_79, ⟨by decide, by decide⟩, by decide +kernel⟩
theorem cs_X8_leaf : CS yX8_leaf cX8_leaf 4 (some FieldType.int) 3 := ⟨q_1182, q_79, ⟨by decide, by decide⟩, by decide +kernel⟩
theorem cs_X8_leafAt : CS yX8_leafAt cX8_leafAt 3 (some FieldType.int) 3 := ⟨q_1074, q_79, ⟨by decide, by decide⟩, by decide +kernel⟩
theorem cs_X8_leafByPiles : CS yX8_leafByPiles cX8_leafByPiles 4 (some FieldType.int) 3 := ⟨q_1190, q_79, ⟨by decide, by decide⟩, by decide +kernel⟩
theorem cs_X8_leafShown : CS yX8_leafShown cX8_leafShown 5 (some FieldType.int) 3 := ⟨q_1186, q_79, ⟨by decide, by decide⟩, by decide +kernel⟩
theorem cs_X8_longest : CS yX8_longest cX8_longest 3 (some FieldType.int) 0 := ⟨q_1138, q_79, ⟨by decide, by decide⟩, by decide +kernel⟩
theorem cs_X8_move : CS yX8_move cX8_move 4 (some FieldType.int) 3 := ⟨q_1059, q_79, ⟨by decide, by decide⟩, by decide +kernel⟩
theorem cs_X8_onSheet : CS yX8_onSheet cX8_onSheet 3 (some FieldType.int) 2 := ⟨q_1130, q_79, ⟨by decide, by decide⟩, by decide +kernel⟩
theorem cs_X8_order : CS yX8_order cX8_order 5 (some FieldType.int) 2 := ⟨q_1071, q_79, ⟨by decide, by decide⟩, by decide +kernel⟩
theorem cs_X8_part : CS yX8_part cX8_part 5 (some FieldType.int) 4 := ⟨q_1043, q_79, ⟨by decide, by decide⟩, by decide +kernel⟩
theorem cs_X8_placeOf : CS yX8_placeOf cX8_placeOf 5 (some FieldType.int) 1 := ⟨q_1114, q_79, ⟨by decide, by decide⟩, by decide +kernel⟩
theorem cs_X8_positionOf : CS yX8_positionOf cX8_positionOf 5 (some FieldType.int) 2 := ⟨q_1040, q_79, ⟨by decide, by decide⟩, by decide +kernel⟩
theorem cs_X8_print : CS yX8_print cX8_print 5 (some FieldType.int) 1 := ⟨q_1118, q_79, ⟨by decide, by decide⟩, by decide +kernel⟩
theorem cs_X8_printsOne : CS yX8_printsOne cX8_printsOne 6 none 1 := ⟨q_1122, q_79, ⟨by decide, by decide⟩, by decide +kernel⟩
theorem cs_X8_setFolds : CS yX8_setFolds cX8_setFolds 6 none 3 := ⟨q_1106, q_79, ⟨by decide, by decide⟩, by decide +kernel⟩
theorem cs_X8_setTolerance : CS yX8_setTolerance cX8_setTolerance 3 (some FieldType.int) 1 := ⟨q_1154, q_79, ⟨by decide, by decide⟩, by decide +kernel⟩
theorem cs_X8_sharpen : CS yX8_sharpen cX8_sharpen 3 (some FieldType.int) 1 := ⟨q_1150, q_79, ⟨by decide, by decide⟩, by decide +kernel⟩
theorem cs_X8_size : CS yX8_size cX8_size 2 (some FieldType.int) 1 := ⟨q_1094, q_79, ⟨by decide, by decide⟩, by decide +kernel⟩
theorem cs_X8_spoiled : CS yX8_spoiled cX8_spoiled 1 (some FieldType.int) 0 := ⟨q_1194, q_79, ⟨by decide, by decide⟩, by decide +kernel⟩
theorem cs_X8_spoils : CS yX8_spoils cX8_spoils 2 none 1 := ⟨q_1047, q_79, ⟨by decide, by decide⟩, by decide +kernel⟩
theorem cs_X8_thrown : CS yX8_thrown cX8_thrown 1 (some FieldType.int) 0 := ⟨q_1005, q_79, ⟨by decide, by decide⟩, by decide +kernel⟩
theorem cs_X8_trim : CS yX8_trim cX8_trim 4 (some FieldType.int) 3 := ⟨q_1174, q_79, ⟨by decide, by decide⟩, by decide +kernel⟩
theorem cs_X8_unfolded : CS yX8_unfolded cX8_unfolded 12 (some FieldType.int) 1 := ⟨q_927, q_79, ⟨by decide, by decide⟩, by decide +kernel⟩
theorem cs_X8_waiting : CS yX8_waiting cX8_waiting 3 (some FieldType.int) 0 := ⟨q_1126, q_79, ⟨by decide, by decide⟩, by decide +kernel⟩
theorem cs_X8_waits : CS yX8_waits cX8_waits 4 (some FieldType.int) 1 := ⟨q_1102, q_79, ⟨by decide, by decide⟩, by decide +kernel⟩
theorem cs_X8_wrong : CS yX8_wrong cX8_wrong 3 (some FieldType.int) 2 := ⟨q_1055, q_79, ⟨by decide, by decide⟩, by decide +kernel⟩
theorem cs_J9_max_7cf53 : CS yJ9_max_7cf53 cJ9_max_7cf53 2 (some FieldType.int) 2 := ⟨q_359, q_86, ⟨by decide, by decide⟩, by decide +kernel⟩
theorem cs_J9_min_7cf53 : CS yJ9_min_7cf53 cJ9_min_7cf53 2 (some FieldType.int) 2 := ⟨q_393, q_86, ⟨by decide, by decide⟩, by decide +kernel⟩
theorem cs_Jxa1e45_init_da8c8 : CS yJxa1e45_init_da8c8 cJxa1e45_init_da8c8 1 none 0 := ⟨q_116, q_74, ⟨by decide, by decide⟩, by decide +kernel⟩
theorem cs_Jxc12de_init_da8c8 : CS yJxc12de_init_da8c8 cJxc12de_init_da8c8 1 none 0 := ⟨q_113, q_75, ⟨by decide, by decide⟩, by decide +kernel⟩
theorem cs_Jx4a65c_init_da8c8 : CS yJx4a65c_init_da8c8 cJx4a65c_init_da8c8 1 none 0 := ⟨q_110, q_76, ⟨by decide, by decide⟩, by decide +kernel⟩
theorem cs_Jx4a65c_add_9ea2d : CS yJx4a65c_add_9ea2d cJx4a65c_add_9ea2d 2 (some FieldType.boolean) 1 := ⟨q_341, q_76, ⟨by decide, by decide⟩, by decide +kernel⟩
theorem cs_Jx4a65c_add_72be8 : CS yJx4a65c_add_72be8 cJx4a65c_add_72be8 4 none 3 := ⟨q_345, q_76, ⟨by decide, by decide⟩, by decide +kernel⟩
theorem cs_Jx4a65c_elementData_915e3 : CS yJx4a65c_elementData_915e3 cJx4a65c_elementData_915e3 2 (some (FieldType.object "java/lang/Object")) 1 := ⟨q_218, q_76, ⟨by decide, by decide⟩, by decide +kernel⟩
theorem cs_Jx4a65c_get_915e3 : CS yJx4a65c_get_915e3 cJx4a65c_get_915e3 2 (some (FieldType.object "java/lang/Object")) 1 := ⟨q_208, q_76, ⟨by decide, by decide⟩, by decide +kernel⟩
theorem cs_Jx4a65c_grow_d5877 : CS yJx4a65c_grow_d5877 cJx4a65c_grow_d5877 1 (some (FieldType.array (FieldType.object "java/lang/Object"))) 0 := ⟨q_349, q_76, ⟨by decide, by decide⟩, by decide +kernel⟩
theorem cs_Jx4a65c_grow_92f84 : CS yJx4a65c_grow_92f84 cJx4a65c_grow_92f84 4 (some (FieldType.array (FieldType.object "java/lang/Object"))) 1 := ⟨q_353, q_76, ⟨by decide, by decide⟩, by decide +kernel⟩
theorem cs_Jx4a65c_size_8abf5 : CS yJx4a65c_size_8abf5 cJx4a65c_size_8abf5 1 (some FieldType.int) 0 := ⟨q_204, q_76, ⟨by decide, by decide⟩, by decide +kernel⟩
theorem cs_J7_copyOf_1904c : CS yJ7_copyOf_1904c cJ7_copyOf_1904c 2 (some (FieldType.array (FieldType.object "java/lang/Object"))) 2 := ⟨q_366, q_87, ⟨by decide, by decide⟩, by decide +kernel⟩
theorem cs_J7_copyOf_6403c : CS yJ7_copyOf_6403c cJ7_copyOf_6403c 4 (some (FieldType.array (FieldType.object "java/lang/Object"))) 3 := ⟨q_387, q_87, ⟨by decide, by decide⟩, by decide +kernel⟩
theorem cs_J15_checkIndex_7cf53 : CS yJ15_checkIndex_7cf53 cJ15_checkIndex_7cf53 2 (some FieldType.int) 2 := ⟨q_211, q_90, ⟨by decide, by decide⟩, by decide +kernel⟩
theorem cs_J8_hugeLength_7cf53 : CS yJ8_hugeLength_7cf53 cJ8_hugeLength_7cf53 3 (some FieldType.int) 2 := ⟨q_363, q_85, ⟨by decide, by decide⟩, by decide +kernel⟩
theorem cs_J8_newLength_cabcc : CS yJ8_newLength_cabcc cJ8_newLength_cabcc 4 (some FieldType.int) 3 := ⟨q_356, q_85, ⟨by decide, by decide⟩, by decide +kernel⟩
theorem cs_J3_checkIndex_8e157 : CS yJ3_checkIndex_8e157 cJ3_checkIndex_8e157 3 (some FieldType.int) 3 := ⟨q_214, q_91, ⟨by decide, by decide⟩, by decide +kernel⟩
