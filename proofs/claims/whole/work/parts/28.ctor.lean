/-! ===== constructors ===== -/
abbrev rm3 (f k n : Nat) : Room := { frames := f, cells := k, slots := n, locals := 40 * f }
abbrev xO (a : Nat) : Nat → Nat → Prop := fun _ y => y = a
abbrev x0 : Nat → Prop := fun _ => False
theorem W_N (S : PS) (q kd n : Nat) : pN (sW S q kd n) q = n := va_up_self _ _ _
theorem W_Nn (S : PS) {q x : Nat} (kd n : Nat) (h : x ≠ q) : pN (sW S q kd n) x = pN S x := va_up_ne _ _ h
theorem W_A (S : PS) (q kd n : Nat) : pA (sW S q kd n) q = fun _ => 0 := va_up_self _ _ _
theorem W_An (S : PS) {q x : Nat} (kd n : Nat) (h : x ≠ q) : pA (sW S q kd n) x = pA S x := va_up_ne _ _ h
theorem W_B (S : PS) (q kd n : Nat) : pB (sW S q kd n) q = fun _ => none := va_up_self _ _ _
theorem nin_W {L : List Nat} {q x : Nat} (h : x ∉ L ++ [q]) : x ∉ L ∧ x ≠ q := ⟨fun z => h (List.mem_append_left _ z), fun z => h (List.mem_append_right _ (by rw [z]; exact List.mem_singleton.mpr rfl))⟩
section Ctor
variable {l : Launch} {G : GG} {S : PS}
set_option maxRecDepth 100000 in
set_option maxHeartbeats 1000000 in
theorem c_Book_init (hl : l.stackTraces = false) {b : Nat} (kb : KD S b 0) :
    MT l G S yX0_init cX0_init 1 none (rm3 1 4 67) [va_rf (some b)] (fun v S' => v = none ∧ ∃ p e c r, p ∉ pL S ∧ e ∉ pL S ∧ c ∉ pL S ∧ r ∉ pL S ∧ isBk S' b p e c r ∧ pI S' 4 b = nI 0 ∧ pI S' 5 b = nI 0 ∧ pA S' p = (fun _ => 0) ∧ pA S' e = (fun _ => 0) ∧ pA S' c = (fun _ => 0) ∧ Ex S S' (xO b) (xO b) x0 x0) (fun _ => False) := by
  refine MT_of (by decide +kernel) hl rfl (Nat.le_of_ble_eq_true rfl) (fun Z hC _ hnm hT hQ => ?_)
  change J G Z S 0 0 0 [some (va_rf (some b))] []
  refine r_aload_n hC dX0_init_0 rfl rfl ?_
  refine r_objInit hC q_315 q_104 q_105 dX0_init_1 (Nat.le_of_ble_eq_true rfl) (Nat.le_of_ble_eq_true rfl) ?_
  refine r_aload_n hC dX0_init_4 rfl rfl ?_
  refine r_bipush (v := nI 8) hC dX0_init_5 (by decide) ?_
  refine r_newI hC q_157 (rfl) (by first | decide | omega) dX0_init_7 (Nat.le_of_ble_eq_true rfl) (Nat.le_of_ble_eq_true rfl) (fun q7 hq7 hg7 => ?_)
  refine r_putFR hC hnm fl_X0_9 rfl dX0_init_9 (kd_sW kb hq7) ?_
  refine r_aload_n hC dX0_init_12 rfl rfl ?_
  refine r_bipush (v := nI 8) hC dX0_init_13 (by decide) ?_
  refine r_newI hC q_157 (rfl) (by first | decide | omega) dX0_init_15 (Nat.le_of_ble_eq_true rfl) (Nat.le_of_ble_eq_true rfl) (fun q15 hq15 hg15 => ?_)
  refine r_putFR hC hnm fl_X0_15 rfl dX0_init_17 (kd_sW (kd_sR (kd_sW kb hq7)) hq15) ?_
  refine r_aload_n hC dX0_init_20 rfl rfl ?_
  refine r_bipush (v := nI 8) hC dX0_init_21 (by decide) ?_
  refine r_newI hC q_157 (rfl) (by first | decide | omega) dX0_init_23 (Nat.le_of_ble_eq_true rfl) (Nat.le_of_ble_eq_true rfl) (fun q23 hq23 hg23 => ?_)
  refine r_putFR hC hnm fl_X0_18 rfl dX0_init_25 (kd_sW (kd_sR (kd_sW (kd_sR (kd_sW kb hq7)) hq15)) hq23) ?_
  refine r_aload_n hC dX0_init_28 rfl rfl ?_
  refine r_bipush (v := nI 43) hC dX0_init_29 (by decide) ?_
  refine r_newI hC q_157 (rfl) (by first | decide | omega) dX0_init_31 (Nat.le_of_ble_eq_true rfl) (Nat.le_of_ble_eq_true rfl) (fun q31 hq31 hg31 => ?_)
  refine r_putFR hC hnm fl_X0_21 rfl dX0_init_33 (kd_sW (kd_sR (kd_sW (kd_sR (kd_sW (kd_sR (kd_sW kb hq7)) hq15)) hq23)) hq31) ?_
  refine r_aload_n hC dX0_init_36 rfl rfl ?_
  refine r_iconst (v := nI 0) hC dX0_init_37 (by decide) ?_
  refine r_putI hC fl_X0_24 rfl (by decide) dX0_init_38 (kd_sR (kd_sW (kd_sR (kd_sW (kd_sR (kd_sW (kd_sR (kd_sW kb hq7)) hq15)) hq23)) hq31)) (fun h => absurd h (by decide)) ?_
  refine r_aload_n hC dX0_init_41 rfl rfl ?_
  refine r_iconst (v := nI 0) hC dX0_init_42 (by decide) ?_
  refine r_putI hC fl_X0_28 rfl (by decide) dX0_init_43 (kd_sI (kd_sR (kd_sW (kd_sR (kd_sW (kd_sR (kd_sW (kd_sR (kd_sW kb hq7)) hq15)) hq23)) hq31))) (fun h => absurd h (by decide)) ?_
  refine r_vret hC hQ rfl dX0_init_46 (Nat.le_of_ble_eq_true rfl) (Nat.le_of_ble_eq_true rfl) ?_
  have k15 := nin_W hq15
  have k23 := nin_W hq23
  have k23' := nin_W k23.1
  have k31 := nin_W hq31
  have k31' := nin_W k31.1
  have k31'' := nin_W k31'.1
  have kk : KD (sW (sW (sW (sW S q7 10 8) q15 10 8) q23 10 8) q31 10 43) b 0 := kd_sW (kd_sW (kd_sW (kd_sW kb hq7) hq15) hq23) hq31
  have hb7 : b ≠ q7 := fun e => hq7 (e ▸ kb.1)
  refine ⟨rfl, q7, q15, q23, q31, hq7, k15.1, k23'.1, k31''.1, ⟨show KD (sW (sW (sW (sW S q7 10 8) q15 10 8) q23 10 8) q31 10 43) b 0 from kk, ?_, ?_, ?_, ?_, ?_, ?_, ?_, ?_, ?_, ?_, ?_, ?_, fun e => k15.2 e.symm, fun e => k23'.2 e.symm, fun e => k31''.2 e.symm, fun e => k23.2 e.symm, fun e => k31'.2 e.symm, fun e => k31.2 e.symm⟩, ?_, ?_, ?_, ?_, ?_, ?_⟩
  · simp [sI, sR, sW, u2, pR]
  · simp [sI, sR, sW, u2, pR]
  · simp [sI, sR, sW, u2, pR]
  · simp [sI, sR, sW, u2, pR]
  · exact show KD (sW (sW (sW (sW S q7 10 8) q15 10 8) q23 10 8) q31 10 43) q7 10 from kd_sW (kd_sW (kd_sW kd_newW hq15) hq23) hq31
  · show pN (sW (sW (sW (sW S q7 10 8) q15 10 8) q23 10 8) q31 10 43) q7 = 8
    rw [W_Nn _ _ _ (fun e => k31''.2 e.symm), W_Nn _ _ _ (fun e => k23'.2 e.symm), W_Nn _ _ _ (fun e => k15.2 e.symm), W_N]
  · exact show KD (sW (sW (sW (sW S q7 10 8) q15 10 8) q23 10 8) q31 10 43) q15 10 from kd_sW (kd_sW kd_newW hq23) hq31
  · show pN (sW (sW (sW (sW S q7 10 8) q15 10 8) q23 10 8) q31 10 43) q15 = 8
    rw [W_Nn _ _ _ (fun e => k31'.2 e.symm), W_Nn _ _ _ (fun e => k23.2 e.symm), W_N]
  · exact show KD (sW (sW (sW (sW S q7 10 8) q15 10 8) q23 10 8) q31 10 43) q23 10 from kd_sW kd_newW hq31
  · show pN (sW (sW (sW (sW S q7 10 8) q15 10 8) q23 10 8) q31 10 43) q23 = 8
    rw [W_Nn _ _ _ (fun e => k31.2 e.symm), W_N]
  · exact show KD (sW (sW (sW (sW S q7 10 8) q15 10 8) q23 10 8) q31 10 43) q31 10 from kd_newW
  · exact W_N (sW (sW (sW S q7 10 8) q15 10 8) q23 10 8) q31 10 43
  · simp [sI, sR, sW, u2, pI]
  · simp [sI, sR, sW, u2, pI]
  · show pA (sW (sW (sW (sW S q7 10 8) q15 10 8) q23 10 8) q31 10 43) q7 = _
    rw [W_An _ _ _ (fun e => k31''.2 e.symm), W_An _ _ _ (fun e => k23'.2 e.symm), W_An _ _ _ (fun e => k15.2 e.symm), W_A]
  · show pA (sW (sW (sW (sW S q7 10 8) q15 10 8) q23 10 8) q31 10 43) q15 = _
    rw [W_An _ _ _ (fun e => k31'.2 e.symm), W_An _ _ _ (fun e => k23.2 e.symm), W_A]
  · show pA (sW (sW (sW (sW S q7 10 8) q15 10 8) q23 10 8) q31 10 43) q23 = _
    rw [W_An _ _ _ (fun e => k31.2 e.symm), W_A]
  · refine Ex.tI ?_ (Or.inl rfl)
    refine Ex.tI ?_ (Or.inl rfl)
    refine Ex.tR ?_ (Or.inl rfl)
    refine Ex.tW ?_ hq31
    refine Ex.tR ?_ (Or.inl rfl)
    refine Ex.tW ?_ hq23
    refine Ex.tR ?_ (Or.inl rfl)
    refine Ex.tW ?_ hq15
    refine Ex.tR ?_ (Or.inl rfl)
    refine Ex.tW ?_ hq7
    exact Ex.rf
set_option maxRecDepth 100000 in
theorem c_Copy_init (hl : l.stackTraces = false) {c : Nat} (kc : KD S c 1) :
    MT l G S yX1_init cX1_init 1 none (rm3 1 1 43) [va_rf (some c)] (fun w S' => w = none ∧ ∃ v, v ∉ pL S ∧ isCp S' c v ∧ (∀ f, pB S' v f = none) ∧ pI S' 33 c = nI 0 ∧ pI S' 34 c = nI 0 ∧ Ex S S' (xO c) (xO c) x0 x0) (fun _ => False) := by
  refine MT_of (by decide +kernel) hl rfl (Nat.le_of_ble_eq_true rfl) (fun Z hC _ hnm hT hQ => ?_)
  change J G Z S 0 0 0 [some (va_rf (some c))] []
  refine r_aload_n hC dX1_init_0 rfl rfl ?_
  refine r_objInit hC q_555 q_104 q_105 dX1_init_1 (Nat.le_of_ble_eq_true rfl) (Nat.le_of_ble_eq_true rfl) ?_
  refine r_aload_n hC dX1_init_4 rfl rfl ?_
  refine r_bipush (v := nI 43) hC dX1_init_5 (by decide) ?_
  refine r_newL hC q_556 (rfl) (by first | decide | omega) dX1_init_7 (Nat.le_of_ble_eq_true rfl) (Nat.le_of_ble_eq_true rfl) (fun q7 hq7 hg7 => ?_)
  refine r_putFR hC hnm fl_X1_11 rfl dX1_init_10 (kd_sW kc hq7) ?_
  refine r_aload_n hC dX1_init_13 rfl rfl ?_
  refine r_iconst (v := nI 0) hC dX1_init_14 (by decide) ?_
  refine r_putI hC fl_X1_17 rfl (by decide) dX1_init_15 (kd_sR (kd_sW kc hq7)) (fun _ => by decide) ?_
  refine r_aload_n hC dX1_init_18 rfl rfl ?_
  refine r_iconst (v := nI 0) hC dX1_init_19 (by decide) ?_
  refine r_putI hC fl_X1_21 rfl (by decide) dX1_init_20 (kd_sI (kd_sR (kd_sW kc hq7))) (fun h => absurd h (by decide)) ?_
  refine r_vret hC hQ rfl dX1_init_23 (Nat.le_of_ble_eq_true rfl) (Nat.le_of_ble_eq_true rfl) ?_
  have hB : ∀ f, pB (sW S q7 12 43) q7 f = none := fun f => by rw [W_B]
  have kc1 : KD (sW S q7 12 43) c 1 := kd_sW kc hq7
  have kv1 : KD (sW S q7 12 43) q7 12 := kd_newW
  refine ⟨rfl, q7, hq7, ⟨kc1, ?_, kv1, W_N S q7 12 43, fun f _ y hy => ?_, ?_⟩, hB, ?_, ?_, ?_⟩
  · simp [sI, sR, sW, u2, pR]
  · have : pB (sW S q7 12 43) q7 f = some y := hy
    rw [hB] at this
    cases this
  · left
    simp [sI, sR, sW, u2, pI]
    rfl
  · simp [sI, sR, sW, u2, pI]
  · simp [sI, sR, sW, u2, pI]
  · refine Ex.tI ?_ (Or.inl rfl)
    refine Ex.tI ?_ (Or.inl rfl)
    refine Ex.tR ?_ (Or.inl rfl)
    refine Ex.tW ?_ hq7
    exact Ex.rf
set_option maxRecDepth 100000 in
theorem c_Folding_init (hl : l.stackTraces = false) {d : Nat} (kd : KD S d 2) {f : Nat → Nat} (hf : okf f) :
    MT l G S yX2_init cX2_init 4 none (rm3 1 1 3) [va_rf (some d), .int (nI (f 0)), .int (nI (f 1)), .int (nI (f 2))] (fun w S' => w = none ∧ ∃ a, a ∉ pL S ∧ isFd S' d a f ∧ Ex S S' (xO d) (xO d) x0 x0) (fun _ => False) := by
  refine MT_of (by decide +kernel) hl rfl (Nat.le_of_ble_eq_true rfl) (fun Z hC _ hnm hT hQ => ?_)
  change J G Z S 0 0 0 [some (va_rf (some d)), some (.int (nI (f 0))), some (.int (nI (f 1))), some (.int (nI (f 2)))] []
  refine r_aload_n hC dX2_init_0 rfl rfl ?_
  refine r_objInit hC q_163 q_104 q_105 dX2_init_1 (Nat.le_of_ble_eq_true rfl) (Nat.le_of_ble_eq_true rfl) ?_
  refine r_aload_n hC dX2_init_4 rfl rfl ?_
  refine r_iconst (v := nI 3) hC dX2_init_5 (by decide) ?_
  refine r_newI hC q_157 (rfl) (by first | decide | omega) dX2_init_6 (Nat.le_of_ble_eq_true rfl) (Nat.le_of_ble_eq_true rfl) (fun q6 hq6 hg6 => ?_)
  have k1 : KD (sW S q6 10 3) d 2 := kd_sW kd hq6
  have ka : KD (sW S q6 10 3) q6 10 := kd_newW
  have na : pN (sW S q6 10 3) q6 = 3 := W_N _ _ _ _
  have ra : ∀ g, pR (sR (sW S q6 10 3) 64 d g) 64 d = g := fun g => R_s _ _ _ _
  refine r_putFR hC hnm fl_X2_9 rfl dX2_init_8 (k1) ?_
  refine r_aload_n hC dX2_init_11 rfl rfl ?_
  refine r_getR  hC fl_X2_9 dX2_init_12 (k1) (ra _) ?_
  refine r_iconst (v := nI 0) hC dX2_init_15 (by decide) ?_
  refine r_iload_n hC dX2_init_16 rfl rfl ?_
  refine r_iast hC dX2_init_17 (ka) (rfl) (Nat.lt_of_lt_of_eq (show 0 < 3 by decide) na.symm) (Nat.lt_of_le_of_lt (Nat.le_of_eq na) (by decide)) ?_
  refine r_aload_n hC dX2_init_18 rfl rfl ?_
  refine r_getR  hC fl_X2_9 dX2_init_19 (k1) (ra _) ?_
  refine r_iconst (v := nI 1) hC dX2_init_22 (by decide) ?_
  refine r_iload_n hC dX2_init_23 rfl rfl ?_
  refine r_iast hC dX2_init_24 (ka) (rfl) (Nat.lt_of_lt_of_eq (show 1 < 3 by decide) na.symm) (Nat.lt_of_le_of_lt (Nat.le_of_eq na) (by decide)) ?_
  refine r_aload_n hC dX2_init_25 rfl rfl ?_
  refine r_getR  hC fl_X2_9 dX2_init_26 (k1) (ra _) ?_
  refine r_iconst (v := nI 2) hC dX2_init_29 (by decide) ?_
  refine r_iload_n hC dX2_init_30 rfl rfl ?_
  refine r_iast hC dX2_init_31 (ka) (rfl) (Nat.lt_of_lt_of_eq (show 2 < 3 by decide) na.symm) (Nat.lt_of_le_of_lt (Nat.le_of_eq na) (by decide)) ?_
  refine r_vret hC hQ rfl dX2_init_32 (Nat.le_of_ble_eq_true rfl) (Nat.le_of_ble_eq_true rfl) ?_
  refine ⟨rfl, q6, hq6, ⟨k1, ra _, ka, na, fun i hi => ?_, hf⟩, ?_⟩
  · rw [A_s, A_s, A_s]
    rcases (show i = 0 ∨ i = 1 ∨ i = 2 by omega) with rfl | rfl | rfl
    · rw [pk_un (by decide), pk_un (by decide), upd_self]
    · rw [pk_un (by decide), upd_self]
    · rw [upd_self]
  · refine Ex.tA ?_ (Or.inr hq6)
    refine Ex.tA ?_ (Or.inr hq6)
    refine Ex.tA ?_ (Or.inr hq6)
    refine Ex.tR ?_ (Or.inl rfl)
    refine Ex.tW ?_ hq6
    exact Ex.rf
set_option maxRecDepth 100000 in
theorem c_Sheet_init (hl : l.stackTraces = false) {s : Nat} (ks : KD S s 6) (d : Nat) :
    MT l G S yX6_init cX6_init 2 none (rm3 1 1 8) [va_rf (some s), va_rf (some d)] (fun w S' => w = none ∧ ∃ a, a ∉ pL S ∧ isSh S' s a ∧ (∀ i, pB S' a i = none) ∧ pI S' 194 s = nI 1 ∧ pI S' 195 s = -1 ∧ pR S' 193 s = some d ∧ Ex S S' (xO s) (xO s) x0 x0) (fun _ => False) := by
  refine MT_of (by decide +kernel) hl rfl (Nat.le_of_ble_eq_true rfl) (fun Z hC _ hnm hT hQ => ?_)
  change J G Z S 0 0 0 [some (va_rf (some s)), some (va_rf (some d))] []
  refine r_aload_n hC dX6_init_0 rfl rfl ?_
  refine r_objInit hC q_710 q_104 q_105 dX6_init_1 (Nat.le_of_ble_eq_true rfl) (Nat.le_of_ble_eq_true rfl) ?_
  refine r_aload_n hC dX6_init_4 rfl rfl ?_
  refine r_bipush (v := nI 8) hC dX6_init_5 (by decide) ?_
  refine r_newL hC q_711 (rfl) (by first | decide | omega) dX6_init_7 (Nat.le_of_ble_eq_true rfl) (Nat.le_of_ble_eq_true rfl) (fun q7 hq7 hg7 => ?_)
  refine r_putFR hC hnm fl_X6_11 rfl dX6_init_10 (kd_sW ks hq7) ?_
  refine r_aload_n hC dX6_init_13 rfl rfl ?_
  refine r_iconst (v := nI 1) hC dX6_init_14 (by decide) ?_
  refine r_putI hC fl_X6_17 rfl (by decide) dX6_init_15 (kd_sR (kd_sW ks hq7)) (fun _ => by decide) ?_
  refine r_aload_n hC dX6_init_18 rfl rfl ?_
  refine r_iconst (v := (-1)) hC dX6_init_19 (by decide) ?_
  refine r_putI hC fl_X6_21 rfl (by decide) dX6_init_20 (kd_sI (kd_sR (kd_sW ks hq7))) (fun h => absurd h (by decide)) ?_
  refine r_aload_n hC dX6_init_23 rfl rfl ?_
  refine r_aload_n hC dX6_init_24 rfl rfl ?_
  refine r_putFR hC hnm fl_X6_25 rfl dX6_init_25 (kd_sI (kd_sI (kd_sR (kd_sW ks hq7)))) ?_
  refine r_vret hC hQ rfl dX6_init_28 (Nat.le_of_ble_eq_true rfl) (Nat.le_of_ble_eq_true rfl) ?_
  have hB : ∀ f, pB (sW S q7 12 8) q7 f = none := fun f => by rw [W_B]
  have ks1 : KD (sW S q7 12 8) s 6 := kd_sW ks hq7
  have kv1 : KD (sW S q7 12 8) q7 12 := kd_newW
  refine ⟨rfl, q7, hq7, ⟨ks1, ?_, kv1, W_N S q7 12 8⟩, hB, ?_, ?_, ?_, ?_⟩
  · simp [sI, sR, sW, u2, pR]
  · simp [sI, sR, sW, u2, pI]
  · simp [sI, sR, sW, u2, pI]
  · simp [sI, sR, sW, u2, pR]
  · refine Ex.tR ?_ (Or.inl rfl)
    refine Ex.tI ?_ (Or.inl rfl)
    refine Ex.tI ?_ (Or.inl rfl)
    refine Ex.tR ?_ (Or.inl rfl)
    refine Ex.tW ?_ hq7
    exact Ex.rf
set_option maxRecDepth 100000 in
theorem c_Piles_init (hl : l.stackTraces = false) {p : Nat} (kp : KD S p 5) :
    MT l G S yX5_init cX5_init 1 none (rm3 1 2 72) [va_rf (some p)] (fun w S' => w = none ∧ ∃ ac ah, ac ∉ pL S ∧ ah ∉ pL S ∧ isPi S' p ac ah ∧ Ex S S' (xO p) (xO p) x0 x0) (fun _ => False) := by
  refine MT_of (by decide +kernel) hl rfl (Nat.le_of_ble_eq_true rfl) (fun Z hC _ hnm hT hQ => ?_)
  change J G Z S 0 0 0 [some (va_rf (some p))] []
  refine r_aload_n hC dX5_init_0 rfl rfl ?_
  refine r_objInit hC q_137 q_104 q_105 dX5_init_1 (Nat.le_of_ble_eq_true rfl) (Nat.le_of_ble_eq_true rfl) ?_
  refine r_aload_n hC dX5_init_4 rfl rfl ?_
  refine r_bipush (v := nI 64) hC dX5_init_5 (by decide) ?_
  refine r_newI hC q_157 (rfl) (by first | decide | omega) dX5_init_7 (Nat.le_of_ble_eq_true rfl) (Nat.le_of_ble_eq_true rfl) (fun q7 hq7 hg7 => ?_)
  refine r_putFR hC hnm fl_X5_9 rfl dX5_init_9 (kd_sW kp hq7) ?_
  refine r_aload_n hC dX5_init_12 rfl rfl ?_
  refine r_bipush (v := nI 8) hC dX5_init_13 (by decide) ?_
  refine r_newI hC q_157 (rfl) (by first | decide | omega) dX5_init_15 (Nat.le_of_ble_eq_true rfl) (Nat.le_of_ble_eq_true rfl) (fun q15 hq15 hg15 => ?_)
  refine r_putFR hC hnm fl_X5_15 rfl dX5_init_17 (kd_sW (kd_sR (kd_sW kp hq7)) hq15) ?_
  refine r_aload_n hC dX5_init_20 rfl rfl ?_
  refine r_iconst (v := nI 0) hC dX5_init_21 (by decide) ?_
  refine r_putI hC fl_X5_18 rfl (by decide) dX5_init_22 (kd_sR (kd_sW (kd_sR (kd_sW kp hq7)) hq15)) (fun h => absurd h (by decide)) ?_
  refine r_aload_n hC dX5_init_25 rfl rfl ?_
  refine r_iconst (v := nI 0) hC dX5_init_26 (by decide) ?_
  refine r_putI hC fl_X5_22 rfl (by decide) dX5_init_27 (kd_sI (kd_sR (kd_sW (kd_sR (kd_sW kp hq7)) hq15))) (fun h => absurd h (by decide)) ?_
  refine r_aload_n hC dX5_init_30 rfl rfl ?_
  refine r_iconst (v := nI 2) hC dX5_init_31 (by decide) ?_
  refine r_putI hC fl_X5_25 rfl (by decide) dX5_init_32 (kd_sI (kd_sI (kd_sR (kd_sW (kd_sR (kd_sW kp hq7)) hq15)))) (fun h => absurd h (by decide)) ?_
  refine r_aload_n hC dX5_init_35 rfl rfl ?_
  refine r_iconst (v := nI 4) hC dX5_init_36 (by decide) ?_
  refine r_putI hC fl_X5_28 rfl (by decide) dX5_init_37 (kd_sI (kd_sI (kd_sI (kd_sR (kd_sW (kd_sR (kd_sW kp hq7)) hq15))))) (fun h => absurd h (by decide)) ?_
  refine r_vret hC hQ rfl dX5_init_40 (Nat.le_of_ble_eq_true rfl) (Nat.le_of_ble_eq_true rfl) ?_
  have k15 := nin_W hq15
  have kk : KD (sW (sW S q7 10 64) q15 10 8) p 5 := kd_sW (kd_sW kp hq7) hq15
  refine ⟨rfl, q7, q15, hq7, k15.1, ⟨kk, ?_, ?_, ?_, ?_, ?_, ?_, fun e => k15.2 e.symm⟩, ?_⟩
  · simp [sI, sR, sW, u2, pR]
  · simp [sI, sR, sW, u2, pR]
  · exact show KD (sW (sW S q7 10 64) q15 10 8) q7 10 from kd_sW kd_newW hq15
  · show pN (sW (sW S q7 10 64) q15 10 8) q7 = 64
    rw [W_Nn _ _ _ (fun e => k15.2 e.symm), W_N]
  · exact show KD (sW (sW S q7 10 64) q15 10 8) q15 10 from kd_newW
  · exact W_N (sW S q7 10 64) q15 10 8
  · refine Ex.tI ?_ (Or.inl rfl)
    refine Ex.tI ?_ (Or.inl rfl)
    refine Ex.tI ?_ (Or.inl rfl)
    refine Ex.tI ?_ (Or.inl rfl)
    refine Ex.tR ?_ (Or.inl rfl)
    refine Ex.tW ?_ hq15
    refine Ex.tR ?_ (Or.inl rfl)
    refine Ex.tW ?_ hq7
    exact Ex.rf
end Ctor

