/-! ===== leaves and sheets ===== -/
section JX2
variable {G : GG} {Z : ZZ} {own : String} {cc : ByteArray} {nL : Nat} {ret : Option FieldType} {rm : Room} {S : PS} {k n pc : Nat} {L : List (Option Value)} {st : List Value}
theorem r_cast (hC : CX G Z own cc nL ret rm) {idx a kd : Nat} {C : String} {T : u_T} {N : Nat} (w1 : Cond.classLink own idx C ∈ TBL) (hd : decode cc pc = .ok (.checkcast idx, 3)) (ha : KD S a kd) (h10 : kd < 10) (hc : cls[kd]? = some (C, T, N)) (kk : J G Z S k n (pc + 3) L (va_rf (some a) :: st)) : J G Z S k n pc L (va_rf (some a) :: st) := by
  intro H locs ls hW hS hL
  obtain ⟨q, -, hq⟩ := HW_cell hW ha.1 (PF_obj ha.2 h10)
  exact va_castS hC.1 hC.2.1 hC.ow (hC.ww _ w1) (hC.ks.1.1 kd _ hc).2 (va_recv hC.ks.1 hW.1 hc hq) hd (kk H locs ls hW hS hL)
theorem r_ishr1 (hC : CX G Z own cc nL ret rm) {x : Nat} (hd : decode cc pc = .ok (.ishr, 1)) (hx : x < 2147483648) (kk : J G Z S k n (pc + 1) L (.int (nI (x / 2)) :: st)) : J G Z S k n pc L (.int (nI 1) :: .int (nI x) :: st) := by
  intro H locs ls hW hS hL
  refine lv_ishr hC.1 hC.2.1 hd ?_
  have e : nI x >>> (nI 1 &&& 31) = nI (x / 2) := by
    have h := pk_shrN (n := x) hx (nI 1 &&& 31) 1 (by decide)
    rw [Nat.pow_one] at h
    exact h
  rw [e]
  exact kk H locs ls hW hS hL
end JX2
/-- a leaf: its object, its sheet -/
def isLf (S : PS) (y : Nat) : Prop := KD S y 3 ∧ ∃ s, pR S 100 y = some s ∧ KD S s 6
/-- the sheet of a leaf -/
def lfS (S : PS) (y : Nat) : Nat := (pR S 100 y).getD 0
theorem isLf.sh {S : PS} {y : Nat} (h : isLf S y) : pR S 100 y = some (lfS S y) ∧ KD S (lfS S y) 6 := by
  obtain ⟨-, s, h1, h2⟩ := h
  unfold lfS
  rw [h1]
  exact ⟨rfl, h2⟩
/-- a sheet's object and its row of cells -/
def isSh (S : PS) (s a : Nat) : Prop := KD S s 6 ∧ pR S 192 s = some a ∧ KD S a 12 ∧ pN S a = 8
section SheetA
variable {l : Launch} {G : GG} {S : PS}
set_option maxRecDepth 100000 in
theorem c_Leaf_init (hl : l.stackTraces = false) {y : Nat} (ky : KD S y 3) (o c f p : Int32) (s : Option Nat) :
    MT l G S yX3_init cX3_init 6 none (rmA 1) [va_rf (some y), .int o, .int c, .int f, .int p, va_rf s] (fun v S' => v = none ∧ S' = sR (sI (sI (sI (sI (sI S 101 y 0) 96 y o) 97 y c) 98 y f) 99 y p) 100 y s) (fun _ => False) := by
  refine MT_of (by decide +kernel) hl (by cases s <;> rfl) (Nat.le_of_ble_eq_true rfl) (fun Z hC _ hnm hT hQ => ?_)
  change J G Z S 0 0 0 [some (va_rf (some y)), some (.int o), some (.int c), some (.int f), some (.int p), some (va_rf s)] []
  refine r_aload_n hC dX3_init_0 rfl rfl ?_
  refine r_objInit hC q_740 q_104 q_105 dX3_init_1 (Nat.le_of_ble_eq_true rfl) (Nat.le_of_ble_eq_true rfl) ?_
  refine r_aload_n hC dX3_init_4 rfl rfl ?_
  refine r_iconst (v := nI 0) hC dX3_init_5 (by decide) ?_
  refine r_putI hC fl_X3_9 rfl (by decide) dX3_init_6 (ky) (fun _ => by decide) ?_
  refine r_aload_n hC dX3_init_9 rfl rfl ?_
  refine r_iload_n hC dX3_init_10 rfl rfl ?_
  refine r_putFI hC hnm fl_X3_15 rfl rfl (by decide) dX3_init_11 (ky) (fun h => absurd h (by decide)) ?_
  refine r_aload_n hC dX3_init_14 rfl rfl ?_
  refine r_iload_n hC dX3_init_15 rfl rfl ?_
  refine r_putFI hC hnm fl_X3_19 rfl rfl (by decide) dX3_init_16 (ky) (fun h => absurd h (by decide)) ?_
  refine r_aload_n hC dX3_init_19 rfl rfl ?_
  refine r_iload_n hC dX3_init_20 rfl rfl ?_
  refine r_putFI hC hnm fl_X3_22 rfl rfl (by decide) dX3_init_21 (ky) (fun h => absurd h (by decide)) ?_
  refine r_aload_n hC dX3_init_24 rfl rfl ?_
  refine r_iload hC dX3_init_25 rfl ?_
  refine r_putFI hC hnm fl_X3_25 rfl rfl (by decide) dX3_init_27 (ky) (fun h => absurd h (by decide)) ?_
  refine r_aload_n hC dX3_init_30 rfl rfl ?_
  refine r_aload hC dX3_init_31 rfl ?_
  refine r_putFR hC hnm fl_X3_28 rfl dX3_init_33 (ky) ?_
  refine r_vret hC hQ rfl dX3_init_36 (Nat.le_of_ble_eq_true rfl) (Nat.le_of_ble_eq_true rfl) ?_
  exact ⟨rfl, rfl⟩
set_option maxRecDepth 100000 in
theorem c_code (hl : l.stackTraces = false) {y : Nat} (ky : KD S y 3) :
    MT l G S yX3_code cX3_code 1 (some .int) (rmA 0) [va_rf (some y)] (fun v S' => v = some (.int (nI 10000 * pI S 96 y + nI 1000 * pI S 97 y + pI S 98 y)) ∧ S' = S) (fun _ => False) := by
  refine MT_of (by decide +kernel) hl rfl (Nat.le_of_ble_eq_true rfl) (fun Z hC _ hnm hT hQ => ?_)
  change J G Z S 0 0 0 [some (va_rf (some y))] []
  refine r_sipush (v := nI 10000) hC dX3_code_0 (by decide) ?_
  refine r_aload_n hC dX3_code_3 rfl rfl ?_
  refine r_getI hC fl_X3_15 rfl dX3_code_4 (ky) (rfl) ?_
  refine r_imul hC dX3_code_7 ?_
  refine r_sipush (v := nI 1000) hC dX3_code_8 (by decide) ?_
  refine r_aload_n hC dX3_code_11 rfl rfl ?_
  refine r_getI hC fl_X3_19 rfl dX3_code_12 (ky) (rfl) ?_
  refine r_imul hC dX3_code_15 ?_
  refine r_iadd hC dX3_code_16 ?_
  refine r_aload_n hC dX3_code_17 rfl rfl ?_
  refine r_getI hC fl_X3_22 rfl dX3_code_18 (ky) (rfl) ?_
  refine r_iadd hC dX3_code_21 ?_
  refine r_iret hC hQ rfl dX3_code_22 (Nat.le_of_ble_eq_true rfl) (Nat.le_of_ble_eq_true rfl) ?_
  exact ⟨rfl, rfl⟩
set_option maxRecDepth 100000 in
theorem c_belongsTo (hl : l.stackTraces = false) {y : Nat} (ky : KD S y 3) (o c f : Int32) :
    MT l G S yX3_belongsTo cX3_belongsTo 4 (some .boolean) (rmA 0) [va_rf (some y), .int o, .int c, .int f] (fun v S' => v = some (.int (bI (decide (pI S 96 y = o ∧ pI S 97 y = c ∧ pI S 98 y = f)))) ∧ S' = S) (fun _ => False) := by
  refine MT_of (by decide +kernel) hl rfl (Nat.le_of_ble_eq_true rfl) (fun Z hC _ hnm hT hQ => ?_)
  change J G Z S 0 0 0 [some (va_rf (some y)), some (.int o), some (.int c), some (.int f)] []
  have no : ¬ (pI S 96 y = o ∧ pI S 97 y = c ∧ pI S 98 y = f) → J G Z S 0 0 28 [some (va_rf (some y)), some (.int o), some (.int c), some (.int f)] [] := by
    intro h
    refine r_iconst (v := nI 0) hC dX3_belongsTo_28 (by decide) ?_
    refine r_zret hC hQ rfl (by decide) dX3_belongsTo_29 (Nat.le_of_ble_eq_true rfl) (Nat.le_of_ble_eq_true rfl) ?_
    exact ⟨by rw [decide_eq_false h]; rfl, rfl⟩
  refine r_aload_n hC dX3_belongsTo_0 rfl rfl ?_
  refine r_getI hC fl_X3_15 rfl dX3_belongsTo_1 (ky) (rfl) ?_
  refine r_iload_n hC dX3_belongsTo_4 rfl rfl ?_
  refine r_icne (tgt := 28) hC dX3_belongsTo_5 (by decide) (fun h5 => ?_) (fun h5 => ?_)
  · exact no (fun z => h5 z.1)
  · skip
    refine r_aload_n hC dX3_belongsTo_8 rfl rfl ?_
    refine r_getI hC fl_X3_19 rfl dX3_belongsTo_9 (ky) (rfl) ?_
    refine r_iload_n hC dX3_belongsTo_12 rfl rfl ?_
    refine r_icne (tgt := 28) hC dX3_belongsTo_13 (by decide) (fun h13 => ?_) (fun h13 => ?_)
    · exact no (fun z => h13 z.2.1)
    · skip
      refine r_aload_n hC dX3_belongsTo_16 rfl rfl ?_
      refine r_getI hC fl_X3_22 rfl dX3_belongsTo_17 (ky) (rfl) ?_
      refine r_iload_n hC dX3_belongsTo_20 rfl rfl ?_
      refine r_icne (tgt := 28) hC dX3_belongsTo_21 (by decide) (fun h21 => ?_) (fun h21 => ?_)
      · exact no (fun z => h21 z.2.2)
      · skip
        refine r_iconst (v := nI 1) hC dX3_belongsTo_24 (by decide) ?_
        refine r_goto (tgt := 29) hC dX3_belongsTo_25 (by decide) ?_
        refine r_zret hC hQ rfl (by decide) dX3_belongsTo_29 (Nat.le_of_ble_eq_true rfl) (Nat.le_of_ble_eq_true rfl) ?_
        exact ⟨by rw [decide_eq_true ⟨h5, h13, h21⟩]; rfl, rfl⟩
set_option maxRecDepth 100000 in
theorem c_leafIn (hl : l.stackTraces = false) {s a i : Nat} (hs : isSh S s a) (hi : i < 8) :
    MT l G S yX6_leafIn cX6_leafIn 2 (some (.object "Thumbreel$Leaf")) (rmA 0) [va_rf (some s), .int (nI i)] (fun v S' => v = some (va_rf (pB S a i)) ∧ S' = S) (fun _ => False) := by
  obtain ⟨ks, ra, ka, na⟩ := hs
  refine MT_of (by decide +kernel) hl rfl (Nat.le_of_ble_eq_true rfl) (fun Z hC _ hnm hT hQ => ?_)
  change J G Z S 0 0 0 [some (va_rf (some s)), some (.int (nI i))] []
  refine r_iload_n hC dX6_leafIn_0 rfl rfl ?_
  refine r_iflt (tgt := 13) hC dX6_leafIn_1 (by decide) (fun h1 => ?_) (fun h1 => ?_)
  · exact absurd h1 (nI_pos (by omega))
  · skip
    refine r_iload_n hC dX6_leafIn_4 rfl rfl ?_
    refine r_aload_n hC dX6_leafIn_5 rfl rfl ?_
    refine r_getR  hC fl_X6_11 dX6_leafIn_6 (ks) (ra) ?_
    refine r_alen hC dX6_leafIn_9 (ka) (by decide) (by decide) (na) ?_
    refine r_iclt (tgt := 17) hC dX6_leafIn_10 (by decide) (fun h10 => ?_) (fun h10 => ?_)
    · skip
      refine r_aload_n hC dX6_leafIn_17 rfl rfl ?_
      refine r_getR  hC fl_X6_11 dX6_leafIn_18 (ks) (ra) ?_
      refine r_iload_n hC dX6_leafIn_21 rfl rfl ?_
      refine r_aald hC dX6_leafIn_22 (ka) (by decide) (rfl) (by rw [na]; exact hi) (by rw [na]; decide) (rfl) ?_
      refine r_aret hC hQ rfl (by first | exact Or.inl ⟨_, rfl⟩ | exact Or.inr ⟨_, rfl⟩) dX6_leafIn_23 (Nat.le_of_ble_eq_true rfl) (Nat.le_of_ble_eq_true rfl) ?_
      exact ⟨rfl, rfl⟩
    · exact absurd (nI_lt hi (by decide)) h10
set_option maxRecDepth 100000 in
theorem c_lay (hl : l.stackTraces = false) {s a d fa p y : Nat} {f : Nat → Nat} (hs : isSh S s a) (hd : pR S 193 s = some d) (hf : isFd S d fa f) (hp : p < 8) (hu : unf f p < 8) (ky : KD S y 3) :
    MT l G S yX6_lay cX6_lay 4 none (rmA 2) [va_rf (some s), va_rf (some y), .int (nI p)] (fun v S' => v = none ∧ S' = sB S a (va_up (pB S a) (unf f p) (some y))) (fun _ => False) := by
  obtain ⟨ks, ra, ka, na⟩ := hs
  refine MT_of (by decide +kernel) hl rfl (Nat.le_of_ble_eq_true rfl) (fun Z hC hzl hnm hT hQ => ?_)
  change J G Z S 0 0 0 [some (va_rf (some s)), some (va_rf (some y)), some (.int (nI p)), none] []
  have hzs : (zl Z).stackTraces = false := by rw [hzl]; exact hl
  refine r_aload_n hC dX6_lay_0 rfl rfl ?_
  refine r_getR  hC fl_X6_25 dX6_lay_1 (ks) (hd) ?_
  refine r_iload_n hC dX6_lay_4 rfl rfl ?_
  refine r_cVN (as := [.int (nI p)]) hC (c_unfold hzs hf hp) cs_X2_unfold q_776 q_646 q_24 (hf.1) (by decide) rfl dX6_lay_5 rfl rfl ⟨Nat.le_of_ble_eq_true rfl, Nat.le_of_ble_eq_true rfl⟩ (Nat.le_of_ble_eq_true rfl) ⟨Nat.le_of_ble_eq_true rfl, Nat.le_of_ble_eq_true rfl⟩ (fun v5 S5 p5 => ?_) (fun _ x => x.elim)
  obtain ⟨rfl, e5⟩ := p5
  rw [e5]
  refine r_istore_n hC dX6_lay_8 rfl (by decide) ?_
  refine r_iload_n hC dX6_lay_9 rfl rfl ?_
  refine r_iflt (tgt := 29) hC dX6_lay_10 (by decide) (fun h10 => ?_) (fun h10 => ?_)
  · exact absurd h10 (nI_pos (by omega))
  · skip
    refine r_iload_n hC dX6_lay_13 rfl rfl ?_
    refine r_aload_n hC dX6_lay_14 rfl rfl ?_
    refine r_getR  hC fl_X6_11 dX6_lay_15 (ks) (ra) ?_
    refine r_alen hC dX6_lay_18 (ka) (by decide) (by decide) (na) ?_
    refine r_icge (tgt := 29) hC dX6_lay_19 (by decide) (fun h19 => ?_) (fun h19 => ?_)
    · exact absurd ((nI_leI (by omega) (by omega)).mp h19) (by omega)
    · skip
      refine r_aload_n hC dX6_lay_22 rfl rfl ?_
      refine r_getR  hC fl_X6_11 dX6_lay_23 (ks) (ra) ?_
      refine r_iload_n hC dX6_lay_26 rfl rfl ?_
      refine r_aload_n hC dX6_lay_27 rfl rfl ?_
      refine r_aastL hC dX6_lay_28 (ka) (rfl) (show unf f p < pN S a by rw [na]; exact hu) (show pN S a < 2147483648 by rw [na]; decide) (fun z hz => by cases hz; exact ky) ?_
      refine r_vret hC hQ rfl dX6_lay_29 (Nat.le_of_ble_eq_true rfl) (Nat.le_of_ble_eq_true rfl) ?_
      exact ⟨rfl, rfl⟩
set_option maxRecDepth 100000 in
theorem c_cutWith (hl : l.stackTraces = false) {s : Nat} (ks : KD S s 6) (t : Int32) :
    MT l G S yX6_cutWith cX6_cutWith 2 none (rmA 0) [va_rf (some s), .int t] (fun v S' => v = none ∧ S' = sI (sI S 194 s 0) 195 s t) (fun _ => False) := by
  refine MT_of (by decide +kernel) hl rfl (Nat.le_of_ble_eq_true rfl) (fun Z hC _ hnm hT hQ => ?_)
  change J G Z S 0 0 0 [some (va_rf (some s)), some (.int t)] []
  refine r_aload_n hC dX6_cutWith_0 rfl rfl ?_
  refine r_iconst (v := nI 0) hC dX6_cutWith_1 (by decide) ?_
  refine r_putI hC fl_X6_17 rfl (by decide) dX6_cutWith_2 (ks) (fun _ => by decide) ?_
  refine r_aload_n hC dX6_cutWith_5 rfl rfl ?_
  refine r_iload_n hC dX6_cutWith_6 rfl rfl ?_
  refine r_putI hC fl_X6_21 rfl (by decide) dX6_cutWith_7 (ks) (fun h => absurd h (by decide)) ?_
  refine r_vret hC hQ rfl dX6_cutWith_10 (Nat.le_of_ble_eq_true rfl) (Nat.le_of_ble_eq_true rfl) ?_
  exact ⟨rfl, rfl⟩
set_option maxRecDepth 100000 in
theorem c_isCut (hl : l.stackTraces = false) {s : Nat} (ks : KD S s 6) :
    MT l G S yX6_isCut cX6_isCut 1 (some .boolean) (rmA 0) [va_rf (some s)] (fun v S' => v = some (.int (bI (decide (pI S 195 s ≠ -1)))) ∧ S' = S) (fun _ => False) := by
  refine MT_of (by decide +kernel) hl rfl (Nat.le_of_ble_eq_true rfl) (fun Z hC _ hnm hT hQ => ?_)
  change J G Z S 0 0 0 [some (va_rf (some s))] []
  refine r_aload_n hC dX6_isCut_0 rfl rfl ?_
  refine r_getI hC fl_X6_21 rfl dX6_isCut_1 (ks) (rfl) ?_
  refine r_iconst (v := (-1)) hC dX6_isCut_4 (by decide) ?_
  refine r_iceq (tgt := 12) hC dX6_isCut_5 (by decide) (fun h5 => ?_) (fun h5 => ?_)
  · skip
    refine r_iconst (v := nI 0) hC dX6_isCut_12 (by decide) ?_
    refine r_zret hC hQ rfl (by decide) dX6_isCut_13 (Nat.le_of_ble_eq_true rfl) (Nat.le_of_ble_eq_true rfl) ?_
    exact ⟨by rw [decide_eq_false (fun z => z h5)]; rfl, rfl⟩
  · skip
    refine r_iconst (v := nI 1) hC dX6_isCut_8 (by decide) ?_
    refine r_goto (tgt := 13) hC dX6_isCut_9 (by decide) ?_
    refine r_zret hC hQ rfl (by decide) dX6_isCut_13 (Nat.le_of_ble_eq_true rfl) (Nat.le_of_ble_eq_true rfl) ?_
    exact ⟨by rw [decide_eq_true h5]; rfl, rfl⟩
/-- whether some leaf of the first i cells is not spoiled -/
def useB (S : PS) (a : Nat) : Nat → Bool
  | 0 => false
  | i + 1 => useB S a i || (match pB S a i with | none => false | some y => decide (pI S 101 y = 0))
set_option maxRecDepth 100000 in
theorem c_isOfUse (hl : l.stackTraces = false) {s a : Nat} (hs : isSh S s a) (hy : ∀ i, i < 8 → ∀ y, pB S a i = some y → KD S y 3) :
    MT l G S yX6_isOfUse cX6_isOfUse 3 (some .boolean) (rmA 0) [va_rf (some s)] (fun v S' => v = some (.int (bI (useB S a 8))) ∧ S' = S) (fun _ => False) := by
  obtain ⟨ks, ra, ka, na⟩ := hs
  refine MT_of (by decide +kernel) hl rfl (Nat.le_of_ble_eq_true rfl) (fun Z hC _ hnm hT hQ => ?_)
  change J G Z S 0 0 0 [some (va_rf (some s)), none, none] []
  have mono : ∀ i j, useB S a i = true → useB S a (i + j) = true := by
    intro i j h
    induction j with
    | zero => exact h
    | succ j ih => rw [← Nat.add_assoc]; simp only [useB, ih, Bool.true_or]
  have loop : ∀ (d i : Nat) (o : Option Value), i + d = 8 → useB S a i = false → J G Z S 0 0 2 [some (va_rf (some s)), some (.int (nI i)), o] [] := by
    intro d
    induction d with
    | zero =>
      intro i o hi h
      have hi : i = 8 := by omega
      subst hi
      refine r_iload_n hC dX6_isOfUse_2 rfl rfl ?_
      refine r_aload_n hC dX6_isOfUse_3 rfl rfl ?_
      refine r_getR  hC fl_X6_11 dX6_isOfUse_4 (ks) (ra) ?_
      refine r_alen hC dX6_isOfUse_7 (ka) (by decide) (by decide) (na) ?_
      refine r_icge (tgt := 37) hC dX6_isOfUse_8 (by decide) (fun h8 => ?_) (fun h8 => ?_)
      · skip
        refine r_iconst (v := nI 0) hC dX6_isOfUse_37 (by decide) ?_
        refine r_zret hC hQ rfl (by decide) dX6_isOfUse_38 (Nat.le_of_ble_eq_true rfl) (Nat.le_of_ble_eq_true rfl) ?_
        exact ⟨by rw [h]; rfl, rfl⟩
      · exact absurd (nI_le (Nat.le_refl 8) (by decide)) h8
    | succ d ih =>
      intro i o hi h
      refine r_iload_n hC dX6_isOfUse_2 rfl rfl ?_
      refine r_aload_n hC dX6_isOfUse_3 rfl rfl ?_
      refine r_getR  hC fl_X6_11 dX6_isOfUse_4 (ks) (ra) ?_
      refine r_alen hC dX6_isOfUse_7 (ka) (by decide) (by decide) (na) ?_
      refine r_icge (tgt := 37) hC dX6_isOfUse_8 (by decide) (fun h8 => ?_) (fun h8 => ?_)
      · exact absurd ((nI_leI (by omega) (by omega)).mp h8) (by omega)
      · skip
        refine r_aload_n hC dX6_isOfUse_11 rfl rfl ?_
        refine r_getR  hC fl_X6_11 dX6_isOfUse_12 (ks) (ra) ?_
        refine r_iload_n hC dX6_isOfUse_15 rfl rfl ?_
        refine r_aald hC dX6_isOfUse_16 (ka) (by decide) (rfl) (by rw [na]; omega) (by rw [na]; decide) (rfl) ?_
        refine r_astore_n hC dX6_isOfUse_17 rfl (by decide) ?_
        refine r_aload_n hC dX6_isOfUse_18 rfl rfl ?_
        refine r_ifnull (tgt := 31) hC dX6_isOfUse_19 (by decide) (fun h19 => ?_) (fun z19 h19 => ?_)
        · skip
          refine r_iinc hC dX6_isOfUse_31 rfl (ii1 _) ?_
          refine r_goto (tgt := 2) hC dX6_isOfUse_34 (by decide) ?_
          refine ih (i + 1) _ (by omega) ?_
          simp only [useB, h, h19, Bool.false_or]
        · skip
          rw [h19]
          refine r_aload_n hC dX6_isOfUse_22 rfl rfl ?_
          refine r_getI hC fl_X6_35 rfl dX6_isOfUse_23 (hy i (by omega) _ h19) (rfl) ?_
          refine r_ifne (tgt := 31) hC dX6_isOfUse_26 (by decide) (fun h26 => ?_) (fun h26 => ?_)
          · skip
            refine r_iinc hC dX6_isOfUse_31 rfl (ii1 _) ?_
            refine r_goto (tgt := 2) hC dX6_isOfUse_34 (by decide) ?_
            refine ih (i + 1) _ (by omega) ?_
            simp only [useB, h, h19, Bool.false_or]
            exact decide_eq_false h26
          · skip
            refine r_iconst (v := nI 1) hC dX6_isOfUse_29 (by decide) ?_
            refine r_zret hC hQ rfl (by decide) dX6_isOfUse_30 (Nat.le_of_ble_eq_true rfl) (Nat.le_of_ble_eq_true rfl) ?_
            refine ⟨?_, rfl⟩
            have h1 : useB S a (i + 1) = true := by
              simp only [useB, h19]
              rw [decide_eq_true h26, Bool.or_true]
            rw [show (8 : Nat) = i + 1 + d by omega, mono _ _ h1]
            rfl
  refine r_iconst (v := nI 0) hC dX6_isOfUse_0 (by decide) ?_
  refine r_istore_n hC dX6_isOfUse_1 rfl (by decide) ?_
  exact loop 8 0 none (by omega) rfl
end SheetA

