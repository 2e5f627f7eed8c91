/-! ===== ArrayList ===== -/
section JX3
variable {G : GG} {Z : ZZ} {own : String} {cc : ByteArray} {nL : Nat} {ret : Option FieldType} {rm : Room} {S : PS} {k n pc : Nat} {L : List (Option Value)} {st : List Value}
/-- ArrayList's empty row, out of its static field -/
theorem r_getsE (hC : CX G Z own cc nL ret rm) {idx : Nat} (w1 : Cond.fieldLink own idx "java/util/ArrayList" "DEFAULTCAPACITY_EMPTY_ELEMENTDATA" "[Ljava/lang/Object;" ∈ TBL) (hd : decode cc pc = .ok (.getstatic idx, 3)) (kk : J G Z S k n (pc + 3) L (va_rf (some (gE G)) :: st)) : J G Z S k n pc L st :=
  fun H locs ls hW hS hL => va_gets hC.1 hC.2.1 hC.ks.2.2.2.1 hS hC.ow (hC.ww _ w1) (fun _ h => h) hd (kk H locs ls hW hS hL)
theorem r_alenE (hC : CX G Z own cc nL ret rm) (hd : decode cc pc = .ok (.arraylength, 1)) (kk : J G Z S k n (pc + 1) L (.int (nI 0) :: st)) : J G Z S k n pc L (va_rf (some (gE G)) :: st) :=
  fun H locs ls hW hS hL => va_tlen hC.1 hC.2.1 hC.ks.2.2.2.2.1 hS rfl hd (kk H locs ls hW hS hL)
theorem r_ldcM (hC : CX G Z own cc nL ret rm) {idx : Nat} (w1 : Cond.classLink own idx "[Ljava/lang/Object;" ∈ TBL) (hd : decode cc pc = .ok (.ldc idx, 2)) (kk : J G Z S k n (pc + 2) L (va_rf (some (gS G 99)) :: st)) : J G Z S k n pc L st :=
  fun H locs ls hW hS hL => va_ldcM hC.1 hC.2.1 hC.ow (hC.ww _ w1) hC.ks.2.2.2.2.2.2.2.2.2.1 hd (kk H locs ls hW hS hL)
theorem r_getC (hC : CX G Z own cc nL ret rm) {idx a : Nat} (w1 : Cond.methodLink own idx ⟨"java/lang/Object", "getClass", "()Ljava/lang/Class;"⟩ ∈ TBL) (w2 : Cond.declares ⟨"java/lang/Object", "getClass", "()Ljava/lang/Class;"⟩ ∈ TBL) (w3 : Cond.selects "[Ljava/lang/Object;" ⟨"java/lang/Object", "getClass", "()Ljava/lang/Class;"⟩ ⟨"java/lang/Object", "getClass", "()Ljava/lang/Class;"⟩ ∈ TBL) (w4 : Cond.instanceMethod ⟨"java/lang/Object", "getClass", "()Ljava/lang/Class;"⟩ ∈ TBL) (w5 : Cond.native ⟨"java/lang/Object", "getClass", "()Ljava/lang/Class;"⟩ ∈ TBL)
    (hd : decode cc pc = .ok (.invokevirtual idx, 3)) (ha : KD S a 13) (hf : 1 ≤ rm.frames) (hl : (st.map fun v => v.category).sum + 14 ≤ rm.locals) (kk : J G Z S k n (pc + 3) L (va_rf (some (gS G 99)) :: st)) : J G Z S k n pc L (va_rf (some a) :: st) := by
  intro H locs ls hW hS hL
  obtain ⟨q, -, hq⟩ := HW_cell hW ha.1 (PF_ref ha.2 (by omega) (by omega))
  refine va_getC hC.1 hC.2.1 hL.1.1.symm hC.ow (hC.ww _ w1) (hC.ww _ w2) (hC.ww _ w3) (hC.ww _ w4) (hC.ww _ w5) hC.ks.2.2.2.2.2.2.2.2.2.1 ?_ (by rw [hC.rr]; exact hf) (by rw [hC.rr]; exact hl) hd (kk H locs ls hW hS hL)
  refine ⟨_, hW.1 q _ hq, rfl, ?_⟩
  exact va_nmO (hC.ks.1.2 3 (gC G 13, .object "java/lang/Object") rfl).2 rfl
/-- rows of Objects copied: all elements are objects of kinds -/
theorem r_acopy (hC : CX G Z own cc nL ret rm) {idx a b N : Nat} (w1 : Cond.methodLink own idx arraycopyName ∈ TBL) (w2 : Cond.native arraycopyName ∈ TBL) (w3 : Cond.static arraycopyName ∈ TBL) (w4 : Cond.initialized "java/lang/System" ∈ TBL)
    (hd : decode cc pc = .ok (.invokestatic idx, 3)) (ha : KD S a 13) (hb : KD S b 13) (h1 : N ≤ pN S a) (h2 : N ≤ pN S b) (hN : N < 2147483648) (hel : ∀ i, i < N → ∀ y, pB S a i = some y → ∃ kd r, kd < 10 ∧ KD S y kd ∧ cls[kd]? = some r ∧ Cond.castable r.1 "java/lang/Object" ∈ TBL)
    (hf : 1 ≤ rm.frames) (hl : (st.map fun v => v.category).sum + (nativeFrameWords "java/lang/System" "arraycopy" 5 + 11) ≤ rm.locals) (kk : J G Z (sB S b (va_cpy (pB S a) (pB S b) 0 0 N)) k n (pc + 3) L st) : J G Z S k n pc L (.int (nI N) :: .int (nI 0) :: va_rf (some b) :: .int (nI 0) :: va_rf (some a) :: st) := by
  intro H locs ls hW hS hL
  obtain ⟨q, -, hq⟩ := HW_cell hW ha.1 (PF_ref ha.2 (by omega) (by omega))
  obtain ⟨q2, hq20, hq2⟩ := HW_cell hW hb.1 (PF_ref hb.2 (by omega) (by omega))
  have cN : (nI N).toNatClampNeg = N := nI_clamp hN
  have c0 : (nI 0).toNatClampNeg = 0 := nI_clamp (by decide)
  refine va_copyM (E0 := "java/lang/Object") (E1 := "java/lang/Object") hC.1 hC.2.1 hL.1.1.symm hC.ow (hC.ww _ w1) (hC.ww _ w2) (hC.ww _ w3) (hC.ww _ w4) hC.ks.1 hW.1 hW.2 hS q q2 3 3 hq hq2 rfl rfl (nI_pos (by decide)) (nI_pos (by decide)) (nI_pos hN) (by rw [cN, c0]; omega) (by rw [cN, c0]; omega) (fun i hi y hy => ?_) (by rw [hC.rr]; exact hf) (by rw [hC.rr]; exact hl) hd (fun H1 locs1 p1 p2 p3 => ?_)
  · rw [cN] at hi
    rw [c0, Nat.zero_add] at hy
    obtain ⟨kd, r, h10, hkd, hr, hw⟩ := hel i hi y hy
    obtain ⟨q3, -, hq3⟩ := HW_cell hW hkd.1 (PF_obj hkd.2 h10)
    exact va_rAny hC.ks.1 hW.1 hq3 hr (fun comp c0 e1 e2 => vb_asgC (va_Nw.of rfl (hC.ww _ hw)) comp c0 e1 e2)
  · rw [cN, c0] at p1 p2
    exact kk H1 locs1 ls (HW_putB hW hb (by omega) (by omega) hq20 p1 p2) p3 hL
end JX3
/-- what an operation leaves of the things that were there -/
def Ex (S S' : PS) (XI XR : Nat → Nat → Prop) (XA XB : Nat → Prop) : Prop :=
  ∀ y, y ∈ pL S → y ∈ pL S' ∧ pK S' y = pK S y ∧ pN S' y = pN S y ∧ (∀ f, ¬ XI f y → pI S' f y = pI S f y) ∧ (∀ f, ¬ XR f y → pR S' f y = pR S f y) ∧ (¬ XA y → pA S' y = pA S y) ∧ (¬ XB y → pB S' y = pB S y) ∧ pJ S' y = pJ S y
theorem Ex.rf {S : PS} {XI XR : Nat → Nat → Prop} {XA XB : Nat → Prop} : Ex S S XI XR XA XB := fun _ h => ⟨h, rfl, rfl, fun _ _ => rfl, fun _ _ => rfl, fun _ => rfl, fun _ => rfl, rfl⟩
theorem Ex.tr {S S1 S2 : PS} {XI XR : Nat → Nat → Prop} {XA XB : Nat → Prop} (h1 : Ex S S1 XI XR XA XB) (h2 : Ex S1 S2 XI XR XA XB) : Ex S S2 XI XR XA XB := by
  intro y hy
  obtain ⟨a1, a2, a3, a4, a5, a6, a7, a8⟩ := h1 y hy
  obtain ⟨b1, b2, b3, b4, b5, b6, b7, b8⟩ := h2 y a1
  exact ⟨b1, b2.trans a2, b3.trans a3, fun f h => (b4 f h).trans (a4 f h), fun f h => (b5 f h).trans (a5 f h), fun h => (b6 h).trans (a6 h), fun h => (b7 h).trans (a7 h), b8.trans a8⟩
theorem Ex.mono {S S1 : PS} {XI XR XI' XR' : Nat → Nat → Prop} {XA XB XA' XB' : Nat → Prop} (h : Ex S S1 XI XR XA XB) (h1 : ∀ f y, XI f y → XI' f y) (h2 : ∀ f y, XR f y → XR' f y) (h3 : ∀ y, XA y → XA' y) (h4 : ∀ y, XB y → XB' y) : Ex S S1 XI' XR' XA' XB' := by
  intro y hy
  obtain ⟨a1, a2, a3, a4, a5, a6, a7, a8⟩ := h y hy
  exact ⟨a1, a2, a3, fun f z => a4 f (fun w => z (h1 f y w)), fun f z => a5 f (fun w => z (h2 f y w)), fun z => a6 (fun w => z (h3 y w)), fun z => a7 (fun w => z (h4 y w)), a8⟩
theorem Ex.kd {S S1 : PS} {XI XR : Nat → Nat → Prop} {XA XB : Nat → Prop} (h : Ex S S1 XI XR XA XB) {a k : Nat} (hk : KD S a k) : KD S1 a k := ⟨(h a hk.1).1, ((h a hk.1).2.1).trans hk.2⟩
theorem Ex.newW {S : PS} {q kd m : Nat} (hq : q ∉ pL S) {XI XR : Nat → Nat → Prop} {XA XB : Nat → Prop} : Ex S (sW S q kd m) XI XR XA XB := by
  intro y hy
  have hne : y ≠ q := fun e => hq (e ▸ hy)
  exact ⟨List.mem_append_left _ hy, va_up_ne _ _ hne, va_up_ne _ _ hne, fun _ _ => rfl, fun _ _ => rfl, fun _ => va_up_ne _ _ hne, fun _ => va_up_ne _ _ hne, va_up_ne _ _ hne⟩
theorem Ex.newO {S : PS} {q kd : Nat} (hq : q ∉ pL S) {XI XR : Nat → Nat → Prop} {XA XB : Nat → Prop} : Ex S (sO S q kd) XI XR XA XB := by
  intro y hy
  have hne : y ≠ q := fun e => hq (e ▸ hy)
  exact ⟨List.mem_append_left _ hy, va_up_ne _ _ hne, rfl, fun f _ => if_neg hne, fun f _ => if_neg hne, fun _ => rfl, fun _ => rfl, rfl⟩
theorem Ex.putI {S : PS} {f a : Nat} {v : Int32} {XI XR : Nat → Nat → Prop} {XA XB : Nat → Prop} (h : XI f a) : Ex S (sI S f a v) XI XR XA XB := by
  intro y hy
  refine ⟨hy, rfl, rfl, fun g hg => ?_, fun _ _ => rfl, fun _ => rfl, fun _ => rfl, rfl⟩
  show u2 (pI S) f a v g y = pI S g y
  by_cases h1 : g = f
  · subst h1
    by_cases h2 : y = a
    · subst h2; exact absurd h hg
    · exact u2_a _ _ _ _ h2
  · exact u2_f _ _ _ _ h1
theorem Ex.putR {S : PS} {f a : Nat} {v : Option Nat} {XI XR : Nat → Nat → Prop} {XA XB : Nat → Prop} (h : XR f a) : Ex S (sR S f a v) XI XR XA XB := by
  intro y hy
  refine ⟨hy, rfl, rfl, fun _ _ => rfl, fun g hg => ?_, fun _ => rfl, fun _ => rfl, rfl⟩
  show u2 (pR S) f a v g y = pR S g y
  by_cases h1 : g = f
  · subst h1
    by_cases h2 : y = a
    · subst h2; exact absurd h hg
    · exact u2_a _ _ _ _ h2
  · exact u2_f _ _ _ _ h1
theorem Ex.putA {S : PS} {a : Nat} {g : Nat → Int32} {XI XR : Nat → Nat → Prop} {XA XB : Nat → Prop} (h : XA a) : Ex S (sA S a g) XI XR XA XB := by
  intro y hy
  exact ⟨hy, rfl, rfl, fun _ _ => rfl, fun _ _ => rfl, fun hy2 => va_up_ne _ _ (fun e => hy2 (e ▸ h)), fun _ => rfl, rfl⟩
theorem Ex.putB {S : PS} {a : Nat} {g : Nat → Option Nat} {XI XR : Nat → Nat → Prop} {XA XB : Nat → Prop} (h : XB a ∨ a ∉ pL S) : Ex S (sB S a g) XI XR XA XB := by
  intro y hy
  refine ⟨hy, rfl, rfl, fun _ _ => rfl, fun _ _ => rfl, fun _ => rfl, fun hy2 => va_up_ne _ _ (fun e => ?_), rfl⟩
  rcases h with h | h
  · exact hy2 (e ▸ h)
  · exact h (e ▸ hy)
theorem Ex.tI {S S1 : PS} {f a : Nat} {v : Int32} {XI XR : Nat → Nat → Prop} {XA XB : Nat → Prop} (h : Ex S S1 XI XR XA XB) (ha : XI f a ∨ a ∉ pL S) : Ex S (sI S1 f a v) XI XR XA XB := by
  intro y hy
  obtain ⟨a1, a2, a3, a4, a5⟩ := h y hy
  refine ⟨a1, a2, a3, fun g hg => ?_, a5⟩
  show u2 (pI S1) f a v g y = _
  by_cases h1 : g = f
  · subst h1
    by_cases h2 : y = a
    · subst h2
      rcases ha with ha | ha
      · exact absurd ha hg
      · exact absurd hy ha
    · rw [u2_a _ _ _ _ h2]; exact a4 g hg
  · rw [u2_f _ _ _ _ h1]; exact a4 g hg
theorem Ex.tR {S S1 : PS} {f a : Nat} {v : Option Nat} {XI XR : Nat → Nat → Prop} {XA XB : Nat → Prop} (h : Ex S S1 XI XR XA XB) (ha : XR f a ∨ a ∉ pL S) : Ex S (sR S1 f a v) XI XR XA XB := by
  intro y hy
  obtain ⟨a1, a2, a3, a4, a5, a6⟩ := h y hy
  refine ⟨a1, a2, a3, a4, fun g hg => ?_, a6⟩
  show u2 (pR S1) f a v g y = _
  by_cases h1 : g = f
  · subst h1
    by_cases h2 : y = a
    · subst h2
      rcases ha with ha | ha
      · exact absurd ha hg
      · exact absurd hy ha
    · rw [u2_a _ _ _ _ h2]; exact a5 g hg
  · rw [u2_f _ _ _ _ h1]; exact a5 g hg
theorem Ex.tA {S S1 : PS} {a : Nat} {g : Nat → Int32} {XI XR : Nat → Nat → Prop} {XA XB : Nat → Prop} (h : Ex S S1 XI XR XA XB) (ha : XA a ∨ a ∉ pL S) : Ex S (sA S1 a g) XI XR XA XB := by
  intro y hy
  obtain ⟨a1, a2, a3, a4, a5, a6, a7⟩ := h y hy
  refine ⟨a1, a2, a3, a4, a5, fun hA => ?_, a7⟩
  have hne : y ≠ a := by
    rintro rfl
    rcases ha with ha | ha
    · exact hA ha
    · exact ha hy
  exact (va_up_ne _ _ hne).trans (a6 hA)
theorem Ex.tB {S S1 : PS} {a : Nat} {g : Nat → Option Nat} {XI XR : Nat → Nat → Prop} {XA XB : Nat → Prop} (h : Ex S S1 XI XR XA XB) (ha : XB a ∨ a ∉ pL S) : Ex S (sB S1 a g) XI XR XA XB := by
  intro y hy
  obtain ⟨a1, a2, a3, a4, a5, a6, a7, a8⟩ := h y hy
  refine ⟨a1, a2, a3, a4, a5, a6, fun hA => ?_, a8⟩
  have hne : y ≠ a := by
    rintro rfl
    rcases ha with ha | ha
    · exact hA ha
    · exact ha hy
  exact (va_up_ne _ _ hne).trans (a7 hA)
theorem Ex.tW {S S1 : PS} {q kd m : Nat} {XI XR : Nat → Nat → Prop} {XA XB : Nat → Prop} (h : Ex S S1 XI XR XA XB) (hq : q ∉ pL S1) : Ex S (sW S1 q kd m) XI XR XA XB := h.tr (Ex.newW hq)
theorem Ex.tO {S S1 : PS} {q kd : Nat} {XI XR : Nat → Nat → Prop} {XA XB : Nat → Prop} (h : Ex S S1 XI XR XA XB) (hq : q ∉ pL S1) : Ex S (sO S1 q kd) XI XR XA XB := h.tr (Ex.newO hq)
theorem Ex.nin {S S1 : PS} {q : Nat} {XI XR : Nat → Nat → Prop} {XA XB : Nat → Prop} (h : Ex S S1 XI XR XA XB) (hq : q ∉ pL S1) : q ∉ pL S := fun z => hq (h q z).1
/-- a list of n objects of the kind kd, by their addresses -/
def isList (G : GG) (S : PS) (a n kd : Nat) (el : Nat → Nat) : Prop := KD S a 9 ∧ pI S 290 a = nI n ∧ ∃ arr, pR S 289 a = some arr ∧ ((n = 0 ∧ arr = gE G) ∨ (KD S arr 13 ∧ 10 ≤ pN S arr ∧ pN S arr ≤ 100 ∧ n ≤ pN S arr ∧ ∀ i, i < n → pB S arr i = some (el i))) ∧ ∀ i, i < n → KD S (el i) kd
section ListA
variable {l : Launch} {G : GG} {S : PS} {a n kd : Nat} {el : Nat → Nat}
set_option maxRecDepth 100000 in
theorem c_size (hl : l.stackTraces = false) (ka : KD S a 9) :
    MT l G S yJx4a65c_size_8abf5 cJx4a65c_size_8abf5 1 (some .int) (rmA 0) [va_rf (some a)] (fun v S' => v = some (.int (pI S 290 a)) ∧ S' = S) (fun _ => False) := by
  refine MT_of (by decide +kernel) hl rfl (Nat.le_of_ble_eq_true rfl) (fun Z hC _ hnm hT hQ => ?_)
  change J G Z S 0 0 0 [some (va_rf (some a))] []
  refine r_aload_n hC dJx4a65c_size_8abf5_0 rfl rfl ?_
  refine r_getI hC fl_Jx4a65c_48 rfl dJx4a65c_size_8abf5_1 (ka) (rfl) ?_
  refine r_iret hC hQ rfl dJx4a65c_size_8abf5_4 (Nat.le_of_ble_eq_true rfl) (Nat.le_of_ble_eq_true rfl) ?_
  exact ⟨rfl, rfl⟩
set_option maxRecDepth 100000 in
theorem c_pcheck (hl : l.stackTraces = false) {i m : Nat} (hi : i < m) (hm : m < 2147483648) (x : Option Nat) :
    MT l G S yJ3_checkIndex_8e157 cJ3_checkIndex_8e157 3 (some .int) (rmA 0) [.int (nI i), .int (nI m), va_rf x] (fun v S' => v = some (.int (nI i)) ∧ S' = S) (fun _ => False) := by
  refine MT_of (by decide +kernel) hl (by cases x <;> rfl) (Nat.le_of_ble_eq_true rfl) (fun Z hC _ hnm hT hQ => ?_)
  change J G Z S 0 0 0 [some (.int (nI i)), some (.int (nI m)), some (va_rf x)] []
  refine r_iload_n hC dJ3_checkIndex_8e157_0 rfl rfl ?_
  refine r_iflt (tgt := 9) hC dJ3_checkIndex_8e157_1 (by decide) (fun h1 => ?_) (fun h1 => ?_)
  · exact absurd h1 (nI_pos (by omega))
  · skip
    refine r_iload_n hC dJ3_checkIndex_8e157_4 rfl rfl ?_
    refine r_iload_n hC dJ3_checkIndex_8e157_5 rfl rfl ?_
    refine r_iclt (tgt := 16) hC dJ3_checkIndex_8e157_6 (by decide) (fun h6 => ?_) (fun h6 => ?_)
    · skip
      refine r_iload_n hC dJ3_checkIndex_8e157_16 rfl rfl ?_
      refine r_iret hC hQ rfl dJ3_checkIndex_8e157_17 (Nat.le_of_ble_eq_true rfl) (Nat.le_of_ble_eq_true rfl) ?_
      exact ⟨rfl, rfl⟩
    · exact absurd (nI_lt hi (by omega)) h6
set_option maxRecDepth 100000 in
theorem c_ocheck (hl : l.stackTraces = false) {i m : Nat} (hi : i < m) (hm : m < 2147483648) :
    MT l G S yJ15_checkIndex_7cf53 cJ15_checkIndex_7cf53 2 (some .int) (rmA 1) [.int (nI i), .int (nI m)] (fun v S' => v = some (.int (nI i)) ∧ S' = S) (fun _ => False) := by
  refine MT_of (by decide +kernel) hl rfl (Nat.le_of_ble_eq_true rfl) (fun Z hC hzl hnm hT hQ => ?_)
  change J G Z S 0 0 0 [some (.int (nI i)), some (.int (nI m))] []
  refine r_iload_n hC dJ15_checkIndex_7cf53_0 rfl rfl ?_
  refine r_iload_n hC dJ15_checkIndex_7cf53_1 rfl rfl ?_
  refine r_null hC dJ15_checkIndex_7cf53_2 ?_
  refine r_cS (as := [.int (nI i), .int (nI m), va_rf none]) hC (c_pcheck (by rw [hzl]; exact hl) hi hm none) cs_J3_checkIndex_8e157 q_212 q_213 dJ15_checkIndex_7cf53_3 rfl rfl ⟨Nat.le_of_ble_eq_true rfl, Nat.le_of_ble_eq_true rfl⟩ (Nat.le_of_ble_eq_true rfl) ⟨Nat.le_of_ble_eq_true rfl, Nat.le_of_ble_eq_true rfl⟩ (fun v3 S3 p3 => ?_) (fun _ x => x.elim)
  obtain ⟨rfl, e3⟩ := p3
  rw [e3]
  refine r_iret hC hQ rfl dJ15_checkIndex_7cf53_6 (Nat.le_of_ble_eq_true rfl) (Nat.le_of_ble_eq_true rfl) ?_
  exact ⟨rfl, rfl⟩
set_option maxRecDepth 100000 in
theorem c_elem (hl : l.stackTraces = false) (h : isList G S a n kd el) {i : Nat} (hi : i < n) :
    MT l G S yJx4a65c_elementData_915e3 cJx4a65c_elementData_915e3 2 (some (.object "java/lang/Object")) (rmA 0) [va_rf (some a), .int (nI i)] (fun v S' => v = some (va_rf (some (el i))) ∧ S' = S) (fun _ => False) := by
  obtain ⟨ka, hn, arr, ra, harr, -⟩ := h
  rcases harr with ⟨h0, -⟩ | ⟨kr, h10, h100, hnr, hel⟩
  · omega
  · refine MT_of (by decide +kernel) hl rfl (Nat.le_of_ble_eq_true rfl) (fun Z hC _ hnm hT hQ => ?_)
    change J G Z S 0 0 0 [some (va_rf (some a)), some (.int (nI i))] []
    refine r_aload_n hC dJx4a65c_elementData_915e3_0 rfl rfl ?_
    refine r_getR  hC fl_Jx4a65c_9 dJx4a65c_elementData_915e3_1 (ka) (ra) ?_
    refine r_iload_n hC dJx4a65c_elementData_915e3_4 rfl rfl ?_
    refine r_aald hC dJx4a65c_elementData_915e3_5 (kr) (by decide) (rfl) (by omega) (by omega) (hel i hi) ?_
    refine r_aret hC hQ rfl (by first | exact Or.inl ⟨_, rfl⟩ | exact Or.inr ⟨_, rfl⟩) dJx4a65c_elementData_915e3_6 (Nat.le_of_ble_eq_true rfl) (Nat.le_of_ble_eq_true rfl) ?_
    exact ⟨rfl, rfl⟩
set_option maxRecDepth 100000 in
theorem c_get (hl : l.stackTraces = false) (h : isList G S a n kd el) {i : Nat} (hi : i < n) (hn : n ≤ 100) :
    MT l G S yJx4a65c_get_915e3 cJx4a65c_get_915e3 2 (some (.object "java/lang/Object")) (rmA 2) [va_rf (some a), .int (nI i)] (fun v S' => v = some (va_rf (some (el i))) ∧ S' = S) (fun _ => False) := by
  refine MT_of (by decide +kernel) hl rfl (Nat.le_of_ble_eq_true rfl) (fun Z hC hzl hnm hT hQ => ?_)
  change J G Z S 0 0 0 [some (va_rf (some a)), some (.int (nI i))] []
  have hzs : (zl Z).stackTraces = false := by rw [hzl]; exact hl
  refine r_iload_n hC dJx4a65c_get_915e3_0 rfl rfl ?_
  refine r_aload_n hC dJx4a65c_get_915e3_1 rfl rfl ?_
  refine r_getI hC fl_Jx4a65c_48 rfl dJx4a65c_get_915e3_2 (h.1) (h.2.1) ?_
  refine r_cS (as := [.int (nI i), .int (nI n)]) hC (c_ocheck hzs hi (by omega)) cs_J15_checkIndex_7cf53 q_209 q_210 dJx4a65c_get_915e3_5 rfl rfl ⟨Nat.le_of_ble_eq_true rfl, Nat.le_of_ble_eq_true rfl⟩ (Nat.le_of_ble_eq_true rfl) ⟨Nat.le_of_ble_eq_true rfl, Nat.le_of_ble_eq_true rfl⟩ (fun v5 S5 p5 => ?_) (fun _ x => x.elim)
  obtain ⟨rfl, e5⟩ := p5
  rw [e5]
  refine r_pop hC dJx4a65c_get_915e3_8 rfl ?_
  refine r_aload_n hC dJx4a65c_get_915e3_9 rfl rfl ?_
  refine r_iload_n hC dJx4a65c_get_915e3_10 rfl rfl ?_
  refine r_cV (as := [.int (nI i)]) hC (c_elem hzs h hi) cs_Jx4a65c_elementData_915e3 q_215 q_216 q_217 (h.1) (by decide) rfl dJx4a65c_get_915e3_11 rfl rfl ⟨Nat.le_of_ble_eq_true rfl, Nat.le_of_ble_eq_true rfl⟩ (Nat.le_of_ble_eq_true rfl) ⟨Nat.le_of_ble_eq_true rfl, Nat.le_of_ble_eq_true rfl⟩ (fun v11 S11 p11 => ?_) (fun _ x => x.elim)
  obtain ⟨rfl, e11⟩ := p11
  rw [e11]
  refine r_aret hC hQ rfl (by first | exact Or.inl ⟨_, rfl⟩ | exact Or.inr ⟨_, rfl⟩) dJx4a65c_get_915e3_14 (Nat.le_of_ble_eq_true rfl) (Nat.le_of_ble_eq_true rfl) ?_
  exact ⟨rfl, rfl⟩
end ListA

