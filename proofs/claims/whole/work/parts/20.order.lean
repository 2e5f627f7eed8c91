/-! ===== spoiling, told by its rows; orders ===== -/
theorem r_hge {G : GG} {Z : ZZ} {own : String} {cc : ByteArray} {nL : Nat} {ret : Option FieldType} {rm : Room} {S : PS} {k n pc : Nat} {L : List (Option Value)} {st : List Value} (hC : CX G Z own cc nL ret rm) (kk : gE G ∉ pL S → J G Z S k n pc L st) : J G Z S k n pc L st := by
  intro H locs ls hW hS hL
  refine kk (fun h => ?_) H locs ls hW hS hL
  obtain ⟨cell, -, -, -, -, -, -, hA⟩ := hC.ks.2.2.2.2.1
  obtain ⟨q, hq⟩ := va_pl_in (f := PF G S) h
  exact hA (hW.2.2 q _ hq)
def SPR (S S' : PS) (P : Nat → Nat → Nat → Prop) : Prop :=
  (∀ x g y, pB S x g = some y → P x g y → pB S' x g = none) ∧ (∀ x g, (∀ y, pB S x g = some y → ¬ P x g y) → pB S' x g = pB S x g) ∧
  (∀ x g y, pB S x g = some y → P x g y → pI S' 101 y = 1) ∧ (∀ k y, (k = 101 → ∀ x g, pB S x g = some y → ¬ P x g y) → pI S' k y = pI S k y) ∧
  pL S' = pL S ∧ pK S' = pK S ∧ pR S' = pR S ∧ pN S' = pN S ∧ pA S' = pA S ∧ pJ S' = pJ S
theorem SPR.rf {S : PS} {P : Nat → Nat → Nat → Prop} (h : ∀ x g y, ¬ P x g y) : SPR S S P := ⟨fun x g y _ z => absurd z (h x g y), fun _ _ _ => rfl, fun x g y _ z => absurd z (h x g y), fun _ _ _ => rfl, rfl, rfl, rfl, rfl, rfl, rfl⟩
theorem SPR.cong {S S' : PS} {P Q : Nat → Nat → Nat → Prop} (h : SPR S S' P) (e : ∀ x g y, P x g y ↔ Q x g y) : SPR S S' Q := by
  obtain ⟨h1, h2, h3, h4, h5⟩ := h
  exact ⟨fun x g y a b => h1 x g y a ((e x g y).mpr b), fun x g a => h2 x g (fun y b c => a y b ((e x g y).mp c)), fun x g y a b => h3 x g y a ((e x g y).mpr b), fun k y a => h4 k y (fun b x g c d => a b x g c ((e x g y).mp d)), h5⟩
theorem SPR.of {S : PS} {v : Nat} {P : Nat → Nat → Bool} : SPR S (spS S v P 43) (fun x g y => x = v ∧ g < 43 ∧ P g y = true) := by
  obtain ⟨o1, o2, o3, o4, o5, o6⟩ := spS_o (S := S) (v := v) (P := P) 43
  refine ⟨fun x g y hy hP => ?_, fun x g hn => ?_, fun x g y hy hP => ?_, fun k y hn => ?_, o1, o2, o3, o4, o5, o6⟩
  · rw [spS_B, if_pos ⟨hP.1, hP.2.1, by rw [hP.1] at hy; rw [spN_s hy]; exact hP.2.2⟩]
  · rw [spS_B]
    split
    · rename_i h
      obtain ⟨h1, h2, h3⟩ := h
      cases hb : pB S x g with
      | none => rfl
      | some y =>
        rw [h1] at hb
        rw [spN_s hb] at h3
        rw [← h1] at hb
        exact absurd ⟨h1, h2, h3⟩ (hn y hb)
    · rfl
  · rw [spS_I, if_pos ⟨rfl, g, hP.2.1, by rw [← hP.1]; exact hy, hP.2.2⟩]
  · rw [spS_I, if_neg]
    rintro ⟨hk, g, h1, h2, h3⟩
    exact hn hk v g h2 ⟨rfl, h1, h3⟩
theorem SPR.back {S S1 : PS} {P : Nat → Nat → Nat → Prop} (h : SPR S S1 P) {x g y : Nat} (hy : pB S1 x g = some y) : pB S x g = some y := by
  by_cases hp : ∃ z, pB S x g = some z ∧ P x g z
  · obtain ⟨z, h1, h2⟩ := hp
    rw [h.1 x g z h1 h2] at hy
    cases hy
  · rw [← h.2.1 x g (fun z h1 h2 => hp ⟨z, h1, h2⟩)]
    exact hy
theorem SPR.tr {S S1 S2 : PS} {P1 P2 : Nat → Nat → Nat → Prop} (h1 : SPR S S1 P1) (h2 : SPR S1 S2 P2) (hd : ∀ x g y g' y', P1 x g y → ¬ P2 x g' y') : SPR S S2 (fun x g y => P1 x g y ∨ P2 x g y) := by
  have keep : ∀ x g y g' y', P2 x g' y' → pB S x g = some y → pB S1 x g = some y := fun x g y g' y' hp hy => by
    rw [h1.2.1 x g (fun z _ hz => hd x g z g' y' hz hp)]; exact hy
  refine ⟨fun x g y hy hp => ?_, fun x g hn => ?_, fun x g y hy hp => ?_, fun k y hn => ?_, ?_⟩
  · rcases hp with hp | hp
    · have e := h1.1 x g y hy hp
      rw [h2.2.1 x g (fun z hz => by rw [e] at hz; cases hz)]
      exact e
    · exact h2.1 x g y (keep x g y g y hp hy) hp
  · have e := h1.2.1 x g (fun y hy hz => hn y hy (Or.inl hz))
    rw [h2.2.1 x g (fun y hy hz => hn y (by rw [← e]; exact hy) (Or.inr hz)), e]
  · by_cases h : ∃ x g, pB S1 x g = some y ∧ P2 x g y
    · obtain ⟨x', g', a, b⟩ := h
      exact h2.2.2.1 x' g' y a b
    · rcases hp with hp | hp
      · rw [h2.2.2.2.1 101 y (fun _ x' g' a b => h ⟨x', g', a, b⟩)]
        exact h1.2.2.1 x g y hy hp
      · exact absurd ⟨x, g, keep x g y g y hp hy, hp⟩ h
  · rw [h2.2.2.2.1 k y (fun hk x g a b => hn hk x g (h1.back a) (Or.inr b)), h1.2.2.2.1 k y (fun hk x g a b => hn hk x g a (Or.inl b))]
  · obtain ⟨a1, a2, a3, a4, a5, a6⟩ := h1.2.2.2.2
    obtain ⟨b1, b2, b3, b4, b5, b6⟩ := h2.2.2.2.2
    exact ⟨b1.trans a1, b2.trans a2, b3.trans a3, b4.trans a4, b5.trans a5, b6.trans a6⟩
theorem SPR.kd {S S1 : PS} {P : Nat → Nat → Nat → Prop} (h : SPR S S1 P) {a k : Nat} : KD S1 a k ↔ KD S a k := by
  unfold KD
  rw [h.2.2.2.2.1, h.2.2.2.2.2.1]
theorem SPR.I {S S1 : PS} {P : Nat → Nat → Nat → Prop} (h : SPR S S1 P) {k : Nat} (hk : k ≠ 101) (y : Nat) : pI S1 k y = pI S k y := h.2.2.2.1 k y (fun e => absurd e hk)
theorem SPR.R {S S1 : PS} {P : Nat → Nat → Nat → Prop} (h : SPR S S1 P) : pR S1 = pR S := h.2.2.2.2.2.2.1
theorem SPR.N {S S1 : PS} {P : Nat → Nat → Nat → Prop} (h : SPR S S1 P) : pN S1 = pN S := h.2.2.2.2.2.2.2.1
theorem SPR.A {S S1 : PS} {P : Nat → Nat → Nat → Prop} (h : SPR S S1 P) : pA S1 = pA S := h.2.2.2.2.2.2.2.2.1
theorem SPR.lf {S S1 : PS} {P : Nat → Nat → Nat → Prop} (h : SPR S S1 P) {y : Nat} (hy : isLf S y) : isLf S1 y := by
  obtain ⟨h1, s, h2, h3⟩ := hy
  exact ⟨h.kd.mpr h1, s, by rw [h.R]; exact h2, h.kd.mpr h3⟩
theorem SPR.cp {S S1 : PS} {P : Nat → Nat → Nat → Prop} (h : SPR S S1 P) {c v : Nat} (hc : isCp S c v) : isCp S1 c v := by
  obtain ⟨k1, k2, k3, k4, k5, k6⟩ := hc
  refine ⟨h.kd.mpr k1, by rw [h.R]; exact k2, h.kd.mpr k3, by rw [h.N]; exact k4, fun f hf y hy => ?_, by rw [h.I (by decide)]; exact k6⟩
  obtain ⟨q1, q2⟩ := k5 f hf y (h.back hy)
  exact ⟨h.lf q1, by rw [h.I (by decide)]; exact q2⟩
theorem SPR.bk {S S1 : PS} {P : Nat → Nat → Nat → Prop} (h : SPR S S1 P) {b p e c r : Nat} (hb : isBk S b p e c r) : isBk S1 b p e c r := by
  unfold isBk KD
  rw [h.2.2.2.2.1, h.2.2.2.2.2.1, h.R, h.N]
  exact hb
theorem SPR.list {G : GG} {S S1 : PS} {P : Nat → Nat → Nat → Prop} (h : SPR S S1 P) {a n kd : Nat} {el : Nat → Nat} (hl : isList G S a n kd el) (hP : ∀ arr, pR S 289 a = some arr → KD S arr 13 → ∀ g y, ¬ P arr g y) : isList G S1 a n kd el := by
  obtain ⟨ka, hn, arr, ra, harr, hel⟩ := hl
  refine ⟨h.kd.mpr ka, (h.I (by decide) _).trans hn, arr, by rw [h.R]; exact ra, ?_, fun i hi => h.kd.mpr (hel i hi)⟩
  rcases harr with q | ⟨kr, q1, q2, q3, q4⟩
  · exact Or.inl q
  · refine Or.inr ⟨h.kd.mpr kr, by rw [h.N]; exact q1, by rw [h.N]; exact q2, by rw [h.N]; exact q3, fun i hi => ?_⟩
    rw [h.2.1 arr i (fun y _ => hP arr ra kr i y)]
    exact q4 i hi
def sm (f : Nat → Nat) : Nat → Nat
  | 0 => 0
  | n + 1 => sm f n + f n
theorem sm_le (f : Nat → Nat) {b : Nat} : ∀ n, (∀ i, i < n → f i ≤ b) → sm f n ≤ n * b := by
  intro n
  induction n with
  | zero => intro _; simp [sm]
  | succ n ih =>
    intro h
    have h1 := ih (fun i hi => h i (by omega))
    have h2 := h n (by omega)
    simp only [sm]
    rw [Nat.succ_mul]
    omega
theorem sm_cong {f g : Nat → Nat} : ∀ n, (∀ i, i < n → f i = g i) → sm f n = sm g n := by
  intro n
  induction n with
  | zero => intro _; rfl
  | succ n ih =>
    intro h
    simp only [sm]
    rw [ih (fun i hi => h i (by omega)), h n (by omega)]
theorem ct_cong {p q : Nat → Bool} : ∀ n, (∀ i, i < n → p i = q i) → ct p n = ct q n := by
  intro n
  induction n with
  | zero => intro _; rfl
  | succ n ih =>
    intro h
    simp only [ct]
    rw [ih (fun i hi => h i (by omega)), h n (by omega)]
/-- an order: its object, book, list of copies, their addresses and their rows -/
def isOr (G : GG) (S : PS) (o bk ls nc : Nat) (cp lv : Nat → Nat) : Prop :=
  KD S o 4 ∧ pR S 129 o = some bk ∧ KD S bk 0 ∧ pR S 130 o = some ls ∧ isList G S ls nc 1 cp ∧ nc ≤ 3 ∧ (∀ i, i < nc → isCp S (cp i) (lv i)) ∧ ∀ i j, i < nc → j < nc → lv i = lv j → i = j
theorem SPR.or {G : GG} {S S1 : PS} {P : Nat → Nat → Nat → Prop} (h : SPR S S1 P) {o bk ls nc : Nat} {cp lv : Nat → Nat} (ho : isOr G S o bk ls nc cp lv) (hP : ∀ x, KD S x 13 → ∀ g y, ¬ P x g y) : isOr G S1 o bk ls nc cp lv := by
  obtain ⟨k1, k2, k3, k4, k5, k6, k7, k8⟩ := ho
  exact ⟨h.kd.mpr k1, by rw [h.R]; exact k2, h.kd.mpr k3, by rw [h.R]; exact k4, h.list k5 (fun arr _ ka => hP arr ka), k6, fun i hi => h.cp (k7 i hi), k8⟩
section OrderA
variable {l : Launch} {G : GG} {S : PS} {o bk ls nc : Nat} {cp lv : Nat → Nat}
set_option maxRecDepth 100000 in
theorem c_isAheadOf (hl : l.stackTraces = false) {o2 b1 b2 : Nat} (k1 : KD S o 4) (r1 : pR S 129 o = some b1) (kb1 : KD S b1 0) (k2 : KD S o2 4) (r2 : pR S 129 o2 = some b2) (kb2 : KD S b2 0) {n1 n2 i1 i2 : Nat} (e1 : pI S 5 b1 = nI n1) (e2 : pI S 5 b2 = nI n2) (j1 : pI S 128 o = nI i1) (j2 : pI S 128 o2 = nI i2) (h1 : n1 ≤ 43) (h2 : n2 ≤ 43) (h3 : i1 ≤ 43) (h4 : i2 ≤ 43) :
    MT l G S yX4_isAheadOf cX4_isAheadOf 2 (some .boolean) (rmA 0) [va_rf (some o), va_rf (some o2)] (fun v S' => v = some (.int (bI (decide (n2 < n1 ∨ n1 = n2 ∧ i1 < i2)))) ∧ S' = S) (fun _ => False) := by
  refine MT_of (by decide +kernel) hl rfl (Nat.le_of_ble_eq_true rfl) (fun Z hC _ hnm hT hQ => ?_)
  change J G Z S 0 0 0 [some (va_rf (some o)), some (va_rf (some o2))] []
  refine r_aload_n hC dX4_isAheadOf_0 rfl rfl ?_
  refine r_getR  hC fl_X4_22 dX4_isAheadOf_1 (k1) (r1) ?_
  refine r_getI hC fl_X4_33 rfl dX4_isAheadOf_4 (kb1) (e1) ?_
  refine r_aload_n hC dX4_isAheadOf_7 rfl rfl ?_
  refine r_getR  hC fl_X4_22 dX4_isAheadOf_8 (k2) (r2) ?_
  refine r_getI hC fl_X4_33 rfl dX4_isAheadOf_11 (kb2) (e2) ?_
  refine r_iceq (tgt := 40) hC dX4_isAheadOf_14 (by decide) (fun h14 => ?_) (fun h14 => ?_)
  · have e : n1 = n2 := (nI_eq (by omega) (by omega)).mp h14
    refine r_aload_n hC dX4_isAheadOf_40 rfl rfl ?_
    refine r_getI hC fl_X4_18 rfl dX4_isAheadOf_41 (k1) (j1) ?_
    refine r_aload_n hC dX4_isAheadOf_44 rfl rfl ?_
    refine r_getI hC fl_X4_18 rfl dX4_isAheadOf_45 (k2) (j2) ?_
    refine r_icge (tgt := 55) hC dX4_isAheadOf_48 (by decide) (fun h48 => ?_) (fun h48 => ?_)
    · have : ¬ i1 < i2 := fun z => absurd ((nI_leI (by omega) (by omega)).mp h48) (by omega)
      refine r_iconst (v := nI 0) hC dX4_isAheadOf_55 (by decide) ?_
      refine r_zret hC hQ rfl (by decide) dX4_isAheadOf_56 (Nat.le_of_ble_eq_true rfl) (Nat.le_of_ble_eq_true rfl) ?_
      exact ⟨by rw [decide_eq_false (by omega)]; rfl, rfl⟩
    · have : i1 < i2 := Nat.lt_of_not_le (fun z => h48 (nI_le z (by omega)))
      refine r_iconst (v := nI 1) hC dX4_isAheadOf_51 (by decide) ?_
      refine r_goto (tgt := 56) hC dX4_isAheadOf_52 (by decide) ?_
      refine r_zret hC hQ rfl (by decide) dX4_isAheadOf_56 (Nat.le_of_ble_eq_true rfl) (Nat.le_of_ble_eq_true rfl) ?_
      exact ⟨by rw [decide_eq_true (by omega)]; rfl, rfl⟩
  · have e : n1 ≠ n2 := fun z => h14 (by rw [z])
    refine r_aload_n hC dX4_isAheadOf_17 rfl rfl ?_
    refine r_getR  hC fl_X4_22 dX4_isAheadOf_18 (k1) (r1) ?_
    refine r_getI hC fl_X4_33 rfl dX4_isAheadOf_21 (kb1) (e1) ?_
    refine r_aload_n hC dX4_isAheadOf_24 rfl rfl ?_
    refine r_getR  hC fl_X4_22 dX4_isAheadOf_25 (k2) (r2) ?_
    refine r_getI hC fl_X4_33 rfl dX4_isAheadOf_28 (kb2) (e2) ?_
    refine r_icle (tgt := 38) hC dX4_isAheadOf_31 (by decide) (fun h31 => ?_) (fun h31 => ?_)
    · have := (nI_leI (by omega) (by omega)).mp h31
      refine r_iconst (v := nI 0) hC dX4_isAheadOf_38 (by decide) ?_
      refine r_zret hC hQ rfl (by decide) dX4_isAheadOf_39 (Nat.le_of_ble_eq_true rfl) (Nat.le_of_ble_eq_true rfl) ?_
      exact ⟨by rw [decide_eq_false (by omega)]; rfl, rfl⟩
    · have : ¬ n1 ≤ n2 := fun z => h31 (nI_le z (by omega))
      refine r_iconst (v := nI 1) hC dX4_isAheadOf_34 (by decide) ?_
      refine r_goto (tgt := 39) hC dX4_isAheadOf_35 (by decide) ?_
      refine r_zret hC hQ rfl (by decide) dX4_isAheadOf_39 (Nat.le_of_ble_eq_true rfl) (Nat.le_of_ble_eq_true rfl) ?_
      exact ⟨by rw [decide_eq_true (by omega)]; rfl, rfl⟩
set_option maxRecDepth 100000 in
theorem c_lengthOf (hl : l.stackTraces = false) {b c : Nat} (k1 : KD S o 4) (r1 : pR S 129 o = some b) (kb : KD S b 0) (kc : KD S c 1) :
    MT l G S yX4_lengthOf cX4_lengthOf 2 (some .int) (rmA 0) [va_rf (some o), va_rf (some c)] (fun v S' => v = some (.int (if pI S 33 c = 0 then pI S 5 b else pI S 34 c)) ∧ S' = S) (fun _ => False) := by
  refine MT_of (by decide +kernel) hl rfl (Nat.le_of_ble_eq_true rfl) (fun Z hC _ hnm hT hQ => ?_)
  change J G Z S 0 0 0 [some (va_rf (some o)), some (va_rf (some c))] []
  refine r_aload_n hC dX4_lengthOf_0 rfl rfl ?_
  refine r_getI hC fl_X4_38 rfl dX4_lengthOf_1 (kc) (rfl) ?_
  refine r_ifeq (tgt := 14) hC dX4_lengthOf_4 (by decide) (fun h4 => ?_) (fun h4 => ?_)
  · skip
    refine r_aload_n hC dX4_lengthOf_14 rfl rfl ?_
    refine r_getR  hC fl_X4_22 dX4_lengthOf_15 (k1) (r1) ?_
    refine r_getI hC fl_X4_33 rfl dX4_lengthOf_18 (kb) (rfl) ?_
    refine r_iret hC hQ rfl dX4_lengthOf_21 (Nat.le_of_ble_eq_true rfl) (Nat.le_of_ble_eq_true rfl) ?_
    exact ⟨by rw [if_pos h4], rfl⟩
  · skip
    refine r_aload_n hC dX4_lengthOf_7 rfl rfl ?_
    refine r_getI hC fl_X4_42 rfl dX4_lengthOf_8 (kc) (rfl) ?_
    refine r_goto (tgt := 21) hC dX4_lengthOf_11 (by decide) ?_
    refine r_iret hC hQ rfl dX4_lengthOf_21 (Nat.le_of_ble_eq_true rfl) (Nat.le_of_ble_eq_true rfl) ?_
    exact ⟨by rw [if_neg h4], rfl⟩
set_option maxRecDepth 100000 in
theorem c_countLackingO (hl : l.stackTraces = false) (ho : isOr G S o bk ls nc cp lv) {n : Nat} (hn : pI S 5 bk = nI n) (h43 : n ≤ 43) :
    MT l G S yX4_countLacking cX4_countLacking 3 (some .int) (rmA 3) [va_rf (some o)] (fun v S' => v = some (.int (nI (sm (fun i => ct (lackB S (cp i) (lv i)) n) nc))) ∧ S' = S) (fun _ => False) := by
  obtain ⟨ko, rb, kb, rl, hls, h3, hcp, -⟩ := ho
  refine MT_of (by decide +kernel) hl rfl (Nat.le_of_ble_eq_true rfl) (fun Z hC hzl hnm hT hQ => ?_)
  change J G Z S 0 0 0 [some (va_rf (some o)), none, none] []
  have hzs : (zl Z).stackTraces = false := by rw [hzl]; exact hl
  have loop : ∀ (d i : Nat), i + d = nc → J G Z S 0 0 4 [some (va_rf (some o)), some (.int (nI (sm (fun i => ct (lackB S (cp i) (lv i)) n) i))), some (.int (nI i))] [] := by
    intro d
    induction d with
    | zero =>
      intro i hi
      have hi : i = nc := by omega
      subst hi
      refine r_iload_n hC dX4_countLacking_4 rfl rfl ?_
      refine r_aload_n hC dX4_countLacking_5 rfl rfl ?_
      refine r_getR  hC fl_X4_12 dX4_countLacking_6 (ko) (rl) ?_
      refine r_cV (as := []) hC (c_size hzs hls.1) cs_Jx4a65c_size_8abf5 q_485 q_202 q_203 (hls.1) (by decide) rfl dX4_countLacking_9 rfl rfl ⟨Nat.le_of_ble_eq_true rfl, Nat.le_of_ble_eq_true rfl⟩ (Nat.le_of_ble_eq_true rfl) ⟨Nat.le_of_ble_eq_true rfl, Nat.le_of_ble_eq_true rfl⟩ (fun v9 S9 p9 => ?_) (fun _ x => x.elim)
      obtain ⟨rfl, e9⟩ := p9
      rw [e9, hls.2.1]
      refine r_icge (tgt := 45) hC dX4_countLacking_12 (by decide) (fun h12 => ?_) (fun h12 => ?_)
      · skip
        refine r_iload_n hC dX4_countLacking_45 rfl rfl ?_
        refine r_iret hC hQ rfl dX4_countLacking_46 (Nat.le_of_ble_eq_true rfl) (Nat.le_of_ble_eq_true rfl) ?_
        exact ⟨rfl, rfl⟩
      · exact absurd (nI_le (Nat.le_refl i) (by omega)) h12
    | succ d ih =>
      intro i hi
      refine r_iload_n hC dX4_countLacking_4 rfl rfl ?_
      refine r_aload_n hC dX4_countLacking_5 rfl rfl ?_
      refine r_getR  hC fl_X4_12 dX4_countLacking_6 (ko) (rl) ?_
      refine r_cV (as := []) hC (c_size hzs hls.1) cs_Jx4a65c_size_8abf5 q_485 q_202 q_203 (hls.1) (by decide) rfl dX4_countLacking_9 rfl rfl ⟨Nat.le_of_ble_eq_true rfl, Nat.le_of_ble_eq_true rfl⟩ (Nat.le_of_ble_eq_true rfl) ⟨Nat.le_of_ble_eq_true rfl, Nat.le_of_ble_eq_true rfl⟩ (fun v9 S9 p9 => ?_) (fun _ x => x.elim)
      obtain ⟨rfl, e9⟩ := p9
      rw [e9, hls.2.1]
      refine r_icge (tgt := 45) hC dX4_countLacking_12 (by decide) (fun h12 => ?_) (fun h12 => ?_)
      · exact absurd ((nI_leI (by omega) (by omega)).mp h12) (by omega)
      · skip
        refine r_iload_n hC dX4_countLacking_15 rfl rfl ?_
        refine r_aload_n hC dX4_countLacking_16 rfl rfl ?_
        refine r_getR  hC fl_X4_12 dX4_countLacking_17 (ko) (rl) ?_
        refine r_iload_n hC dX4_countLacking_20 rfl rfl ?_
        refine r_cV (as := [.int (nI i)]) hC (c_get hzs hls (i := i) (by omega) (by omega)) cs_Jx4a65c_get_915e3 q_486 q_206 q_207 (hls.1) (by decide) rfl dX4_countLacking_21 rfl rfl ⟨Nat.le_of_ble_eq_true rfl, Nat.le_of_ble_eq_true rfl⟩ (Nat.le_of_ble_eq_true rfl) ⟨Nat.le_of_ble_eq_true rfl, Nat.le_of_ble_eq_true rfl⟩ (fun v21 S21 p21 => ?_) (fun _ x => x.elim)
        obtain ⟨rfl, e21⟩ := p21
        rw [e21]
        refine r_cast hC q_487 dX4_countLacking_24 (hcp i (by omega)).1 (by decide) rfl ?_
        refine r_aload_n hC dX4_countLacking_27 rfl rfl ?_
        refine r_getR  hC fl_X4_22 dX4_countLacking_28 (ko) (rb) ?_
        refine r_getI hC fl_X4_33 rfl dX4_countLacking_31 (kb) (hn) ?_
        refine r_cVN (as := [.int (nI n)]) hC (c_countLackingC hzs (hcp i (by omega)) h43) cs_X1_countLacking q_600 q_602 q_20 ((hcp i (by omega)).1) (by decide) rfl dX4_countLacking_34 rfl rfl ⟨Nat.le_of_ble_eq_true rfl, Nat.le_of_ble_eq_true rfl⟩ (Nat.le_of_ble_eq_true rfl) ⟨Nat.le_of_ble_eq_true rfl, Nat.le_of_ble_eq_true rfl⟩ (fun v34 S34 p34 => ?_) (fun _ x => x.elim)
        obtain ⟨rfl, e34⟩ := p34
        rw [e34]
        refine r_iadd hC dX4_countLacking_37 ?_
        refine r_istore_n hC dX4_countLacking_38 rfl (by decide) ?_
        refine r_iinc hC dX4_countLacking_39 rfl (ii1 _) ?_
        refine r_goto (tgt := 4) hC dX4_countLacking_42 (by decide) ?_
        rw [nI_add]
        exact ih (i + 1) (by omega)
  refine r_iconst (v := nI 0) hC dX4_countLacking_0 (by decide) ?_
  refine r_istore_n hC dX4_countLacking_1 rfl (by decide) ?_
  refine r_iconst (v := nI 0) hC dX4_countLacking_2 (by decide) ?_
  refine r_istore_n hC dX4_countLacking_3 rfl (by decide) ?_
  exact loop nc 0 (by omega)
set_option maxRecDepth 100000 in
set_option maxHeartbeats 1000000 in
theorem c_spoilChangedO (hl : l.stackTraces = false) (ho : isOr G S o bk ls nc cp lv) {p e c r n : Nat} (hb : isBk S bk p e c r) (hn : pI S 5 bk = nI n) (h43 : n ≤ 43) :
    MT l G S yX4_spoilChanged cX4_spoilChanged 3 (some .int) (rmA 3) [va_rf (some o)]
      (fun v S' => v = some (.int (nI (sm (fun i => if pI S 33 (cp i) = 0 then ct (spN S (lv i) (fun f y => decide (pI S 99 y ≠ posF S r n f))) 43 else 0) nc))) ∧ SPR S S' (fun x g y => ∃ i, i < nc ∧ x = lv i ∧ pI S 33 (cp i) = 0 ∧ g < 43 ∧ pI S 99 y ≠ posF S r n g)) (fun _ => False) := by
  refine MT_of (by decide +kernel) hl rfl (Nat.le_of_ble_eq_true rfl) (fun Z hC hzl hnm hT hQ => ?_)
  change J G Z S 0 0 0 [some (va_rf (some o)), none, none] []
  have hzs : (zl Z).stackTraces = false := by rw [hzl]; exact hl
  obtain ⟨-, -, -, -, -, h3, hcp0, hlv⟩ := id ho
  have loop : ∀ (d i : Nat) (S1 : PS), i + d = nc → SPR S S1 (fun x g y => ∃ j, j < i ∧ x = lv j ∧ pI S 33 (cp j) = 0 ∧ g < 43 ∧ pI S 99 y ≠ posF S r n g) → J G Z S1 0 0 4 [some (va_rf (some o)), some (.int (nI (sm (fun i => if pI S 33 (cp i) = 0 then ct (spN S (lv i) (fun f y => decide (pI S 99 y ≠ posF S r n f))) 43 else 0) i))), some (.int (nI i))] [] := by
    intro d
    induction d with
    | zero =>
      intro i S1 hi hs
      have hi : i = nc := by omega
      subst hi
      obtain ⟨ko, rb, kb, rl, hls, -, hcp, -⟩ := hs.or ho (fun x kx g y ⟨j, hj, ex, _⟩ => by
        have := (hcp0 j hj).2.2.1
        rw [← ex] at this
        exact absurd (this.2.symm.trans kx.2) (by decide))
      refine r_iload_n hC dX4_spoilChanged_4 rfl rfl ?_
      refine r_aload_n hC dX4_spoilChanged_5 rfl rfl ?_
      refine r_getR  hC fl_X4_12 dX4_spoilChanged_6 (ko) (rl) ?_
      refine r_cV (as := []) hC (c_size hzs hls.1) cs_Jx4a65c_size_8abf5 q_485 q_202 q_203 (hls.1) (by decide) rfl dX4_spoilChanged_9 rfl rfl ⟨Nat.le_of_ble_eq_true rfl, Nat.le_of_ble_eq_true rfl⟩ (Nat.le_of_ble_eq_true rfl) ⟨Nat.le_of_ble_eq_true rfl, Nat.le_of_ble_eq_true rfl⟩ (fun v9 S9 p9 => ?_) (fun _ x => x.elim)
      obtain ⟨rfl, e9⟩ := p9
      rw [e9, hls.2.1]
      refine r_icge (tgt := 42) hC dX4_spoilChanged_12 (by decide) (fun h12 => ?_) (fun h12 => ?_)
      · skip
        refine r_iload_n hC dX4_spoilChanged_42 rfl rfl ?_
        refine r_iret hC hQ rfl dX4_spoilChanged_43 (Nat.le_of_ble_eq_true rfl) (Nat.le_of_ble_eq_true rfl) ?_
        exact ⟨rfl, hs⟩
      · exact absurd (nI_le (Nat.le_refl i) (by omega)) h12
    | succ d ih =>
      intro i S1 hi hs
      obtain ⟨ko, rb, kb, rl, hls, -, hcp, -⟩ := hs.or ho (fun x kx g y ⟨j, hj, ex, _⟩ => by
        have := (hcp0 j (by omega)).2.2.1
        rw [← ex] at this
        exact absurd (this.2.symm.trans kx.2) (by decide))
      refine r_iload_n hC dX4_spoilChanged_4 rfl rfl ?_
      refine r_aload_n hC dX4_spoilChanged_5 rfl rfl ?_
      refine r_getR  hC fl_X4_12 dX4_spoilChanged_6 (ko) (rl) ?_
      refine r_cV (as := []) hC (c_size hzs hls.1) cs_Jx4a65c_size_8abf5 q_485 q_202 q_203 (hls.1) (by decide) rfl dX4_spoilChanged_9 rfl rfl ⟨Nat.le_of_ble_eq_true rfl, Nat.le_of_ble_eq_true rfl⟩ (Nat.le_of_ble_eq_true rfl) ⟨Nat.le_of_ble_eq_true rfl, Nat.le_of_ble_eq_true rfl⟩ (fun v9 S9 p9 => ?_) (fun _ x => x.elim)
      obtain ⟨rfl, e9⟩ := p9
      rw [e9, hls.2.1]
      refine r_icge (tgt := 42) hC dX4_spoilChanged_12 (by decide) (fun h12 => ?_) (fun h12 => ?_)
      · exact absurd ((nI_leI (by omega) (by omega)).mp h12) (by omega)
      · skip
        have hin : i < nc := by omega
        have hrow : ∀ f, pB S1 (lv i) f = pB S (lv i) f := fun f => hs.2.1 _ _ (fun y _ ⟨j, hj, ex, _⟩ => absurd (hlv i j hin (by omega) ex) (by omega))
        have hpf : ∀ f, posF S1 r n f = posF S r n f := fun f => by unfold posF; rw [hs.A]
        have hsn : spN S1 (lv i) (fun f y => decide (pI S1 99 y ≠ posF S1 r n f)) = spN S (lv i) (fun f y => decide (pI S 99 y ≠ posF S r n f)) := by
          funext f
          unfold spN
          rw [hrow f]
          cases pB S (lv i) f with
          | none => rfl
          | some y => simp only [hpf, hs.I (show (99 : Nat) ≠ 101 by decide)]
        refine r_iload_n hC dX4_spoilChanged_15 rfl rfl ?_
        refine r_aload_n hC dX4_spoilChanged_16 rfl rfl ?_
        refine r_getR  hC fl_X4_12 dX4_spoilChanged_17 (ko) (rl) ?_
        refine r_iload_n hC dX4_spoilChanged_20 rfl rfl ?_
        refine r_cV (as := [.int (nI i)]) hC (c_get hzs hls hin (by omega)) cs_Jx4a65c_get_915e3 q_486 q_206 q_207 (hls.1) (by decide) rfl dX4_spoilChanged_21 rfl rfl ⟨Nat.le_of_ble_eq_true rfl, Nat.le_of_ble_eq_true rfl⟩ (Nat.le_of_ble_eq_true rfl) ⟨Nat.le_of_ble_eq_true rfl, Nat.le_of_ble_eq_true rfl⟩ (fun v21 S21 p21 => ?_) (fun _ x => x.elim)
        obtain ⟨rfl, e21⟩ := p21
        rw [e21]
        refine r_cast hC q_487 dX4_spoilChanged_24 (hcp i hin).1 (by decide) rfl ?_
        refine r_aload_n hC dX4_spoilChanged_27 rfl rfl ?_
        refine r_getR  hC fl_X4_22 dX4_spoilChanged_28 (ko) (rb) ?_
        refine r_cVN (as := [va_rf (some bk)]) hC (c_spoilChangedC hzs (hcp i hin) (hs.bk hb) ((hs.I (by decide) _).trans hn) h43) cs_X1_spoilChanged q_488 q_490 q_13 ((hcp i hin).1) (by decide) rfl dX4_spoilChanged_31 rfl rfl ⟨Nat.le_of_ble_eq_true rfl, Nat.le_of_ble_eq_true rfl⟩ (Nat.le_of_ble_eq_true rfl) ⟨Nat.le_of_ble_eq_true rfl, Nat.le_of_ble_eq_true rfl⟩ (fun v31 S31 p31 => ?_) (fun _ x => x.elim)
        obtain ⟨rfl, e31⟩ := p31
        rw [hsn, hs.I (show (33 : Nat) ≠ 101 by decide)] at *
        refine r_iadd hC dX4_spoilChanged_34 ?_
        refine r_istore_n hC dX4_spoilChanged_35 rfl (by decide) ?_
        refine r_iinc hC dX4_spoilChanged_36 rfl (ii1 _) ?_
        refine r_goto (tgt := 4) hC dX4_spoilChanged_39 (by decide) ?_
        rw [nI_add]
        refine ih (i + 1) _ (by omega) ?_
        rw [e31]
        by_cases hbd : pI S 33 (cp i) = 0
        · rw [if_pos hbd]
          refine (hs.tr SPR.of ?_).cong ?_
          · rintro x g y g' y' ⟨j, hj, ex, _⟩ ⟨ex', _⟩
            exact absurd (hlv j i (by omega) hin (ex.symm.trans ex')) (by omega)
          · intro x g y
            constructor
            · rintro (⟨j, hj, q⟩ | ⟨ex, hg, hp⟩)
              · exact ⟨j, by omega, q⟩
              · refine ⟨i, by omega, ex, hbd, hg, ?_⟩
                have := of_decide_eq_true hp
                rwa [hs.I (show (99 : Nat) ≠ 101 by decide), hpf] at this
            · rintro ⟨j, hj, ex, q1, q2, q3⟩
              by_cases hji : j = i
              · subst hji
                refine Or.inr ⟨ex, q2, decide_eq_true ?_⟩
                rwa [hs.I (show (99 : Nat) ≠ 101 by decide), hpf]
              · exact Or.inl ⟨j, by omega, ex, q1, q2, q3⟩
        · rw [if_neg hbd]
          refine hs.cong (fun x g y => ⟨fun ⟨j, hj, q⟩ => ⟨j, by omega, q⟩, fun ⟨j, hj, q⟩ => ⟨j, ?_, q⟩⟩)
          rcases Nat.lt_or_ge j i with h | h
          · exact h
          · have : j = i := by omega
            subst this
            exact absurd q.2.1 hbd
  refine r_iconst (v := nI 0) hC dX4_spoilChanged_0 (by decide) ?_
  refine r_istore_n hC dX4_spoilChanged_1 rfl (by decide) ?_
  refine r_iconst (v := nI 0) hC dX4_spoilChanged_2 (by decide) ?_
  refine r_istore_n hC dX4_spoilChanged_3 rfl (by decide) ?_
  exact loop nc 0 S (by omega) (SPR.rf (fun x g y ⟨j, hj, _⟩ => absurd hj (by omega)))
end OrderA

