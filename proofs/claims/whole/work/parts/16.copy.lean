/-! ===== copies ===== -/
def ct (p : Nat → Bool) : Nat → Nat
  | 0 => 0
  | n + 1 => ct p n + (if p n then 1 else 0)
theorem ct_le (p : Nat → Bool) : ∀ n, ct p n ≤ n
  | 0 => Nat.le_refl _
  | n + 1 => by have h := ct_le p n; simp only [ct]; split <;> omega
/-- a copy's object and its row of leaves -/
def isCp (S : PS) (c v : Nat) : Prop := KD S c 1 ∧ pR S 32 c = some v ∧ KD S v 12 ∧ pN S v = 43 ∧ (∀ f, f < 43 → ∀ y, pB S v f = some y → isLf S y ∧ pI S 98 y = nI f) ∧ (pI S 33 c = 0 ∨ pI S 33 c = 1)
def lackB (S : PS) (c v f : Nat) : Bool := decide (pI S 33 c = 0) && (pB S v f).isNone
/-- the trim of a leaf's sheet -/
def lfT (S : PS) (y : Nat) : Int32 := pI S 195 (lfS S y)
def cutB (S : PS) (v f : Nat) : Bool := match pB S v f with | none => false | some y => decide (lfT S y ≠ -1)
def allB (p : Nat → Bool) : Nat → Bool
  | 0 => true
  | n + 1 => allB p n && p n
theorem allB_iff (p : Nat → Bool) : ∀ n, allB p n = true ↔ ∀ i, i < n → p i = true
  | 0 => ⟨fun _ i h => absurd h (Nat.not_lt_zero i), fun _ => rfl⟩
  | n + 1 => by
    have ih := allB_iff p n
    simp only [allB, Bool.and_eq_true]
    constructor
    · rintro ⟨h1, h2⟩ i hi
      rcases Nat.lt_or_ge i n with q | q
      · exact ih.mp h1 i q
      · have : i = n := by omega
        subst this; exact h2
    · intro h
      exact ⟨ih.mpr (fun i hi => h i (by omega)), h n (by omega)⟩
def lstT (S : PS) (v : Nat) : Nat → Int32
  | 0 => nI 15
  | f + 1 => match pB S v f with | none => lstT S v f | some y => if lfT S y < lstT S v f then lfT S y else lstT S v f
/-- the leaves of the row v that P takes are spoiled, for the first n frames -/
def spS (S : PS) (v : Nat) (P : Nat → Nat → Bool) : Nat → PS
  | 0 => S
  | f + 1 => match pB S v f with | none => spS S v P f | some y => if P f y then sB (sI (spS S v P f) 101 y 1) v (va_up (pB (spS S v P f) v) f none) else spS S v P f
def spN (S : PS) (v : Nat) (P : Nat → Nat → Bool) : Nat → Bool := fun f => match pB S v f with | none => false | some y => P f y
theorem spS_B {S : PS} {v : Nat} {P : Nat → Nat → Bool} : ∀ n x g, pB (spS S v P n) x g = if x = v ∧ g < n ∧ spN S v P g = true then none else pB S x g := by
  intro n
  induction n with
  | zero => intro x g; simp [spS]
  | succ n ih =>
    intro x g
    simp only [spS]
    cases hb : pB S v n with
    | none =>
      simp only
      rw [ih x g]
      by_cases hg : g = n
      · subst hg; simp [spN, hb]
      · by_cases h1 : x = v ∧ g < n ∧ spN S v P g = true
        · rw [if_pos h1, if_pos ⟨h1.1, by omega, h1.2.2⟩]
        · rw [if_neg h1, if_neg (fun z => h1 ⟨z.1, by omega, z.2.2⟩)]
    | some y =>
      simp only
      by_cases hP : P n y = true
      · rw [if_pos hP]
        by_cases hx : x = v
        · subst hx
          show va_up (pB (sI (spS S x P n) 101 y 1)) x (va_up (pB (spS S x P n) x) n none) x g = _
          rw [va_up_self]
          by_cases hg : g = n
          · subst hg; rw [va_up_self, if_pos ⟨rfl, by omega, by simp [spN, hb, hP]⟩]
          · rw [va_up_ne _ _ hg, ih x g]
            by_cases h1 : g < n ∧ spN S x P g = true
            · rw [if_pos ⟨rfl, h1⟩, if_pos ⟨rfl, by omega, h1.2⟩]
            · rw [if_neg (fun z => h1 z.2), if_neg (fun z => h1 ⟨by omega, z.2.2⟩)]
        · show va_up (pB (sI (spS S v P n) 101 y 1)) v (va_up (pB (spS S v P n) v) n none) x g = _
          rw [va_up_ne _ _ hx]
          show pB (spS S v P n) x g = _
          rw [ih x g, if_neg (fun z => hx z.1), if_neg (fun z => hx z.1)]
      · rw [if_neg hP, ih x g]
        by_cases hg : g = n
        · subst hg; simp [spN, hb, hP]
        · by_cases h1 : x = v ∧ g < n ∧ spN S v P g = true
          · rw [if_pos h1, if_pos ⟨h1.1, by omega, h1.2.2⟩]
          · rw [if_neg h1, if_neg (fun z => h1 ⟨z.1, by omega, z.2.2⟩)]
theorem spS_I {S : PS} {v : Nat} {P : Nat → Nat → Bool} : ∀ n k x, pI (spS S v P n) k x = if k = 101 ∧ (∃ g, g < n ∧ pB S v g = some x ∧ P g x = true) then 1 else pI S k x := by
  intro n
  induction n with
  | zero => intro k x; simp [spS]
  | succ n ih =>
    intro k x
    simp only [spS]
    have same : (∀ y, pB S v n = some y → P n y = false) → (if k = 101 ∧ (∃ g, g < n ∧ pB S v g = some x ∧ P g x = true) then (1 : Int32) else pI S k x) = if k = 101 ∧ (∃ g, g < n + 1 ∧ pB S v g = some x ∧ P g x = true) then 1 else pI S k x := by
      intro hn
      by_cases h1 : k = 101 ∧ (∃ g, g < n ∧ pB S v g = some x ∧ P g x = true)
      · obtain ⟨h2, g, h3, h4⟩ := h1
        rw [if_pos ⟨h2, g, h3, h4⟩, if_pos ⟨h2, g, by omega, h4⟩]
      · rw [if_neg h1, if_neg]
        rintro ⟨h2, g, h3, h4, h5⟩
        by_cases hg : g = n
        · subst hg; rw [hn x h4] at h5; cases h5
        · exact h1 ⟨h2, g, by omega, h4, h5⟩
    cases hb : pB S v n with
    | none => simp only; rw [ih k x]; exact same (fun y z => by rw [hb] at z; cases z)
    | some y =>
      simp only
      by_cases hP : P n y = true
      · rw [if_pos hP]
        show u2 (pI (spS S v P n)) 101 y 1 k x = _
        by_cases hk : k = 101
        · subst hk
          by_cases hx : x = y
          · subst hx; rw [u2_s, if_pos ⟨rfl, n, by omega, hb, hP⟩]
          · rw [u2_a _ _ _ _ hx, ih 101 x]
            by_cases h1 : ∃ g, g < n ∧ pB S v g = some x ∧ P g x = true
            · obtain ⟨g, h3, h4⟩ := h1
              rw [if_pos ⟨rfl, g, h3, h4⟩, if_pos ⟨rfl, g, by omega, h4⟩]
            · rw [if_neg (fun z => h1 z.2), if_neg]
              rintro ⟨-, g, h3, h4, h5⟩
              by_cases hg : g = n
              · subst hg; rw [hb] at h4; cases h4; exact hx rfl
              · exact h1 ⟨g, by omega, h4, h5⟩
        · rw [u2_f _ _ _ _ hk, ih k x, if_neg (fun z => hk z.1), if_neg (fun z => hk z.1)]
      · rw [if_neg hP, ih k x]
        exact same (fun z hz => by rw [hb] at hz; cases hz; simpa using hP)
theorem spS_o {S : PS} {v : Nat} {P : Nat → Nat → Bool} : ∀ n, pL (spS S v P n) = pL S ∧ pK (spS S v P n) = pK S ∧ pR (spS S v P n) = pR S ∧ pN (spS S v P n) = pN S ∧ pA (spS S v P n) = pA S ∧ pJ (spS S v P n) = pJ S := by
  intro n
  induction n with
  | zero => exact ⟨rfl, rfl, rfl, rfl, rfl, rfl⟩
  | succ n ih =>
    simp only [spS]
    cases hb : pB S v n with
    | none => exact ih
    | some y =>
      simp only
      split
      · exact ih
      · exact ih
theorem spS_KD {S : PS} {v : Nat} {P : Nat → Nat → Bool} {n a k : Nat} : KD (spS S v P n) a k ↔ KD S a k := by
  obtain ⟨h1, h2, -⟩ := spS_o (S := S) (v := v) (P := P) n
  unfold KD
  rw [h1, h2]
section CopyA
variable {l : Launch} {G : GG} {S : PS} {c v : Nat}
set_option maxRecDepth 100000 in
theorem c_leafOf (hl : l.stackTraces = false) (hc : isCp S c v) {f : Nat} (hf : f < 43) :
    MT l G S yX1_leafOf cX1_leafOf 2 (some (.object "Thumbreel$Leaf")) (rmA 0) [va_rf (some c), .int (nI f)] (fun r S' => r = some (va_rf (pB S v f)) ∧ S' = S) (fun _ => False) := by
  obtain ⟨kc, rv, kv, nv, -⟩ := hc
  refine MT_of (by decide +kernel) hl rfl (Nat.le_of_ble_eq_true rfl) (fun Z hC _ hnm hT hQ => ?_)
  change J G Z S 0 0 0 [some (va_rf (some c)), some (.int (nI f))] []
  refine r_iload_n hC dX1_leafOf_0 rfl rfl ?_
  refine r_iflt (tgt := 13) hC dX1_leafOf_1 (by decide) (fun h1 => ?_) (fun h1 => ?_)
  · exact absurd h1 (nI_pos (by omega))
  · skip
    refine r_iload_n hC dX1_leafOf_4 rfl rfl ?_
    refine r_aload_n hC dX1_leafOf_5 rfl rfl ?_
    refine r_getR  hC fl_X1_11 dX1_leafOf_6 (kc) (rv) ?_
    refine r_alen hC dX1_leafOf_9 (kv) (by decide) (by decide) (nv) ?_
    refine r_iclt (tgt := 17) hC dX1_leafOf_10 (by decide) (fun h10 => ?_) (fun h10 => ?_)
    · skip
      refine r_aload_n hC dX1_leafOf_17 rfl rfl ?_
      refine r_getR  hC fl_X1_11 dX1_leafOf_18 (kc) (rv) ?_
      refine r_iload_n hC dX1_leafOf_21 rfl rfl ?_
      refine r_aald hC dX1_leafOf_22 (kv) (by decide) (rfl) (by rw [nv]; exact hf) (by rw [nv]; decide) (rfl) ?_
      refine r_aret hC hQ rfl (by first | exact Or.inl ⟨_, rfl⟩ | exact Or.inr ⟨_, rfl⟩) dX1_leafOf_23 (Nat.le_of_ble_eq_true rfl) (Nat.le_of_ble_eq_true rfl) ?_
      exact ⟨rfl, rfl⟩
    · exact absurd (nI_lt hf (by decide)) h10
set_option maxRecDepth 100000 in
theorem c_take (hl : l.stackTraces = false) (hc : isCp S c v) {f y : Nat} (hf : f < 43) (ky : KD S y 3) (fy : pI S 98 y = nI f) :
    MT l G S yX1_take cX1_take 2 none (rmA 0) [va_rf (some c), va_rf (some y)] (fun r S' => r = none ∧ S' = sB S v (va_up (pB S v) f (some y))) (fun _ => False) := by
  obtain ⟨kc, rv, kv, nv, -⟩ := hc
  refine MT_of (by decide +kernel) hl rfl (Nat.le_of_ble_eq_true rfl) (fun Z hC _ hnm hT hQ => ?_)
  change J G Z S 0 0 0 [some (va_rf (some c)), some (va_rf (some y))] []
  refine r_aload_n hC dX1_take_0 rfl rfl ?_
  refine r_getI hC fl_X1_25 rfl dX1_take_1 (ky) (fy) ?_
  refine r_iflt (tgt := 29) hC dX1_take_4 (by decide) (fun h4 => ?_) (fun h4 => ?_)
  · exact absurd h4 (nI_pos (by omega))
  · skip
    refine r_aload_n hC dX1_take_7 rfl rfl ?_
    refine r_getI hC fl_X1_25 rfl dX1_take_8 (ky) (fy) ?_
    refine r_aload_n hC dX1_take_11 rfl rfl ?_
    refine r_getR  hC fl_X1_11 dX1_take_12 (kc) (rv) ?_
    refine r_alen hC dX1_take_15 (kv) (by decide) (by decide) (nv) ?_
    refine r_icge (tgt := 29) hC dX1_take_16 (by decide) (fun h16 => ?_) (fun h16 => ?_)
    · exact absurd ((nI_leI (by omega) (by omega)).mp h16) (by omega)
    · skip
      refine r_aload_n hC dX1_take_19 rfl rfl ?_
      refine r_getR  hC fl_X1_11 dX1_take_20 (kc) (rv) ?_
      refine r_aload_n hC dX1_take_23 rfl rfl ?_
      refine r_getI hC fl_X1_25 rfl dX1_take_24 (ky) (fy) ?_
      refine r_aload_n hC dX1_take_27 rfl rfl ?_
      refine r_aastL hC dX1_take_28 (kv) (rfl) (by rw [nv]; exact hf) (by rw [nv]; decide) (fun z hz => by cases hz; exact ky) ?_
      refine r_vret hC hQ rfl dX1_take_29 (Nat.le_of_ble_eq_true rfl) (Nat.le_of_ble_eq_true rfl) ?_
      exact ⟨rfl, rfl⟩
set_option maxRecDepth 100000 in
theorem c_isLacking (hl : l.stackTraces = false) (hc : isCp S c v) {f : Nat} (hf : f < 43) :
    MT l G S yX1_isLacking cX1_isLacking 2 (some .boolean) (rmA 1) [va_rf (some c), .int (nI f)] (fun r S' => r = some (.int (bI (lackB S c v f))) ∧ S' = S) (fun _ => False) := by
  have kc := hc.1
  refine MT_of (by decide +kernel) hl rfl (Nat.le_of_ble_eq_true rfl) (fun Z hC hzl hnm hT hQ => ?_)
  change J G Z S 0 0 0 [some (va_rf (some c)), some (.int (nI f))] []
  have hzs : (zl Z).stackTraces = false := by rw [hzl]; exact hl
  have no : lackB S c v f = false → J G Z S 0 0 19 [some (va_rf (some c)), some (.int (nI f))] [] := by
    intro h
    refine r_iconst (v := nI 0) hC dX1_isLacking_19 (by decide) ?_
    refine r_zret hC hQ rfl (by decide) dX1_isLacking_20 (Nat.le_of_ble_eq_true rfl) (Nat.le_of_ble_eq_true rfl) ?_
    exact ⟨by rw [h]; rfl, rfl⟩
  refine r_aload_n hC dX1_isLacking_0 rfl rfl ?_
  refine r_getI hC fl_X1_17 rfl dX1_isLacking_1 (kc) (rfl) ?_
  refine r_ifne (tgt := 19) hC dX1_isLacking_4 (by decide) (fun h4 => ?_) (fun h4 => ?_)
  · refine no ?_
    unfold lackB
    rw [decide_eq_false h4, Bool.false_and]
  · skip
    refine r_aload_n hC dX1_isLacking_7 rfl rfl ?_
    refine r_iload_n hC dX1_isLacking_8 rfl rfl ?_
    refine r_cV (as := [.int (nI f)]) hC (c_leafOf hzs hc hf) cs_X1_leafOf q_608 q_610 q_22 (kc) (by decide) rfl dX1_isLacking_9 rfl rfl ⟨Nat.le_of_ble_eq_true rfl, Nat.le_of_ble_eq_true rfl⟩ (Nat.le_of_ble_eq_true rfl) ⟨Nat.le_of_ble_eq_true rfl, Nat.le_of_ble_eq_true rfl⟩ (fun v9 S9 p9 => ?_) (fun _ x => x.elim)
    obtain ⟨rfl, e9⟩ := p9
    rw [e9]
    refine r_ifnonnull (tgt := 19) hC dX1_isLacking_12 (by decide) (fun z12 h12 => ?_) (fun h12 => ?_)
    · refine no ?_
      unfold lackB
      rw [h12]
      simp
    · skip
      refine r_iconst (v := nI 1) hC dX1_isLacking_15 (by decide) ?_
      refine r_goto (tgt := 20) hC dX1_isLacking_16 (by decide) ?_
      refine r_zret hC hQ rfl (by decide) dX1_isLacking_20 (Nat.le_of_ble_eq_true rfl) (Nat.le_of_ble_eq_true rfl) ?_
      refine ⟨?_, rfl⟩
      unfold lackB
      rw [h12, decide_eq_true h4]
      rfl
set_option maxRecDepth 100000 in
theorem c_countLackingC (hl : l.stackTraces = false) (hc : isCp S c v) {n : Nat} (hn : n ≤ 43) :
    MT l G S yX1_countLacking cX1_countLacking 4 (some .int) (rmA 2) [va_rf (some c), .int (nI n)] (fun r S' => r = some (.int (nI (ct (lackB S c v) n))) ∧ S' = S) (fun _ => False) := by
  have kc := hc.1
  refine MT_of (by decide +kernel) hl rfl (Nat.le_of_ble_eq_true rfl) (fun Z hC hzl hnm hT hQ => ?_)
  change J G Z S 0 0 0 [some (va_rf (some c)), some (.int (nI n)), none, none] []
  have hzs : (zl Z).stackTraces = false := by rw [hzl]; exact hl
  have loop : ∀ (d i : Nat), i + d = n → J G Z S 0 0 4 [some (va_rf (some c)), some (.int (nI n)), some (.int (nI (ct (lackB S c v) i))), some (.int (nI i))] [] := by
    intro d
    induction d with
    | zero =>
      intro i hi
      have hi : i = n := by omega
      subst hi
      refine r_iload_n hC dX1_countLacking_4 rfl rfl ?_
      refine r_iload_n hC dX1_countLacking_5 rfl rfl ?_
      refine r_icge (tgt := 26) hC dX1_countLacking_6 (by decide) (fun h6 => ?_) (fun h6 => ?_)
      · skip
        refine r_iload_n hC dX1_countLacking_26 rfl rfl ?_
        refine r_iret hC hQ rfl dX1_countLacking_27 (Nat.le_of_ble_eq_true rfl) (Nat.le_of_ble_eq_true rfl) ?_
        exact ⟨rfl, rfl⟩
      · exact absurd (nI_le (Nat.le_refl i) (by omega)) h6
    | succ d ih =>
      intro i hi
      refine r_iload_n hC dX1_countLacking_4 rfl rfl ?_
      refine r_iload_n hC dX1_countLacking_5 rfl rfl ?_
      refine r_icge (tgt := 26) hC dX1_countLacking_6 (by decide) (fun h6 => ?_) (fun h6 => ?_)
      · exact absurd ((nI_leI (by omega) (by omega)).mp h6) (by omega)
      · skip
        refine r_aload_n hC dX1_countLacking_9 rfl rfl ?_
        refine r_iload_n hC dX1_countLacking_10 rfl rfl ?_
        refine r_cV (as := [.int (nI i)]) hC (c_isLacking hzs hc (f := i) (by omega)) cs_X1_isLacking q_604 q_606 q_21 (kc) (by decide) rfl dX1_countLacking_11 rfl rfl ⟨Nat.le_of_ble_eq_true rfl, Nat.le_of_ble_eq_true rfl⟩ (Nat.le_of_ble_eq_true rfl) ⟨Nat.le_of_ble_eq_true rfl, Nat.le_of_ble_eq_true rfl⟩ (fun v11 S11 p11 => ?_) (fun _ x => x.elim)
        obtain ⟨rfl, e11⟩ := p11
        rw [e11]
        cases hb : lackB S c v i with
        | false =>
          refine r_ifeq (tgt := 20) hC dX1_countLacking_14 (by decide) (fun h14 => ?_) (fun h14 => ?_)
          · skip
            refine r_iinc hC dX1_countLacking_20 rfl (ii1 _) ?_
            refine r_goto (tgt := 4) hC dX1_countLacking_23 (by decide) ?_
            have h := ih (i + 1) (by omega)
            simp only [ct, hb] at h
            exact h
          · exact absurd rfl h14
        | true =>
          refine r_ifeq (tgt := 20) hC dX1_countLacking_14 (by decide) (fun h14 => ?_) (fun h14 => ?_)
          · exact absurd h14 (by decide)
          · skip
            refine r_iinc hC dX1_countLacking_17 rfl (ii1 _) ?_
            refine r_iinc hC dX1_countLacking_20 rfl (ii1 _) ?_
            refine r_goto (tgt := 4) hC dX1_countLacking_23 (by decide) ?_
            have h := ih (i + 1) (by omega)
            simp only [ct, hb, if_true] at h
            exact h
  refine r_iconst (v := nI 0) hC dX1_countLacking_0 (by decide) ?_
  refine r_istore_n hC dX1_countLacking_1 rfl (by decide) ?_
  refine r_iconst (v := nI 0) hC dX1_countLacking_2 (by decide) ?_
  refine r_istore_n hC dX1_countLacking_3 rfl (by decide) ?_
  exact loop n 0 (by omega)
set_option maxRecDepth 100000 in
theorem c_isAllCut (hl : l.stackTraces = false) (hc : isCp S c v) {n : Nat} (hn : n ≤ 43) :
    MT l G S yX1_isAllCut cX1_isAllCut 4 (some .boolean) (rmA 2) [va_rf (some c), .int (nI n)] (fun r S' => r = some (.int (bI (allB (cutB S v) n))) ∧ S' = S) (fun _ => False) := by
  have kc := hc.1
  refine MT_of (by decide +kernel) hl rfl (Nat.le_of_ble_eq_true rfl) (fun Z hC hzl hnm hT hQ => ?_)
  change J G Z S 0 0 0 [some (va_rf (some c)), some (.int (nI n)), none, none] []
  have hzs : (zl Z).stackTraces = false := by rw [hzl]; exact hl
  have no : ∀ i L, i < n → cutB S v i = false → J G Z S 0 0 27 L [] := by
    intro i L hi h
    refine r_iconst (v := nI 0) hC dX1_isAllCut_27 (by decide) ?_
    refine r_zret hC hQ rfl (by decide) dX1_isAllCut_28 (Nat.le_of_ble_eq_true rfl) (Nat.le_of_ble_eq_true rfl) ?_
    refine ⟨?_, rfl⟩
    have : allB (cutB S v) n = false := by
      cases hb : allB (cutB S v) n with
      | false => rfl
      | true => rw [(allB_iff _ n).mp hb i hi] at h; cases h
    rw [this]
    rfl
  have loop : ∀ (d i : Nat) (o : Option Value), i + d = n → allB (cutB S v) i = true → J G Z S 0 0 2 [some (va_rf (some c)), some (.int (nI n)), some (.int (nI i)), o] [] := by
    intro d
    induction d with
    | zero =>
      intro i o hi h
      have hi : i = n := by omega
      subst hi
      refine r_iload_n hC dX1_isAllCut_2 rfl rfl ?_
      refine r_iload_n hC dX1_isAllCut_3 rfl rfl ?_
      refine r_icge (tgt := 35) hC dX1_isAllCut_4 (by decide) (fun h4 => ?_) (fun h4 => ?_)
      · skip
        refine r_iconst (v := nI 1) hC dX1_isAllCut_35 (by decide) ?_
        refine r_zret hC hQ rfl (by decide) dX1_isAllCut_36 (Nat.le_of_ble_eq_true rfl) (Nat.le_of_ble_eq_true rfl) ?_
        exact ⟨by rw [h]; rfl, rfl⟩
      · exact absurd (nI_le (Nat.le_refl i) (by omega)) h4
    | succ d ih =>
      intro i o hi h
      refine r_iload_n hC dX1_isAllCut_2 rfl rfl ?_
      refine r_iload_n hC dX1_isAllCut_3 rfl rfl ?_
      refine r_icge (tgt := 35) hC dX1_isAllCut_4 (by decide) (fun h4 => ?_) (fun h4 => ?_)
      · exact absurd ((nI_leI (by omega) (by omega)).mp h4) (by omega)
      · skip
        refine r_aload_n hC dX1_isAllCut_7 rfl rfl ?_
        refine r_iload_n hC dX1_isAllCut_8 rfl rfl ?_
        refine r_cV (as := [.int (nI i)]) hC (c_leafOf hzs hc (f := i) (by omega)) cs_X1_leafOf q_608 q_610 q_22 (kc) (by decide) rfl dX1_isAllCut_9 rfl rfl ⟨Nat.le_of_ble_eq_true rfl, Nat.le_of_ble_eq_true rfl⟩ (Nat.le_of_ble_eq_true rfl) ⟨Nat.le_of_ble_eq_true rfl, Nat.le_of_ble_eq_true rfl⟩ (fun v9 S9 p9 => ?_) (fun _ x => x.elim)
        obtain ⟨rfl, e9⟩ := p9
        rw [e9]
        refine r_astore_n hC dX1_isAllCut_12 rfl (by decide) ?_
        refine r_aload_n hC dX1_isAllCut_13 rfl rfl ?_
        refine r_ifnull (tgt := 27) hC dX1_isAllCut_14 (by decide) (fun h14 => ?_) (fun z14 h14 => ?_)
        · refine no i _ (by omega) ?_
          unfold cutB
          rw [h14]
        · have hlf := (hc.2.2.2.2.1 i (by omega) _ h14).1
          rw [h14]
          refine r_aload_n hC dX1_isAllCut_17 rfl rfl ?_
          refine r_getR  hC fl_X1_36 dX1_isAllCut_18 (hlf.1) (hlf.sh.1) ?_
          refine r_cVN (as := []) hC (c_isCut hzs hlf.sh.2) cs_X6_isCut q_854 q_856 q_43 (hlf.sh.2) (by decide) rfl dX1_isAllCut_21 rfl rfl ⟨Nat.le_of_ble_eq_true rfl, Nat.le_of_ble_eq_true rfl⟩ (Nat.le_of_ble_eq_true rfl) ⟨Nat.le_of_ble_eq_true rfl, Nat.le_of_ble_eq_true rfl⟩ (fun v21 S21 p21 => ?_) (fun _ x => x.elim)
          obtain ⟨rfl, e21⟩ := p21
          rw [e21]
          have hcut : cutB S v i = decide (pI S 195 (lfS S z14) ≠ -1) := by
            unfold cutB
            rw [h14]
            rfl
          cases hb : decide (pI S 195 (lfS S z14) ≠ -1) with
          | false =>
            refine r_ifne (tgt := 29) hC dX1_isAllCut_24 (by decide) (fun h24 => ?_) (fun h24 => ?_)
            · exact absurd rfl h24
            · exact no i _ (by omega) (by rw [hcut, hb])
          | true =>
            refine r_ifne (tgt := 29) hC dX1_isAllCut_24 (by decide) (fun h24 => ?_) (fun h24 => ?_)
            · skip
              refine r_iinc hC dX1_isAllCut_29 rfl (ii1 _) ?_
              refine r_goto (tgt := 2) hC dX1_isAllCut_32 (by decide) ?_
              refine ih (i + 1) _ (by omega) ?_
              simp only [allB, h, hcut, hb, Bool.and_self]
            · exact absurd h24 (by decide)
  refine r_iconst (v := nI 0) hC dX1_isAllCut_0 (by decide) ?_
  refine r_istore_n hC dX1_isAllCut_1 rfl (by decide) ?_
  exact loop n 0 none (by omega) rfl
set_option maxRecDepth 100000 in
theorem c_leastTrim (hl : l.stackTraces = false) (hc : isCp S c v) {n : Nat} (hn : n ≤ 43) :
    MT l G S yX1_leastTrim cX1_leastTrim 5 (some .int) (rmA 2) [va_rf (some c), .int (nI n)] (fun r S' => r = some (.int (lstT S v n)) ∧ S' = S) (fun _ => False) := by
  have kc := hc.1
  refine MT_of (by decide +kernel) hl rfl (Nat.le_of_ble_eq_true rfl) (fun Z hC hzl hnm hT hQ => ?_)
  change J G Z S 0 0 0 [some (va_rf (some c)), some (.int (nI n)), none, none, none] []
  have hzs : (zl Z).stackTraces = false := by rw [hzl]; exact hl
  have loop : ∀ (d i : Nat) (o : Option Value), i + d = n → J G Z S 0 0 5 [some (va_rf (some c)), some (.int (nI n)), some (.int (lstT S v i)), some (.int (nI i)), o] [] := by
    intro d
    induction d with
    | zero =>
      intro i o hi
      have hi : i = n := by omega
      subst hi
      refine r_iload_n hC dX1_leastTrim_5 rfl rfl ?_
      refine r_iload_n hC dX1_leastTrim_6 rfl rfl ?_
      refine r_icge (tgt := 41) hC dX1_leastTrim_7 (by decide) (fun h7 => ?_) (fun h7 => ?_)
      · skip
        refine r_iload_n hC dX1_leastTrim_41 rfl rfl ?_
        refine r_iret hC hQ rfl dX1_leastTrim_42 (Nat.le_of_ble_eq_true rfl) (Nat.le_of_ble_eq_true rfl) ?_
        exact ⟨rfl, rfl⟩
      · exact absurd (nI_le (Nat.le_refl i) (by omega)) h7
    | succ d ih =>
      intro i o hi
      refine r_iload_n hC dX1_leastTrim_5 rfl rfl ?_
      refine r_iload_n hC dX1_leastTrim_6 rfl rfl ?_
      refine r_icge (tgt := 41) hC dX1_leastTrim_7 (by decide) (fun h7 => ?_) (fun h7 => ?_)
      · exact absurd ((nI_leI (by omega) (by omega)).mp h7) (by omega)
      · skip
        refine r_aload_n hC dX1_leastTrim_10 rfl rfl ?_
        refine r_iload_n hC dX1_leastTrim_11 rfl rfl ?_
        refine r_cV (as := [.int (nI i)]) hC (c_leafOf hzs hc (f := i) (by omega)) cs_X1_leafOf q_608 q_610 q_22 (kc) (by decide) rfl dX1_leastTrim_12 rfl rfl ⟨Nat.le_of_ble_eq_true rfl, Nat.le_of_ble_eq_true rfl⟩ (Nat.le_of_ble_eq_true rfl) ⟨Nat.le_of_ble_eq_true rfl, Nat.le_of_ble_eq_true rfl⟩ (fun v12 S12 p12 => ?_) (fun _ x => x.elim)
        obtain ⟨rfl, e12⟩ := p12
        rw [e12]
        refine r_astore hC dX1_leastTrim_15 (by decide) ?_
        refine r_aload hC dX1_leastTrim_17 rfl ?_
        refine r_ifnull (tgt := 35) hC dX1_leastTrim_19 (by decide) (fun h19 => ?_) (fun z19 h19 => ?_)
        · skip
          refine r_iinc hC dX1_leastTrim_35 rfl (ii1 _) ?_
          refine r_goto (tgt := 5) hC dX1_leastTrim_38 (by decide) ?_
          have h := ih (i + 1) (some (va_rf (pB S v i))) (by omega)
          simp only [lstT, h19] at h
          rw [h19]
          exact h
        · have hlf := (hc.2.2.2.2.1 i (by omega) _ h19).1
          rw [h19]
          refine r_iload_n hC dX1_leastTrim_22 rfl rfl ?_
          refine r_aload hC dX1_leastTrim_23 rfl ?_
          refine r_getR  hC fl_X1_36 dX1_leastTrim_25 (hlf.1) (hlf.sh.1) ?_
          refine r_getI hC fl_X1_46 rfl dX1_leastTrim_28 (hlf.sh.2) (rfl) ?_
          refine r_mmin hC q_863 q_392 q_86 q_393 dX1_leastTrim_31 (Nat.le_of_ble_eq_true rfl) (Nat.le_of_ble_eq_true rfl) (Nat.le_of_ble_eq_true rfl) (Nat.le_of_ble_eq_true rfl) ?_
          refine r_istore_n hC dX1_leastTrim_34 rfl (by decide) ?_
          refine r_iinc hC dX1_leastTrim_35 rfl (ii1 _) ?_
          refine r_goto (tgt := 5) hC dX1_leastTrim_38 (by decide) ?_
          have h := ih (i + 1) (some (va_rf (pB S v i))) (by omega)
          simp only [lstT, h19] at h
          exact h
  refine r_bipush (v := nI 15) hC dX1_leastTrim_0 (by decide) ?_
  refine r_istore_n hC dX1_leastTrim_2 rfl (by decide) ?_
  refine r_iconst (v := nI 0) hC dX1_leastTrim_3 (by decide) ?_
  refine r_istore_n hC dX1_leastTrim_4 rfl (by decide) ?_
  exact loop n 0 none (by omega)
set_option maxRecDepth 100000 in
theorem c_spoil (hl : l.stackTraces = false) (kc : KD S c 1) (rv : pR S 32 c = some v) (kv : KD S v 12) (nv : pN S v = 43) {f y : Nat} (hf : f < 43) (ky : KD S y 3) (fy : pI S 98 y = nI f) :
    MT l G S yX1_spoil cX1_spoil 2 none (rmA 0) [va_rf (some c), va_rf (some y)] (fun r S' => r = none ∧ S' = sB (sI S 101 y 1) v (va_up (pB S v) f none)) (fun _ => False) := by
  refine MT_of (by decide +kernel) hl rfl (Nat.le_of_ble_eq_true rfl) (fun Z hC _ hnm hT hQ => ?_)
  change J G Z S 0 0 0 [some (va_rf (some c)), some (va_rf (some y))] []
  refine r_aload_n hC dX1_spoil_0 rfl rfl ?_
  refine r_iconst (v := nI 1) hC dX1_spoil_1 (by decide) ?_
  refine r_putI hC fl_X1_68 rfl (by decide) dX1_spoil_2 (ky) (fun _ => by decide) ?_
  refine r_aload_n hC dX1_spoil_5 rfl rfl ?_
  refine r_getI hC fl_X1_25 rfl dX1_spoil_6 (ky) (fy) ?_
  refine r_iflt (tgt := 34) hC dX1_spoil_9 (by decide) (fun h9 => ?_) (fun h9 => ?_)
  · exact absurd h9 (nI_pos (by omega))
  · skip
    refine r_aload_n hC dX1_spoil_12 rfl rfl ?_
    refine r_getI hC fl_X1_25 rfl dX1_spoil_13 (ky) (fy) ?_
    refine r_aload_n hC dX1_spoil_16 rfl rfl ?_
    refine r_getR  hC fl_X1_11 dX1_spoil_17 (kc) (rv) ?_
    refine r_alen hC dX1_spoil_20 (kv) (by decide) (by decide) (nv) ?_
    refine r_icge (tgt := 34) hC dX1_spoil_21 (by decide) (fun h21 => ?_) (fun h21 => ?_)
    · exact absurd ((nI_leI (by omega) (by omega)).mp h21) (by omega)
    · skip
      refine r_aload_n hC dX1_spoil_24 rfl rfl ?_
      refine r_getR  hC fl_X1_11 dX1_spoil_25 (kc) (rv) ?_
      refine r_aload_n hC dX1_spoil_28 rfl rfl ?_
      refine r_getI hC fl_X1_25 rfl dX1_spoil_29 (ky) (fy) ?_
      refine r_null hC dX1_spoil_32 ?_
      refine r_aastL hC dX1_spoil_33 (kv) (rfl) (show f < pN S v by rw [nv]; exact hf) (show pN S v < 2147483648 by rw [nv]; decide) (fun z hz => nomatch hz) ?_
      refine r_vret hC hQ rfl dX1_spoil_34 (Nat.le_of_ble_eq_true rfl) (Nat.le_of_ble_eq_true rfl) ?_
      exact ⟨rfl, rfl⟩
end CopyA

