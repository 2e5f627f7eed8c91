/-! ===== sheets that wait, are cut, thrown away, read ===== -/
def anQ (p : Nat → Bool) : Nat → Bool
  | 0 => false
  | n + 1 => anQ p n || p n
theorem anQ_iff (p : Nat → Bool) : ∀ n, anQ p n = true ↔ ∃ i, i < n ∧ p i = true := by
  intro n
  induction n with
  | zero => exact ⟨fun h => absurd h Bool.false_ne_true, fun ⟨i, h, _⟩ => absurd h (Nat.not_lt_zero i)⟩
  | succ n ih =>
    simp only [anQ, Bool.or_eq_true, ih]
    constructor
    · rintro (⟨i, h1, h2⟩ | h)
      · exact ⟨i, by omega, h2⟩
      · exact ⟨n, by omega, h⟩
    · rintro ⟨i, h1, h2⟩
      rcases Nat.lt_or_ge i n with q | q
      · exact Or.inl ⟨i, q, h2⟩
      · have : i = n := by omega
        subst this; exact Or.inr h2
theorem useB_iff (S : PS) (a : Nat) : ∀ n, useB S a n = true ↔ ∃ x y, x < n ∧ pB S a x = some y ∧ pI S 101 y = 0 := by
  intro n
  induction n with
  | zero => exact ⟨fun h => absurd h Bool.false_ne_true, fun ⟨x, y, h, _⟩ => absurd h (Nat.not_lt_zero x)⟩
  | succ n ih =>
    simp only [useB, Bool.or_eq_true, ih]
    constructor
    · rintro (⟨x, y, h1, h2⟩ | h)
      · exact ⟨x, y, by omega, h2⟩
      · cases hy : pB S a n with
        | none => rw [hy] at h; exact absurd h Bool.false_ne_true
        | some y =>
          rw [hy] at h
          exact ⟨n, y, by omega, hy, of_decide_eq_true h⟩
    · rintro ⟨x, y, h1, h2, h3⟩
      rcases Nat.lt_or_ge x n with q | q
      · exact Or.inl ⟨x, y, q, h2, h3⟩
      · have : x = n := by omega
        subst this
        exact Or.inr (by rw [h2]; exact decide_eq_true h3)
/-- some leaf of use lies on the sheet j -/
def useQ (A : AS) (j : Nat) : Bool := anQ (fun o => anQ (fun c => anQ (fun f => decide (aHl A o c f = 1) && decide (aLs A o c f = j)) 43) (aNc A o)) (aNo A)
theorem useQ_iff {A : AS} {j : Nat} : useQ A j = true ↔ ∃ o c f, o < aNo A ∧ c < aNc A o ∧ f < 43 ∧ aHl A o c f = 1 ∧ aLs A o c f = j := by
  unfold useQ
  simp only [anQ_iff, Bool.and_eq_true, decide_eq_true_eq]
  constructor
  · rintro ⟨o, h1, c, h2, f, h3, h4, h5⟩
    exact ⟨o, c, f, h1, h2, h3, h4, h5⟩
  · rintro ⟨o, c, f, h1, h2, h3, h4, h5⟩
    exact ⟨o, h1, c, h2, f, h3, h4, h5⟩
def wtN (A : AS) (n : Nat) : Nat := ct (fun j => decide (aWt A j = 1)) n
def oWaiting (A : AS) : OP := (0, nI (wtN A (aNs A)), A)
/-- the first sheet from i on, of d, that waits -/
def fw (A : AS) : Nat → Nat → Nat
  | 0, i => i
  | d + 1, i => if aWt A i = 1 then i else fw A d (i + 1)
theorem fw_le (A : AS) : ∀ d i, fw A d i ≤ i + d ∧ (fw A d i < i + d → aWt A (fw A d i) = 1) := by
  intro d
  induction d with
  | zero => intro i; exact ⟨Nat.le_refl _, fun h => absurd h (by simp only [fw]; omega)⟩
  | succ d ih =>
    intro i
    simp only [fw]
    by_cases h : aWt A i = 1
    · rw [if_pos h]; exact ⟨by omega, fun _ => h⟩
    · rw [if_neg h]
      obtain ⟨h1, h2⟩ := ih (i + 1)
      exact ⟨by omega, fun z => h2 (by omega)⟩
def dnew (d : Nat) : Nat := if d < 60 then d + 1 else d
def oCut (A : AS) (k : Int32) : OP :=
  if ixb k 2 = true then (if fw A (aNs A) 0 = aNs A then (2, 0, A) else (0, nI (aDl A (ii k) / 4), uD (uD (uD A 10 (ii k) 0 0 (dnew (aDl A (ii k)))) 8 (fw A (aNs A) 0) 0 0 0) 9 (fw A (aNs A) 0) 0 0 (aDl A (ii k) / 4 + 1))) else (1, 0, A)
def dsc (A : AS) : Nat → Nat × AS
  | 0 => (0, A)
  | n + 1 => if aWt (dsc A n).2 n = 1 ∧ useQ (dsc A n).2 n = false then ((dsc A n).1 + 1, uD (dsc A n).2 8 n 0 0 0) else dsc A n
def oDiscard (A : AS) : OP := (0, nI (dsc A (aNs A)).1, (dsc A (aNs A)).2)
def oOnSheet (A : AS) (s x : Int32) : OP := if ixb x 8 = true then (if ixb s (aNs A) = true then (0, trV (aLi A (ii s) (ii x)), A) else (2, 0, A)) else (1, 0, A)
section SheetB
variable {l : Launch} {G : GG} {S S' : PS} {tg : TG} {W : WT} {A : AS} {t nl : Nat}
theorem CLs.inj {nl : Nat} (h : CLs G S tg W A nl) {i j : Nat} (hi : i < aNs A) (hj : j < aNs A) (e : wSh W i = wSh W j) : i = j := by
  have h1 := (h.2.2.2 i hi).2.1
  have h2 := (h.2.2.2 j hj).2.1
  rw [e] at h1
  omega
theorem CLn.use (h : CLn G S tg W A t nl) {j : Nat} (hj : j < aNs A) : useB S (wSc W j) 8 = useQ A j := by
  obtain ⟨hv, hb, ho, hs, hr⟩ := h
  rw [Bool.eq_iff_iff, useB_iff, useQ_iff]
  constructor
  · rintro ⟨x, y, hx, hy, h0⟩
    obtain ⟨-, -, -, -, -, -, -, -, g9⟩ := hs.2.2.2 j hj
    rcases g9 x hx with ⟨-, z⟩ | ⟨y', o, c, f, hy', ky, ry, h101, hoo, hc, hf, q1, q2, q3, q4, q5⟩
    · rw [hy] at z; cases z
    · rw [hy] at hy'
      cases hy'
      have hl := q5 h0
      rcases ((ho.2.2.2 o hoo).2.2.2.2 c hc).2.2.2 f hf with ⟨-, z⟩ | ⟨d0, y2, hy2, d1, d2, d3, -⟩
      · rw [hl] at z; cases z
      · rw [hl] at hy2
        cases hy2
        rw [ry] at d3
        exact ⟨o, c, f, hoo, hc, hf, d0, (hs.inj hj d2 (Option.some.inj d3)).symm⟩
  · rintro ⟨o, c, f, hoo, hc, hf, e1, rfl⟩
    rcases ((ho.2.2.2 o hoo).2.2.2.2 c hc).2.2.2 f hf with ⟨z, -⟩ | ⟨d0, y2, hy2, d1, d2, d3, d4, d5, d6, x, hx, d7⟩
    · omega
    · exact ⟨x, y2, hx, d7, d6⟩
theorem CLn.wt (h : CLn G S tg W A t nl) (hg : gE G ∉ pL S) {j : Nat} (hj : j < aNs A) : CLn G (sI S 194 (wSh W j) 0) tg W (uD A 8 j 0 0 0) t nl := by
  obtain ⟨hv, hb, ho, hs, hr⟩ := h
  have hx : Ex S (sI S 194 (wSh W j) 0) (fun f y => f = 194 ∧ y = wSh W j) x2 x0 x0 := Ex.putI ⟨rfl, rfl⟩
  obtain ⟨v1, v2, v3, v4, v5, v6, v7, v8, v9, v10, v11⟩ := id hv
  refine ⟨⟨v1, v2, v3, v4, v5, v6, v7, v8, fun i hi => ?_, v10, v11⟩, hb.ex hv hx (fun _ _ => rfl) hg (fun f y h z => by omega) (fun _ _ _ z => z) (fun _ _ _ z => z) (fun z => by omega) (fun z => z) (fun _ _ _ z => z),
    ho.ex hv hs.sc hx (fun _ _ => rfl) hg (fun f y h1 h2 z => by omega) (fun _ _ _ _ z => z) (fun _ _ _ z => z) (fun _ _ z => by omega) (fun _ _ z => z), ?_,
    hr.ex hx (fun _ _ => rfl) (fun f y h z => by omega) (fun _ _ _ z => z) (fun _ _ z => z)⟩
  · obtain ⟨w1, w2, w3⟩ := v9 i hi
    show (if i = j ∧ (0 : Nat) = 0 ∧ (0 : Nat) = 0 then 0 else aWt A i) ≤ 1 ∧ aTr A i ≤ 16 ∧ ((if i = j ∧ (0 : Nat) = 0 ∧ (0 : Nat) = 0 then 0 else aWt A i) = 1 → aTr A i = 0)
    split
    · exact ⟨by decide, w2, fun z => absurd z (by decide)⟩
    · exact ⟨w1, w2, w3⟩
  · obtain ⟨lb, tlb⟩ := hs.1.exT hs.2.2.1 hx (fun _ _ => rfl) hg (fun z => by omega) (fun z => z) (fun _ _ _ z => z)
    refine ⟨lb, hs.2.1, tlb, fun i hi => ?_⟩
    obtain ⟨g1, g2, g3, g4, g5, g6, g7, g8, g9⟩ := hs.2.2.2 i hi
    refine ⟨g1, g2, g3, g4, g5, g6, ?_, (I_f S _ _ _ (by decide)).trans g8, fun x hx8 => ?_⟩
    · show _ = nI (if i = j ∧ (0 : Nat) = 0 ∧ (0 : Nat) = 0 then 0 else aWt A i)
      by_cases hij : i = j
      · rw [if_pos ⟨hij, rfl, rfl⟩, hij]
        exact I_s S 194 _ _
      · rw [if_neg (fun z => hij z.1)]
        exact (I_a S 194 194 _ (fun e => hij (hs.inj hi hj e))).trans g7
    · rcases g9 x hx8 with z | ⟨y, o, c, f, hy, ky, ry, h101, hoo, hcc, hf, q1, q2, q3, q4, q5⟩
      · exact Or.inl z
      · have e : ∀ k, k ≠ 194 → pI (sI S 194 (wSh W j) 0) k y = pI S k y := fun k hk => I_f S _ _ _ hk
        exact Or.inr ⟨y, o, c, f, hy, ky, ry, by rw [e 101 (by decide)]; exact h101, hoo, hcc, hf, (e 96 (by decide)).trans q1, (e 97 (by decide)).trans q2, (e 98 (by decide)).trans q3, q4, fun z => q5 ((e 101 (by decide)).symm.trans z)⟩
theorem CLn.tr (h : CLn G S tg W A t nl) (hg : gE G ∉ pL S) {j n : Nat} (hj : j < aNs A) (hw : aWt A j = 0) (hn : n < 16) : CLn G (sI S 195 (wSh W j) (nI n)) tg W (uD A 9 j 0 0 (n + 1)) t nl := by
  obtain ⟨hv, hb, ho, hs, hr⟩ := h
  have hx : Ex S (sI S 195 (wSh W j) (nI n)) (fun f y => f = 195 ∧ y = wSh W j) x2 x0 x0 := Ex.putI ⟨rfl, rfl⟩
  obtain ⟨v1, v2, v3, v4, v5, v6, v7, v8, v9, v10, v11⟩ := id hv
  refine ⟨⟨v1, v2, v3, v4, v5, v6, v7, v8, fun i hi => ?_, v10, v11⟩, hb.ex hv hx (fun _ _ => rfl) hg (fun f y h z => by omega) (fun _ _ _ z => z) (fun _ _ _ z => z) (fun z => by omega) (fun z => z) (fun _ _ _ z => z),
    ho.ex hv hs.sc hx (fun _ _ => rfl) hg (fun f y h1 h2 z => by omega) (fun _ _ _ _ z => z) (fun _ _ _ z => z) (fun _ _ z => by omega) (fun _ _ z => z), ?_,
    hr.ex hx (fun _ _ => rfl) (fun f y h z => by omega) (fun _ _ _ z => z) (fun _ _ z => z)⟩
  · obtain ⟨w1, w2, w3⟩ := v9 i hi
    show aWt A i ≤ 1 ∧ (if i = j ∧ (0 : Nat) = 0 ∧ (0 : Nat) = 0 then n + 1 else aTr A i) ≤ 16 ∧ (aWt A i = 1 → (if i = j ∧ (0 : Nat) = 0 ∧ (0 : Nat) = 0 then n + 1 else aTr A i) = 0)
    split
    · rename_i hij
      exact ⟨w1, by omega, fun z => by rw [hij.1, hw] at z; exact absurd z (by decide)⟩
    · exact ⟨w1, w2, w3⟩
  · obtain ⟨lb, tlb⟩ := hs.1.exT hs.2.2.1 hx (fun _ _ => rfl) hg (fun z => by omega) (fun z => z) (fun _ _ _ z => z)
    refine ⟨lb, hs.2.1, tlb, fun i hi => ?_⟩
    obtain ⟨g1, g2, g3, g4, g5, g6, g7, g8, g9⟩ := hs.2.2.2 i hi
    refine ⟨g1, g2, g3, g4, g5, g6, (I_f S _ _ _ (by decide)).trans g7, ?_, fun x hx8 => ?_⟩
    · show _ = trV (if i = j ∧ (0 : Nat) = 0 ∧ (0 : Nat) = 0 then n + 1 else aTr A i)
      by_cases hij : i = j
      · rw [if_pos ⟨hij, rfl, rfl⟩, hij]
        exact (I_s S 195 _ _).trans (by unfold trV; rw [if_neg (by omega), Nat.add_sub_cancel])
      · rw [if_neg (fun z => hij z.1)]
        exact (I_a S 195 195 _ (fun e => hij (hs.inj hi hj e))).trans g8
    · rcases g9 x hx8 with z | ⟨y, o, c, f, hy, ky, ry, h101, hoo, hcc, hf, q1, q2, q3, q4, q5⟩
      · exact Or.inl z
      · have e : ∀ k, k ≠ 195 → pI (sI S 195 (wSh W j) (nI n)) k y = pI S k y := fun k hk => I_f S _ _ _ hk
        exact Or.inr ⟨y, o, c, f, hy, ky, ry, by rw [e 101 (by decide)]; exact h101, hoo, hcc, hf, (e 96 (by decide)).trans q1, (e 97 (by decide)).trans q2, (e 98 (by decide)).trans q3, q4, fun z => q5 ((e 101 (by decide)).symm.trans z)⟩
set_option maxRecDepth 100000 in
theorem c_waiting (hl : l.stackTraces = false) (h : CL G S tg W A t) :
    MT l G S yX7_waiting cX7_waiting 3 (some .int) (rmT 1 0 0) [va_rf (some t)] (EN G S tg t (oWaiting A)) (XO A (oWaiting A) []) := by
  obtain ⟨⟨hv, hb, ho, hs, hr⟩, hF⟩ := id h
  have h50 := hv.2.2.1
  refine MT_of (by decide +kernel) hl rfl (Nat.le_of_ble_eq_true rfl) (fun Z hC hzl hnm hT hQ => ?_)
  change J G Z S 0 0 0 [some (va_rf (some t)), none, none] []
  have hzs : (zl Z).stackTraces = false := by rw [hzl]; exact hl
  have loop : ∀ (d i : Nat), i + d = aNs A → J G Z S 0 0 4 [some (va_rf (some t)), some (.int (nI (wtN A i))), some (.int (nI i))] [] := by
    intro d
    induction d with
    | zero =>
      intro i hi
      have hi : i = aNs A := by omega
      subst hi
      refine r_iload_n hC dX7_waiting_4 rfl rfl ?_
      refine r_aload_n hC dX7_waiting_5 rfl rfl ?_
      refine r_getR  hC fl_X7_19 dX7_waiting_6 (hr.1) (hr.2.2.2.1) ?_
      refine r_cV (as := []) hC (c_size hzs hs.1.1) cs_Jx4a65c_size_8abf5 q_201 q_202 q_203 (hs.1.1) (by decide) rfl dX7_waiting_9 rfl rfl ⟨Nat.le_of_ble_eq_true rfl, Nat.le_of_ble_eq_true rfl⟩ (Nat.le_of_ble_eq_true rfl) ⟨Nat.le_of_ble_eq_true rfl, Nat.le_of_ble_eq_true rfl⟩ (fun v9 S9 p9 => ?_) (fun _ x => x.elim)
      obtain ⟨rfl, e9⟩ := p9
      rw [e9, hs.1.2.1]
      refine r_icge (tgt := 41) hC dX7_waiting_12 (by decide) (fun h12 => ?_) (fun h12 => ?_)
      · refine r_iload_n hC dX7_waiting_41 rfl rfl ?_
        refine r_iret hC hQ rfl dX7_waiting_42 (Nat.le_of_ble_eq_true rfl) (Nat.le_of_ble_eq_true rfl) ?_
        exact ⟨rfl, rfl, tg, W, h, FrC.rf⟩
      · exact absurd (nI_le (Nat.le_refl _) (by omega)) h12
    | succ d ih =>
      intro i hi
      have hin : i < aNs A := by omega
      obtain ⟨g1, g2, g3, g4, g5, g6, g7, g8, g9⟩ := hs.2.2.2 i hin
      refine r_iload_n hC dX7_waiting_4 rfl rfl ?_
      refine r_aload_n hC dX7_waiting_5 rfl rfl ?_
      refine r_getR  hC fl_X7_19 dX7_waiting_6 (hr.1) (hr.2.2.2.1) ?_
      refine r_cV (as := []) hC (c_size hzs hs.1.1) cs_Jx4a65c_size_8abf5 q_201 q_202 q_203 (hs.1.1) (by decide) rfl dX7_waiting_9 rfl rfl ⟨Nat.le_of_ble_eq_true rfl, Nat.le_of_ble_eq_true rfl⟩ (Nat.le_of_ble_eq_true rfl) ⟨Nat.le_of_ble_eq_true rfl, Nat.le_of_ble_eq_true rfl⟩ (fun v9 S9 p9 => ?_) (fun _ x => x.elim)
      obtain ⟨rfl, e9⟩ := p9
      rw [e9, hs.1.2.1]
      refine r_icge (tgt := 41) hC dX7_waiting_12 (by decide) (fun h12 => ?_) (fun h12 => ?_)
      · exact absurd ((nI_leI (by omega) (by omega)).mp h12) (by omega)
      · skip
        refine r_aload_n hC dX7_waiting_15 rfl rfl ?_
        refine r_getR  hC fl_X7_19 dX7_waiting_16 (hr.1) (hr.2.2.2.1) ?_
        refine r_iload_n hC dX7_waiting_19 rfl rfl ?_
        refine r_cV (as := [.int (nI i)]) hC (c_get hzs hs.1 hin (by omega)) cs_Jx4a65c_get_915e3 q_205 q_206 q_207 (hs.1.1) (by decide) rfl dX7_waiting_20 rfl rfl ⟨Nat.le_of_ble_eq_true rfl, Nat.le_of_ble_eq_true rfl⟩ (Nat.le_of_ble_eq_true rfl) ⟨Nat.le_of_ble_eq_true rfl, Nat.le_of_ble_eq_true rfl⟩ (fun v20 S20 p20 => ?_) (fun _ x => x.elim)
        obtain ⟨rfl, e20⟩ := p20
        rw [e20]
        refine r_cast hC q_219 dX7_waiting_23 g1.1 (by decide) rfl ?_
        refine r_getI hC fl_X7_176 rfl dX7_waiting_26 (g1.1) (g7) ?_
        refine r_ifeq (tgt := 35) hC dX7_waiting_29 (by decide) (fun h29 => ?_) (fun h29 => ?_)
        · have hw : aWt A i ≠ 1 := fun z => by rw [z] at h29; exact absurd h29 (by decide)
          refine r_iinc hC dX7_waiting_35 rfl (ii1 _) ?_
          refine r_goto (tgt := 4) hC dX7_waiting_38 (by decide) ?_
          have := ih (i + 1) (by omega)
          have e : wtN A (i + 1) = wtN A i := by simp only [wtN, ct, decide_eq_false hw, Bool.false_eq_true, if_false, Nat.add_zero]
          rw [e] at this
          exact this
        · have hw : aWt A i = 1 := by
            have := (hv.2.2.2.2.2.2.2.2.1 i hin).1
            have : aWt A i ≠ 0 := fun z => h29 (by rw [z]; rfl)
            omega
          refine r_iinc hC dX7_waiting_32 rfl (ii1 _) ?_
          refine r_iinc hC dX7_waiting_35 rfl (ii1 _) ?_
          refine r_goto (tgt := 4) hC dX7_waiting_38 (by decide) ?_
          have := ih (i + 1) (by omega)
          have e : wtN A (i + 1) = wtN A i + 1 := by simp only [wtN, ct, decide_eq_true hw, if_true]
          rw [e] at this
          exact this
  refine r_iconst (v := nI 0) hC dX7_waiting_0 (by decide) ?_
  refine r_istore_n hC dX7_waiting_1 rfl (by decide) ?_
  refine r_iconst (v := nI 0) hC dX7_waiting_2 (by decide) ?_
  refine r_istore_n hC dX7_waiting_3 rfl (by decide) ?_
  exact loop (aNs A) 0 (by omega)
set_option maxRecDepth 100000 in
theorem c_longest (hl : l.stackTraces = false) (h : CLn G S tg W A t (aNs A)) :
    MT l G S yX7_longestWaiting cX7_longestWaiting 2 (some (.object "Thumbreel$Sheet")) (rmA 3) [va_rf (some t)] (fun v S' => S' = S ∧ v = some (va_rf (if fw A (aNs A) 0 = aNs A then none else some (wSh W (fw A (aNs A) 0))))) (fun _ => False) := by
  obtain ⟨hv, hb, ho, hs, hr⟩ := id h
  have h50 := hv.2.2.1
  refine MT_of (by decide +kernel) hl rfl (Nat.le_of_ble_eq_true rfl) (fun Z hC hzl hnm hT hQ => ?_)
  change J G Z S 0 0 0 [some (va_rf (some t)), none] []
  have hzs : (zl Z).stackTraces = false := by rw [hzl]; exact hl
  have loop : ∀ (d i : Nat), i + d = aNs A → fw A d i = fw A (aNs A) 0 → J G Z S 0 0 2 [some (va_rf (some t)), some (.int (nI i))] [] := by
    intro d
    induction d with
    | zero =>
      intro i hi hf
      have hi : i = aNs A := by omega
      subst hi
      refine r_iload_n hC dX7_longestWaiting_2 rfl rfl ?_
      refine r_aload_n hC dX7_longestWaiting_3 rfl rfl ?_
      refine r_getR  hC fl_X7_19 dX7_longestWaiting_4 (hr.1) (hr.2.2.2.1) ?_
      refine r_cV (as := []) hC (c_size hzs hs.1.1) cs_Jx4a65c_size_8abf5 q_201 q_202 q_203 (hs.1.1) (by decide) rfl dX7_longestWaiting_7 rfl rfl ⟨Nat.le_of_ble_eq_true rfl, Nat.le_of_ble_eq_true rfl⟩ (Nat.le_of_ble_eq_true rfl) ⟨Nat.le_of_ble_eq_true rfl, Nat.le_of_ble_eq_true rfl⟩ (fun v7 S7 p7 => ?_) (fun _ x => x.elim)
      obtain ⟨rfl, e7⟩ := p7
      rw [e7, hs.1.2.1]
      refine r_icge (tgt := 48) hC dX7_longestWaiting_10 (by decide) (fun h10 => ?_) (fun h10 => ?_)
      · refine r_null hC dX7_longestWaiting_48 ?_
        refine r_aret hC hQ rfl (by first | exact Or.inl ⟨_, rfl⟩ | exact Or.inr ⟨_, rfl⟩) dX7_longestWaiting_49 (Nat.le_of_ble_eq_true rfl) (Nat.le_of_ble_eq_true rfl) ?_
        refine ⟨rfl, ?_⟩
        rw [← hf, show fw A 0 (aNs A) = aNs A from rfl, if_pos rfl]
      · exact absurd (nI_le (Nat.le_refl _) (by omega)) h10
    | succ d ih =>
      intro i hi hf
      have hin : i < aNs A := by omega
      obtain ⟨g1, g2, g3, g4, g5, g6, g7, g8, g9⟩ := hs.2.2.2 i hin
      refine r_iload_n hC dX7_longestWaiting_2 rfl rfl ?_
      refine r_aload_n hC dX7_longestWaiting_3 rfl rfl ?_
      refine r_getR  hC fl_X7_19 dX7_longestWaiting_4 (hr.1) (hr.2.2.2.1) ?_
      refine r_cV (as := []) hC (c_size hzs hs.1.1) cs_Jx4a65c_size_8abf5 q_201 q_202 q_203 (hs.1.1) (by decide) rfl dX7_longestWaiting_7 rfl rfl ⟨Nat.le_of_ble_eq_true rfl, Nat.le_of_ble_eq_true rfl⟩ (Nat.le_of_ble_eq_true rfl) ⟨Nat.le_of_ble_eq_true rfl, Nat.le_of_ble_eq_true rfl⟩ (fun v7 S7 p7 => ?_) (fun _ x => x.elim)
      obtain ⟨rfl, e7⟩ := p7
      rw [e7, hs.1.2.1]
      refine r_icge (tgt := 48) hC dX7_longestWaiting_10 (by decide) (fun h10 => ?_) (fun h10 => ?_)
      · exact absurd ((nI_leI (by omega) (by omega)).mp h10) (by omega)
      · skip
        refine r_aload_n hC dX7_longestWaiting_13 rfl rfl ?_
        refine r_getR  hC fl_X7_19 dX7_longestWaiting_14 (hr.1) (hr.2.2.2.1) ?_
        refine r_iload_n hC dX7_longestWaiting_17 rfl rfl ?_
        refine r_cV (as := [.int (nI i)]) hC (c_get hzs hs.1 hin (by omega)) cs_Jx4a65c_get_915e3 q_205 q_206 q_207 (hs.1.1) (by decide) rfl dX7_longestWaiting_18 rfl rfl ⟨Nat.le_of_ble_eq_true rfl, Nat.le_of_ble_eq_true rfl⟩ (Nat.le_of_ble_eq_true rfl) ⟨Nat.le_of_ble_eq_true rfl, Nat.le_of_ble_eq_true rfl⟩ (fun v18 S18 p18 => ?_) (fun _ x => x.elim)
        obtain ⟨rfl, e18⟩ := p18
        rw [e18]
        refine r_cast hC q_219 dX7_longestWaiting_21 g1.1 (by decide) rfl ?_
        refine r_getI hC fl_X7_176 rfl dX7_longestWaiting_24 (g1.1) (g7) ?_
        refine r_ifeq (tgt := 42) hC dX7_longestWaiting_27 (by decide) (fun h27 => ?_) (fun h27 => ?_)
        · have hw : aWt A i ≠ 1 := fun z => by rw [z] at h27; exact absurd h27 (by decide)
          refine r_iinc hC dX7_longestWaiting_42 rfl (ii1 _) ?_
          refine r_goto (tgt := 2) hC dX7_longestWaiting_45 (by decide) ?_
          refine ih (i + 1) (by omega) ?_
          rw [← hf]
          simp only [fw, if_neg hw]
        · have hw : aWt A i = 1 := by
            have := (hv.2.2.2.2.2.2.2.2.1 i hin).1
            have : aWt A i ≠ 0 := fun z => h27 (by rw [z]; rfl)
            omega
          refine r_aload_n hC dX7_longestWaiting_30 rfl rfl ?_
          refine r_getR  hC fl_X7_19 dX7_longestWaiting_31 (hr.1) (hr.2.2.2.1) ?_
          refine r_iload_n hC dX7_longestWaiting_34 rfl rfl ?_
          refine r_cV (as := [.int (nI i)]) hC (c_get hzs hs.1 hin (by omega)) cs_Jx4a65c_get_915e3 q_205 q_206 q_207 (hs.1.1) (by decide) rfl dX7_longestWaiting_35 rfl rfl ⟨Nat.le_of_ble_eq_true rfl, Nat.le_of_ble_eq_true rfl⟩ (Nat.le_of_ble_eq_true rfl) ⟨Nat.le_of_ble_eq_true rfl, Nat.le_of_ble_eq_true rfl⟩ (fun v35 S35 p35 => ?_) (fun _ x => x.elim)
          obtain ⟨rfl, e35⟩ := p35
          rw [e35]
          refine r_cast hC q_219 dX7_longestWaiting_38 g1.1 (by decide) rfl ?_
          refine r_aret hC hQ rfl (by first | exact Or.inl ⟨_, rfl⟩ | exact Or.inr ⟨_, rfl⟩) dX7_longestWaiting_41 (Nat.le_of_ble_eq_true rfl) (Nat.le_of_ble_eq_true rfl) ?_
          refine ⟨rfl, ?_⟩
          have hf2 : fw A (aNs A) 0 = i := by rw [← hf]; simp only [fw, if_pos hw]
          rw [hf2, if_neg (by omega)]
  refine r_iconst (v := nI 0) hC dX7_longestWaiting_0 (by decide) ?_
  refine r_istore_n hC dX7_longestWaiting_1 rfl (by decide) ?_
  exact loop (aNs A) 0 (by omega) rfl
set_option maxRecDepth 100000 in
set_option maxHeartbeats 1000000 in
theorem c_cut (hl : l.stackTraces = false) (h : CL G S tg W A t) (x : Int32) :
    MT l G S yX7_cut cX7_cut 4 (some .int) (rmT 2 2 12) [va_rf (some t), .int x] (EN G S tg t (oCut A x)) (XO A (oCut A x) [eIO, eNS]) := by
  obtain ⟨⟨hv, hb, ho, hs, hr⟩, hF⟩ := id h
  refine MT_of (by decide +kernel) hl rfl (Nat.le_of_ble_eq_true rfl) (fun Z hC hzl hnm hT hQ => ?_)
  change J G Z S 0 0 0 [some (va_rf (some t)), some (.int x), none, none] []
  have hzs : (zl Z).stackTraces = false := by rw [hzl]; exact hl
  refine r_hge hC (fun hg => ?_)
  obtain ⟨kt, r0, r1, r2, r3, r4, r5, r6, i1, i2, ku, nu, tu, kd, nd, td, hd, hp, tc, th, hf, tf⟩ := id hr
  refine r_iload_n hC dX7_cut_0 rfl rfl ?_
  refine r_iconst (v := nI 2) hC dX7_cut_1 (by decide) ?_
  refine r_cS (as := [.int x, .int (nI 2)]) hC (c_checkIndex hzs x (m := 2) (by decide)) cs_X7_checkIndex q_412 q_413 dX7_cut_2 rfl rfl ⟨Nat.le_of_ble_eq_true rfl, Nat.le_of_ble_eq_true rfl⟩ (Nat.le_of_ble_eq_true rfl) ⟨Nat.le_of_ble_eq_true rfl, Nat.le_of_ble_eq_true rfl⟩ (fun v2 S2 p2 => ?_) (fun E2 x2 => ?_)
  · obtain ⟨rfl, e2, k, hk, rfl⟩ := p2
    rw [e2]
    have q1 : ixb (nI k) 2 = true := ixb_t hk (by decide)
    have q2 : ii (nI k) = k := ii_n (by omega)
    refine r_aload_n hC dX7_cut_5 rfl rfl ?_
    refine r_cV (as := []) hC (c_longest hzs h.1) cs_X7_longestWaiting q_816 q_818 q_40 (kt) (by decide) rfl dX7_cut_6 rfl rfl ⟨Nat.le_of_ble_eq_true rfl, Nat.le_of_ble_eq_true rfl⟩ (Nat.le_of_ble_eq_true rfl) ⟨Nat.le_of_ble_eq_true rfl, Nat.le_of_ble_eq_true rfl⟩ (fun v6 S6 p6 => ?_) (fun _ x => x.elim)
    obtain ⟨e6, rfl⟩ := p6
    rw [e6]
    by_cases hfw : fw A (aNs A) 0 = aNs A
    · rw [if_pos hfw]
      refine r_astore_n hC dX7_cut_9 rfl (by decide) ?_
      refine r_aload_n hC dX7_cut_10 rfl rfl ?_
      refine r_ifnonnull (tgt := 24) hC dX7_cut_11 (by decide) (fun z11 h11 => ?_) (fun h11 => ?_)
      · cases h11
      · exact r_throwN (i := 9) (E := eNS) (Y0 := "java/lang/RuntimeException") (names := ["java/lang/Exception"]) hC hQ hT nx_d0 nx_d1 nx_d2 nx_d5 ⟨1, by unfold oCut; rw [if_pos q1, if_pos hfw], rfl⟩ (by decide +kernel) (by decide +kernel) (by decide +kernel) q_785 q_97 rfl hat_184 hot_184 dX7_cut_14 dX7_cut_17 dX7_cut_18 dX7_cut_20 dX7_cut_23 (Nat.le_of_ble_eq_true rfl) (Nat.le_of_ble_eq_true rfl) (Nat.le_of_ble_eq_true rfl) (Nat.le_of_ble_eq_true rfl)
    · rw [if_neg hfw]
      have hle := fw_le A (aNs A) 0
      have hjn : fw A (aNs A) 0 < aNs A := by omega
      have hwj : aWt A (fw A (aNs A) 0) = 1 := hle.2 (by omega)
      obtain ⟨j, ej⟩ : ∃ j, j = fw A (aNs A) 0 := ⟨_, rfl⟩
      rw [← ej] at hjn hwj ⊢
      obtain ⟨g1, g2, g3, g4, g5, g6, g7, g8, g9⟩ := hs.2.2.2 j hjn
      have hd60 := hv.2.2.2.2.2.2.2.2.2.1 k
      refine r_astore_n hC dX7_cut_9 rfl (by decide) ?_
      refine r_aload_n hC dX7_cut_10 rfl rfl ?_
      refine r_ifnonnull (tgt := 24) hC dX7_cut_11 (by decide) (fun z11 h11 => ?_) (fun h11 => ?_)
      rotate_left
      · cases h11
      · skip
        refine r_aload_n hC dX7_cut_24 rfl rfl ?_
        refine r_getR  hC fl_X7_26 dX7_cut_25 (kt) (r4) ?_
        refine r_iload_n hC dX7_cut_28 rfl rfl ?_
        refine r_iald hC dX7_cut_29 (kd) (rfl) (by rw [nd]; exact hk) (by rw [nd]; decide) (hd k hk) ?_
        refine r_iconst (v := nI 4) hC dX7_cut_30 (by decide) ?_
        refine r_idiv hC dX7_cut_31 (by decide) ?_
        rw [show (nI (aDl A k) / nI 4 : Int32) = nI (aDl A k / 4) from pk_div (by omega) (by decide) (by decide)]
        refine r_istore_n hC dX7_cut_32 rfl (by decide) ?_
        refine r_aload_n hC dX7_cut_33 rfl rfl ?_
        refine r_getR  hC fl_X7_26 dX7_cut_34 (kt) (r4) ?_
        refine r_iload_n hC dX7_cut_37 rfl rfl ?_
        refine r_aload_n hC dX7_cut_38 rfl rfl ?_
        refine r_getR  hC fl_X7_26 dX7_cut_39 (kt) (r4) ?_
        refine r_iload_n hC dX7_cut_42 rfl rfl ?_
        refine r_iald hC dX7_cut_43 (kd) (rfl) (by rw [nd]; exact hk) (by rw [nd]; decide) (hd k hk) ?_
        refine r_iconst (v := nI 1) hC dX7_cut_44 (by decide) ?_
        refine r_iadd hC dX7_cut_45 ?_
        refine r_bipush (v := nI 60) hC dX7_cut_46 (by decide) ?_
        refine r_mmin hC q_697 q_392 q_86 q_393 dX7_cut_48 (Nat.le_of_ble_eq_true rfl) (Nat.le_of_ble_eq_true rfl) (Nat.le_of_ble_eq_true rfl) (Nat.le_of_ble_eq_true rfl) ?_
        have em : (if nI 60 < nI (aDl A k) + nI 1 then nI 60 else nI (aDl A k) + nI 1) = nI (dnew (aDl A k)) := by
          rw [nI_add]
          unfold dnew
          by_cases z : aDl A k < 60
          · rw [if_pos z, if_neg (nI_nlt (by omega) (by omega))]
          · rw [if_neg z, if_pos (nI_lt (by omega) (by omega))]
            exact congrArg nI (by omega)
        rw [em]
        have hdn : dnew (aDl A k) ≤ 60 := by unfold dnew; split <;> omega
        refine r_iast hC dX7_cut_51 (kd) (rfl) (by rw [nd]; exact hk) (by rw [nd]; decide) ?_
        have hn1 := h.1.dl hg hk hdn
        have hf1 : FrC tg S (sA S (wUd W) (upd (pA S (wUd W)) k (nI (dnew (aDl A k))))) tg := FrC.of (Ex.putA (XI := x2) (XR := x2) (XA := fun y => y = wUd W) (XB := x0) rfl) (fun _ _ => rfl) (fun _ _ z => z.elim) (fun _ _ z => z.elim) (fun y z => by rw [z, td]; decide)
        have hg1 : gE G ∉ pL (sA S (wUd W) (upd (pA S (wUd W)) k (nI (dnew (aDl A k))))) := hg
        have hj1 : j < aNs (uD A 10 k 0 0 (dnew (aDl A k))) := hjn
        refine r_aload_n hC dX7_cut_52 rfl rfl ?_
        refine r_iload_n hC dX7_cut_53 rfl rfl ?_
        refine r_cVN (as := [.int (nI (aDl A k / 4))]) hC (c_cutWith hzs (hn1.2.2.2.1.2.2.2 j hj1).1.1 (nI (aDl A k / 4))) cs_X6_cutWith q_821 q_823 q_41 ((hn1.2.2.2.1.2.2.2 j hj1).1.1) (by decide) rfl dX7_cut_54 rfl rfl ⟨Nat.le_of_ble_eq_true rfl, Nat.le_of_ble_eq_true rfl⟩ (Nat.le_of_ble_eq_true rfl) ⟨Nat.le_of_ble_eq_true rfl, Nat.le_of_ble_eq_true rfl⟩ (fun v54 S54 p54 => ?_) (fun _ x => x.elim)
        obtain ⟨rfl, e54⟩ := p54
        rw [e54]
        refine r_iload_n hC dX7_cut_57 rfl rfl ?_
        refine r_iret hC hQ rfl dX7_cut_58 (Nat.le_of_ble_eq_true rfl) (Nat.le_of_ble_eq_true rfl) ?_
        have e : oCut A (nI k) = (0, nI (aDl A k / 4), uD (uD (uD A 10 k 0 0 (dnew (aDl A k))) 8 j 0 0 0) 9 j 0 0 (aDl A k / 4 + 1)) := by unfold oCut; rw [if_pos q1, if_neg hfw, q2, ← ej]
        rw [e]
        have hn2 := hn1.wt hg1 hj1
        have hn3 := hn2.tr hg1 (n := aDl A k / 4) hj1 (if_pos ⟨rfl, rfl, rfl⟩) (by omega)
        refine ⟨rfl, rfl, tg, W, ⟨hn3, hF⟩, hf1.tr (FrC.of (XI := fun f y => f = 194 ∨ f = 195) (XR := x2) (XA := x0) (XB := x0) ?_ (fun _ _ => rfl) (fun f y z => by omega) (fun _ _ z => z.elim) (fun _ z => z.elim))⟩
        exact Ex.tI (Ex.putI (Or.inl rfl)) (Or.inl (Or.inr rfl))
  · refine r_out hC hQ hT (Nat.le_of_ble_eq_true rfl) (Nat.le_of_ble_eq_true rfl) ⟨0, ?_, by rw [x2.1]; rfl⟩
    unfold oCut
    rw [if_neg (by rw [ixb_f x2.2]; decide)]
set_option maxRecDepth 100000 in
theorem c_discard (hl : l.stackTraces = false) (h : CL G S tg W A t) :
    MT l G S yX7_discard cX7_discard 4 (some .int) (rmT 1 0 0) [va_rf (some t)] (EN G S tg t (oDiscard A)) (XO A (oDiscard A) []) := by
  have h50 := h.1.1.2.2.1
  have hS0 : ∀ n, aNs (dsc A n).2 = aNs A := by
    intro n
    induction n with
    | zero => rfl
    | succ n ih =>
      simp only [dsc]
      split
      · exact ih
      · exact ih
  refine MT_of (by decide +kernel) hl rfl (Nat.le_of_ble_eq_true rfl) (fun Z hC hzl hnm hT hQ => ?_)
  change J G Z S 0 0 0 [some (va_rf (some t)), none, none, none] []
  have hzs : (zl Z).stackTraces = false := by rw [hzl]; exact hl
  have loop : ∀ (d i : Nat) (S1 : PS) (o3 : Option Value), i + d = aNs A → CL G S1 tg W (dsc A i).2 t → FrC tg S S1 tg → J G Z S1 0 0 4 [some (va_rf (some t)), some (.int (nI (dsc A i).1)), some (.int (nI i)), o3] [] := by
    intro d
    induction d with
    | zero =>
      intro i S1 o3 hi h1 hf1
      have hi : i = aNs A := by omega
      subst hi
      obtain ⟨⟨hv, hb, ho, hs, hr⟩, hF⟩ := id h1
      rw [hS0] at hs
      refine r_iload_n hC dX7_discard_4 rfl rfl ?_
      refine r_aload_n hC dX7_discard_5 rfl rfl ?_
      refine r_getR  hC fl_X7_19 dX7_discard_6 (hr.1) (hr.2.2.2.1) ?_
      refine r_cV (as := []) hC (c_size hzs hs.1.1) cs_Jx4a65c_size_8abf5 q_201 q_202 q_203 (hs.1.1) (by decide) rfl dX7_discard_9 rfl rfl ⟨Nat.le_of_ble_eq_true rfl, Nat.le_of_ble_eq_true rfl⟩ (Nat.le_of_ble_eq_true rfl) ⟨Nat.le_of_ble_eq_true rfl, Nat.le_of_ble_eq_true rfl⟩ (fun v9 S9 p9 => ?_) (fun _ x => x.elim)
      obtain ⟨rfl, e9⟩ := p9
      rw [e9, hs.1.2.1]
      refine r_icge (tgt := 55) hC dX7_discard_12 (by decide) (fun h12 => ?_) (fun h12 => ?_)
      · refine r_iload_n hC dX7_discard_55 rfl rfl ?_
        refine r_iret hC hQ rfl dX7_discard_56 (Nat.le_of_ble_eq_true rfl) (Nat.le_of_ble_eq_true rfl) ?_
        exact ⟨rfl, rfl, tg, W, h1, hf1⟩
      · exact absurd (nI_le (Nat.le_refl _) (by omega)) h12
    | succ d ih =>
      intro i S1 o3 hi h1 hf1
      have hin : i < aNs A := by omega
      have hin' : i < aNs (dsc A i).2 := by rw [hS0]; exact hin
      have huse := h1.1.use hin'
      obtain ⟨⟨hv, hb, ho, hs, hr⟩, hF⟩ := id h1
      obtain ⟨g1, g2, g3, g4, g5, g6, g7, g8, g9⟩ := hs.2.2.2 i hin'
      refine r_hge hC (fun hg => ?_)
      have hs1 := hs.1
      rw [hS0] at hs1
      refine r_iload_n hC dX7_discard_4 rfl rfl ?_
      refine r_aload_n hC dX7_discard_5 rfl rfl ?_
      refine r_getR  hC fl_X7_19 dX7_discard_6 (hr.1) (hr.2.2.2.1) ?_
      refine r_cV (as := []) hC (c_size hzs hs1.1) cs_Jx4a65c_size_8abf5 q_201 q_202 q_203 (hs1.1) (by decide) rfl dX7_discard_9 rfl rfl ⟨Nat.le_of_ble_eq_true rfl, Nat.le_of_ble_eq_true rfl⟩ (Nat.le_of_ble_eq_true rfl) ⟨Nat.le_of_ble_eq_true rfl, Nat.le_of_ble_eq_true rfl⟩ (fun v9 S9 p9 => ?_) (fun _ x => x.elim)
      obtain ⟨rfl, e9⟩ := p9
      rw [e9, hs1.2.1]
      refine r_icge (tgt := 55) hC dX7_discard_12 (by decide) (fun h12 => ?_) (fun h12 => ?_)
      · exact absurd ((nI_leI (by omega) (by omega)).mp h12) (by omega)
      · skip
        refine r_aload_n hC dX7_discard_15 rfl rfl ?_
        refine r_getR  hC fl_X7_19 dX7_discard_16 (hr.1) (hr.2.2.2.1) ?_
        refine r_iload_n hC dX7_discard_19 rfl rfl ?_
        refine r_cV (as := [.int (nI i)]) hC (c_get hzs hs1 hin (by omega)) cs_Jx4a65c_get_915e3 q_205 q_206 q_207 (hs1.1) (by decide) rfl dX7_discard_20 rfl rfl ⟨Nat.le_of_ble_eq_true rfl, Nat.le_of_ble_eq_true rfl⟩ (Nat.le_of_ble_eq_true rfl) ⟨Nat.le_of_ble_eq_true rfl, Nat.le_of_ble_eq_true rfl⟩ (fun v20 S20 p20 => ?_) (fun _ x => x.elim)
        obtain ⟨rfl, e20⟩ := p20
        rw [e20]
        refine r_cast hC q_219 dX7_discard_23 g1.1 (by decide) rfl ?_
        refine r_astore_n hC dX7_discard_26 rfl (by decide) ?_
        refine r_aload_n hC dX7_discard_27 rfl rfl ?_
        refine r_getI hC fl_X7_176 rfl dX7_discard_28 (g1.1) (g7) ?_
        refine r_ifeq (tgt := 49) hC dX7_discard_31 (by decide) (fun h31 => ?_) (fun h31 => ?_)
        · have hw : aWt (dsc A i).2 i ≠ 1 := fun z => by rw [z] at h31; exact absurd h31 (by decide)
          have e : dsc A (i + 1) = dsc A i := by simp only [dsc]; rw [if_neg (fun z => hw z.1)]
          refine r_iinc hC dX7_discard_49 rfl (ii1 _) ?_
          refine r_goto (tgt := 4) hC dX7_discard_52 (by decide) ?_
          have := ih (i + 1) S1 (some (va_rf (some (wSh W i)))) (by omega)
          rw [e] at this
          exact this h1 hf1
        · have hw : aWt (dsc A i).2 i = 1 := by
            have := (hv.2.2.2.2.2.2.2.2.1 i hin').1
            have : aWt (dsc A i).2 i ≠ 0 := fun z => h31 (by rw [z]; rfl)
            omega
          have hky : ∀ x, x < 8 → ∀ y, pB S1 (wSc W i) x = some y → KD S1 y 3 := by
            intro x hx y hy
            rcases g9 x hx with ⟨-, z⟩ | ⟨y', o, c, f, hy', ky, -⟩
            · rw [hy] at z; cases z
            · rw [hy] at hy'
              cases hy'
              exact ky
          refine r_aload_n hC dX7_discard_34 rfl rfl ?_
          refine r_cVN (as := []) hC (c_isOfUse hzs g1 hky) cs_X6_isOfUse q_224 q_226 q_0 (g1.1) (by decide) rfl dX7_discard_35 rfl rfl ⟨Nat.le_of_ble_eq_true rfl, Nat.le_of_ble_eq_true rfl⟩ (Nat.le_of_ble_eq_true rfl) ⟨Nat.le_of_ble_eq_true rfl, Nat.le_of_ble_eq_true rfl⟩ (fun v35 S35 p35 => ?_) (fun _ x => x.elim)
          obtain ⟨rfl, e35⟩ := p35
          rw [e35, huse]
          refine r_ifne (tgt := 49) hC dX7_discard_38 (by decide) (fun h38 => ?_) (fun h38 => ?_)
          · have hu : ¬ useQ (dsc A i).2 i = false := fun z => by rw [z] at h38; exact h38 rfl
            have e : dsc A (i + 1) = dsc A i := by simp only [dsc]; rw [if_neg (fun z => hu z.2)]
            refine r_iinc hC dX7_discard_49 rfl (ii1 _) ?_
            refine r_goto (tgt := 4) hC dX7_discard_52 (by decide) ?_
            have := ih (i + 1) S1 (some (va_rf (some (wSh W i)))) (by omega)
            rw [e] at this
            exact this h1 hf1
          · have hu : useQ (dsc A i).2 i = false := by
              cases z : useQ (dsc A i).2 i with
              | false => rfl
              | true => rw [z] at h38; exact absurd h38 (by decide)
            have e : dsc A (i + 1) = ((dsc A i).1 + 1, uD (dsc A i).2 8 i 0 0 0) := by simp only [dsc]; rw [if_pos ⟨hw, hu⟩]
            refine r_aload_n hC dX7_discard_41 rfl rfl ?_
            refine r_iconst (v := nI 0) hC dX7_discard_42 (by decide) ?_
            refine r_putI hC fl_X7_176 rfl (by decide) dX7_discard_43 (g1.1) (fun _ => by decide) ?_
            refine r_iinc hC dX7_discard_46 rfl (ii1 _) ?_
            refine r_iinc hC dX7_discard_49 rfl (ii1 _) ?_
            refine r_goto (tgt := 4) hC dX7_discard_52 (by decide) ?_
            have := ih (i + 1) (sI S1 194 (wSh W i) (nI 0)) (some (va_rf (some (wSh W i)))) (by omega)
            rw [e] at this
            refine this ⟨h1.1.wt hg hin', hF⟩ (hf1.tr (FrC.of (Ex.putI (XI := fun f y => f = 194) (XR := x2) (XA := x0) (XB := x0) rfl) (fun _ _ => rfl) (fun f y z => by omega) (fun _ _ z => z.elim) (fun _ z => z.elim)))
  refine r_iconst (v := nI 0) hC dX7_discard_0 (by decide) ?_
  refine r_istore_n hC dX7_discard_1 rfl (by decide) ?_
  refine r_iconst (v := nI 0) hC dX7_discard_2 (by decide) ?_
  refine r_istore_n hC dX7_discard_3 rfl (by decide) ?_
  exact loop (aNs A) 0 S none (by omega) h FrC.rf
set_option maxRecDepth 100000 in
theorem c_onSheet (hl : l.stackTraces = false) (h : CL G S tg W A t) (s x : Int32) :
    MT l G S yX7_onSheet cX7_onSheet 4 (some .int) (rmT 2 2 12) [va_rf (some t), .int s, .int x] (EN G S tg t (oOnSheet A s x)) (XO A (oOnSheet A s x) [eIO, eNS]) := by
  obtain ⟨⟨hv, hb, ho, hs, hr⟩, hF⟩ := id h
  have h50 := hv.2.2.1
  refine MT_of (by decide +kernel) hl rfl (Nat.le_of_ble_eq_true rfl) (fun Z hC hzl hnm hT hQ => ?_)
  change J G Z S 0 0 0 [some (va_rf (some t)), some (.int s), some (.int x), none] []
  have hzs : (zl Z).stackTraces = false := by rw [hzl]; exact hl
  refine r_iload_n hC dX7_onSheet_0 rfl rfl ?_
  refine r_bipush (v := nI 8) hC dX7_onSheet_1 (by decide) ?_
  refine r_cS (as := [.int x, .int (nI 8)]) hC (c_checkIndex hzs x (m := 8) (by decide)) cs_X7_checkIndex q_412 q_413 dX7_onSheet_3 rfl rfl ⟨Nat.le_of_ble_eq_true rfl, Nat.le_of_ble_eq_true rfl⟩ (Nat.le_of_ble_eq_true rfl) ⟨Nat.le_of_ble_eq_true rfl, Nat.le_of_ble_eq_true rfl⟩ (fun v3 S3 p3 => ?_) (fun E3 x3 => ?_)
  · obtain ⟨rfl, e3, k, hk, rfl⟩ := p3
    rw [e3]
    have q1 : ixb (nI k) 8 = true := ixb_t hk (by decide)
    have q2 : ii (nI k) = k := ii_n (by omega)
    have thr : ¬ ixo s (aNs A) → J G Z S 1 6 21 [some (va_rf (some t)), some (.int s), some (.int (nI k)), none] [] := fun hz =>
      r_throwN (i := 8) (E := eNS) (Y0 := "java/lang/RuntimeException") (names := ["java/lang/Exception"]) hC hQ hT nx_d0 nx_d1 nx_d2 nx_d5 ⟨1, by unfold oOnSheet; rw [if_pos q1, if_neg (by rw [ixb_f hz]; decide)], rfl⟩ (by decide +kernel) (by decide +kernel) (by decide +kernel) q_785 q_97 rfl hat_184 hot_184 dX7_onSheet_21 dX7_onSheet_24 dX7_onSheet_25 dX7_onSheet_27 dX7_onSheet_30 (Nat.le_of_ble_eq_true rfl) (Nat.le_of_ble_eq_true rfl) (Nat.le_of_ble_eq_true rfl) (Nat.le_of_ble_eq_true rfl)
    refine r_iload_n hC dX7_onSheet_6 rfl rfl ?_
    refine r_iflt (tgt := 21) hC dX7_onSheet_7 (by decide) (fun h7 => ?_) (fun h7 => ?_)
    · exact thr (ixo_n (by omega) (Or.inl h7))
    · skip
      refine r_iload_n hC dX7_onSheet_10 rfl rfl ?_
      refine r_aload_n hC dX7_onSheet_11 rfl rfl ?_
      refine r_getR  hC fl_X7_19 dX7_onSheet_12 (hr.1) (hr.2.2.2.1) ?_
      refine r_cV (as := []) hC (c_size hzs hs.1.1) cs_Jx4a65c_size_8abf5 q_201 q_202 q_203 (hs.1.1) (by decide) rfl dX7_onSheet_15 rfl rfl ⟨Nat.le_of_ble_eq_true rfl, Nat.le_of_ble_eq_true rfl⟩ (Nat.le_of_ble_eq_true rfl) ⟨Nat.le_of_ble_eq_true rfl, Nat.le_of_ble_eq_true rfl⟩ (fun v15 S15 p15 => ?_) (fun _ x => x.elim)
      obtain ⟨rfl, e15⟩ := p15
      rw [e15, hs.1.2.1]
      refine r_iclt (tgt := 31) hC dX7_onSheet_18 (by decide) (fun h18 => ?_) (fun h18 => ?_)
      rotate_left
      · exact thr (ixo_n (by omega) (Or.inr (Int32.not_lt.mp h18)))
      · obtain ⟨j, hj31, rfl⟩ := nI_of h7
        have hj : j < aNs A := (nI_ltI (by omega) (by omega)).mp h18
        have q3 : ixb (nI j) (aNs A) = true := ixb_t hj (by omega)
        have q4 : ii (nI j) = j := ii_n (by omega)
        obtain ⟨g1, g2, g3, g4, g5, g6, g7, g8, g9⟩ := hs.2.2.2 j hj
        have e : oOnSheet A (nI j) (nI k) = (0, trV (aLi A j k), A) := by unfold oOnSheet; rw [if_pos q1, if_pos q3, q2, q4]
        rw [e] at hQ
        refine r_aload_n hC dX7_onSheet_31 rfl rfl ?_
        refine r_getR  hC fl_X7_19 dX7_onSheet_32 (hr.1) (hr.2.2.2.1) ?_
        refine r_iload_n hC dX7_onSheet_35 rfl rfl ?_
        refine r_cV (as := [.int (nI j)]) hC (c_get hzs hs.1 hj (by omega)) cs_Jx4a65c_get_915e3 q_205 q_206 q_207 (hs.1.1) (by decide) rfl dX7_onSheet_36 rfl rfl ⟨Nat.le_of_ble_eq_true rfl, Nat.le_of_ble_eq_true rfl⟩ (Nat.le_of_ble_eq_true rfl) ⟨Nat.le_of_ble_eq_true rfl, Nat.le_of_ble_eq_true rfl⟩ (fun v36 S36 p36 => ?_) (fun _ x => x.elim)
        obtain ⟨rfl, e36⟩ := p36
        rw [e36]
        refine r_cast hC q_219 dX7_onSheet_39 g1.1 (by decide) rfl ?_
        refine r_iload_n hC dX7_onSheet_42 rfl rfl ?_
        refine r_cVN (as := [.int (nI k)]) hC (c_leafIn hzs g1 hk) cs_X6_leafIn q_801 q_803 q_38 (g1.1) (by decide) rfl dX7_onSheet_43 rfl rfl ⟨Nat.le_of_ble_eq_true rfl, Nat.le_of_ble_eq_true rfl⟩ (Nat.le_of_ble_eq_true rfl) ⟨Nat.le_of_ble_eq_true rfl, Nat.le_of_ble_eq_true rfl⟩ (fun v43 S43 p43 => ?_) (fun _ x => x.elim)
        obtain ⟨rfl, e43⟩ := p43
        rw [e43]
        rcases g9 k hk with ⟨z1, z2⟩ | ⟨y, o, c, f, hy, ky, ry, h101, hoo, hcc, hf, w1, w2, w3, w4, w5⟩
        · rw [z2]
          refine r_astore_n hC dX7_onSheet_46 rfl (by decide) ?_
          refine r_aload_n hC dX7_onSheet_47 rfl rfl ?_
          refine r_ifnonnull (tgt := 55) hC dX7_onSheet_48 (by decide) (fun z48 h48 => ?_) (fun h48 => ?_)
          · cases h48
          · refine r_iconst (v := (-1)) hC dX7_onSheet_51 (by decide) ?_
            refine r_goto (tgt := 59) hC dX7_onSheet_52 (by decide) ?_
            refine r_iret hC hQ rfl dX7_onSheet_59 (Nat.le_of_ble_eq_true rfl) (Nat.le_of_ble_eq_true rfl) ?_
            rw [z1]
            exact ⟨rfl, rfl, tg, W, h, FrC.rf⟩
        · rw [hy]
          refine r_astore_n hC dX7_onSheet_46 rfl (by decide) ?_
          refine r_aload_n hC dX7_onSheet_47 rfl rfl ?_
          refine r_ifnonnull (tgt := 55) hC dX7_onSheet_48 (by decide) (fun z48 h48 => ?_) (fun h48 => ?_)
          rotate_left
          · cases h48
          · skip
            refine r_aload_n hC dX7_onSheet_55 rfl rfl ?_
            refine r_cVN (as := []) hC (c_code hzs ky) cs_X3_code q_805 q_807 q_39 (ky) (by decide) rfl dX7_onSheet_56 rfl rfl ⟨Nat.le_of_ble_eq_true rfl, Nat.le_of_ble_eq_true rfl⟩ (Nat.le_of_ble_eq_true rfl) ⟨Nat.le_of_ble_eq_true rfl, Nat.le_of_ble_eq_true rfl⟩ (fun v56 S56 p56 => ?_) (fun _ x => x.elim)
            obtain ⟨rfl, e56⟩ := p56
            rw [e56, w1, w2, w3, pk_mul, pk_mul, nI_add, nI_add]
            refine r_iret hC hQ rfl dX7_onSheet_59 (Nat.le_of_ble_eq_true rfl) (Nat.le_of_ble_eq_true rfl) ?_
            rw [w4]
            refine ⟨rfl, ?_, tg, W, h, FrC.rf⟩
            show _ = some (Value.int (trV (10000 * o + 1000 * c + f + 1)))
            unfold trV
            rw [if_neg (by omega), Nat.add_sub_cancel]
  · refine r_out hC hQ hT (Nat.le_of_ble_eq_true rfl) (Nat.le_of_ble_eq_true rfl) ⟨0, ?_, by rw [x3.1]; rfl⟩
    unfold oOnSheet
    rw [if_neg (by rw [ixb_f x3.2]; decide)]
end SheetB

